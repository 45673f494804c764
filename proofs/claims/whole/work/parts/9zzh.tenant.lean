/-! ===== lines side by side: tenant ===== -/
def tTail (x27 x28 x29 : Int32) (S30 : Nat → Int32) (V31 : Nat → Nat → Int32) (L32 : Nat → Int64) : Option ((Nat → Int32) × (Nat → Nat → Int32) × (Nat → Int64)) :=
  bd2 (fX12_need_0 S30 V31 L32 x29) (fun S33 L34 =>
  lt ((x28 - (6 : Int32))) (fun x36 =>
  lt ((x27 + (1 : Int32))) (fun x37 =>
  gd (ib x37 24) (
  lt (va_up V31 7 (upd (V31 7) (x37).toNatClampNeg x36)) (fun V39 =>
  bd3 (fX12_number_0 S33 V39 L34 (1 : Int32) (12 : Int32)) (fun r40 S41 L42 =>
  lt ((x27 + (2 : Int32))) (fun x44 =>
  gd (ib x44 24) (
  lt (va_up V39 7 (upd (V39 7) (x44).toNatClampNeg r40)) (fun V46 =>
  bd3 (fX12_number_0 S41 V46 L42 (0 : Int32) (99 : Int32)) (fun r47 S48 L49 =>
  lt ((x27 + (3 : Int32))) (fun x51 =>
  gd (ib x51 24) (
  lt (va_up V46 7 (upd (V46 7) (x51).toNatClampNeg r47)) (fun V53 =>
  lt ((S48 29)) (fun x54 =>
  gd (ib x54 6) (
  lt (va_up V53 8 (upd (V53 8) (x54).toNatClampNeg (0 : Int32))) (fun V56 =>
  bd1 (fX12_isGood_0 S48) (fun r57 =>
  (if r57 = 0 then
  some (S48, V56, L49)
  else
  lt (((S48 29) + (1 : Int32))) (fun x60 =>
  lt (va_up S48 29 x60) (fun S61 =>
  some (S61, V56, L49)))))))))))))))))))))
section TN
variable {tx : Nat → Nat} {n M i : Nat} {h : Nat → Nat} {t : Nat → Nat → Nat} {ru : Nat → List Nat} {st : Nat → Nat} {tp : Nat} {S S' : Nat → Int32} {V V' : Nat → Nat → Int32} {L' : Nat → Int64}
theorem num_bad {S3 : Nat → Int32} {V3 : Nat → Nat → Int32} {L3 : Nat → Int64} {lo hi : Int32} (hn : ¬ S3 14 = 0) : fX12_number_0 S3 V3 L3 lo hi = some (0, S3, L3) := by
  unfold fX12_number_0
  rw [good_0 hn, bd1_s, if_pos rfl]
theorem need_bad {S3 : Nat → Int32} {V3 : Nat → Nat → Int32} {L3 : Nat → Int64} {x : Int32} (hn : ¬ S3 14 = 0) : fX12_need_0 S3 V3 L3 x = some (S3, L3) := by
  unfold fX12_need_0
  rw [good_0 hn, bd1_s, if_pos rfl]
/-- the last steps, whatever the numbers were -/
theorem tTail_n {k : Nat} (hk : k < 6) {x28 x29 w1 w2 : Int32} {S30 S33 S41 S48 : Nat → Int32} {V31 : Nat → Nat → Int32} {L32 L34 L42 L49 : Nat → Int64} (h1 : fX12_need_0 S30 V31 L32 x29 = some (S33, L34)) (h2 : fX12_number_0 S33 (va_up V31 7 (upd (V31 7) (4 * k + 1) (x28 - 6))) L34 1 12 = some (w1, S41, L42)) (h3 : fX12_number_0 S41 (va_up V31 7 (upd (upd (V31 7) (4 * k + 1) (x28 - 6)) (4 * k + 2) w1)) L42 0 99 = some (w2, S48, L49)) (h29 : S48 29 = nI k) : tTail (nI (4 * k)) x28 x29 S30 V31 L32 = (if S48 14 = 0 then some (va_up S48 29 (nI (k + 1)), va_up (va_up V31 7 (upd (upd (upd (V31 7) (4 * k + 1) (x28 - 6)) (4 * k + 2) w1) (4 * k + 3) w2)) 8 (upd (V31 8) k 0), L49) else some (S48, va_up (va_up V31 7 (upd (upd (upd (V31 7) (4 * k + 1) (x28 - 6)) (4 * k + 2) w1) (4 * k + 3) w2)) 8 (upd (V31 8) k 0), L49)) := by
  have e1 : nI (4 * k) + 1 = nI (4 * k + 1) := nI_1 _
  have e2 : nI (4 * k) + 2 = nI (4 * k + 2) := nI_add _ 2
  have e3 : nI (4 * k) + 3 = nI (4 * k + 3) := nI_add _ 3
  unfold tTail
  rw [h1, bd2_s]
  simp only [lt_e, e1, e2, e3]
  rw [gd_n (4 * k + 1) 24 (by omega) (by decide), nI_cl (4 * k + 1) (by omega), h2, bd3_s, gd_n (4 * k + 2) 24 (by omega) (by decide), nI_cl (4 * k + 2) (by omega), va_up_up, va_up_self, h3, bd3_s, gd_n (4 * k + 3) 24 (by omega) (by decide), nI_cl (4 * k + 3) (by omega), va_up_up, va_up_self, h29, gd_n k 6 (by omega) (by decide), nI_cl k (by omega), nI_1]
  by_cases c : S48 14 = 0
  · rw [good_1 c, bd1_s, if_neg (show ¬ (1 : Int32) = 0 by decide), if_pos c]
    rfl
  · rw [good_0 c, bd1_s, if_pos rfl, if_neg c]
    rfl
theorem FR_t7 {S3 : Nat → Int32} {V3 : Nat → Nat → Int32} {u w : Nat → Int32} : FR S3 V3 S3 (va_up (va_up V3 7 u) 8 w) := ⟨fun _ _ => rfl, fun q hq => by rw [va_up_ne _ _ (by omega), va_up_ne _ _ (by omega)]⟩
theorem lineTenant (hq : QQ tx n M i h t ru st tp S V S' V' L') (hi : i < M) (hk : kdA tx n (tS tx n i) = 104) : LINE tx n M i S V S' V' L' (bd3 (fX3_readTenant_11 S V) (fun r16 S17 V18 => some (r16, S17, V18))) := by
  obtain ⟨hc, ha, hto, hd⟩ := hq
  obtain ⟨hi1, h05, hr, h14⟩ := id ha
  obtain ⟨q1, q2, q3, q4, q5, q6, q7, q8, q9⟩ := id hd
  have h46 : h 4 ≤ 6 := q1.2.2.2.2.1
  have c4 : S 1204 = nI (h 4) := q4.2.2.2.2.1
  have d4 : S' 29 = nI (h 4) := q6.2.2.2.2.1
  have kw := knR hc.2.1 hc.1 hr
  rw [hk, show kmI 104 = 12 by decide] at kw
  have hl0 : fX12_line_0 S' V' L' = bd3 (fX12_readsTenant_0 S' V' L') K5 := by
    unfold fX12_line_0
    rw [kw, bd1_s]
    simp only [bk_e]
    rw [if_neg (show ¬ (12 : Int32) = 9 by decide), if_neg (show ¬ (12 : Int32) = 10 by decide), if_neg (show ¬ (12 : Int32) = 11 by decide), if_pos trivial]
    rfl
  by_cases h6 : h 4 < 6
  · obtain ⟨a, b, c, d, e, f, y, g1, g2⟩ := stepR hc hi hr
    have hrt : ∀ (w : Int32) (S13 : Nat → Int32) (L14 : Nat → Int64), fX12_number_0 (gS S' a b c d e f) V' (va_up L' 24 y) 0 20 = some (w, S13, L14) → fX12_readsTenant_0 S' V' L' = bd1 (fX12_isGood_0 S13) (fun r18 => if r18 = 0 then tTail (nI (4 * h 4)) (-1) 0 S13 (va_up V' 7 (upd (V' 7) (4 * h 4) w)) L14 else bd1 (fX12_knownWord_0 S13 L14) (fun r71 => if r71 < 6 then tTail (nI (4 * h 4)) r71 0 S13 (va_up V' 7 (upd (V' 7) (4 * h 4) w)) L14 else if 8 < r71 then tTail (nI (4 * h 4)) r71 0 S13 (va_up V' 7 (upd (V' 7) (4 * h 4) w)) L14 else tTail (nI (4 * h 4)) r71 1 S13 (va_up V' 7 (upd (V' 7) (4 * h 4) w)) L14)) := fun w S13 L14 hn => by
      unfold fX12_readsTenant_0
      simp only [bk_e, lt_e]
      rw [d4, if_neg (show ¬ nI (h 4) = 6 from fun z => by have := (nI_eq (a := h 4) (b := 6) (by omega) (by decide)).mp z; omega), good_1 h14, bd1_s, if_neg (show ¬ (1 : Int32) = 0 by decide), g1, bd2_s, show (gS S' a b c d e f) 29 = nI (h 4) from d4, nI_40, hn, bd3_s, gd_n (4 * h 4) 24 (by omega) (by decide), nI_cl (4 * h 4) (by omega)]
      rfl
    have ha2 : AT tx n M (i + 1) (va_up S 2005 (nI (i + 1))) (gS S' a b c d e f) (va_up L' 24 y) := ⟨hi, rfl, g2, h14⟩
    unfold fX3_readTenant_11
    simp only [lt_e]
    rw [c4, if_pos (show nI (h 4) < 6 from nI_lt (a := h 4) (b := 6) h6 (by decide)), advC hc hi h05, bd1_s]
    -- the weight
    rcases numbR (lo := 0) (hi := 20) hc ha2 (by decide) (by decide) with ⟨v, a2, b2, c2, d2, e2, f2, y2, v1, v2, v3, n1, n2, n3⟩ | ⟨fl, x, w, w1, w2, n1, n2⟩
    rotate_left 1
    · have hn : ¬ (wrS (gS S' a b c d e f) fl (tS tx n (i + 1))) 14 = 0 := wr_n (S' := gS S' a b c d e f) (q := tS tx n (i + 1)) w1 w2
      rw [show fX3_readNumber_11 (va_up S 2005 (nI (i + 1))) V 0 20 = _ from n1, bd2_s, if_neg (fun z => by have := (nI_eq0 (n := fl) (by omega)).mp z; omega), bd3_s]
      have tl := tTail_n h6 (V31 := va_up V' 7 (upd (V' 7) (4 * h 4) w)) (x28 := -1) (x29 := 0) (L32 := va_up L' 24 y) (need_bad hn) (num_bad hn) (num_bad hn) d4
      rw [if_neg hn] at tl
      have hm1 : ∀ res, tTail (nI (4 * h 4)) (-1) 0 (wrS (gS S' a b c d e f) fl (tS tx n (i + 1))) (va_up V' 7 (upd (V' 7) (4 * h 4) w)) (va_up L' 24 y) = res → fX12_line_0 S' V' L' = bd3 res K5 := fun res hres => by
        rw [hl0, hrt _ _ _ n2, good_0 hn, bd1_s, if_pos rfl, hres]
      exact ⟨_, V, _, _, _, (hm1 _ tl).trans bd3_s, ⟨(fun k hk => by simp only [va_up]; (repeat rw [if_neg (by omega)])), fun _ _ => rfl⟩, ⟨(fun k hk => by simp only [va_up]; (repeat rw [if_neg (by omega)])), fun q hq => by simp only [va_up]; (repeat rw [if_neg (by omega)])⟩, Or.inr (Or.inl ⟨fl, rfl, w1, w2, rfl, i + 1, hi, rfl, rfl⟩)⟩
    rw [show fX3_readNumber_11 (va_up S 2005 (nI (i + 1))) V 0 20 = _ from n1, bd2_s, if_pos rfl, gd_n (h 4) 6 (by omega) (by decide), nI_cl (h 4) (by omega), show ∀ s : Nat → Int32, (va_up (va_up s 1106 (nI v)) 2005 (nI (i + 1 + 1))) 1106 = nI v from fun _ => rfl]
    have kb := kdA_b hc.2.1 (tS tx n (i + 1 + 1))
    have hM2 : i + 1 + 1 ≤ M := by omega
    have kc : ∀ u, fX10_kind_20 (va_up (va_up (va_up S 2005 (nI (i + 1))) 1106 (nI v)) 2005 (nI (i + 1 + 1))) (va_up V 13 u) = some (nI (kdA tx n (tS tx n (i + 1 + 1)))) := fun u => kindC (V := va_up V 13 u) (S := va_up (va_up (va_up S 2005 (nI (i + 1))) 1106 (nI v)) 2005 (nI (i + 1 + 1))) hc hM2 rfl
    have h142 : (gS (gS S' a b c d e f) a2 b2 c2 d2 e2 f2) 14 = 0 := h14
    have kw2 := knR hc.2.1 hc.1 n3
    rw [kc, bd1_s, bd1_s, bd1_s]
    -- the breath
    by_cases kk : 107 ≤ kdA tx n (tS tx n (i + 1 + 1)) ∧ kdA tx n (tS tx n (i + 1 + 1)) ≤ 109
    rotate_left 1
    · have hn : ¬ (wrS (gS (gS S' a b c d e f) a2 b2 c2 d2 e2 f2) 1 (tS tx n (i + 1 + 1))) 14 = 0 := wr_n (S' := gS (gS S' a b c d e f) a2 b2 c2 d2 e2 f2) (q := tS tx n (i + 1 + 1)) (by decide) (by decide)
      have nd : fX12_need_0 (gS (gS S' a b c d e f) a2 b2 c2 d2 e2 f2) (va_up V' 7 (upd (V' 7) (4 * h 4) (nI v))) (va_up (va_up L' 24 y) 24 y2) 0 = some (wrS (gS (gS S' a b c d e f) a2 b2 c2 d2 e2 f2) 1 (tS tx n (i + 1 + 1)), va_up (va_up L' 24 y) 24 y2) := by
        unfold fX12_need_0
        rw [good_1 h142, bd1_s, if_neg (show ¬ (1 : Int32) = 0 by decide), if_pos rfl, wrong1 h142 n3.2.2.2.2.1, bd1_s]
      have tl := tTail_n h6 (V31 := va_up V' 7 (upd (V' 7) (4 * h 4) (nI v))) (x28 := kmI (kdA tx n (tS tx n (i + 1 + 1)))) (x29 := 0) nd (num_bad hn) (num_bad hn) d4
      rw [if_neg hn] at tl
      have kout : kmI (kdA tx n (tS tx n (i + 1 + 1))) < 6 ∨ 8 < kmI (kdA tx n (tS tx n (i + 1 + 1))) := (by decide +kernel : ∀ k, k ≤ 118 → ¬ (107 ≤ k ∧ k ≤ 109) → (kmI k < 6 ∨ 8 < kmI k)) _ kb kk
      have hm1 : ∀ res, tTail (nI (4 * h 4)) (kmI (kdA tx n (tS tx n (i + 1 + 1)))) 0 (gS (gS S' a b c d e f) a2 b2 c2 d2 e2 f2) (va_up V' 7 (upd (V' 7) (4 * h 4) (nI v))) (va_up (va_up L' 24 y) 24 y2) = res → fX12_line_0 S' V' L' = bd3 res K5 := fun res hres => by
        rw [hl0, hrt _ _ _ n2, good_1 h142, bd1_s, if_neg (show ¬ (1 : Int32) = 0 by decide), kw2, bd1_s]
        by_cases z1 : kmI (kdA tx n (tS tx n (i + 1 + 1))) < 6
        · rw [if_pos z1, hres]
        · rw [if_neg z1, if_pos (kout.resolve_left z1), hres]
      refine ⟨(va_up (va_up (va_up S 2005 (nI (i + 1))) 1106 (nI v)) 2005 (nI (i + 1 + 1))), va_up V 13 (upd (V 13) (h 4) (nI v)), _, _, _, (hm1 _ tl).trans bd3_s, ⟨(fun k hk => by simp only [va_up]; (repeat rw [if_neg (by omega)])), fun q hq => by simp only [va_up]; (repeat rw [if_neg (by omega)])⟩, ⟨(fun k hk => by simp only [va_up]; (repeat rw [if_neg (by omega)])), fun q hq => by simp only [va_up]; (repeat rw [if_neg (by omega)])⟩, Or.inr (Or.inl ⟨1, ?_, by decide, by decide, rfl, i + 1 + 1, hM2, rfl, rfl⟩)⟩
      by_cases z1 : kdA tx n (tS tx n (i + 1 + 1)) < 107
      · rw [if_pos (show nI (kdA tx n (tS tx n (i + 1 + 1))) < 107 from nI_lt (a := kdA tx n (tS tx n (i + 1 + 1))) (b := 107) z1 (by decide)), bd3_s]
        rfl
      · rw [if_neg (show ¬ nI (kdA tx n (tS tx n (i + 1 + 1))) < 107 from nI_nlt (a := kdA tx n (tS tx n (i + 1 + 1))) (b := 107) (by omega) (by omega)), if_neg (show ¬ nI (kdA tx n (tS tx n (i + 1 + 1))) ≤ 109 from nI_ge (a := 109) (b := kdA tx n (tS tx n (i + 1 + 1))) (by omega) (by omega)), bd3_s]
        rfl
    have hlt2 : i + 1 + 1 < M := by
      rcases Nat.lt_or_ge (i + 1 + 1) M with z | z
      · exact z
      · have := (kd_M hc hM2).mpr (by omega)
        omega
    obtain ⟨a3, b3, c3, d3, e3, f3, y3, g3, g4⟩ := stepR (V := V) (V' := va_up V' 7 (upd (V' 7) (4 * h 4) (nI v))) hc hlt2 n3
    have kin : ¬ kmI (kdA tx n (tS tx n (i + 1 + 1))) < 6 ∧ ¬ 8 < kmI (kdA tx n (tS tx n (i + 1 + 1))) ∧ kmI (kdA tx n (tS tx n (i + 1 + 1))) - 6 = nI (kdA tx n (tS tx n (i + 1 + 1)) - 107) := (by decide +kernel : ∀ k, k ≤ 118 → 107 ≤ k ∧ k ≤ 109 → (¬ kmI k < 6 ∧ ¬ 8 < kmI k ∧ kmI k - 6 = nI (k - 107))) _ kb kk
    rw [if_neg (show ¬ nI (kdA tx n (tS tx n (i + 1 + 1))) < 107 from nI_nlt (a := kdA tx n (tS tx n (i + 1 + 1))) (b := 107) kk.1 (by omega)), if_pos (show nI (kdA tx n (tS tx n (i + 1 + 1))) ≤ 109 from nI_le (a := kdA tx n (tS tx n (i + 1 + 1))) (b := 109) kk.2 (by decide)), show (107 : Int32) = nI 107 from rfl, nI_sub kk.1, gd_n (h 4) 6 (by omega) (by decide), show (va_up V 13 (upd (V 13) (h 4) (nI v))) 14 = V 14 from rfl]
    generalize hbr : kdA tx n (tS tx n (i + 1 + 1)) - 107 = br at *
    have br2 : br ≤ 2 := by omega
    rw [advC (S := va_up (va_up (va_up S 2005 (nI (i + 1))) 1106 (nI v)) 2005 (nI (i + 1 + 1))) (V := va_up (va_up V 13 (upd (V 13) (h 4) (nI v))) 14 (upd (V 14) (h 4) (nI br))) (V' := V') (tx := tx) (n := n) hc hlt2 rfl, bd1_s]
    have h143 : (gS (gS (gS S' a b c d e f) a2 b2 c2 d2 e2 f2) a3 b3 c3 d3 e3 f3) 14 = 0 := h14
    have nd : fX12_need_0 (gS (gS S' a b c d e f) a2 b2 c2 d2 e2 f2) (va_up V' 7 (upd (V' 7) (4 * h 4) (nI v))) (va_up (va_up L' 24 y) 24 y2) 1 = some (gS (gS (gS S' a b c d e f) a2 b2 c2 d2 e2 f2) a3 b3 c3 d3 e3 f3, va_up (va_up (va_up L' 24 y) 24 y2) 24 y3) := by
      unfold fX12_need_0
      rw [good_1 h142, bd1_s, if_neg (show ¬ (1 : Int32) = 0 by decide), if_neg (show ¬ (1 : Int32) = 0 by decide), g3, bd2_s]
    have hmid : ∀ res, tTail (nI (4 * h 4)) (kmI (kdA tx n (tS tx n (i + 1 + 1)))) 1 (gS (gS S' a b c d e f) a2 b2 c2 d2 e2 f2) (va_up V' 7 (upd (V' 7) (4 * h 4) (nI v))) (va_up (va_up L' 24 y) 24 y2) = res → fX12_line_0 S' V' L' = bd3 res K5 := fun res hres => by
      rw [hl0, hrt _ _ _ n2, good_1 h142, bd1_s, if_neg (show ¬ (1 : Int32) = 0 by decide), kw2, bd1_s, if_neg kin.1, if_neg kin.2.1, hres]
    have ha3 : AT tx n M (i + 1 + 1 + 1) (va_up (va_up (va_up (va_up S 2005 (nI (i + 1))) 1106 (nI v)) 2005 (nI (i + 1 + 1))) 2005 (nI (i + 1 + 1 + 1))) (gS (gS (gS S' a b c d e f) a2 b2 c2 d2 e2 f2) a3 b3 c3 d3 e3 f3) (va_up (va_up (va_up L' 24 y) 24 y2) 24 y3) := ⟨by omega, rfl, g4, h14⟩
    -- the stay
    rcases numbR (V := va_up (va_up V 13 (upd (V 13) (h 4) (nI v))) 14 (upd (V 14) (h 4) (nI br))) (V' := va_up (va_up V' 7 (upd (V' 7) (4 * h 4) (nI v))) 7 (upd ((va_up V' 7 (upd (V' 7) (4 * h 4) (nI v))) 7) (4 * h 4 + 1) (kmI (kdA tx n (tS tx n (i + 1 + 1))) - 6))) (lo := 1) (hi := 12) hc ha3 (by decide) (by decide) with ⟨v', a4, b4, c4', d4', e4, f4, y4, v1', v2', v3', n1', n2', n3'⟩ | ⟨fl, x, w, w1, w2, n1', n2'⟩
    rotate_left 1
    · have hn : ¬ (wrS (gS (gS (gS S' a b c d e f) a2 b2 c2 d2 e2 f2) a3 b3 c3 d3 e3 f3) fl (tS tx n (i + 1 + 1 + 1))) 14 = 0 := wr_n (S' := gS (gS (gS S' a b c d e f) a2 b2 c2 d2 e2 f2) a3 b3 c3 d3 e3 f3) (q := tS tx n (i + 1 + 1 + 1)) w1 w2
      have tl := tTail_n h6 (V31 := va_up V' 7 (upd (V' 7) (4 * h 4) (nI v))) (x28 := kmI (kdA tx n (tS tx n (i + 1 + 1)))) (x29 := 1) nd n2' (num_bad hn) d4
      rw [if_neg hn] at tl
      rw [show fX3_readNumber_11 (va_up (va_up (va_up (va_up S 2005 (nI (i + 1))) 1106 (nI v)) 2005 (nI (i + 1 + 1))) 2005 (nI (i + 1 + 1 + 1))) (va_up (va_up V 13 (upd (V 13) (h 4) (nI v))) 14 (upd (V 14) (h 4) (nI br))) 1 12 = _ from n1', bd2_s, if_neg (fun z => by have := (nI_eq0 (n := fl) (by omega)).mp z; omega), bd3_s]
      refine ⟨_, _, _, _, _, (hmid _ tl).trans bd3_s, ⟨(fun k hk => by simp only [va_up]; (repeat rw [if_neg (by omega)])), fun q hq => by simp only [va_up]; (repeat rw [if_neg (by omega)])⟩, ⟨(fun k hk => by simp only [va_up]; (repeat rw [if_neg (by omega)])), fun q hq => by simp only [va_up]; (repeat rw [if_neg (by omega)])⟩, Or.inr (Or.inl ⟨fl, rfl, w1, w2, rfl, i + 1 + 1 + 1, by omega, rfl, rfl⟩)⟩
    rw [show fX3_readNumber_11 (va_up (va_up (va_up (va_up S 2005 (nI (i + 1))) 1106 (nI v)) 2005 (nI (i + 1 + 1))) 2005 (nI (i + 1 + 1 + 1))) (va_up (va_up V 13 (upd (V 13) (h 4) (nI v))) 14 (upd (V 14) (h 4) (nI br))) 1 12 = _ from n1', bd2_s, if_pos rfl, gd_n (h 4) 6 (by omega) (by decide), show ∀ s : Nat → Int32, (va_up (va_up s 1106 (nI v')) 2005 (nI (i + 1 + 1 + 1 + 1))) 1106 = nI v' from fun _ => rfl, show (va_up (va_up V 13 (upd (V 13) (h 4) (nI v))) 14 (upd (V 14) (h 4) (nI br))) 15 = V 15 from rfl]
    have ha4 : AT tx n M (i + 1 + 1 + 1 + 1) (va_up (va_up (va_up (va_up (va_up (va_up S 2005 (nI (i + 1))) 1106 (nI v)) 2005 (nI (i + 1 + 1))) 2005 (nI (i + 1 + 1 + 1))) 1106 (nI v')) 2005 (nI (i + 1 + 1 + 1 + 1))) (gS (gS (gS (gS S' a b c d e f) a2 b2 c2 d2 e2 f2) a3 b3 c3 d3 e3 f3) a4 b4 c4' d4' e4 f4) (va_up (va_up (va_up (va_up L' 24 y) 24 y2) 24 y3) 24 y4) := ⟨by omega, rfl, n3', h14⟩
    -- the rent
    rcases numbR (V := va_up (va_up (va_up V 13 (upd (V 13) (h 4) (nI v))) 14 (upd (V 14) (h 4) (nI br))) 15 (upd (V 15) (h 4) (nI v'))) (V' := va_up (va_up V' 7 (upd (V' 7) (4 * h 4) (nI v))) 7 (upd (upd ((va_up V' 7 (upd (V' 7) (4 * h 4) (nI v))) 7) (4 * h 4 + 1) (kmI (kdA tx n (tS tx n (i + 1 + 1))) - 6)) (4 * h 4 + 2) (nI v'))) (lo := 0) (hi := 99) hc ha4 (by decide) (by decide) with ⟨v'', a5, b5, c5, d5, e5, f5, y5, v1'', v2'', v3'', n1'', n2'', n3''⟩ | ⟨fl, x, w, w1, w2, n1'', n2''⟩
    rotate_left 1
    · have hn : ¬ (wrS (gS (gS (gS (gS S' a b c d e f) a2 b2 c2 d2 e2 f2) a3 b3 c3 d3 e3 f3) a4 b4 c4' d4' e4 f4) fl (tS tx n (i + 1 + 1 + 1 + 1))) 14 = 0 := wr_n (S' := gS (gS (gS (gS S' a b c d e f) a2 b2 c2 d2 e2 f2) a3 b3 c3 d3 e3 f3) a4 b4 c4' d4' e4 f4) (q := tS tx n (i + 1 + 1 + 1 + 1)) w1 w2
      have tl := tTail_n h6 (V31 := va_up V' 7 (upd (V' 7) (4 * h 4) (nI v))) (x28 := kmI (kdA tx n (tS tx n (i + 1 + 1)))) (x29 := 1) nd n2' n2'' d4
      rw [if_neg hn] at tl
      rw [show fX3_readNumber_11 _ _ 0 99 = _ from n1'', bd2_s, gd_n (h 4) 6 (by omega) (by decide), gd_n (h 4) 6 (by omega) (by decide), bd3_s]
      refine ⟨_, _, _, _, _, (hmid _ tl).trans bd3_s, ⟨(fun k hk => by simp only [va_up]; (repeat rw [if_neg (by omega)])), fun q hq => by simp only [va_up]; (repeat rw [if_neg (by omega)])⟩, ⟨(fun k hk => by simp only [va_up]; (repeat rw [if_neg (by omega)])), fun q hq => by simp only [va_up]; (repeat rw [if_neg (by omega)])⟩, Or.inr (Or.inl ⟨fl, rfl, w1, w2, rfl, i + 1 + 1 + 1 + 1, by omega, rfl, rfl⟩)⟩
    have h145 : (gS (gS (gS (gS (gS S' a b c d e f) a2 b2 c2 d2 e2 f2) a3 b3 c3 d3 e3 f3) a4 b4 c4' d4' e4 f4) a5 b5 c5 d5 e5 f5) 14 = 0 := h14
    have tl := tTail_n h6 (V31 := va_up V' 7 (upd (V' 7) (4 * h 4) (nI v))) (x28 := kmI (kdA tx n (tS tx n (i + 1 + 1)))) (x29 := 1) nd n2' n2'' d4
    rw [if_pos h145, kin.2.2] at tl
    rw [show fX3_readNumber_11 _ _ 0 99 = _ from n1'', bd2_s, gd_n (h 4) 6 (by omega) (by decide), gd_n (h 4) 6 (by omega) (by decide), bd3_s]
    refine ⟨_, _, _, _, _, (hmid _ tl).trans bd3_s, ⟨(fun k hk => by simp only [va_up]; (repeat rw [if_neg (by omega)])), fun q hq => by simp only [va_up]; (repeat rw [if_neg (by omega)])⟩, ⟨(fun k hk => by simp only [va_up]; (repeat rw [if_neg (by omega)])), fun q hq => by simp only [va_up]; (repeat rw [if_neg (by omega)])⟩, Or.inl ⟨rfl, rfl, i + 1 + 1 + 1 + 1 + 1, va_up h 4 (h 4 + 1), snoc t (h 4) (fun c => ([v, br, v', v'', 0] : List Nat).getD c 0), ru, st, tp, by omega, hc, ⟨by omega, rfl, n3'', h14⟩, hto, ?_⟩⟩
    obtain ⟨d1, d2', d3', d4'', d5', d6, d7, d8, d9⟩ := DQ_mono (show i ≤ i + 1 + 1 + 1 + 1 + 1 by omega) hd
    refine ⟨?_, ?_, d3', ?_, ?_, ?_, ?_, d8, d9⟩
    · obtain ⟨p0, p1, p2, p3, p4, p5, p6⟩ := d1
      exact ⟨p0, p1, p2, p3, (by show h 4 + 1 ≤ 6; omega), p5, p6⟩
    · intro k hk
      have hk' : k < h 4 + 1 := hk
      have pw : 2 ^ h 4 ≤ 2 ^ (h 4 + 1) := Nat.pow_le_pow_right (by decide) (by omega)
      by_cases ek : k = h 4
      · subst ek
        rw [snoc_n]
        refine ⟨⟨v2, br2, v1', v2', v2'', Nat.two_pow_pos _⟩, Nat.zero_testBit _, fun j hj => ?_⟩
        have hj' : j < h 4 + 1 := hj
        by_cases ej : j = h 4
        · subst ej; rw [snoc_n]
        · rw [snoc_lt _ _ (show j < h 4 by omega)]
          show (0 : Nat).testBit j = _
          rw [Nat.zero_testBit, Nat.testBit_lt_two_pow (d2' j (by omega)).1.2.2.2.2.2]
      · have hk2 : k < h 4 := by omega
        rw [snoc_lt _ _ hk2]
        obtain ⟨⟨r1, r2, r3, r4, r5, r6⟩, r7, r8⟩ := d2' k hk2
        refine ⟨⟨r1, r2, r3, r4, r5, (by show t k 4 < 2 ^ (h 4 + 1); omega)⟩, r7, fun j hj => ?_⟩
        have hj' : j < h 4 + 1 := hj
        by_cases ej : j = h 4
        · subst ej
          rw [snoc_n, Nat.testBit_lt_two_pow r6]
          exact (Nat.zero_testBit _).symm
        · rw [snoc_lt _ _ (show j < h 4 by omega)]
          exact r8 j (by omega)
    · obtain ⟨p0, p1, p2, p3, p4, p5, p6⟩ := d4''
      refine ⟨p0, p1, p2, p3, ?_, p5, p6⟩
      show S 1204 + 1 = nI (h 4 + 1)
      rw [c4, nI_1]
    · intro k hk
      have hk' : k < h 4 + 1 := hk
      by_cases ek : k = h 4
      · subst ek
        rw [snoc_n]
        exact ⟨upd_same _ _ _, upd_same _ _ _, upd_same _ _ _, upd_same _ _ _, upd_same _ _ _⟩
      · obtain ⟨p0, p1, p2, p3, p4⟩ := d5' k (by omega)
        rw [snoc_lt _ _ (show k < h 4 by omega)]
        exact ⟨(upd_ne _ _ ek).trans p0, (upd_ne _ _ ek).trans p1, (upd_ne _ _ ek).trans p2, (upd_ne _ _ ek).trans p3, (upd_ne _ _ ek).trans p4⟩
    · obtain ⟨p0, p1, p2, p3, p4, p5, p6⟩ := d6
      exact ⟨p0, p1, p2, p3, rfl, p5, p6⟩
    · intro k hk
      have hk' : k < h 4 + 1 := hk
      by_cases ek : k = h 4
      · subst ek
        rw [snoc_n]
        refine ⟨?_, ?_, ?_, upd_same _ _ _, upd_same _ _ _⟩
        · exact (upd_ne _ _ (by omega)).trans ((upd_ne _ _ (by omega)).trans ((upd_ne _ _ (by omega)).trans (upd_same _ _ _)))
        · exact (upd_ne _ _ (by omega)).trans ((upd_ne _ _ (by omega)).trans (upd_same _ _ _))
        · exact (upd_ne _ _ (by omega)).trans (upd_same _ _ _)
      · obtain ⟨p0, p1, p2, p3, p4⟩ := d7 k (by omega)
        rw [snoc_lt _ _ (show k < h 4 by omega)]
        refine ⟨?_, ?_, ?_, ?_, (upd_ne _ _ ek).trans p4⟩
        · exact (upd_ne _ _ (by omega)).trans ((upd_ne _ _ (by omega)).trans ((upd_ne _ _ (by omega)).trans ((upd_ne _ _ (by omega)).trans p0)))
        · exact (upd_ne _ _ (by omega)).trans ((upd_ne _ _ (by omega)).trans ((upd_ne _ _ (by omega)).trans ((upd_ne _ _ (by omega)).trans p1)))
        · exact (upd_ne _ _ (by omega)).trans ((upd_ne _ _ (by omega)).trans ((upd_ne _ _ (by omega)).trans ((upd_ne _ _ (by omega)).trans p2)))
        · exact (upd_ne _ _ (by omega)).trans ((upd_ne _ _ (by omega)).trans ((upd_ne _ _ (by omega)).trans ((upd_ne _ _ (by omega)).trans p3)))
  · have e6 : h 4 = 6 := by omega
    have hn : ¬ (wrS S' 2 (tS tx n i)) 14 = 0 := wr_n (S' := S') (q := tS tx n i) (by decide) (by decide)
    unfold fX3_readTenant_11
    simp only [lt_e]
    rw [c4, e6, if_neg (show ¬ nI 6 < 6 by decide), bd3_s]
    refine ⟨S, V, wrS S' 2 (tS tx n i), V', L', ?_, ⟨fun _ _ => rfl, fun _ _ => rfl⟩, FR_w, Or.inr (Or.inl ⟨2, rfl, by decide, by decide, rfl, i, hi1, h05, rfl⟩)⟩
    rw [hl0]
    unfold fX12_readsTenant_0
    simp only [bk_e]
    rw [d4, e6, if_pos (show nI 6 = 6 from rfl), wrong2 h14 hr.2.2.2.2.1, bd1_s, good_0 hn, bd1_s, if_pos rfl, bd3_s]
end TN
