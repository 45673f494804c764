/-! ===== lines side by side: quarrel ===== -/
section QL
variable {tx : Nat → Nat} {n M i : Nat} {h : Nat → Nat} {t : Nat → Nat → Nat} {ru : Nat → List Nat} {st : Nat → Nat} {tp : Nat} {S S' : Nat → Int32} {V V' : Nat → Nat → Int32} {L' : Nat → Int64}
theorem amR (hc : CX tx n M V V') (ha : AT tx n M i S S' L') {k : Nat} (hk : k ≤ 6) (h4 : S 1204 = nI k) : (∃ v, v < k ∧ i < M ∧ fX3_tenantFault_11 S V = some 0 ∧ fX10_number_20 S V = some (nI v) ∧ fX12_amongHere_0 S' (nI k) = some (1, S') ∧ S' 22 = nI v) ∨ (∃ fl, 1 ≤ fl ∧ fl ≤ 5 ∧ fX3_tenantFault_11 S V = some (nI fl) ∧ fX12_amongHere_0 S' (nI k) = some (0, wrS S' fl (tS tx n i))) := by
  obtain ⟨hi1, h05, hr, h14⟩ := ha
  have kb := kdA_b hc.2.1 (tS tx n i)
  have w19 := s19 hc.2.1 hr 2 (by decide)
  unfold fX3_tenantFault_11 fX12_amongHere_0
  rw [kindC hc hi1 h05, bd1_s, good_1 h14, bd1_s, if_neg (show ¬ (1 : Int32) = 0 by decide)]
  simp only [bk_e]
  by_cases k1 : kdA tx n (tS tx n i) = 1
  · have hlt : i < M := by
      rcases Nat.lt_or_ge i M with z | z
      · exact z
      · have := (kd_M hc hi1).mpr (by omega)
        omega
    have hq := hc.2.2.1.2.2.1 i hlt
    have tb := tkE_b (tx := tx) hq
    have nx : nxA tx n (tS tx n i) = tkE tx n (tS tx n i) := if_pos hq
    have hn := hc.1
    have h21 : S' 21 = nI (tkE tx n (tS tx n i) - tS tx n i) := by rw [hr.2.2.2.2.2.1, nx]
    have h22 := hr.2.2.2.2.2.2.1 k1
    rw [if_pos (show nI (kdA tx n (tS tx n i)) = 1 from by rw [k1]; rfl), numbC hc hi1 h05 k1, bd1_s, bd1_s, if_pos (show S' 19 = 2 from w19.mpr ((so_2 _ kb).mpr k1)), h21]
    by_cases l4 : tkE tx n (tS tx n i) - tS tx n i ≤ 4
    · rw [show min (tkE tx n (tS tx n i) - tS tx n i) 4 = tkE tx n (tS tx n i) - tS tx n i by omega] at h22
      have hv : dgV tx (tS tx n i) (tkE tx n (tS tx n i) - tS tx n i) < 10000 := by
        have dgq : isDg (tx (tS tx n i)) = true := by
          have ek : kdA tx n (tS tx n i) = (if isLt (tx (tS tx n i)) = true then kdW tx (tS tx n i) (tkE tx n (tS tx n i)) else if isDg (tx (tS tx n i)) = true then 1 else if isSg (tx (tS tx n i)) = true then tx (tS tx n i) else 2) := if_pos hq
          cases hd : isDg (tx (tS tx n i)) with
          | true => rfl
          | false =>
            rw [hd] at ek
            cases hl : isLt (tx (tS tx n i)) with
            | true =>
              rw [if_pos hl] at ek
              have := (kdW_b (tx := tx) (p := tS tx n i) (e := tkE tx n (tS tx n i))).1
              omega
            | false =>
              rw [if_neg (by rw [hl]; decide), if_neg (by decide)] at ek
              cases hg : isSg (tx (tS tx n i)) with
              | true =>
                rw [if_pos hg] at ek
                have := sg_lo (tx (tS tx n i)) (hc.2.1 _ hq) hg
                omega
              | false => rw [if_neg (by rw [hg]; decide)] at ek; omega
        exact Nat.lt_of_lt_of_le (dgV_b _ _ (fun j hj => tk_dg hq dgq _ (by omega) (by omega))) ((by decide : ∀ k, k ≤ 4 → 10 ^ k ≤ 10000) _ l4)
      rw [show nmI tx n (tS tx n i) = nI (dgV tx (tS tx n i) (tkE tx n (tS tx n i) - tS tx n i)) from if_pos l4, if_pos (show nI (tkE tx n (tS tx n i) - tS tx n i) ≤ 4 from nI_le (a := tkE tx n (tS tx n i) - tS tx n i) (b := 4) l4 (by decide)), h22]
      generalize dgV tx (tS tx n i) (tkE tx n (tS tx n i) - tS tx n i) = v at *
      have hm1 : ¬ nI v = -1 := nI_m1 (by omega)
      unfold fX2_hasTenant_12
      rw [if_neg hm1, if_neg (nI_pos (n := v) (by omega)), h4]
      by_cases c1 : v < k
      · rw [if_neg (nI_ge c1 (by omega)), bd1_s, if_neg (show ¬ (1 : Int32) = 0 by decide), if_pos (nI_lt c1 (by omega)), good_1 h14, bd1_s]
        exact Or.inl ⟨v, c1, hlt, rfl, rfl, rfl, rfl⟩
      · rw [if_pos (nI_le (by omega) (by omega)), bd1_s, if_pos rfl, if_neg (nI_nlt (by omega) (by omega)), wrong3 h14 hr.2.2.2.2.1, bd1_s, good_0 (wr_n (by decide) (by decide)), bd1_s]
        exact Or.inr ⟨3, by decide, by decide, rfl, rfl⟩
    · rw [show nmI tx n (tS tx n i) = -1 from if_neg l4, if_pos rfl, if_neg (show ¬ nI (tkE tx n (tS tx n i) - tS tx n i) ≤ 4 from nI_ge (a := 4) (b := tkE tx n (tS tx n i) - tS tx n i) (by omega) (by omega)), wrong2 h14 hr.2.2.2.2.1, bd1_s, good_0 (wr_n (by decide) (by decide)), bd1_s]
      exact Or.inr ⟨2, by decide, by decide, rfl, rfl⟩
  · rw [if_neg (show ¬ nI (kdA tx n (tS tx n i)) = 1 from fun z => k1 ((kd_is kb (c := 1) (by decide)).mp z)), if_neg (show ¬ S' 19 = 2 from fun z => k1 ((so_2 _ kb).mp (w19.mp z))), wrong1 h14 hr.2.2.2.2.1, bd1_s, good_0 (wr_n (by decide) (by decide)), bd1_s]
    exact Or.inr ⟨1, by decide, by decide, rfl, rfl⟩
theorem am_bad {x : Int32} (hn : ¬ S' 14 = 0) : fX12_amongHere_0 S' x = some (0, S') := by
  unfold fX12_amongHere_0
  rw [good_0 hn, bd1_s, if_pos rfl]
def tQ (t : Nat → Nat → Nat) (a b : Nat) : Nat → Nat → Nat := fun i c => if c = 4 then (if i = a then t a 4 ||| 2 ^ b else if i = b then t b 4 ||| 2 ^ a else t i 4) else t i c
theorem lineQuarrel (hq : QQ tx n M i h t ru st tp S V S' V' L') (hi : i < M) (hk : kdA tx n (tS tx n i) = 105) : LINE tx n M i S V S' V' L' (bd3 (fX3_readQuarrel_11 S V) (fun r21 S22 V23 => some (r21, S22, V23))) := by
  obtain ⟨hc, ha, hto, hd⟩ := hq
  obtain ⟨hi1, h05, hr, h14⟩ := id ha
  obtain ⟨q1, q2, q3, q4, q5, q6, q7, q8, q9⟩ := id hd
  have h46 : h 4 ≤ 6 := q1.2.2.2.2.1
  have h58 : h 5 ≤ 8 := q1.2.2.2.2.2.1
  have c4 : S 1204 = nI (h 4) := q4.2.2.2.2.1
  have d4 : S' 29 = nI (h 4) := q6.2.2.2.2.1
  have c5 : S 1205 = nI (h 5) := q4.2.2.2.2.2.1
  have d5 : S' 30 = nI (h 5) := q6.2.2.2.2.2.1
  have kw := knR hc.2.1 hc.1 hr
  rw [hk, show kmI 105 = 13 by decide] at kw
  have hl0 : fX12_line_0 S' V' L' = bd3 (fX12_readsQuarrel_0 S' V' L') K5 := by
    unfold fX12_line_0
    rw [kw, bd1_s]
    simp only [bk_e]
    rw [if_neg (show ¬ (13 : Int32) = 9 by decide), if_neg (show ¬ (13 : Int32) = 10 by decide), if_neg (show ¬ (13 : Int32) = 11 by decide), if_neg (show ¬ (13 : Int32) = 12 by decide), if_pos trivial]
    rfl
  by_cases h8 : h 5 < 8
  · obtain ⟨a, b, c, d, e, f, y, g1, g2⟩ := stepR hc hi hr
    have ha2 : AT tx n M (i + 1) (va_up S 2005 (nI (i + 1))) (gS S' a b c d e f) (va_up L' 24 y) := ⟨hi, rfl, g2, h14⟩
    unfold fX3_readQuarrel_11
    rw [c5, if_pos (show nI (h 5) < 8 from nI_lt (a := h 5) (b := 8) h8 (by decide)), advC hc hi h05, bd1_s]
    unfold fX12_readsQuarrel_0 at hl0
    simp only [bk_e, lt_e] at hl0
    rw [d5, if_neg (show ¬ nI (h 5) = 8 from fun z => by have := (nI_eq (a := h 5) (b := 8) (by omega) (by decide)).mp z; omega), good_1 h14, bd1_s, if_neg (show ¬ (1 : Int32) = 0 by decide), g1, bd2_s, show (gS S' a b c d e f) 29 = nI (h 4) from d4] at hl0
    rcases amR hc ha2 h46 c4 with ⟨v, v1, v2, v3, v4, v5, v6⟩ | ⟨fl, w1, w2, w3, w4⟩
    · obtain ⟨a2, b2, c2, d2, e2, f2, y2, g3, g4⟩ := stepR hc v2 g2
      have ha3 : AT tx n M (i + 1 + 1) (va_up (va_up S 2005 (nI (i + 1))) 2005 (nI (i + 1 + 1))) (gS (gS S' a b c d e f) a2 b2 c2 d2 e2 f2) (va_up (va_up L' 24 y) 24 y2) := ⟨by omega, rfl, g4, h14⟩
      rw [v3, bd1_s, if_pos rfl, v4, bd1_s, advC (S := va_up S 2005 (nI (i + 1))) hc v2 rfl, bd1_s]
      rw [v5, bd2_s, if_neg (show ¬ (1 : Int32) = 0 by decide), good_1 (S' := gS S' a b c d e f) h14, bd1_s, if_neg (show ¬ (1 : Int32) = 0 by decide), g3, bd2_s, v6, show (gS (gS S' a b c d e f) a2 b2 c2 d2 e2 f2) 29 = nI (h 4) from d4] at hl0
      rcases amR hc ha3 h46 c4 with ⟨v', v1', v2', v3', v4', v5', v6'⟩ | ⟨fl, w1, w2, w3, w4⟩
      · have va := q5 v (by omega)
        have vb := q5 v' (by omega)
        have ra := q7 v (by omega)
        have rb := q7 v' (by omega)
        have e22 : (gS (gS S' a b c d e f) a2 b2 c2 d2 e2 f2) 22 = nI v' := v6'
        have qrl : fX2_quarrelsOf_12 V (nI v) (nI v') = some (if (t v 4).testBit v' = true then 1 else 0) := by
          unfold fX2_quarrelsOf_12
          rw [if_neg (nI_m1 (by omega)), if_neg (nI_m1 (by omega)), gd_n v 6 (by omega) (by decide), nI_cl v (by omega), va.2.2.2.2, sh1 (by omega)]
        have hn : ¬ (wrS (gS (gS S' a b c d e f) a2 b2 c2 d2 e2 f2) 4 (tS tx n (i + 1 + 1))) 14 = 0 := wr_n (S' := gS (gS S' a b c d e f) a2 b2 c2 d2 e2 f2) (q := tS tx n (i + 1 + 1)) (by decide) (by decide)
        rw [v3', bd1_s, if_pos rfl, v4', bd1_s, qrl]
        rw [v5', bd2_s, if_neg (show ¬ (1 : Int32) = 0 by decide), e22, gd_n v 6 (by omega) (by decide), nI_cl v (by omega), ra.2.2.2.2, sh1 (show v' < 32 by omega), wrong4 (S' := gS (gS S' a b c d e f) a2 b2 c2 d2 e2 f2) h14 g4.2.2.2.2.1, bd1_s, good_0 hn, bd1_s, if_pos rfl] at hl0
        have bad : LINE tx n M i S V S' V' L' (some (4, va_up (va_up S 2005 (nI (i + 1))) 2005 (nI (i + 1 + 1)), V)) → True := fun _ => trivial
        by_cases z1 : v = v'
        · subst z1
          rw [if_pos rfl, bd3_s]
          rw [if_pos rfl, bd3_s] at hl0
          exact ⟨_, V, _, V', _, hl0, ⟨(fun k hk => by simp only [va_up]; (repeat rw [if_neg (by omega)])), fun _ _ => rfl⟩, ⟨(fun k hk => by simp only [va_up]; (repeat rw [if_neg (by omega)])), fun _ _ => rfl⟩, Or.inr (Or.inl ⟨4, rfl, by decide, by decide, rfl, i + 1 + 1, by omega, rfl, rfl⟩)⟩
        · rw [if_neg (fun q => z1 ((nI_eq (by omega) (by omega)).mp q)), bd1_s]
          rw [if_neg (fun q => z1 ((nI_eq (a := v') (b := v) (by omega) (by omega)).mp q).symm)] at hl0
          cases hb : (t v 4).testBit v' with
          | true =>
            rw [if_pos rfl, if_neg (show ¬ (1 : Int32) = 0 by decide), bd3_s]
            rw [hb, if_pos rfl, if_pos rfl, bd3_s] at hl0
            exact ⟨_, V, _, V', _, hl0, ⟨(fun k hk => by simp only [va_up]; (repeat rw [if_neg (by omega)])), fun _ _ => rfl⟩, ⟨(fun k hk => by simp only [va_up]; (repeat rw [if_neg (by omega)])), fun _ _ => rfl⟩, Or.inr (Or.inl ⟨4, rfl, by decide, by decide, rfl, i + 1 + 1, by omega, rfl, rfl⟩)⟩
          | false =>
            have gg : (upd (V 17) v (nI (t v 4 ||| 2 ^ v'))) v' = nI (t v' 4) := (upd_ne _ _ (fun q => z1 q.symm)).trans vb.2.2.2.2
            have gr : (upd (V' 8) v (nI (t v 4 ||| 2 ^ v'))) v' = nI (t v' 4) := (upd_ne _ _ (fun q => z1 q.symm)).trans rb.2.2.2.2
            rw [if_pos (show (if false = true then (1 : Int32) else 0) = 0 by decide), advC (S := va_up (va_up S 2005 (nI (i + 1))) 2005 (nI (i + 1 + 1))) hc v2' rfl, bd1_s, gd_n v 6 (by omega) (by decide)]
            simp only [lt_e]
            rw [gd_n v 6 (by omega) (by decide), gd_n v' 6 (by omega) (by decide), gd_n v' 6 (by omega) (by decide), nI_cl v (by omega), nI_cl v' (by omega), va.2.2.2.2, bit_lt (show v' < 31 by omega), bit_lt (show v < 31 by omega), fa_or, va_up_self, gg, fa_or, va_up_up, bd3_s]
            obtain ⟨a3, b3, c3, d3, e3, f3, y3, g5, g6⟩ := stepR (V := V) (V' := va_up V' 8 (upd (upd (V' 8) v (nI (t v 4 ||| 2 ^ v'))) v' (nI (t v' 4 ||| 2 ^ v)))) (S' := va_up (gS (gS S' a b c d e f) a2 b2 c2 d2 e2 f2) 30 (nI (h 5 + 1))) (L' := va_up (va_up L' 24 y) 24 y2) hc v2' g4
            rw [hb, if_neg (show ¬ (if false = true then (1 : Int32) else 0) = 1 by decide), good_1 (S' := gS (gS S' a b c d e f) a2 b2 c2 d2 e2 f2) h14, bd1_s, if_neg (show ¬ (1 : Int32) = 0 by decide), gd_n v 6 (by omega) (by decide), gd_n v' 6 (by omega) (by decide), gd_n v' 6 (by omega) (by decide), nI_cl v' (by omega), bit_lt (show v' < 31 by omega), bit_lt (show v < 31 by omega), fa_or, va_up_self, gr, fa_or, va_up_up, show (gS (gS S' a b c d e f) a2 b2 c2 d2 e2 f2) 30 = nI (h 5) from d5, nI_1, g5, bd2_s, gd_n v 6 (by omega) (by decide), bd3_s] at hl0
            refine ⟨_, _, _, _, _, hl0, ⟨(fun k hk => by simp only [va_up]; (repeat rw [if_neg (by omega)])), fun q hq => by simp only [va_up]; (repeat rw [if_neg (by omega)])⟩, ⟨(fun k hk => by simp only [va_up]; (repeat rw [if_neg (by omega)])), fun q hq => by simp only [va_up]; (repeat rw [if_neg (by omega)])⟩, Or.inl ⟨rfl, rfl, i + 1 + 1 + 1, va_up h 5 (h 5 + 1), tQ t v v', ru, st, tp, by omega, hc, ⟨by omega, rfl, g6, h14⟩, hto, ?_⟩⟩
            obtain ⟨p1, p2, p3, p4, p5, p6, p7, p8, p9⟩ := DQ_mono (show i ≤ i + 1 + 1 + 1 by omega) hd
            refine ⟨?_, ?_, p3, ?_, ?_, ?_, ?_, p8, p9⟩
            · obtain ⟨r0, r1, r2, r3, r4, r5, r6⟩ := p1
              exact ⟨r0, r1, r2, r3, r4, (by show h 5 + 1 ≤ 8; omega), r6⟩
            · intro k hk
              have hk' : k < h 4 := hk
              obtain ⟨⟨x0, x1, x2, x3, x4, x5⟩, x6, x7⟩ := p2 k hk'
              have lt1 : t v 4 ||| 2 ^ v' < 2 ^ h 4 := or_lt (p2 v (by omega)).1.2.2.2.2.2 (Nat.pow_lt_pow_right (by decide) v1')
              have lt2 : t v' 4 ||| 2 ^ v < 2 ^ h 4 := or_lt (p2 v' (by omega)).1.2.2.2.2.2 (Nat.pow_lt_pow_right (by decide) v1)
              have tb4 : ∀ k j, (tQ t v v' k 4).testBit j = ((t k 4).testBit j || decide ((k = v ∧ j = v') ∨ (k = v' ∧ j = v))) := fun k j => by
                show (if k = v then t v 4 ||| 2 ^ v' else if k = v' then t v' 4 ||| 2 ^ v else t k 4).testBit j = _
                by_cases y1 : k = v
                · rw [if_pos y1, y1, Nat.testBit_or, Nat.testBit_two_pow]
                  congr 1
                  rw [decide_eq_decide]
                  constructor
                  · intro q; exact Or.inl ⟨rfl, q.symm⟩
                  · rintro (q | q)
                    · exact q.2.symm
                    · exact absurd q.1 z1
                · rw [if_neg y1]
                  by_cases y2 : k = v'
                  · rw [if_pos y2, y2, Nat.testBit_or, Nat.testBit_two_pow]
                    congr 1
                    rw [decide_eq_decide]
                    constructor
                    · intro q; exact Or.inr ⟨rfl, q.symm⟩
                    · rintro (q | q)
                      · exact absurd q.1.symm z1
                      · exact q.2.symm
                  · rw [if_neg y2, decide_eq_false (fun q => q.elim (fun q => y1 q.1) (fun q => y2 q.1)), Bool.or_false]
              refine ⟨⟨x0, x1, x2, x3, x4, ?_⟩, ?_, fun j hj => ?_⟩
              · show (if k = v then t v 4 ||| 2 ^ v' else if k = v' then t v' 4 ||| 2 ^ v else t k 4) < 2 ^ h 4
                split
                · exact lt1
                · split
                  · exact lt2
                  · exact x5
              · rw [tb4, x6, Bool.false_or, decide_eq_false]
                rintro (q | q)
                · exact z1 (q.1.symm.trans q.2)
                · exact z1 (q.2.symm.trans q.1)
              · rw [tb4, tb4, x7 j hj]
                congr 1
                rw [decide_eq_decide]
                constructor
                · rintro (q | q)
                  · exact Or.inr ⟨q.2, q.1⟩
                  · exact Or.inl ⟨q.2, q.1⟩
                · rintro (q | q)
                  · exact Or.inr ⟨q.2, q.1⟩
                  · exact Or.inl ⟨q.2, q.1⟩
            · obtain ⟨r0, r1, r2, r3, r4, r5, r6⟩ := p4
              refine ⟨r0, r1, r2, r3, r4, ?_, r6⟩
              show S 1205 + 1 = nI (h 5 + 1)
              rw [c5, nI_1]
            · intro k hk
              obtain ⟨x0, x1, x2, x3, x4⟩ := p5 k hk
              refine ⟨x0, x1, x2, x3, ?_⟩
              show upd (upd (V 17) v (nI (t v 4 ||| 2 ^ v'))) v' (nI (t v' 4 ||| 2 ^ v)) k = nI (if k = v then t v 4 ||| 2 ^ v' else if k = v' then t v' 4 ||| 2 ^ v else t k 4)
              by_cases y2 : k = v'
              · rw [y2, upd_same, if_neg (fun q => z1 q.symm), if_pos rfl]
              · rw [upd_ne _ _ y2]
                by_cases y1 : k = v
                · rw [y1, upd_same, if_pos rfl]
                · rw [upd_ne _ _ y1, if_neg y1, if_neg y2]
                  exact x4
            · obtain ⟨r0, r1, r2, r3, r4, r5, r6⟩ := p6
              exact ⟨r0, r1, r2, r3, r4, rfl, r6⟩
            · intro k hk
              obtain ⟨x0, x1, x2, x3, x4⟩ := p7 k hk
              refine ⟨x0, x1, x2, x3, ?_⟩
              show upd (upd (V' 8) v (nI (t v 4 ||| 2 ^ v'))) v' (nI (t v' 4 ||| 2 ^ v)) k = nI (if k = v then t v 4 ||| 2 ^ v' else if k = v' then t v' 4 ||| 2 ^ v else t k 4)
              by_cases y2 : k = v'
              · rw [y2, upd_same, if_neg (fun q => z1 q.symm), if_pos rfl]
              · rw [upd_ne _ _ y2]
                by_cases y1 : k = v
                · rw [y1, upd_same, if_pos rfl]
                · rw [upd_ne _ _ y1, if_neg y1, if_neg y2]
                  exact x4
      · have hn : ¬ (wrS (gS (gS S' a b c d e f) a2 b2 c2 d2 e2 f2) fl (tS tx n (i + 1 + 1))) 14 = 0 := wr_n (S' := gS (gS S' a b c d e f) a2 b2 c2 d2 e2 f2) (q := tS tx n (i + 1 + 1)) w1 w2
        rw [w3, bd1_s, if_neg (fun z => by have := (nI_eq0 (n := fl) (by omega)).mp z; omega), bd3_s]
        rw [w4, bd2_s, if_pos rfl, good_0 hn, bd1_s, if_pos rfl, bd3_s] at hl0
        exact ⟨_, V, _, V', _, hl0, ⟨(fun k hk => by simp only [va_up]; (repeat rw [if_neg (by omega)])), fun _ _ => rfl⟩, ⟨(fun k hk => by simp only [va_up]; (repeat rw [if_neg (by omega)])), fun _ _ => rfl⟩, Or.inr (Or.inl ⟨fl, rfl, w1, w2, rfl, i + 1 + 1, by omega, rfl, rfl⟩)⟩
    · have hn : ¬ (wrS (gS S' a b c d e f) fl (tS tx n (i + 1))) 14 = 0 := wr_n (S' := gS S' a b c d e f) (q := tS tx n (i + 1)) w1 w2
      rw [w3, bd1_s, if_neg (fun z => by have := (nI_eq0 (n := fl) (by omega)).mp z; omega), bd3_s]
      rw [w4, bd2_s, if_pos rfl, good_0 hn, bd1_s, if_pos rfl, am_bad hn, bd2_s, if_pos rfl, good_0 hn, bd1_s, if_pos rfl, bd3_s] at hl0
      exact ⟨_, V, _, V', _, hl0, ⟨(fun k hk => by simp only [va_up]; (repeat rw [if_neg (by omega)])), fun _ _ => rfl⟩, ⟨(fun k hk => by simp only [va_up]; (repeat rw [if_neg (by omega)])), fun _ _ => rfl⟩, Or.inr (Or.inl ⟨fl, rfl, w1, w2, rfl, i + 1, by omega, rfl, rfl⟩)⟩
  · have e8 : h 5 = 8 := by omega
    have hn : ¬ (wrS S' 2 (tS tx n i)) 14 = 0 := wr_n (S' := S') (q := tS tx n i) (by decide) (by decide)
    unfold fX3_readQuarrel_11
    rw [c5, e8, if_neg (show ¬ nI 8 < 8 by decide), bd3_s]
    refine ⟨S, V, wrS S' 2 (tS tx n i), V', L', ?_, ⟨fun _ _ => rfl, fun _ _ => rfl⟩, FR_w, Or.inr (Or.inl ⟨2, rfl, by decide, by decide, rfl, i, hi1, h05, rfl⟩)⟩
    rw [hl0]
    unfold fX12_readsQuarrel_0
    simp only [bk_e]
    rw [d5, e8, if_pos (show nI 8 = 8 from rfl), wrong2 h14 hr.2.2.2.2.1, bd1_s, good_0 hn, bd1_s, if_pos rfl, bd3_s]
end QL
