/-! ===== rules: all cases, and the line ===== -/
section RS
variable {tx : Nat → Nat} {n M s0 a0 : Nat} {S0 : Nat → Int32} {V0 : Nat → Nat → Int32} {R0 : Nat → Int32} {W0 : Nat → Nat → Int32}
theorem exStop {i d m : Nat} {stk cs : List Nat} {S S3 : Nat → Int32} {V V3 : Nat → Nat → Int32} {S' : Nat → Int32} {V' : Nat → Nat → Int32} {L' : Nat → Int64} (hx : XR tx n M s0 a0 S0 V0 R0 W0 i d stk cs 1 S V S' V' L') (h05 : S3 2005 = nI i) (hfx : FX s0 S V S3 V3) (h59 : ¬ (kdA tx n (tS tx n i) = 59 ∧ d = 0)) (hr : fX12_expression_0_L29 eX m 1 S' V' L' = eX S' V' L') : EXO tx n M s0 a0 S0 V0 R0 W0 i (some (1, S3, V3)) (fX12_expression_0_L29 eX m 1 S' V' L') := by
  obtain ⟨hc, ha, hC, hR, hd, hk2, c1, r1, ⟨b1, b2⟩, ht, fx, fy⟩ := id hx
  obtain ⟨hi1, -, hrn, h14⟩ := id ha
  have hM := M600 hc
  have skb := SK_b d stk hk2
  have hdd := hd.2.2
  rw [hr]
  by_cases d0 : d = 0
  · subst d0
    obtain ⟨S4, V4, e1, e2, e3, -, -, e6, -⟩ := eX_end hx
    exact Or.inr (Or.inr ⟨i, S3, V3, S4, V4, L', rfl, e1, e2, hi1, h05, e3, fun z => h59 ⟨z, rfl⟩, FX_FC (FX_t fx hfx), FY_FR (FY_t fy.1 e6), (FX_t fx hfx).1 1206 (by decide) (by decide) (by decide)⟩)
  · have hn : ¬ (wrS S' 1 (tS tx n i)) 14 = 0 := wr_n (S' := S') (q := tS tx n i) (by decide) (by decide)
    obtain ⟨S4, V4, e1, e2, e3, e4⟩ := eX_bad (S' := wrS S' 1 (tS tx n i)) (V' := V') (L' := L') (tp := a0 + (cs.flatMap trT).length) (w := stk.length) hn r1.1 hR.1 (by omega) (by omega)
    have e0 : eX S' V' L' = eX (wrS S' 1 (tS tx n i)) V' L' := by
      unfold eX
      rw [good_1 h14, bd1_s, if_neg (show ¬ (1 : Int32) = 0 by decide), hd.2.1, if_neg (show ¬ nI (d + 1) ≤ 1 from fun z => by have := (nI_le1 (n := d + 1) (by omega)).mp z; omega), wrong1 h14 hrn.2.2.2.2.1, bd1_s, good_0 hn, bd1_s, if_pos rfl]
    rw [e0]
    exact Or.inr (Or.inl ⟨1, S3, V3, S4, V4, L', rfl, e1, ⟨by decide, by decide, e2, i, hi1, h05, e3⟩, FX_FC (FX_t fx hfx), FR_t (FY_FR fy.1) (FR_t FR_w e4), (FX_t fx hfx).1 1206 (by decide) (by decide) (by decide)⟩)
theorem oc_none : ∀ k, k ≤ 118 → k ≠ 111 → k ≠ 110 → k ≠ 60 → k ≠ 61 → k ≠ 43 → k ≠ 45 → k ≠ 42 → k ≠ 47 → ocI k = -1 := fun k _ h1 h2 h3 h4 h5 h6 h7 h8 => by
  unfold ocI
  rw [if_neg h7, if_neg h5, if_neg h6, if_neg h8, if_neg h3, if_neg h4, if_neg h2, if_neg h1]
theorem exprX : ∀ k, IHx tx n M s0 a0 S0 V0 R0 W0 k := by
  intro k
  induction k using Nat.strongRecOn with
  | _ k ih =>
    intro i d stk cs fC cnt nE S V S' V' L' hk hx h5 hcnt f1 f2
    obtain ⟨hc, ha, hC, hR, hd, hk2, c1, r1, ⟨b1, b2⟩, ht, fx, fy⟩ := id hx
    obtain ⟨hi1, h05, hrn, h14⟩ := id ha
    have hM := M600 hc
    have kb := kdA_b hc.2.1 (tS tx n i)
    have skb := SK_b d stk hk2
    have hdd := hd.2.2
    obtain ⟨fC, rfl⟩ : ∃ z, fC = z + 1 + 1 := ⟨fC - 2, by omega⟩
    obtain ⟨m, rfl⟩ : ∃ z, nE = z + 1 + 1 := ⟨nE - 2, by omega⟩
    have fxr : FX s0 S V S V := ⟨fun _ _ _ _ => rfl, fun _ _ _ => rfl, fun _ _ => rfl⟩
    rw [n19 hc hi1 h05 hd.1 hdd (by omega) h5]
    by_cases cE : kdA tx n (tS tx n i) = 59 ∧ d = 0
    · obtain ⟨k9, d0⟩ := cE
      subst d0
      rw [if_pos ⟨k9, rfl⟩]
      obtain ⟨S2, V2, e1, e2⟩ := wbX (l := 1) (by decide) (by decide) skb.2.2 hC (by omega) c1 (by omega) hd.1 h05
      obtain ⟨q1, ⟨q2, q3⟩, q4, q5, q6⟩ := id e2
      obtain ⟨S4, V4, u1, u2, u3, u4, u5, u6, u7⟩ := eX_end hx
      have ps : popS 1 stk = [] := pop1_seg stk hk2.1.1
      have pl := pop_len 1 stk
      rw [ps] at pl
      have pl' : 0 + (popC 1 stk).length = stk.length := pl
      have htt := ht_pop 1 stk cs skb.2.2 ht
      rw [ps] at htt
      rw [L29_Stop (d := 0) hc h14 hrn (by decide) hd.2.1 (by omega) (by omega) (fun z => by omega) (by omega) (by omega) (by omega) (by omega) (fun z => by omega), u1]
      unfold eC
      rw [show fX9_writeBinding_25 S V 1 = _ from e1, bd2_s]
      exact Or.inl ⟨i, cs ++ popC 1 stk, S2, V2, S4, V4, L', rfl, rfl, Nat.le_refl _, hi1, q1, u3, u2, k9, q5, u4, u5, htt, by rw [List.length_append]; omega, u7.1, FX_t fx q6, FY_t fy.1 u6, u7.2.trans fy.2⟩
    · rw [if_neg cE]
      by_cases k41 : kdA tx n (tS tx n i) = 41
      · rw [if_pos k41]
        by_cases d0 : d = 0
        · have rc : fX9_readClose_25 S V = some (1, S, V) := by
            unfold fX9_readClose_25
            rw [hd.1, if_pos (show nI d = 0 from by rw [d0]; rfl)]
          have op : fX12_isOpened_0 S' V' = some 0 := (isOpR hx).trans (by rw [decide_eq_false (by omega)]; rfl)
          rw [rc, bd3_s, show (1 : Int32) = nI 1 from rfl, w19f (by decide) (by decide)]
          exact exStop hx h05 fxr cE (L29_Stop hc h14 hrn hdd hd.2.1 (by omega) (by omega) (fun z => by omega) (by omega) (by omega) (by omega) (by omega) (fun _ => op))
        · exact exClose ih hk hx k41 d0 h5 hcnt f1 f2
      · rw [if_neg k41]
        by_cases a1 : kdA tx n (tS tx n i) = 111
        · exact exAnd ih hk hx a1 hcnt f1 f2
        by_cases a2 : kdA tx n (tS tx n i) = 110
        · exact exOr ih hk hx a2 hcnt f1 f2
        by_cases a5 : kdA tx n (tS tx n i) = 43
        · exact exPlus ih hk hx a5 hcnt f1 f2
        by_cases a6 : kdA tx n (tS tx n i) = 45
        · exact exMinus ih hk hx a6 hcnt f1 f2
        by_cases a7 : kdA tx n (tS tx n i) = 42
        · exact exTimes ih hk hx a7 hcnt f1 f2
        by_cases a8 : kdA tx n (tS tx n i) = 47
        · exact exOver ih hk hx a8 hcnt f1 f2
        have stopT : ∀ x : Nat, 1 ≤ x ∧ x ≤ 9 → ocI (kdA tx n (tS tx n i)) = nI x → bn x = 4 → (kdA tx n (tS tx n i) = 60 ∨ kdA tx n (tS tx n i) = 61) → V' 12 (d + 1) ≠ 0 → EXO tx n M s0 a0 S0 V0 R0 W0 i (bd3 (fX9_readOperator_25 S V) (fun r S2 V2 => fX9_read_25_L19 eC (fC + 1) r (nI (cnt + 1)) S2 V2)) (fX12_expression_0_L29 eX (m + 1 + 1) 1 S' V' L') := fun x x1 x2 x3 x4 x5 => by
          obtain ⟨S3, V3, o1, o2, o3⟩ := (rdopT hx (lt_M hc hi1 (by omega)) x1 x2 x3).2 x5
          rw [o1, bd3_s, show (1 : Int32) = nI 1 from rfl, w19f (by decide) (by decide)]
          exact exStop hx o2 o3 cE (L29_Stop hc h14 hrn hdd hd.2.1 a1 a2 (fun z => x5 z.2) a5 a6 a7 a8 (fun z => absurd z k41))
        by_cases a3 : kdA tx n (tS tx n i) = 60
        · by_cases h12 : V' 12 (d + 1) = 0
          · exact exLess ih hk hx a3 h12 hcnt f1 f2
          · exact stopT 4 (by decide) (by rw [a3]; decide) rfl (Or.inl a3) h12
        by_cases a4 : kdA tx n (tS tx n i) = 61
        · by_cases h12 : V' 12 (d + 1) = 0
          · exact exSame ih hk hx a4 h12 hcnt f1 f2
          · exact stopT 5 (by decide) (by rw [a4]; decide) rfl (Or.inr a4) h12
        have ro : fX9_readOperator_25 S V = some (1, S, V) := by
          unfold fX9_readOperator_25
          rw [opT hc hi1 h05, oc_none _ kb a1 a2 a3 a4 a5 a6 a7 a8, bd1_s, if_pos rfl]
        rw [ro, bd3_s, show (1 : Int32) = nI 1 from rfl, w19f (by decide) (by decide)]
        exact exStop hx h05 fxr cE (L29_Stop hc h14 hrn hdd hd.2.1 a1 a2 (fun z => z.1.elim a3 a4) a5 a6 a7 a8 (fun z => absurd z k41))
end RS
section RL
variable {tx : Nat → Nat} {n M i : Nat} {h : Nat → Nat} {t : Nat → Nat → Nat} {ru : Nat → List Nat} {st : Nat → Nat} {tp : Nat} {S S' : Nat → Int32} {V V' : Nat → Nat → Int32} {L' : Nat → Int64}
theorem st_mono {N : Nat} (hs : ∀ r, r < N → st (r + 1) = st r + (ru r).length) : ∀ (j r : Nat), r + j = N → st r ≤ st N
  | 0, r, e => by rw [show r = N by omega]; exact Nat.le_refl _
  | j + 1, r, e => by
    have := st_mono hs j (r + 1) (by omega)
    have := hs r (by omega)
    omega
theorem K5_b {S3 : Nat → Int32} {V3 : Nat → Nat → Int32} {L3 : Nat → Int64} (hn : ¬ S3 14 = 0) : K5 S3 V3 L3 = some (S3, V3, L3) := by
  have hs : ∃ x, fX12_isSign_0 S3 59 = some x := by
    unfold fX12_isSign_0
    split
    · split
      · exact ⟨1, rfl⟩
      · exact ⟨0, rfl⟩
    · exact ⟨0, rfl⟩
  obtain ⟨x, hx⟩ := hs
  unfold K5
  rw [hx, bd1_s, need_bad hn, bd2_s]
theorem lineRule (hq : QQ tx n M i h t ru st tp S V S' V' L') (hi : i < M) (hk : kdA tx n (tS tx n i) = 106) : LINE tx n M i S V S' V' L' (bd3 (fX3_readRule_11 S V) (fun r26 S27 V28 => some (r26, S27, V28))) := by
  obtain ⟨hc, ha, hto, hd⟩ := hq
  obtain ⟨hi1, h05, hr, h14⟩ := id ha
  obtain ⟨q1, q2, q3, q4, q5, q6, q7, q8, q9⟩ := id hd
  have hM := M600 hc
  have h64 : h 6 ≤ 4 := q1.2.2.2.2.2.2
  have c6 : S 1206 = nI (h 6) := q4.2.2.2.2.2.2
  have d6 : S' 31 = nI (h 6) := q6.2.2.2.2.2.2
  have kw := knR hc.2.1 hc.1 hr
  rw [hk, show kmI 106 = 14 by decide] at kw
  have n1 : ((14 : Int32) = 9) = False := eq_false (by decide)
  have n2 : ((14 : Int32) = 10) = False := eq_false (by decide)
  have n3 : ((14 : Int32) = 11) = False := eq_false (by decide)
  have n4 : ((14 : Int32) = 12) = False := eq_false (by decide)
  have n5 : ((14 : Int32) = 13) = False := eq_false (by decide)
  by_cases h4 : h 6 < 4
  · obtain ⟨a, b, c, d, e, f, y, g1, g2⟩ := stepR hc hi hr
    -- the reference before its expression
    have hl0 : fX12_line_0 S' V' L' = bd3 (fX12_expression_0 (va_up (gS S' a b c d e f) 31 (nI (h 6 + 1))) (va_up V' 9 (upd (V' 9) (h 6) (nI tp))) (va_up L' 24 y)) K5 := by
      unfold fX12_line_0
      rw [kw, bd1_s]
      simp only [bk_e, n1, n2, n3, n4, n5, ite_true, ite_false, lt_e]
      rw [d6, if_neg (show ¬ nI (h 6) = 4 from fun z => by have := (nI_eq (a := h 6) (b := 4) (by omega) (by decide)).mp z; omega), good_1 h14, bd1_s, if_neg (show ¬ (1 : Int32) = 0 by decide), g1, bd2_s, show (gS S' a b c d e f) 31 = nI (h 6) from d6, show (gS S' a b c d e f) 33 = nI tp from q9.1, gd_n (h 6) 4 h4 (by decide), nI_cl (h 6) (by omega), nI_1]
      rfl
    rw [expr_e (S' := va_up (gS S' a b c d e f) 31 (nI (h 6 + 1))) h14] at hl0
    have dp : fX12_deeper_0 (va_up (va_up (va_up (gS S' a b c d e f) 31 (nI (h 6 + 1))) 34 0) 35 0) (va_up V' 9 (upd (V' 9) (h 6) (nI tp))) = some (va_up (va_up (va_up (va_up (gS S' a b c d e f) 31 (nI (h 6 + 1))) 34 0) 35 0) 35 (nI 1), va_up (va_up V' 9 (upd (V' 9) (h 6) (nI tp))) 12 (upd (V' 12) 1 0)) := by
      unfold fX12_deeper_0
      simp only [lt_e]
      rw [va_up_self, if_neg (show ¬ (6 : Int32) ≤ 0 by decide), va_up_self, show (0 : Int32) + 1 = nI 1 by decide, gd_n 1 9 (by decide) (by decide), nI_cl 1 (by decide)]
      rfl
    rw [dp, bd2_s] at hl0
    -- the class
    have sgn : SEG [] := ⟨fun x hx => (by cases hx), List.Pairwise.nil, Nat.zero_le _⟩
    obtain ⟨st0, st1, st2, st3⟩ := q8
    obtain ⟨tp1, tp2, tp3⟩ := q9
    have xr : XR tx n M (st (h 6)) tp S V (va_up (gS S' a b c d e f) 31 (nI (h 6 + 1))) (va_up V' 9 (upd (V' 9) (h 6) (nI tp))) (i + 1) 0 [] [] 0 (va_up (va_up (va_up (va_up (va_up (va_up S 2005 (nI (i + 1))) 2503 0) 2504 0) 2505 1) 2506 1) 2507 0) V (va_up (va_up (va_up (va_up (gS S' a b c d e f) 31 (nI (h 6 + 1))) 34 0) 35 0) 35 (nI 1)) (va_up (va_up V' 9 (upd (V' 9) (h 6) (nI tp))) 12 (upd (V' 12) 1 0)) (va_up L' 24 y) := by
      refine ⟨hc, ⟨hi, rfl, g2, h14⟩, ⟨rfl, trivial⟩, ⟨rfl, trivial⟩, ⟨rfl, rfl, by decide⟩, ⟨sgn, ?_⟩, ⟨st1, fun j p hp => by simp at hp⟩, ⟨tp1, fun j p hp => by simp at hp⟩, ⟨?_, ?_⟩, rfl, ⟨fun k k1 k2 k3 => ?_, fun _ _ _ => rfl, fun _ _ => rfl⟩, ⟨fun k hk => ?_, fun q hq => va_up_ne _ _ (by omega), fun _ _ => rfl⟩, rfl⟩
      · show upd (V' 12) 1 0 1 = bI (has4 [])
        rw [upd_same]; rfl
      · show st (h 6) + 0 + 0 + 1 ≤ i + 1
        omega
      · show tp + 0 + 0 + 1 ≤ 2 * (i + 1)
        omega
      · simp only [va_up]; (repeat rw [if_neg (by omega)])
      · simp only [va_up]; (repeat rw [if_neg (by omega)])
    have wnt : WNT ((va_up (va_up V' 9 (upd (V' 9) (h 6) (nI tp))) 12 (upd (V' 12) 1 0)) 12) 0 [] 0 := ⟨[], [], rfl, sgn, fun x hx => (by cases hx), rfl, fun seg2 g p1 p2 p3 => by rw [List.append_nil]; exact ⟨p1, p3⟩, by show upd (V' 12) 1 0 1 = bI (has4 []); rw [upd_same]; rfl⟩
    have res := opGo (k := M - (i + 1)) (cnt := 0) (fC := FU) (m := FU) (a := true) (fun k' _ => exprX k') (by omega) xr rfl rfl rfl (fun _ => wnt) (Nat.zero_le _) (by unfold FU; omega) (by unfold FU; omega)
    rw [show bI true = (1 : Int32) from rfl, nI_0] at res
    have rd : fX9_read_25 (va_up S 2005 (nI (i + 1))) V = fX9_read_25_L19 eC FU 0 0 (va_up (va_up (va_up (va_up (va_up (va_up S 2005 (nI (i + 1))) 2503 0) 2504 0) 2505 1) 2506 1) 2507 0) V := by
      unfold fX9_read_25 fX9_wantPart_25
      simp only [lt_e]
      rw [gd_t (by decide), bd1_s, bk_e]
      refine congrArg (fun E => fX9_read_25_L19 E FU 0 0 (va_up (va_up (va_up (va_up (va_up (va_up S 2005 (nI (i + 1))) 2503 0) 2504 0) 2505 1) 2506 1) 2507 0) V) ?_
      funext S44 V45
      unfold eC
      exact Eq.refl _
    have rr : ∀ (x : Int32) (S5 : Nat → Int32) (V6 : Nat → Nat → Int32), fX9_read_25 (va_up S 2005 (nI (i + 1))) V = some (x, S5, V6) → S5 1206 = nI (h 6) → bd3 (fX3_readRule_11 S V) (fun r26 S27 V28 => some (r26, S27, V28)) = some (x, va_up S5 1206 (nI (h 6 + 1)), va_up V6 19 (upd (V6 19) (h 6) (S5 1213))) := fun x S5 V6 e1 e2 => by
      unfold fX3_readRule_11
      simp only [lt_e]
      rw [c6, if_pos (show nI (h 6) < 4 from nI_lt (a := h 6) (b := 4) h4 (by decide)), advC hc hi h05, bd1_s, e1, bd3_s, e2, gd_n (h 6) 4 h4 (by decide), nI_cl (h 6) (by omega), nI_1, bd3_s]
    rw [rd] at rr
    have fr0 : FR S' V' (va_up (gS S' a b c d e f) 31 (nI (h 6 + 1))) (va_up V' 9 (upd (V' 9) (h 6) (nI tp))) := ⟨(fun k hk => by simp only [va_up]; (repeat rw [if_neg (by omega)])), fun q hq => va_up_ne _ _ (by omega)⟩
    have fc0 : ∀ (S5 : Nat → Int32) (V6 : Nat → Nat → Int32) (u : Nat → Int32) (x : Int32), FC S5 V6 (va_up S5 1206 x) (va_up V6 19 u) := fun S5 V6 u x => ⟨(fun k hk => by simp only [va_up]; (repeat rw [if_neg (by omega)])), fun q hq => va_up_ne _ _ (by omega)⟩
    rcases res with ⟨i2, cs2, S2, V2, S3, V3, L3, r1, r2, r3, r4, r5, r6, r7, r8, r9, r10, r11, r12, r13, r14, r15, r16, r17⟩ | ⟨fl, S2, V2, S3, V3, L3, r1, r2, r3, r4, r5⟩ | ⟨i2, S2, V2, S3, V3, L3, r1, r2, r3, r4, r5, r6, r7, r8, r9⟩
    · have e6 : S2 1206 = nI (h 6) := (r15.1 1206 (by decide) (by decide) (by decide)).trans c6
      rw [r2, bd3_s] at hl0
      have fcs : ∀ k, k < 1213 → S2 k = S k := fun k hk => r15.1 k (by omega) (by omega) (by omega)
      have frs : ∀ k, 23 < k ∧ k < 31 ∨ k = 32 → S3 k = S' k := fun k hk => (r16.1 k (by omega)).trans (by simp only [va_up]; (repeat rw [if_neg (by omega)]))
      have v3v : ∀ q, q < 9 → V3 q = V' q := fun q hq => (r16.2.1 q (by omega)).trans (va_up_ne _ _ (by omega))
      have v39 : V3 9 = upd (V' 9) (h 6) (nI tp) := r16.2.1 9 (by decide)
      have s331 : S3 31 = nI (h 6 + 1) := r16.1 31 (by decide)
      refine ⟨_, _, S3, V3, L3, hl0, FC_t (FX_FC r15) (fc0 _ _ _ _), FR_t fr0 (FY_FR r16), Or.inl ⟨rr _ _ _ r1 e6, r17, i2, va_up h 6 (h 6 + 1), t, fun r => if r = h 6 then cs2 else ru r, fun r => if r = h 6 + 1 then st (h 6) + cs2.length else st r, tp + (cs2.flatMap trT).length + 1, by omega, ?_, ⟨r4, r5, r6, r7⟩, ?_, ?_⟩⟩
      · obtain ⟨z1, z2, z3, z4⟩ := hc
        refine ⟨z1, z2, ?_, fun j hj => ?_⟩
        · show TKS tx n M (V2 22) (V2 23) (V2 24)
          rw [r15.2.1 22 (by decide) (by decide), r15.2.1 23 (by decide) (by decide), r15.2.1 24 (by decide) (by decide)]
          exact z3
        · rw [v3v 5 (by decide)]
          exact z4 j hj
      · obtain ⟨m, m1, m2, m3, m4, m5⟩ := hto
        refine ⟨m, m1, ?_, ?_, ?_, ?_⟩
        · exact (fcs 1103 (by decide)).trans m2
        · exact (fcs 1104 (by decide)).trans m3
        · exact (fcs 1105 (by decide)).trans m4
        · exact (frs 32 (by decide)).trans m5
      · refine ⟨?_, q2, ?_, ?_, ?_, ?_, ?_, ?_, ?_⟩
        · obtain ⟨p0, p1, p2, p3, p4, p5, p6⟩ := q1
          exact ⟨p0, p1, p2, p3, p4, p5, (by show h 6 + 1 ≤ 4; omega)⟩
        · intro r hr'
          have hr2 : r < h 6 + 1 := hr'
          show htL (if r = h 6 then cs2 else ru r) 0 = some 1
          by_cases e : r = h 6
          · rw [if_pos e]; exact r12
          · rw [if_neg e]; exact q3 r (by omega)
        · obtain ⟨p0, p1, p2, p3, p4, p5, p6⟩ := q4
          exact ⟨(fcs 1200 (by decide)).trans p0, (fcs 1201 (by decide)).trans p1, (fcs 1202 (by decide)).trans p2, (fcs 1203 (by decide)).trans p3, (fcs 1204 (by decide)).trans p4, (fcs 1205 (by decide)).trans p5, rfl⟩
        · have v13 : V2 13 = V 13 := r15.2.1 13 (by decide) (by decide)
          have v14 : V2 14 = V 14 := r15.2.1 14 (by decide) (by decide)
          have v15 : V2 15 = V 15 := r15.2.1 15 (by decide) (by decide)
          have v16 : V2 16 = V 16 := r15.2.1 16 (by decide) (by decide)
          have v17 : V2 17 = V 17 := r15.2.1 17 (by decide) (by decide)
          show CHt h t (V2 13) (V2 14) (V2 15) (V2 16) (V2 17)
          rw [v13, v14, v15, v16, v17]
          exact q5
        · obtain ⟨p0, p1, p2, p3, p4, p5, p6⟩ := q6
          exact ⟨(frs 25 (by decide)).trans p0, (frs 26 (by decide)).trans p1, (frs 27 (by decide)).trans p2, (frs 28 (by decide)).trans p3, (frs 29 (by decide)).trans p4, (frs 30 (by decide)).trans p5, s331⟩
        · show RHt h t (V3 7) (V3 8)
          rw [v3v 7 (by decide), v3v 8 (by decide)]
          exact q7
        · have mono := st_mono (N := h 6) (st := st) (ru := ru) (fun r hr => (st3 r hr).1.2)
          have v19 : V2 19 = V 19 := r15.2.1 19 (by decide) (by decide)
          refine ⟨?_, ?_, ?_, fun r hr' => ?_⟩
          · show (if 0 = h 6 + 1 then _ else st 0) = 0
            rw [if_neg (by omega)]; exact st0
          · show S2 1213 = nI (if h 6 + 1 = h 6 + 1 then st (h 6) + cs2.length else _)
            rw [if_pos rfl]; exact r9.1
          · show (if h 6 + 1 = h 6 + 1 then st (h 6) + cs2.length else _) ≤ i2
            rw [if_pos rfl]; omega
          · have hr2 : r < h 6 + 1 := hr'
            show (upd (V2 19) (h 6) (S2 1213) r = nI (if r + 1 = h 6 + 1 then st (h 6) + cs2.length else st (r + 1)) ∧ (if r + 1 = h 6 + 1 then st (h 6) + cs2.length else st (r + 1)) = (if r = h 6 + 1 then st (h 6) + cs2.length else st r) + (if r = h 6 then cs2 else ru r).length) ∧ ∀ j p, (if r = h 6 then cs2 else ru r)[j]? = some p → V2 18 ((if r = h 6 + 1 then st (h 6) + cs2.length else st r) + j) = nI p
            by_cases e : r = h 6
            · subst e
              rw [if_pos rfl, if_neg (show ¬ h 6 = h 6 + 1 by omega), if_pos rfl, upd_same]
              exact ⟨⟨r9.1, rfl⟩, r9.2⟩
            · obtain ⟨⟨x1, x2⟩, x3⟩ := st3 r (by omega)
              have mr := mono (h 6 - (r + 1)) (r + 1) (by omega)
              rw [if_neg (by omega), if_neg (by omega), if_neg e, upd_ne _ _ e, v19]
              refine ⟨⟨x1, x2⟩, fun j p hp => ?_⟩
              have hj := (List.getElem?_eq_some_iff.mp hp).1
              rw [r15.2.2 (st r + j) (by omega)]
              exact x3 j p hp
        · refine ⟨r10, r14, fun r hr' => ?_⟩
          have hr2 : r < h 6 + 1 := hr'
          show ∃ a : Nat, V3 9 r = nI a ∧ a + ((if r = h 6 then cs2 else ru r).flatMap trT).length + 1 ≤ tp + (cs2.flatMap trT).length + 1 ∧ ∀ j p, ((if r = h 6 then cs2 else ru r).flatMap trT ++ [0])[j]? = some p → V3 10 (a + j) = nI p
          rw [v39]
          by_cases e : r = h 6
          · subst e
            rw [if_pos rfl, upd_same]
            exact ⟨tp, rfl, Nat.le_refl _, r11⟩
          · obtain ⟨a2, x1, x2, x3⟩ := tp3 r (by omega)
            rw [if_neg e, upd_ne _ _ e]
            refine ⟨a2, x1, by omega, fun j p hp => ?_⟩
            have hj := (List.getElem?_eq_some_iff.mp hp).1
            rw [List.length_append] at hj
            have hj' : j < ((ru r).flatMap trT).length + 1 := hj
            rw [r16.2.2 (a2 + j) (by omega)]
            exact x3 j p hp
    · obtain ⟨r5, e6⟩ := r5
      rw [r2, bd3_s] at hl0
      exact ⟨_, _, S3, V3, L3, hl0, FC_t r4 (fc0 _ _ _ _), FR_t fr0 r5, Or.inr (Or.inl ⟨fl, rr _ _ _ r1 (e6.trans c6), r3.1, r3.2.1, r3.2.2.1, r3.2.2.2⟩)⟩
    · obtain ⟨r9, e6⟩ := r9
      rw [r2, bd3_s] at hl0
      exact ⟨_, _, S3, V3, L3, hl0, FC_t r8 (fc0 _ _ _ _), FR_t fr0 r9, Or.inr (Or.inr ⟨rr _ _ _ r1 (e6.trans c6), r3, i2, r4, r5, r6, r7⟩)⟩
  · have e4 : h 6 = 4 := by omega
    have hn : ¬ (wrS S' 2 (tS tx n i)) 14 = 0 := wr_n (S' := S') (q := tS tx n i) (by decide) (by decide)
    unfold fX3_readRule_11
    rw [c6, e4, if_neg (show ¬ nI 4 < 4 by decide), bd3_s]
    refine ⟨S, V, wrS S' 2 (tS tx n i), V', L', ?_, ⟨fun _ _ => rfl, fun _ _ => rfl⟩, FR_w, Or.inr (Or.inl ⟨2, rfl, by decide, by decide, rfl, i, hi1, h05, rfl⟩)⟩
    unfold fX12_line_0
    rw [kw, bd1_s]
    simp only [bk_e, n1, n2, n3, n4, n5, ite_true, ite_false, lt_e]
    rw [d6, e4, if_pos (show nI 4 = 4 from rfl), wrong2 h14 hr.2.2.2.2.1, bd1_s, good_0 hn, bd1_s, if_pos rfl, K5_b hn]
end RL
