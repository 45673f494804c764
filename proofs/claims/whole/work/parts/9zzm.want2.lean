/-! ===== a rule: parts, side by side ===== -/
section WQ
variable {tx : Nat → Nat} {n M s0 a0 : Nat} {S0 : Nat → Int32} {V0 : Nat → Nat → Int32} {R0 : Nat → Int32} {W0 : Nat → Nat → Int32} {i d : Nat} {stk cs : List Nat} {w : Nat} {S : Nat → Int32} {V : Nat → Nat → Int32} {S' : Nat → Int32} {V' : Nat → Nat → Int32} {L' : Nat → Int64}
theorem rpAll (hc : CX tx n M V V') (hi : i ≤ M) (h05 : S 2005 = nI i) (h4 : S 2504 = nI d) (hd : d ≤ 5) : fX9_readPart_25 S V = (if kdA tx n (tS tx n i) = 1 then bd3 (fX9_readConstant_25 S V) (fun r S2 V2 => some (r, S2, V2)) else if 100 ≤ kdA tx n (tS tx n i) then (if S 2506 = 0 then bd3 (fX9_readValue_25 S V) (fun r S2 V2 => some (r, S2, V2)) else if kdA tx n (tS tx n i) = 112 then bd3 (fX9_readNot_25 S V) (fun r S2 V2 => some (r, S2, V2)) else bd3 (fX9_readValue_25 S V) (fun r S2 V2 => some (r, S2, V2))) else if kdA tx n (tS tx n i) = 40 then bd2 (fX9_push_25 S V 0) (fun S16 V17 => bd1 (fX9_wantPart_25 (va_up S16 2504 (S16 2504 + 1)) 1) (fun S21 => bd1 (fX10_advance_20 S21 V17) (fun S23 => some (0, S23, V17)))) else some (1, S, V)) := by
  have kb := kdA_b hc.2.1 (tS tx n i)
  have kc := kindC hc hi h05
  have wc := wordC hc hi h05
  have h6 : (nI d < 6) = True := eq_true (nI_lt (a := d) (b := 6) (by omega) (by decide))
  unfold fX9_readPart_25
  by_cases k1 : kdA tx n (tS tx n i) = 1
  · have q1 : (nI (kdA tx n (tS tx n i)) = 1) = True := eq_true (by rw [k1]; rfl)
    rw [if_pos k1]
    simp only [bk_e, lt_e, kc, bd1_s, q1, h4, h6, e10, ite_true, ite_false]
  · have q1 : (nI (kdA tx n (tS tx n i)) = 1) = False := eq_false (fun z => k1 ((kd_is kb (c := 1) (by decide)).mp z))
    rw [if_neg k1]
    by_cases k2 : 100 ≤ kdA tx n (tS tx n i)
    · have q2 : (bI (decide (100 ≤ kdA tx n (tS tx n i))) = 0) = False := eq_false (by rw [decide_eq_true k2]; decide)
      rw [if_pos k2]
      by_cases k3 : kdA tx n (tS tx n i) = 112
      · have q3 : (nI (kdA tx n (tS tx n i)) = 112) = True := eq_true (by rw [k3]; rfl)
        rw [if_pos k3]
        simp only [bk_e, lt_e, kc, wc, bd1_s, q1, q2, q3, h4, h6, e10, ite_true, ite_false]
      · have q3 : (nI (kdA tx n (tS tx n i)) = 112) = False := eq_false (fun z => k3 ((kd_is kb (c := 112) (by decide)).mp z))
        rw [if_neg k3]
        simp only [bk_e, lt_e, kc, wc, bd1_s, q1, q2, q3, h4, h6, e10, ite_true, ite_false]
    · have q2 : (bI (decide (100 ≤ kdA tx n (tS tx n i))) = 0) = True := eq_true (by rw [decide_eq_false k2]; rfl)
      rw [if_neg k2]
      by_cases k3 : kdA tx n (tS tx n i) = 40
      · have q3 : (nI (kdA tx n (tS tx n i)) = 40) = True := eq_true (by rw [k3]; rfl)
        rw [if_pos k3]
        simp only [bk_e, lt_e, kc, wc, bd1_s, q1, q2, q3, h4, h6, e10, ite_true, ite_false]
      · have q3 : (nI (kdA tx n (tS tx n i)) = 40) = False := eq_false (fun z => k3 ((kd_is kb (c := 40) (by decide)).mp z))
        rw [if_neg k3]
        simp only [bk_e, lt_e, kc, wc, bd1_s, q1, q2, q3, h4, h6, e10, ite_true, ite_false]
theorem lt_M (hc : CX tx n M V V') (hi : i ≤ M) (hk : kdA tx n (tS tx n i) ≠ 0) : i < M := by
  rcases Nat.lt_or_ge i M with z | z
  · exact z
  · exact absurd ((kd_M hc hi).mpr (by omega)) hk
/-- one operand more in both codes -/
theorem XR_opd (hx : XR tx n M s0 a0 S0 V0 R0 W0 i d stk cs 0 S V S' V' L') (hi : i < M) {p x y : Nat} (hp : p < 10006) (htr : trT p = [x, y]) {a b c dd e f : Int32} {yy : Int64} (hr : RN tx n (gS (va_up S' 33 (nI (a0 + (cs.flatMap trT).length + 1 + 1))) a b c dd e f) (va_up L' 24 yy) (tS tx n (i + 1))) : XR tx n M s0 a0 S0 V0 R0 W0 (i + 1) d stk (cs ++ [p]) 1 (va_up (va_up (va_up S 1213 (nI (s0 + cs.length + 1))) 2505 0) 2005 (nI (i + 1))) (va_up V 18 (upd (V 18) (s0 + cs.length) (nI p))) (gS (va_up S' 33 (nI (a0 + (cs.flatMap trT).length + 1 + 1))) a b c dd e f) (va_up V' 10 (upd (upd (V' 10) (a0 + (cs.flatMap trT).length) (nI x)) (a0 + (cs.flatMap trT).length + 1) (nI y))) (va_up L' 24 yy) := by
  obtain ⟨hc, ha, hC, hR, hd, hk, c1, r1, ⟨b1, b2⟩, ht, fx, fy⟩ := hx
  have skb := SK_b d stk hk
  have e2 : (cs ++ [p]).flatMap trT = (cs.flatMap trT ++ [x]) ++ [y] := by
    rw [List.flatMap_append, List.flatMap_cons, htr]
    simp
  refine ⟨hc, ⟨hi, rfl, hr, ha.2.2.2⟩, hC, hR, hd, hk, CCD_snoc c1, RCD_snoc2 htr r1, ⟨?_, ?_⟩, htL_snoc ht ?_, FX_t fx ⟨fun k k1 k2 k3 => ?_, fun q q1 q2 => va_up_ne _ _ q1, fun j hj => ?_⟩, FY_t fy.1 ⟨fun k hk => ?_, fun q hq => va_up_ne _ _ (by omega), fun j hj => ?_⟩, fy.2⟩
  · rw [List.length_append]; show s0 + (cs.length + 1) + stk.length + 1 ≤ i + 1; omega
  · rw [e2, List.length_append, List.length_append]; show a0 + ((cs.flatMap trT).length + 1 + 1) + stk.length + 1 ≤ 2 * (i + 1); omega
  · have hdd := hd.2.2
    unfold htT
    rw [if_pos hp, if_pos (by omega), if_pos (by omega)]
  · simp only [va_up]; (repeat rw [if_neg (by omega)])
  · exact upd_ne _ _ (by omega)
  · simp only [va_up]; (repeat rw [if_neg (by omega)])
  · show upd (upd (V' 10) (a0 + (cs.flatMap trT).length) (nI x)) (a0 + (cs.flatMap trT).length + 1) (nI y) j = V' 10 j
    rw [upd_ne _ _ (by omega), upd_ne _ _ (by omega)]
/-- a fault behind two cells that were put -/
theorem BDX_puts (hx : XR tx n M s0 a0 S0 V0 R0 W0 i d stk cs w S V S' V' L') {fl : Nat} (h1 : 1 ≤ fl) (h2 : fl ≤ 5) (x y : Int32) : BDX tx n M s0 a0 S0 V0 R0 W0 fl S V (va_up (va_up (wrS S' fl (tS tx n i)) 33 (nI (a0 + (cs.flatMap trT).length + 1))) 33 (nI (a0 + (cs.flatMap trT).length + 1 + 1))) (va_up V' 10 (upd (upd (V' 10) (a0 + (cs.flatMap trT).length) x) (a0 + (cs.flatMap trT).length + 1) y)) := by
  obtain ⟨hc, ha, hC, hR, hd, hk, c1, r1, ⟨b1, b2⟩, ht, fx, fy⟩ := hx
  have hM := M600 hc
  have hiM := ha.1
  have skb := SK_b d stk hk
  have hdd := hd.2.2
  refine ⟨h1, h2, rfl, ⟨i, ha.1, ha.2.1, rfl⟩, fx, FY_t fy.1 ⟨fun k hk => ?_, fun q hq => va_up_ne _ _ (by omega), fun j hj => ?_⟩, a0 + (cs.flatMap trT).length + 1 + 1, stk.length, rfl, hR.1, by omega, by omega⟩
  · simp only [va_up]; (repeat rw [if_neg (by omega)])
  · show upd (upd (V' 10) (a0 + (cs.flatMap trT).length) x) (a0 + (cs.flatMap trT).length + 1) y j = V' 10 j
    rw [upd_ne _ _ (by omega), upd_ne _ _ (by omega)]
theorem puts2 {x y : Int32} {tp : Nat} (h33 : S' 33 = nI tp) (hb : tp + 2 < 1600) : fX12_puts_0 S' V' x = some (va_up S' 33 (nI (tp + 1)), va_up V' 10 (upd (V' 10) tp x)) ∧ fX12_puts_0 (va_up S' 33 (nI (tp + 1))) (va_up V' 10 (upd (V' 10) tp x)) y = some (va_up (va_up S' 33 (nI (tp + 1))) 33 (nI (tp + 1 + 1)), va_up V' 10 (upd (upd (V' 10) tp x) (tp + 1) y)) := by
  refine ⟨putsR h33 (by omega), ?_⟩
  rw [putsR (S := va_up S' 33 (nI (tp + 1))) (s := tp + 1) rfl (by omega), va_up_up V' 10, va_up_self]
/-- an operand, or what can't be one -/
theorem partX (hx : XR tx n M s0 a0 S0 V0 R0 W0 i d stk cs 0 S V S' V' L') (h40 : kdA tx n (tS tx n i) ≠ 40) (hnot : ¬ (S 2506 ≠ 0 ∧ kdA tx n (tS tx n i) = 112)) : (∃ cs2 S2 V2 S3 V3 L3, fX9_readPart_25 S V = some (0, S2, V2) ∧ ePt S' V' L' = some (S3, V3, L3) ∧ XR tx n M s0 a0 S0 V0 R0 W0 (i + 1) d stk cs2 1 S2 V2 S3 V3 L3 ∧ S2 2505 = 0) ∨ (∃ fl S3 V3, fX9_readPart_25 S V = some (nI fl, S, V) ∧ ePt S' V' L' = some (S3, V3, L') ∧ BDX tx n M s0 a0 S0 V0 R0 W0 fl S V S3 V3) := by
  obtain ⟨hc, ha, hC, hR, hd, hk, c1, r1, ⟨b1, b2⟩, ht, fx, fy⟩ := id hx
  obtain ⟨hi1, h05, hr, h14⟩ := id ha
  have kb := kdA_b hc.2.1 (tS tx n i)
  have hM := M600 hc
  have skb := SK_b d stk hk
  have w19a := s19 hc.2.1 hr 2 (by decide)
  have w19b := s19 hc.2.1 hr 1 (by decide)
  have hqn := hr.2.2.2.2.1
  rw [rpAll hc hi1 h05 hd.1 hd.2.2]
  unfold ePt fX12_part_0
  rw [good_1 h14, bd1_s, if_neg (show ¬ (1 : Int32) = 0 by decide)]
  simp only [bk_e]
  by_cases k1 : kdA tx n (tS tx n i) = 1
  · have hlt := lt_M hc hi1 (by omega)
    have hq := hc.2.2.1.2.2.1 i hlt
    have tb := tkE_b (tx := tx) hq
    have nx : nxA tx n (tS tx n i) = tkE tx n (tS tx n i) := if_pos hq
    have hn := hc.1
    have h21 : S' 21 = nI (tkE tx n (tS tx n i) - tS tx n i) := by rw [hr.2.2.2.2.2.1, nx]
    have h22 := hr.2.2.2.2.2.2.1 k1
    have dgq : isDg (tx (tS tx n i)) = true := by
      have ek : kdA tx n (tS tx n i) = (if isLt (tx (tS tx n i)) = true then kdW tx (tS tx n i) (tkE tx n (tS tx n i)) else if isDg (tx (tS tx n i)) = true then 1 else if isSg (tx (tS tx n i)) = true then tx (tS tx n i) else 2) := if_pos hq
      cases hd : isDg (tx (tS tx n i)) with
      | true => rfl
      | false =>
        rw [hd] at ek
        cases hl : isLt (tx (tS tx n i)) with
        | true =>
          rw [if_pos hl] at ek
          have := (kdW_b (tx := tx) (p := tS tx n i) (e := tkE tx n (tS tx n i))).1
          omega
        | false =>
          rw [if_neg (by rw [hl]; decide), if_neg (by decide)] at ek
          cases hg : isSg (tx (tS tx n i)) with
          | true =>
            rw [if_pos hg] at ek
            have := sg_lo (tx (tS tx n i)) (hc.2.1 _ hq) hg
            omega
          | false => rw [if_neg (by rw [hg]; decide)] at ek; omega
    rw [if_pos k1, if_pos (show S' 19 = 2 from w19a.mpr ((so_2 _ kb).mpr k1)), h21]
    unfold fX9_readConstant_25
    rw [numbC hc hi1 h05 k1, bd1_s, bd1_s]
    by_cases l4 : tkE tx n (tS tx n i) - tS tx n i ≤ 4
    · rw [show min (tkE tx n (tS tx n i) - tS tx n i) 4 = tkE tx n (tS tx n i) - tS tx n i by omega] at h22
      have hv : dgV tx (tS tx n i) (tkE tx n (tS tx n i) - tS tx n i) < 10000 := Nat.lt_of_lt_of_le (dgV_b _ _ (fun j hj => tk_dg hq dgq _ (by omega) (by omega))) ((by decide : ∀ k, k ≤ 4 → 10 ^ k ≤ 10000) _ l4)
      rw [show nmI tx n (tS tx n i) = nI (dgV tx (tS tx n i) (tkE tx n (tS tx n i) - tS tx n i)) from if_pos l4, if_pos (show nI (tkE tx n (tS tx n i) - tS tx n i) ≤ 4 from nI_le (a := tkE tx n (tS tx n i) - tS tx n i) (b := 4) l4 (by decide))]
      generalize dgV tx (tS tx n i) (tkE tx n (tS tx n i) - tS tx n i) = v at *
      obtain ⟨p1, p2⟩ := puts2 (V' := V') (x := 1) (y := nI v) r1.1 (by omega)
      obtain ⟨a, b, c, dd, e, f, y, g1, g2⟩ := stepR (V := V) (V' := va_up V' 10 (upd (upd (V' 10) (a0 + (cs.flatMap trT).length) 1) (a0 + (cs.flatMap trT).length + 1) (nI v))) (S' := va_up (va_up S' 33 (nI (a0 + (cs.flatMap trT).length + 1))) 33 (nI (a0 + (cs.flatMap trT).length + 1 + 1))) (L' := L') hc hlt hr
      rw [va_up_up] at g1 g2 p2
      rw [if_neg (nI_m1 (by omega)), addC c1.1 (by omega), bd2_s, p1, bd2_s, show (va_up S' 33 (nI (a0 + (cs.flatMap trT).length + 1))) 22 = nI v from h22, p2, bd2_s, good_1 (S' := va_up S' 33 (nI (a0 + (cs.flatMap trT).length + 1 + 1))) h14, bd1_s, if_neg (show ¬ (1 : Int32) = 0 by decide), g1, bd2_s, bd3_s]
      simp only [lt_e]
      rw [advC (S := va_up (va_up S 1213 (nI (s0 + cs.length + 1))) 2505 0) (V := va_up V 18 (upd (V 18) (s0 + cs.length) (nI v))) (V' := V') (tx := tx) (n := n) hc hlt h05, bd1_s, bd3_s]
      exact Or.inl ⟨cs ++ [v], _, _, _, _, _, rfl, rfl, XR_opd hx hlt (p := v) (x := 1) (y := v) (by omega) (trT_1 hv) g2, rfl⟩
    · obtain ⟨p1, p2⟩ := puts2 (S' := wrS S' 2 (tS tx n i)) (V' := V') (x := 1) (y := (wrS S' 2 (tS tx n i)) 22) r1.1 (by omega)
      rw [show nmI tx n (tS tx n i) = -1 from if_neg l4, if_pos rfl, bd3_s, if_neg (show ¬ nI (tkE tx n (tS tx n i) - tS tx n i) ≤ 4 from nI_ge (a := 4) (b := tkE tx n (tS tx n i) - tS tx n i) (by omega) (by omega)), wrong2 h14 hqn, bd1_s, p1, bd2_s, show (va_up (wrS S' 2 (tS tx n i)) 33 (nI (a0 + (cs.flatMap trT).length + 1))) 22 = (wrS S' 2 (tS tx n i)) 22 from rfl, p2, bd2_s, good_0 (show ¬ (va_up (va_up (wrS S' 2 (tS tx n i)) 33 (nI (a0 + (cs.flatMap trT).length + 1))) 33 (nI (a0 + (cs.flatMap trT).length + 1 + 1))) 14 = 0 from wr_n (S' := S') (q := tS tx n i) (f := 2) (by decide) (by decide)), bd1_s, if_pos rfl, bd3_s]
      exact Or.inr ⟨2, _, _, rfl, rfl, BDX_puts hx (by decide) (by decide) _ _⟩
  · rw [if_neg k1, if_neg (show ¬ S' 19 = 2 from fun z => k1 ((so_2 _ kb).mp (w19a.mp z)))]
    by_cases k2 : 100 ≤ kdA tx n (tS tx n i)
    · have hlt := lt_M hc hi1 (by omega)
      have hcl : (if S 2506 = 0 then bd3 (fX9_readValue_25 S V) (fun r S2 V2 => (some (r, S2, V2) : Option (Int32 × (Nat → Int32) × (Nat → Nat → Int32)))) else if kdA tx n (tS tx n i) = 112 then bd3 (fX9_readNot_25 S V) (fun r S2 V2 => some (r, S2, V2)) else bd3 (fX9_readValue_25 S V) (fun r S2 V2 => some (r, S2, V2))) = bd3 (fX9_readValue_25 S V) (fun r S2 V2 => some (r, S2, V2)) := by
        by_cases z1 : S 2506 = 0
        · rw [if_pos z1]
        · rw [if_neg z1, if_neg (fun z => hnot ⟨z1, z⟩)]
      rw [if_pos k2, hcl, if_pos (show S' 19 = 1 from w19b.mpr ((so_1 _ kb).mpr k2)), knR hc.2.1 hc.1 hr, bd1_s]
      unfold fX9_readValue_25
      rw [kindC hc hi1 h05, bd1_s, bd1_s, bd1_s]
      by_cases k3 : 113 ≤ kdA tx n (tS tx n i)
      · have km : kmI (kdA tx n (tS tx n i)) = nI (kdA tx n (tS tx n i) - 113) ∧ ¬ kmI (kdA tx n (tS tx n i)) < 0 ∧ kmI (kdA tx n (tS tx n i)) ≤ 5 := (by decide +kernel : ∀ k, k ≤ 118 → 113 ≤ k → (kmI k = nI (k - 113) ∧ ¬ kmI k < 0 ∧ kmI k ≤ 5)) _ kb k3
        obtain ⟨p1, p2⟩ := puts2 (V' := V') (x := 2) (y := nI (kdA tx n (tS tx n i) - 113)) r1.1 (by omega)
        obtain ⟨a, b, c, dd, e, f, y, g1, g2⟩ := stepR (V := V) (V' := va_up V' 10 (upd (upd (V' 10) (a0 + (cs.flatMap trT).length) 2) (a0 + (cs.flatMap trT).length + 1) (nI (kdA tx n (tS tx n i) - 113)))) (S' := va_up (va_up S' 33 (nI (a0 + (cs.flatMap trT).length + 1))) 33 (nI (a0 + (cs.flatMap trT).length + 1 + 1))) (L' := L') hc hlt hr
        rw [va_up_up] at g1 g2 p2
        rw [if_neg km.2.1, if_pos km.2.2, km.1, p1, bd2_s, p2, bd2_s, good_1 (S' := va_up S' 33 (nI (a0 + (cs.flatMap trT).length + 1 + 1))) h14, bd1_s, if_neg (show ¬ (1 : Int32) = 0 by decide), g1, bd2_s, bd3_s, if_neg (show ¬ nI (kdA tx n (tS tx n i)) < 113 from nI_nlt (a := kdA tx n (tS tx n i)) (b := 113) k3 (by omega)), if_pos (show nI (kdA tx n (tS tx n i)) ≤ 118 from nI_le (a := kdA tx n (tS tx n i)) (b := 118) kb (by decide)), show (10000 : Int32) = nI 10000 from rfl, show (113 : Int32) = nI 113 from rfl, nI_add, nI_sub (by omega), show 10000 + kdA tx n (tS tx n i) - 113 = 10000 + (kdA tx n (tS tx n i) - 113) by omega, addC c1.1 (by omega), bd2_s]
        simp only [lt_e]
        rw [advC (S := va_up (va_up S 1213 (nI (s0 + cs.length + 1))) 2505 0) (V := va_up V 18 (upd (V 18) (s0 + cs.length) (nI (10000 + (kdA tx n (tS tx n i) - 113))))) (V' := V') (tx := tx) (n := n) hc hlt h05, bd1_s, bd3_s]
        exact Or.inl ⟨cs ++ [10000 + (kdA tx n (tS tx n i) - 113)], _, _, _, _, _, rfl, rfl, XR_opd hx hlt (p := 10000 + (kdA tx n (tS tx n i) - 113)) (x := 2) (y := kdA tx n (tS tx n i) - 113) (by omega) (by rw [trT_2 (by omega) (by omega), show 10000 + (kdA tx n (tS tx n i) - 113) - 10000 = kdA tx n (tS tx n i) - 113 by omega]) g2, rfl⟩
      · have km : kmI (kdA tx n (tS tx n i)) < 0 ∨ ¬ kmI (kdA tx n (tS tx n i)) ≤ 5 := (by decide +kernel : ∀ k, k ≤ 118 → 100 ≤ k → ¬ 113 ≤ k → (kmI k < 0 ∨ ¬ kmI k ≤ 5)) _ kb k2 k3
        have rf : ∀ {β : Type} (A B : β), (if kmI (kdA tx n (tS tx n i)) < 0 then A else if kmI (kdA tx n (tS tx n i)) ≤ 5 then B else A) = A := fun A B => by
          by_cases z : kmI (kdA tx n (tS tx n i)) < 0
          · rw [if_pos z]
          · rw [if_neg z, if_neg (km.resolve_left z)]
        obtain ⟨p1, p2⟩ := puts2 (S' := wrS S' 3 (tS tx n i)) (V' := V') (x := 2) (y := kmI (kdA tx n (tS tx n i))) r1.1 (by omega)
        rw [rf, wrong3 h14 hqn, bd1_s, p1, bd2_s, p2, bd2_s, good_0 (show ¬ (va_up (va_up (wrS S' 3 (tS tx n i)) 33 (nI (a0 + (cs.flatMap trT).length + 1))) 33 (nI (a0 + (cs.flatMap trT).length + 1 + 1))) 14 = 0 from wr_n (S' := S') (q := tS tx n i) (f := 3) (by decide) (by decide)), bd1_s, if_pos rfl, bd3_s, if_pos (show nI (kdA tx n (tS tx n i)) < 113 from nI_lt (a := kdA tx n (tS tx n i)) (b := 113) (by omega) (by decide)), bd3_s]
        exact Or.inr ⟨3, _, _, rfl, rfl, BDX_puts hx (by decide) (by decide) _ _⟩
    · rw [if_neg k2, if_neg h40, if_neg (show ¬ S' 19 = 1 from fun z => k2 ((so_1 _ kb).mp (w19b.mp z))), wrong1 h14 hqn, bd1_s, good_0 (wr_n (by decide) (by decide)), bd1_s, if_pos rfl, bd3_s]
      exact Or.inr ⟨1, _, _, rfl, rfl, BDX_now hx (by decide) (by decide)⟩
end WQ
