/-! ===== offer ===== -/
theorem hourBits_eq {f g : Nat} (h1 : f ≤ g) (h2 : g < 24) : fX11_hourBits (nI f) (nI g) = some (nI (2 ^ (g + 1) - 2 ^ f)) := by
  unfold fX11_hourBits
  rw [nI_1, bit_lt (n := g + 1) (by omega), bit_lt (n := f) (by omega), nI_sub (Nat.pow_le_pow_right (by decide) (by omega))]
/-- a row with one more at its end -/
def snoc (of : Nat → Nat → Nat) (n : Nat) (v : Nat → Nat) : Nat → Nat → Nat := fun i => if i = n then v else of i
theorem snoc_n (of : Nat → Nat → Nat) (n : Nat) (v : Nat → Nat) : snoc of n v n = v := if_pos rfl
theorem snoc_lt (of : Nat → Nat → Nat) {n i : Nat} (v : Nat → Nat) (h : i < n) : snoc of n v i = of i := if_neg (Nat.ne_of_lt h)
theorem wi_t {k a b : Nat} (h1 : a ≤ k) (h2 : k ≤ b) (hb : b < 2 ^ 31) : fX12_within (nI k) (nI a) (nI b) = some 1 := by
  rw [within_eq, if_neg (by
    rintro (h | h)
    · exact nI_nlt (a := k) (b := a) h1 (by omega) h
    · exact nI_nlt (a := b) (b := k) h2 hb h)]
def ref2 (V : Nat → Nat → Int32) (q : Nat) : Nat → Nat → Int32 := va_up V q (upd (V q) 2 (V q 2 + 1))
theorem sm_offer : St_offer Rel := fun S V S' V' L' a1 a2 a3 h => by
  obtain ⟨h1, h2, ⟨r0, r1, r2⟩, hHs, ⟨n, of, hM, hC, hR⟩, h6, h7⟩ := id h
  have hn := hM.1
  have bad : ∀ x : Int32 × (Nat → Int32) × (Nat → Nat → Int32), ∀ y : Int32 × (Nat → Int32) × (Nat → Nat → Int32), x = (-1, S, ref2 V 2) → y = (-1, va_up S' 0 0, ref2 V' 6) → fX11_offer_0 S V a1 a2 a3 = some x → fX12_offer_0 S' V' a1 a2 a3 = some y → ∃ (r : Int32) (S2 : Nat → Int32) (V2 : Nat → Nat → Int32) (S3 : Nat → Int32) (V3 : Nat → Nat → Int32), fX11_offer_0 S V a1 a2 a3 = some (r, S2, V2) ∧ fX12_offer_0 S' V' a1 a2 a3 = some (r, S3, V3) ∧ Rel S2 V2 S3 V3 L' := by
    intro x y hx hy e1 e2
    refine ⟨-1, S, ref2 V 2, va_up S' 0 0, ref2 V' 6, by rw [e1, hx], by rw [e2, hy], h1, h2, ⟨r0, r1, ?_⟩, hHs, ⟨n, of, hM, hC, hR⟩, h6, h7⟩
    show V 2 2 + 1 = V' 6 2 + 1
    rw [r2]
  have kC : ∀ (S : Nat → Int32) (V : Nat → Nat → Int32), gd (ib (2 : Int32) 3) (lt (V 2 ((2 : Int32)).toNatClampNeg + (1 : Int32)) (fun x5 => gd (ib (2 : Int32) 3) (lt (va_up V 2 (upd (V 2) ((2 : Int32)).toNatClampNeg x5)) (fun V7 => some ((-1 : Int32), S, V7))))) = some (-1, S, ref2 V 2) := fun _ _ => rfl
  have kR : ∀ (S : Nat → Int32) (V : Nat → Nat → Int32), gd (ib (2 : Int32) 3) (lt (V 6 ((2 : Int32)).toNatClampNeg + (1 : Int32)) (fun x5 => gd (ib (2 : Int32) 3) (lt (va_up V 6 (upd (V 6) ((2 : Int32)).toNatClampNeg x5)) (fun V7 => some ((-1 : Int32), S, V7))))) = some (-1, S, ref2 V 6) := fun _ _ => rfl
  by_cases hn8 : n = 8
  · refine bad _ _ rfl rfl ?_ ?_
    · unfold fX11_offer_0
      simp only [bk_e]
      rw [if_pos (by rw [hC.1, hn8]; decide)]
      exact kC S V
    · unfold fX12_offer_0
      simp only [lt_e, bk_e]
      rw [if_pos (by show S' 53 = 8; rw [hR.1, hn8]; rfl)]
      exact kR _ V'
  · have c0 : ¬ (8 : Int32) ≤ S 4200 := by rw [hC.1]; exact nI_ge (a := n) (b := 8) (by omega) (by decide)
    have d0 : ¬ S' 53 = 8 := by rw [hR.1]; exact fun e => hn8 ((nI_eq (a := n) (b := 8) (by omega) (by decide)).mp e)
    rcases rng (a := a1) (N := 23) (by decide) with x1 | ⟨f, hf, rfl⟩
    · refine bad _ _ rfl rfl ?_ ?_
      · unfold fX11_offer_0
        simp only [bk_e]
        rw [if_neg c0]
        by_cases y1 : a1 < 0
        · rw [if_pos y1]
          exact kC S V
        · rcases x1 with x1 | x1
          · exact absurd x1 y1
          · rw [if_neg y1]
            by_cases y2 : a2 < a1
            · rw [if_pos y2]
              exact kC S V
            · rw [if_neg y2, if_pos (show (23 : Int32) < a2 from i_lt.mpr (by
                have q1 := i_lt.mp x1
                have q2 := mt i_lt.mpr y2
                rw [nI_toInt (n := 23) (by decide)] at q1
                rw [show (23 : Int32).toInt = 23 from by decide]
                omega))]
              exact kC S V
      · unfold fX12_offer_0
        simp only [lt_e, bk_e]
        rw [if_neg (show ¬ va_up S' 0 0 53 = 8 from d0), within_eq, if_pos (show a1 < 0 ∨ 23 < a1 from x1)]
        exact kR _ V'
    · have p1 : ¬ nI f < 0 := nI_pos (by omega)
      have w1 : fX12_within (nI f) 0 23 = some 1 := wi_t (k := f) (a := 0) (b := 23) (by omega) (by omega) (by decide)
      have h23 : a2 < nI f ∨ nI 23 < a2 ∨ ∃ g : Nat, f ≤ g ∧ g ≤ 23 ∧ a2 = nI g := by
        by_cases y : a2 < nI f
        · exact Or.inl y
        · by_cases z : nI 23 < a2
          · exact Or.inr (Or.inl z)
          · refine Or.inr (Or.inr ⟨a2.toInt.toNat, ?_, ?_, i_eq ?_⟩)
            · have q := mt i_lt.mpr y
              rw [nI_toInt (n := f) (by omega)] at q
              omega
            · have q := mt i_lt.mpr z
              rw [nI_toInt (n := 23) (by decide)] at q
              omega
            · have q := mt i_lt.mpr y
              have q2 := mt i_lt.mpr z
              rw [nI_toInt (n := f) (by omega)] at q
              rw [nI_toInt (n := 23) (by decide)] at q2
              rw [nI_toInt (n := a2.toInt.toNat) (by omega)]
              omega
      have bad2 : (a2 < nI f ∨ nI 23 < a2) → ∃ (r : Int32) (S2 : Nat → Int32) (V2 : Nat → Nat → Int32) (S3 : Nat → Int32) (V3 : Nat → Nat → Int32), fX11_offer_0 S V (nI f) a2 a3 = some (r, S2, V2) ∧ fX12_offer_0 S' V' (nI f) a2 a3 = some (r, S3, V3) ∧ Rel S2 V2 S3 V3 L' := by
        intro x2
        refine bad _ _ rfl rfl ?_ ?_
        · unfold fX11_offer_0
          simp only [bk_e]
          rw [if_neg c0, if_neg p1]
          by_cases y : a2 < nI f
          · rw [if_pos y]
            exact kC S V
          · rw [if_neg y, if_pos (show 23 < a2 from x2.resolve_left y)]
            exact kC S V
        · unfold fX12_offer_0
          simp only [lt_e, bk_e]
          rw [if_neg (show ¬ va_up S' 0 0 53 = 8 from d0), w1]
          show bd1 (fX12_within a2 (nI f) 23) _ = _
          rw [within_eq, if_pos (show a2 < nI f ∨ 23 < a2 from x2)]
          exact kR _ V'
      rcases h23 with x2 | x2 | ⟨g, g1, g2, rfl⟩
      · exact bad2 (Or.inl x2)
      · exact bad2 (Or.inr x2)
      · have p2 : ¬ nI g < nI f := nI_nlt (a := g) (b := f) g1 (by omega)
        have p3 : ¬ (23 : Int32) < nI g := nI_nlt (a := 23) (b := g) g2 (by decide)
        have w2 : fX12_within (nI g) (nI f) 23 = some 1 := wi_t (k := g) (a := f) (b := 23) g1 g2 (by decide)
        rcases rng (a := a3) (N := 99) (by decide) with x3 | ⟨c, hc, rfl⟩
        · refine bad _ _ rfl rfl ?_ ?_
          · unfold fX11_offer_0
            simp only [bk_e]
            rw [if_neg c0, if_neg p1, if_neg p2, if_neg p3]
            by_cases y : a3 < 0
            · rw [if_pos y]
              exact kC S V
            · rw [if_neg y, if_neg (show ¬ a3 ≤ 99 from fun z => by
                have q1 := i_lt.mp (x3.resolve_left y)
                have q2 := i_le.mp z
                rw [nI_toInt (n := 99) (by decide)] at q1
                rw [show (99 : Int32).toInt = 99 from by decide] at q2
                omega)]
              exact kC S V
          · unfold fX12_offer_0
            simp only [lt_e, bk_e]
            rw [if_neg (show ¬ va_up S' 0 0 53 = 8 from d0), w1]
            show bd1 (fX12_within (nI g) (nI f) 23) _ = _
            rw [w2]
            show bd1 (fX12_within a3 0 99) _ = _
            rw [within_eq, if_pos (show a3 < 0 ∨ 99 < a3 from x3)]
            exact kR _ V'
        · have p4 : ¬ nI c < 0 := nI_pos (by omega)
          have p5 : nI c ≤ 99 := nI_le (a := c) (b := 99) hc (by decide)
          have w3 : fX12_within (nI c) 0 99 = some 1 := wi_t (k := c) (a := 0) (b := 99) (by omega) hc (by decide)
          have m3 : (3 : Int32) * nI n = nI (3 * n) := by rw [show (3 : Int32) = nI 3 from rfl, nI_mul]
          refine ⟨nI (n + 1), va_up S 4200 (nI (n + 1)), va_up (va_up V 43 (upd (V 43) n (nI (2 ^ (g + 1) - 2 ^ f)))) 44 (upd (V 44) n (nI c)), va_up (va_up S' 0 0) 53 (nI (n + 1)), va_up (va_up (va_up V' 21 (upd (V' 21) (3 * n) (nI f))) 21 (upd (upd (V' 21) (3 * n) (nI f)) (3 * n + 1) (nI g))) 21 (upd (upd (upd (V' 21) (3 * n) (nI f)) (3 * n + 1) (nI g)) (3 * n + 2) (nI c)), ?_, ?_, h1, h2, ⟨r0, r1, r2⟩, hHs, ⟨n + 1, snoc of n (fun k => if k = 0 then f else if k = 1 then g else c), ⟨by omega, fun i hi => ?_⟩, ⟨rfl, fun i hi => ?_⟩, ⟨rfl, fun i hi => ?_⟩⟩, h6, h7⟩
          · unfold fX11_offer_0
            simp only [bk_e]
            rw [if_neg c0, if_neg p1, if_neg p2, if_neg p3, if_neg p4, if_pos p5]
            unfold fX5_add_42
            rw [if_neg c0, hourBits_eq g1 (by omega)]
            simp only [lt_e, bd1_s]
            rw [hC.1]
            rw [gd_n n 8 (by omega) (by decide), gd_n n 8 (by omega) (by decide), nI_cl n (by omega), nI_1]
            rfl
          · unfold fX12_offer_0
            simp only [lt_e, bk_e]
            rw [if_neg (show ¬ va_up S' 0 0 53 = 8 from d0), w1]
            show bd1 (fX12_within (nI g) (nI f) 23) _ = _
            rw [w2]
            show bd1 (fX12_within (nI c) 0 99) _ = _
            rw [w3]
            show gd (ib (3 * S' 53) 24) _ = _
            rw [show va_up S' 0 0 53 = nI n from hR.1, hR.1, m3, show nI (3 * n) + 1 = nI (3 * n + 1) from nI_1 _, show nI (3 * n) + 2 = nI (3 * n + 2) from nI_add (3 * n) 2, gd_n (3 * n) 24 (by omega) (by decide), gd_n (3 * n + 1) 24 (by omega) (by decide), gd_n (3 * n + 2) 24 (by omega) (by decide), nI_cl (3 * n) (by omega), nI_cl (3 * n + 1) (by omega), nI_cl (3 * n + 2) (by omega), nI_1]
            rfl
          · by_cases e : i = n
            · subst e
              rw [snoc_n]
              exact ⟨g1, by show g < 24; omega, hc⟩
            · rw [snoc_lt _ _ (by omega)]
              exact hM.2 i (by omega)
          · by_cases e : i = n
            · subst e
              rw [snoc_n]
              exact ⟨upd_same _ _ _, upd_same _ _ _⟩
            · rw [snoc_lt _ _ (by omega)]
              refine ⟨(upd_ne _ _ e).trans (hC.2 i (by omega)).1, (upd_ne _ _ e).trans (hC.2 i (by omega)).2⟩
          · show upd (upd (upd (V' 21) (3 * n) (nI f)) (3 * n + 1) (nI g)) (3 * n + 2) (nI c) (3 * i) = _ ∧ upd (upd (upd (V' 21) (3 * n) (nI f)) (3 * n + 1) (nI g)) (3 * n + 2) (nI c) (3 * i + 1) = _ ∧ upd (upd (upd (V' 21) (3 * n) (nI f)) (3 * n + 1) (nI g)) (3 * n + 2) (nI c) (3 * i + 2) = _
            by_cases e : i = n
            · subst e
              rw [snoc_n]
              refine ⟨?_, ?_, upd_same _ _ _⟩
              · rw [upd_ne _ _ (by omega), upd_ne _ _ (by omega), upd_same]
                rfl
              · rw [upd_ne _ _ (by omega), upd_same]
                rfl
            · rw [snoc_lt _ _ (by omega)]
              obtain ⟨q0, q1, q2⟩ := hR.2 i (by omega)
              refine ⟨?_, ?_, ?_⟩
              · rw [upd_ne _ _ (by omega), upd_ne _ _ (by omega), upd_ne _ _ (by omega), q0]
              · rw [upd_ne _ _ (by omega), upd_ne _ _ (by omega), upd_ne _ _ (by omega), q1]
              · rw [upd_ne _ _ (by omega), upd_ne _ _ (by omega), upd_ne _ _ (by omega), q2]
