/-! ===== reading side by side: a token, a number ===== -/
def CX (tx : Nat → Nat) (n M : Nat) (V V' : Nat → Nat → Int32) : Prop := n ≤ 600 ∧ (∀ i, i < n → tx i < 256) ∧ TKS tx n M (V 22) (V 23) (V 24) ∧ ∀ i, i < n → V' 5 i = nI (tx i)
def AT (tx : Nat → Nat) (n M i : Nat) (S S' : Nat → Int32) (L' : Nat → Int64) : Prop := i ≤ M ∧ S 2005 = nI i ∧ RN tx n S' L' (tS tx n i) ∧ S' 14 = 0
abbrev wrS (S : Nat → Int32) (f p : Nat) : Nat → Int32 := va_up (va_up S 14 (nI f)) 15 (nI p)
section NB
variable {tx : Nat → Nat} {n M i : Nat} {S S' : Nat → Int32} {V V' : Nat → Nat → Int32} {L' : Nat → Int64}
theorem CX_R (hc : CX tx n M V V') : TxR tx n (V' 5) := ⟨hc.1, fun i hi => ⟨hc.2.1 i hi, hc.2.2.2 i hi⟩⟩
theorem M600 (hc : CX tx n M V V') : M ≤ 600 := by
  have := hc.1
  have := hc.2.2.1.1
  omega
theorem kd_0 (hc : CX tx n M V V') {q : Nat} (hq : q < n) : kdA tx n q ≠ 0 := by
  have ek : kdA tx n q = (if isLt (tx q) = true then kdW tx q (tkE tx n q) else if isDg (tx q) = true then 1 else if isSg (tx q) = true then tx q else 2) := if_pos hq
  rw [ek]
  split
  · have := (kdW_b (tx := tx) (p := q) (e := tkE tx n q)).1
    omega
  · split
    · decide
    · split
      · rename_i h1 h2 h3
        have := sg_lo (tx q) (hc.2.1 q hq) h3
        omega
      · decide
theorem kd_M (hc : CX tx n M V V') (hi : i ≤ M) : kdA tx n (tS tx n i) = 0 ↔ i = M := by
  constructor
  · intro z
    refine Nat.le_antisymm hi (Nat.le_of_not_lt (fun hlt => ?_))
    exact kd_0 hc (hc.2.2.1.2.2.1 i hlt) z
  · intro z
    rw [z, hc.2.2.1.2.2.2]
    exact kdA_n
theorem kindC (hc : CX tx n M V V') (hi : i ≤ M) (hS : S 2005 = nI i) : fX10_kind_20 S V = some (nI (kdA tx n (tS tx n i))) := by
  have := M600 hc
  unfold fX10_kind_20
  simp only [lt_e]
  rw [hS, gd_n i 601 (by omega) (by decide), nI_cl i (by omega), (hc.2.2.1.2.1 i hi).1]
theorem placeC (hc : CX tx n M V V') (hi : i ≤ M) (hS : S 2005 = nI i) : fX10_place_20 S V = some (nI (tS tx n i)) := by
  have := M600 hc
  unfold fX10_place_20
  simp only [lt_e]
  rw [hS, gd_n i 601 (by omega) (by decide), nI_cl i (by omega), (hc.2.2.1.2.1 i hi).2.1]
theorem numbC (hc : CX tx n M V V') (hi : i ≤ M) (hS : S 2005 = nI i) (h1 : kdA tx n (tS tx n i) = 1) : fX10_number_20 S V = some (nmI tx n (tS tx n i)) := by
  have := M600 hc
  unfold fX10_number_20
  simp only [lt_e]
  rw [hS, gd_n i 601 (by omega) (by decide), nI_cl i (by omega), (hc.2.2.1.2.1 i hi).2.2 h1]
theorem wordC (hc : CX tx n M V V') (hi : i ≤ M) (hS : S 2005 = nI i) : fX10_isWord_20 S V = some (bI (decide (100 ≤ kdA tx n (tS tx n i)))) := by
  have := M600 hc
  have kb := kdA_b hc.2.1 (tS tx n i)
  unfold fX10_isWord_20
  simp only [lt_e]
  rw [hS, gd_n i 601 (by omega) (by decide), nI_cl i (by omega), (hc.2.2.1.2.1 i hi).1]
  by_cases c : 100 ≤ kdA tx n (tS tx n i)
  · rw [if_neg (show ¬ nI (kdA tx n (tS tx n i)) < 100 from nI_nlt (a := kdA tx n (tS tx n i)) (b := 100) c (by omega)), decide_eq_true c]; rfl
  · rw [if_pos (show nI (kdA tx n (tS tx n i)) < 100 from nI_lt (a := kdA tx n (tS tx n i)) (b := 100) (by omega) (by decide)), decide_eq_false c]; rfl
theorem advC (hc : CX tx n M V V') (hi : i < M) (hS : S 2005 = nI i) : fX10_advance_20 S V = some (va_up S 2005 (nI (i + 1))) := by
  have := M600 hc
  have kb := kdA_b hc.2.1 (tS tx n i)
  unfold fX10_advance_20
  simp only [lt_e]
  rw [hS, gd_n i 601 (by omega) (by decide), nI_cl i (by omega), (hc.2.2.1.2.1 i (by omega)).1, if_neg (fun z => kd_0 hc (hc.2.2.1.2.2.1 i hi) ((nI_eq0 (by omega)).mp z)), if_neg (show ¬ 600 ≤ nI i from nI_ge (a := i) (b := 600) (by omega) (by decide)), nI_1]
theorem stepR (hc : CX tx n M V V') (hi : i < M) (hr : RN tx n S' L' (tS tx n i)) : ∃ a b c d e f y, fX12_goes_0 S' V' L' = some (gS S' a b c d e f, va_up L' 24 y) ∧ RN tx n (gS S' a b c d e f) (va_up L' 24 y) (tS tx n (i + 1)) := by
  have hq := hc.2.2.1.2.2.1 i hi
  have tb := tkE_b (tx := tx) hq
  have nx : nxA tx n (tS tx n i) = tkE tx n (tS tx n i) := if_pos hq
  obtain ⟨a, b, c, d, e, f, y, g1, g2⟩ := goesR (V := V') (L := L') (CX_R hc) hr.2.1 tb.2 (by rw [hr.2.2.1, nx])
  refine ⟨a, b, c, d, e, f, y, g1, ?_⟩
  have e1 : tS tx n (i + 1) = fsE tx n isBl (tkE tx n (tS tx n i)) := by rw [tS, if_pos hq]
  rw [e1]
  show RT tx n (S' 17) a b c d e f y _
  rw [hr.2.1]
  exact g2
theorem good_1 (h : S' 14 = 0) : fX12_isGood_0 S' = some 1 := by
  unfold fX12_isGood_0
  rw [if_pos h]
theorem good_0 (h : ¬ S' 14 = 0) : fX12_isGood_0 S' = some 0 := by
  unfold fX12_isGood_0
  rw [if_neg h]
theorem wrongR {f q : Nat} (h : S' 14 = 0) (h20 : S' 20 = nI q) : fX12_wrong_0 S' (nI f) = some (wrS S' f q) := by
  unfold fX12_wrong_0
  simp only [lt_e]
  rw [if_pos h, show (va_up S' 14 (nI f)) 20 = nI q from h20]
theorem wrong1 {q : Nat} (h : S' 14 = 0) (h20 : S' 20 = nI q) : fX12_wrong_0 S' 1 = some (wrS S' 1 q) := wrongR (f := 1) h h20
theorem wrong2 {q : Nat} (h : S' 14 = 0) (h20 : S' 20 = nI q) : fX12_wrong_0 S' 2 = some (wrS S' 2 q) := wrongR (f := 2) h h20
theorem wrong3 {q : Nat} (h : S' 14 = 0) (h20 : S' 20 = nI q) : fX12_wrong_0 S' 3 = some (wrS S' 3 q) := wrongR (f := 3) h h20
theorem wrong4 {q : Nat} (h : S' 14 = 0) (h20 : S' 20 = nI q) : fX12_wrong_0 S' 4 = some (wrS S' 4 q) := wrongR (f := 4) h h20
theorem wrong5 {q : Nat} (h : S' 14 = 0) (h20 : S' 20 = nI q) : fX12_wrong_0 S' 5 = some (wrS S' 5 q) := wrongR (f := 5) h h20
theorem kd_is {k c : Nat} (hk : k ≤ 118) (hc : c ≤ 200) : (nI k = nI c) ↔ k = c := nI_eq (by omega) (by omega)
theorem wr_n {f q : Nat} (h1 : 1 ≤ f) (h2 : f ≤ 5) : ¬ wrS S' f q 14 = 0 := fun z => by
  have z' : nI f = 0 := z
  have := (nI_eq0 (n := f) (by omega)).mp z'
  omega
theorem m1_ltn {k : Nat} (hk : k < 2 ^ 31) : (-1 : Int32) < nI k := i_lt.mpr (by
  rw [nI_toInt hk, show (-1 : Int32).toInt = -1 by decide]
  omega)
/-- a NUMBER within bounds -/
theorem numbR (hc : CX tx n M V V') (ha : AT tx n M i S S' L') {lo hi : Nat} (hlo : lo ≤ 9999) (hhi : hi ≤ 9999) : (∃ v a b c d e f y, lo ≤ v ∧ v ≤ hi ∧ i < M ∧ fX3_readNumber_11 S V (nI lo) (nI hi) = some (0, va_up (va_up S 1106 (nI v)) 2005 (nI (i + 1))) ∧ fX12_number_0 S' V' L' (nI lo) (nI hi) = some (nI v, gS S' a b c d e f, va_up L' 24 y) ∧ RN tx n (gS S' a b c d e f) (va_up L' 24 y) (tS tx n (i + 1))) ∨ (∃ fl x w, 1 ≤ fl ∧ fl ≤ 5 ∧ fX3_readNumber_11 S V (nI lo) (nI hi) = some (nI fl, va_up S 1106 x) ∧ fX12_number_0 S' V' L' (nI lo) (nI hi) = some (w, wrS S' fl (tS tx n i), L')) := by
  obtain ⟨hi1, h05, hr, h14⟩ := ha
  have kb := kdA_b hc.2.1 (tS tx n i)
  have hM := M600 hc
  have w19 := s19 hc.2.1 hr 2 (by decide)
  unfold fX3_readNumber_11 fX12_number_0
  rw [kindC hc hi1 h05, bd1_s, good_1 h14, bd1_s, if_neg (show ¬ (1 : Int32) = 0 by decide)]
  simp only [bk_e, lt_e]
  by_cases k1 : kdA tx n (tS tx n i) = 1
  · have hlt : i < M := by
      rcases Nat.lt_or_ge i M with z | z
      · exact z
      · have := (kd_M hc hi1).mpr (by omega)
        omega
    have hq := hc.2.2.1.2.2.1 i hlt
    have tb := tkE_b (tx := tx) hq
    have nx : nxA tx n (tS tx n i) = tkE tx n (tS tx n i) := if_pos hq
    have hn := hc.1
    have h21 : S' 21 = nI (tkE tx n (tS tx n i) - tS tx n i) := by rw [hr.2.2.2.2.2.1, nx]
    have h22 := hr.2.2.2.2.2.2.1 k1
    have dgq : isDg (tx (tS tx n i)) = true := by
      have ek : kdA tx n (tS tx n i) = (if isLt (tx (tS tx n i)) = true then kdW tx (tS tx n i) (tkE tx n (tS tx n i)) else if isDg (tx (tS tx n i)) = true then 1 else if isSg (tx (tS tx n i)) = true then tx (tS tx n i) else 2) := if_pos hq
      cases hd : isDg (tx (tS tx n i)) with
      | true => rfl
      | false =>
        rw [hd] at ek
        cases hl : isLt (tx (tS tx n i)) with
        | true =>
          rw [if_pos hl] at ek
          have := (kdW_b (tx := tx) (p := tS tx n i) (e := tkE tx n (tS tx n i))).1
          omega
        | false =>
          rw [if_neg (by rw [hl]; decide), if_neg (by decide)] at ek
          cases hg : isSg (tx (tS tx n i)) with
          | true =>
            rw [if_pos hg] at ek
            have := sg_lo (tx (tS tx n i)) (hc.2.1 _ hq) hg
            omega
          | false => rw [if_neg (by rw [hg]; decide)] at ek; omega
    rw [if_pos (show nI (kdA tx n (tS tx n i)) = 1 from by rw [k1]; rfl), numbC hc hi1 h05 k1, bd1_s, va_up_self, if_pos (show S' 19 = 2 from w19.mpr ((so_2 _ kb).mpr k1)), h21, wrong2 h14 hr.2.2.2.2.1, bd1_s, good_0 (wr_n (by decide) (by decide)), bd1_s, if_pos rfl]
    have bad : ∀ x : Int32, (∃ v a b c d e f y, lo ≤ v ∧ v ≤ hi ∧ i < M ∧ (some (2, va_up S 1106 x) : Option (Int32 × (Nat → Int32))) = some (0, va_up (va_up S 1106 (nI v)) 2005 (nI (i + 1))) ∧ (some ((wrS S' 2 (tS tx n i)) 22, wrS S' 2 (tS tx n i), L') : Option (Int32 × (Nat → Int32) × (Nat → Int64))) = some (nI v, gS S' a b c d e f, va_up L' 24 y) ∧ RN tx n (gS S' a b c d e f) (va_up L' 24 y) (tS tx n (i + 1))) ∨ (∃ fl x2 w, 1 ≤ fl ∧ fl ≤ 5 ∧ (some (2, va_up S 1106 x) : Option (Int32 × (Nat → Int32))) = some (nI fl, va_up S 1106 x2) ∧ (some ((wrS S' 2 (tS tx n i)) 22, wrS S' 2 (tS tx n i), L') : Option (Int32 × (Nat → Int32) × (Nat → Int64))) = some (w, wrS S' fl (tS tx n i), L')) := fun x => Or.inr ⟨2, x, _, by decide, by decide, rfl, rfl⟩
    by_cases l4 : tkE tx n (tS tx n i) - tS tx n i ≤ 4
    · have hv : dgV tx (tS tx n i) (tkE tx n (tS tx n i) - tS tx n i) < 10000 := Nat.lt_of_lt_of_le (dgV_b _ _ (fun j hj => tk_dg hq dgq _ (by omega) (by omega))) ((by decide : ∀ k, k ≤ 4 → 10 ^ k ≤ 10000) _ l4)
      rw [show min (tkE tx n (tS tx n i) - tS tx n i) 4 = tkE tx n (tS tx n i) - tS tx n i by omega] at h22
      rw [show nmI tx n (tS tx n i) = nI (dgV tx (tS tx n i) (tkE tx n (tS tx n i) - tS tx n i)) from if_pos l4, if_neg (show ¬ 4 < nI (tkE tx n (tS tx n i) - tS tx n i) from nI_nlt (a := 4) (b := tkE tx n (tS tx n i) - tS tx n i) l4 (by decide)), h22]
      generalize dgV tx (tS tx n i) (tkE tx n (tS tx n i) - tS tx n i) = v at *
      by_cases c1 : v < lo
      · rw [if_pos (nI_lt c1 (by omega)), if_pos (nI_lt c1 (by omega))]
        exact bad _
      · rw [if_neg (nI_nlt (by omega) (by omega)), if_neg (nI_nlt (by omega) (by omega))]
        by_cases c2 : v ≤ hi
        · obtain ⟨a, b, c, d, e, f, y, g1, g2⟩ := stepR hc hlt hr
          rw [if_pos (nI_le c2 (by omega)), if_pos (nI_le c2 (by omega)), advC (S := va_up S 1106 (nI v)) hc hlt h05, bd1_s, good_1 h14, bd1_s, if_neg (by decide), g1, bd2_s]
          exact Or.inl ⟨v, a, b, c, d, e, f, y, by omega, c2, hlt, rfl, rfl, g2⟩
        · rw [if_neg (nI_ge (by omega) (by omega)), if_neg (nI_ge (by omega) (by omega))]
          exact bad _
    · rw [show nmI tx n (tS tx n i) = -1 from if_neg l4, if_pos (show 4 < nI (tkE tx n (tS tx n i) - tS tx n i) from nI_lt (a := 4) (b := tkE tx n (tS tx n i) - tS tx n i) (by omega) (by omega))]
      rw [if_pos (m1_ltn (by omega))]
      exact bad _
  · rw [if_neg (show ¬ nI (kdA tx n (tS tx n i)) = 1 from fun z => k1 ((kd_is kb (c := 1) (by decide)).mp z)), if_neg (show ¬ S' 19 = 2 from fun z => k1 ((so_2 _ kb).mp (w19.mp z))), wrong1 h14 hr.2.2.2.2.1, bd1_s, good_0 (wr_n (by decide) (by decide)), bd1_s, if_pos rfl]
    refine Or.inr ⟨1, S 1106, _, by decide, by decide, ?_, rfl⟩
    rw [va_up_id]
    rfl
end NB
