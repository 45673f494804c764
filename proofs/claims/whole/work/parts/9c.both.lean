/-! ===== both ===== -/
def abI (z : Int32) : Int32 := if 0 ≤ z then z else -z
def mxI (a b : Int32) : Int32 := if a < b then b else a
def fF (H T w y x : Int32) : Int32 := mxI (abI (H + w * x)) (abI (T + w * (y - x)))
theorem abs_eq (z : Int32) : fJ9_abs_0f7a4 z = some (abI z) := by
  unfold fJ9_abs_0f7a4 abI
  split <;> rfl
theorem size_eq (z : Int32) : fX12_size z = some (abI z) := by
  unfold fX12_size abI
  split
  · rfl
  · rw [show (0 : Int32) - z = -z by grind]
theorem max_eq (a b : Int32) : fJ9_max_7cf53 a b = some (mxI a b) := by
  unfold fJ9_max_7cf53 mxI
  split <;> rfl
theorem mxI_le {a b : Int32} : mxI a b = if a ≤ b then b else a := by
  unfold mxI
  by_cases h : a < b
  · rw [if_pos h, if_pos (i_le.mpr (by have := i_lt.mp h; omega))]
  · rw [if_neg h]
    by_cases h2 : a ≤ b
    · rw [if_pos h2]
      apply i_eq
      have h3 := mt i_lt.mpr h
      have h4 := i_le.mp h2
      omega
    · rw [if_neg h2]
theorem nle_iff {a b : Int32} : ¬ a ≤ b ↔ b < a := by
  rw [i_le, i_lt]
  omega
section BO
variable {h : Nat → Nat} {t : Nat → Nat → Nat}
theorem far48 {V : Nat → Nat → Int32} (hCt : CHt h t (V 4) (V 5) (V 6) (V 7) (V 8)) (h46 : h 4 ≤ 6) {a : Nat} (ha : a < h 4) (B H x : Int32) : fX6_fartherOfBoth_48 V (nI a) B H x = some (fF H ((24 : Int32) * (((2 : Int32) * B) - (60 : Int32))) (nI (t a 0)) (nI (t a 2)) x) := by
  obtain ⟨e0, e1, e2, -⟩ := hCt a ha
  unfold fX6_fartherOfBoth_48 fF
  simp (disch := omega) only [lt_e, gd_n, nI_cl, e0, e2, abs_eq, max_eq, bd1_s]
theorem both_loop {V V' : Nat → Nat → Int32} {S' : Nat → Int32} (hT : MHt h t) (hCt : CHt h t (V 4) (V 5) (V 6) (V 7) (V 8)) (hRt : RHt h t (V' 1) (V' 2)) (h46 : h 4 ≤ 6) {a : Nat} (ha : a < h 4) {B H q : Int32} {E : Int32 → Int32 → Int32 → (Nat → Int32) → Option (Int32 × (Nat → Int32))} :
    ∀ (j k m m' bst : Nat), k + j = t a 2 + 1 → j < m → j < m' → bst ≤ 12 → ∃ r : Int32, fX6_hoursHere_48_L6 V m (nI a) B H (nI bst) (nI k) = some r ∧ fX12_both_0_L91 E V' m' (nI a) q H ((24 : Int32) * (((2 : Int32) * B) - (60 : Int32))) (nI bst) (fF H ((24 : Int32) * (((2 : Int32) * B) - (60 : Int32))) (nI (t a 0)) (nI (t a 2)) (nI bst)) (nI k) S' = E q r (fF H ((24 : Int32) * (((2 : Int32) * B) - (60 : Int32))) (nI (t a 0)) (nI (t a 2)) r) S' := by
  obtain ⟨⟨-, -, y1, y2, -⟩, -⟩ := hT a ha
  obtain ⟨e0, e1, e2, -⟩ := hCt a ha
  obtain ⟨r0, r1, r2, -⟩ := hRt a ha
  intro j
  induction j with
  | zero =>
    intro k m m' bst c1 c2 c3 c4
    obtain ⟨m, rfl⟩ : ∃ z, m = z + 1 := ⟨m - 1, by omega⟩
    obtain ⟨m', rfl⟩ : ∃ z, m' = z + 1 := ⟨m' - 1, by omega⟩
    refine ⟨nI bst, ?_, ?_⟩
    · rw [fX6_hoursHere_48_L6, gd_n a 6 (by omega) (by decide), nI_cl a (by omega), e2, if_pos (nI_lt (a := t a 2) (b := k) (by omega) (by omega))]
    · rw [fX12_both_0_L91]
      simp only [lt_e]
      rw [nI_42, gd_n (4 * a + 2) 24 (by omega) (by decide), nI_cl (4 * a + 2) (by omega), r2, if_pos (nI_lt (a := t a 2) (b := k) (by omega) (by omega))]
  | succ j ih =>
    intro k m m' bst c1 c2 c3 c4
    obtain ⟨m, rfl⟩ : ∃ z, m = z + 1 := ⟨m - 1, by omega⟩
    obtain ⟨m', rfl⟩ : ∃ z, m' = z + 1 := ⟨m' - 1, by omega⟩
    have hst : ∃ b2 : Nat, b2 ≤ 12 ∧ fX6_hoursHere_48_L6 V (m + 1) (nI a) B H (nI bst) (nI k) = fX6_hoursHere_48_L6 V m (nI a) B H (nI b2) (nI (k + 1)) ∧ fX12_both_0_L91 E V' (m' + 1) (nI a) q H ((24 : Int32) * (((2 : Int32) * B) - (60 : Int32))) (nI bst) (fF H ((24 : Int32) * (((2 : Int32) * B) - (60 : Int32))) (nI (t a 0)) (nI (t a 2)) (nI bst)) (nI k) S' = fX12_both_0_L91 E V' m' (nI a) q H ((24 : Int32) * (((2 : Int32) * B) - (60 : Int32))) (nI b2) (fF H ((24 : Int32) * (((2 : Int32) * B) - (60 : Int32))) (nI (t a 0)) (nI (t a 2)) (nI b2)) (nI (k + 1)) S' := by
      have p1 : fX6_hoursHere_48_L6 V (m + 1) (nI a) B H (nI bst) (nI k) = if fF H ((24 : Int32) * (((2 : Int32) * B) - (60 : Int32))) (nI (t a 0)) (nI (t a 2)) (nI bst) ≤ fF H ((24 : Int32) * (((2 : Int32) * B) - (60 : Int32))) (nI (t a 0)) (nI (t a 2)) (nI k) then fX6_hoursHere_48_L6 V m (nI a) B H (nI bst) (nI (k + 1)) else fX6_hoursHere_48_L6 V m (nI a) B H (nI k) (nI (k + 1)) := by
        rw [fX6_hoursHere_48_L6, gd_n a 6 (by omega) (by decide), nI_cl a (by omega), e2, if_neg (nI_nlt (a := t a 2) (b := k) (by omega) (by omega)), far48 hCt h46 ha, far48 hCt h46 ha]
        simp only [bd1_s, lt_e, bk_e, nI_1]
      generalize hTT : (24 : Int32) * (((2 : Int32) * B) - (60 : Int32)) = TT at p1 ⊢
      have p2 : fX12_both_0_L91 E V' (m' + 1) (nI a) q H TT (nI bst) (fF H TT (nI (t a 0)) (nI (t a 2)) (nI bst)) (nI k) S' = if fF H TT (nI (t a 0)) (nI (t a 2)) (nI k) < fF H TT (nI (t a 0)) (nI (t a 2)) (nI bst) then fX12_both_0_L91 E V' m' (nI a) q H TT (nI k) (fF H TT (nI (t a 0)) (nI (t a 2)) (nI k)) (nI (k + 1)) S' else fX12_both_0_L91 E V' m' (nI a) q H TT (nI bst) (fF H TT (nI (t a 0)) (nI (t a 2)) (nI bst)) (nI (k + 1)) S' := by
        rw [fX12_both_0_L91]
        simp only [lt_e, bk_e]
        rw [nI_42, nI_40, gd_n (4 * a + 2) 24 (by omega) (by decide), nI_cl (4 * a + 2) (by omega), r2, if_neg (nI_nlt (a := t a 2) (b := k) (by omega) (by omega)), gd_n (4 * a) 24 (by omega) (by decide), nI_cl (4 * a) (by omega), r0, size_eq, bd1_s, gd_n (4 * a + 2) 24 (by omega) (by decide), gd_n (4 * a) 24 (by omega) (by decide), size_eq, bd1_s]
        have e9 : fF H TT (nI (t a 0)) (nI (t a 2)) (nI k) = if abI (H + nI k * nI (t a 0)) ≤ abI (TT + (nI (t a 2) - nI k) * nI (t a 0)) then abI (TT + (nI (t a 2) - nI k) * nI (t a 0)) else abI (H + nI k * nI (t a 0)) := by
          rw [← mxI_le]
          unfold fF
          rw [Int32.mul_comm (nI (t a 0)) (nI k), Int32.mul_comm (nI (t a 0)) (nI (t a 2) - nI k)]
        have em : (nI bst = -1) = False := propext (nI_em1 (by omega))
        rw [e9]
        by_cases c : abI (H + nI k * nI (t a 0)) ≤ abI (TT + (nI (t a 2) - nI k) * nI (t a 0))
        · simp only [if_pos c, em, if_false, nI_1]
        · simp only [if_neg c, em, if_false, nI_1]
      rw [p1, p2]
      by_cases c : fF H TT (nI (t a 0)) (nI (t a 2)) (nI bst) ≤ fF H TT (nI (t a 0)) (nI (t a 2)) (nI k)
      · exact ⟨bst, c4, by rw [if_pos c], by rw [if_neg (fun z => nle_iff.mpr z c)]⟩
      · exact ⟨k, by omega, by rw [if_neg c], by rw [if_pos (nle_iff.mp c)]⟩
    obtain ⟨b2, d1, d2, d3⟩ := hst
    rw [d2, d3]
    exact ih (k + 1) m m' b2 (by omega) (by omega) (by omega) d1
end BO
theorem both_first {h : Nat → Nat} {t : Nat → Nat → Nat} {V' : Nat → Nat → Int32} {S' : Nat → Int32} (hT : MHt h t) (hRt : RHt h t (V' 1) (V' 2)) (h46 : h 4 ≤ 6) {a : Nat} (ha : a < h 4) {H TT q L : Int32} {E : Int32 → Int32 → Int32 → (Nat → Int32) → Option (Int32 × (Nat → Int32))} {m' : Nat} : fX12_both_0_L91 E V' (m' + 1) (nI a) q H TT (-1) L (nI 0) S' = fX12_both_0_L91 E V' m' (nI a) q H TT (nI 0) (fF H TT (nI (t a 0)) (nI (t a 2)) (nI 0)) (nI 1) S' := by
  obtain ⟨r0, r1, r2, -⟩ := hRt a ha
  obtain ⟨⟨-, -, y1, y2, -⟩, -⟩ := hT a ha
  rw [fX12_both_0_L91]
  simp only [lt_e, bk_e]
  rw [nI_42, nI_40, gd_n (4 * a + 2) 24 (by omega) (by decide), nI_cl (4 * a + 2) (by omega), r2, if_neg (nI_nlt (a := t a 2) (b := 0) (by omega) (by omega)), gd_n (4 * a) 24 (by omega) (by decide), nI_cl (4 * a) (by omega), r0, size_eq, bd1_s, gd_n (4 * a + 2) 24 (by omega) (by decide), gd_n (4 * a) 24 (by omega) (by decide), size_eq, bd1_s]
  have e9 : fF H TT (nI (t a 0)) (nI (t a 2)) (nI 0) = if abI (H + nI 0 * nI (t a 0)) ≤ abI (TT + (nI (t a 2) - nI 0) * nI (t a 0)) then abI (TT + (nI (t a 2) - nI 0) * nI (t a 0)) else abI (H + nI 0 * nI (t a 0)) := by
    rw [← mxI_le]
    unfold fF
    rw [Int32.mul_comm (nI (t a 0)) (nI 0), Int32.mul_comm (nI (t a 0)) (nI (t a 2) - nI 0)]
  rw [e9]
  by_cases c : abI (H + nI 0 * nI (t a 0)) ≤ abI (TT + (nI (t a 2) - nI 0) * nI (t a 0))
  · simp only [if_pos c, if_true, nI_1, Nat.zero_add]
  · simp only [if_neg c, if_true, nI_1, Nat.zero_add]
theorem sm_both : St_both Rel := fun S V S' V' L' a1 a2 a3 a4 hrel => by
  obtain ⟨-, -, -, ⟨h, t, ru, ⟨hs, hT, -, ⟨c0, c1, c2, -, c4, -⟩, hCt, -, hc', hRt, -⟩, ⟨n, le, hM, -, hC, hR⟩, -⟩, -⟩ := id hrel
  have h46 := hs.2.2.2.2.1
  rcases ten (S := S) (S' := va_up S' 0 0) (a := a1) h46 c4 hc'.2.2.2.2.1 rfl with ⟨e1, e2⟩ | ⟨k, hk, rfl, e1, e2⟩
  · refine Or.inr (Or.inl ⟨0, va_up (va_up S' 0 0) 0 1, ?_, ?_, rfl, R_thr (R_thr hrel)⟩)
    · unfold fX11_both_0
      rw [e1, bdx_r]
    · unfold fX12_both_0
      simp only [lt_e]
      rw [e2, bd2_s, if_pos rfl]
  rcases rng (a := a4) (N := 1) (by decide) with x4 | ⟨w, hw, rfl⟩
  · have y0 : ¬ a4 = 0 := fun e => by
      rcases x4 with x4 | x4
      · rw [e] at x4; exact absurd x4 (by decide)
      · rw [e] at x4; exact absurd x4 (by decide)
    have y1 : ¬ a4 = 1 := fun e => by
      rcases x4 with x4 | x4
      · rw [e] at x4; exact absurd x4 (by decide)
      · rw [e] at x4; exact absurd x4 (by decide)
    refine Or.inr (Or.inl ⟨0, va_up (va_up S' 0 0) 0 1, ?_, ?_, rfl, R_thr (R_thr hrel)⟩)
    · unfold fX11_both_0
      rw [e1, bdx_l]
      by_cases z : a4 < 0
      · rw [if_pos z]
      · rw [if_neg z, if_neg (show ¬ a4 ≤ 1 from nle_of (x4.resolve_left z))]
    · unfold fX12_both_0
      simp only [lt_e, bk_e]
      rw [e2, bd2_s, if_neg (by decide), if_neg y0, if_neg y1, right_f rfl (by decide), bd2_s, if_pos rfl]
  have z1 : ¬ nI w < 0 := nI_pos (by omega)
  have z2 : nI w ≤ 1 := nI_le (a := w) (b := 1) hw (by decide)
  have z3 : ∀ {β : Type} (A B : β), (if nI w = 0 then A else (if nI w = 1 then A else B)) = A := fun A B => by
    rcases (show w = 0 ∨ w = 1 by omega) with rfl | rfl
    · rw [if_pos nI_0]
    · rw [if_neg (by decide), if_pos (show nI 1 = 1 from rfl)]
  rcases rng (a := a3) (N := 9999) (by decide) with x3 | ⟨d, hd, rfl⟩
  · refine Or.inr (Or.inr ⟨0, va_up (va_up S' 0 0) 0 2, ?_, ?_, rfl, R_thr (R_thr hrel)⟩)
    · unfold fX11_both_0
      rw [e1, bdx_l, if_neg z1, if_pos z2, nDay_f x3, bdx_r]
    · unfold fX12_both_0
      simp only [lt_e, bk_e]
      rw [e2, bd2_s, if_neg (by decide), z3, right_t rfl, bd2_s, if_neg (by decide), isDay_f rfl (by decide) x3, bd2_s, if_pos rfl]
  by_cases x2 : a2 < 20 ∨ 60 < a2
  · refine Or.inr (Or.inr ⟨0, va_up (va_up S' 0 0) 0 2, ?_, ?_, rfl, R_thr (R_thr hrel)⟩)
    · unfold fX11_both_0
      rw [e1, bdx_l, if_neg z1, if_pos z2, nDay_t (by omega), bdx_l]
      by_cases z : a2 < 20
      · rw [if_pos z]
      · rw [if_neg z, if_neg (nle_iff.mpr (x2.resolve_left z))]
    · unfold fX12_both_0
      simp only [lt_e, bk_e]
      rw [e2, bd2_s, if_neg (by decide), z3, right_t rfl, bd2_s, if_neg (by decide), isDay_t rfl (by omega), bd2_s, if_neg (by decide), within_eq, if_pos x2, bd1_s, right_f rfl (by decide), bd2_s, if_pos rfl]
  have x5 : ¬ a2 < 20 := fun z => x2 (Or.inl z)
  have x6 : a2 ≤ 60 := Classical.byContradiction (fun z => x2 (Or.inr (nle_iff.mp z)))
  have hdC := slowDayC hs hT c0 hCt hM hC (oil30 hs d)
  have hdR := slowDayR (S := va_up S' 0 0) hs hT hc' hRt hM hR (d := d) (by omega)
  generalize slF (fun hr => nI (swH h t n le none hr (h 1 - d / h 2))) 0 24 0 = HH at hdC hdR
  obtain ⟨fu, hfu, hfu2⟩ := FU_pos
  have hst := (hT k hk).1.2.2
  have LL := fun E => both_loop (V := V) (V' := V') (S' := va_up S' 0 0) (B := a2) (H := HH) (q := nI w) (E := E) hT hCt hRt h46 hk (t k 2) 1 FU fu 0 (by omega) (by rw [hfu]; omega) (by omega) (by decide)
  obtain ⟨r, q1, q2⟩ := LL (fun x87 x88 x89 S90 => if x87 = 0 then some (x88, S90) else some (x89, S90))
  have q3 : fX6_hoursHere_48 V (nI k) a2 HH = some r := by
    unfold fX6_hoursHere_48
    rw [nI_0] at q1
    exact q1
  refine Or.inl ⟨if nI w = 0 then r else fF HH ((24 : Int32) * (((2 : Int32) * a2) - (60 : Int32))) (nI (t k 0)) (nI (t k 2)) r, va_up S' 0 0, ?_, ?_, rfl, R_thr hrel⟩
  · unfold fX11_both_0
    rw [e1, bdx_l, if_neg z1, if_pos z2, nDay_t (by omega), bdx_l, if_neg x5, if_pos x6, oilC hs c1 c2 (by omega), bd1_s, hdC, bd1_s, q3, bd1_s, far48 hCt h46 hk, bd1_s]
    split <;> rfl
  · unfold fX12_both_0
    simp only [lt_e, bk_e]
    rw [e2, bd2_s, if_neg (by decide), z3, right_t rfl, bd2_s, if_neg (by decide), isDay_t rfl (by omega), bd2_s, if_neg (by decide), within_eq, if_neg x2, bd1_s, right_t rfl, bd2_s, if_neg (by decide), hdR, bd1_s, hfu, show (0 : Int32) = nI 0 from rfl, both_first hT hRt h46 hk]
    rw [nI_0] at q2 ⊢
    rw [show nI 1 = 1 from rfl] at q2 ⊢
    rw [q2]
    split <;> rfl
