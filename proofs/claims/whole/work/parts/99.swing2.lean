/-! ===== swing, slow, slowBy ===== -/
section S2
variable {h : Nat → Nat} {t : Nat → Nat → Nat} {n : Nat} {le : Nat → Nat → Nat}
theorem swOf13 {S : Nat → Int32} {V : Nat → Nat → Int32} {sz : Int32} (hs : MHs h) (hT : MHt h t) (hc : CHs h (S 1) (S 2) (S 3) (S 4) (S 5) (S 6) (S 7)) (hRt : RHt h t (V 1) (V 2)) (hM : MLs h t n le) (hR : RLs n le sz (V 13)) {hr d : Nat} (hh : hr < 24) (hd : d < 10000) : fX12_swingOf_0_13 S V (nI n) (nI hr) (nI d) = some (nI (swH h t n le none hr (h 1 - d / h 2))) := by
  unfold fX12_swingOf_0_13 swH
  rw [allIn13 hs.2.2.2.2.1 hM hR hh, bd1_s, swBy hs hT hc hRt (who_ok hM 0 hr) (who_ok hM 1 hr) (who_ok hM 2 hr) (who_apt hM (by decide) hr) (who_apt hM (by decide) hr) (who_apt hM (by decide) hr) hd, bd1_s, pres_none, pres_none, pres_none]
theorem slowOf13 {S : Nat → Int32} {V : Nat → Nat → Int32} {sz : Int32} (hs : MHs h) (hT : MHt h t) (hc : CHs h (S 1) (S 2) (S 3) (S 4) (S 5) (S 6) (S 7)) (hRt : RHt h t (V 1) (V 2)) (hM : MLs h t n le) (hR : RLs n le sz (V 13)) {f g d : Nat} (hfg : f ≤ g + 1) (hg : g < 24) (hd : d < 10000) : fX12_slowOf_0_13 S V (nI n) (nI f) (nI g) (nI d) = some (slF (fun hr => nI (swH h t n le none hr (h 1 - d / h 2))) f (g + 1 - f) 0) := by
  have L : ∀ (j i m : Nat) (acc : Int32), i + j = g + 1 → j < m → fX12_slowOf_0_13_L6 S V m (nI n) (nI g) (nI d) acc (nI i) = some (slF (fun hr => nI (swH h t n le none hr (h 1 - d / h 2))) i j acc) := by
    intro j
    induction j with
    | zero =>
      intro i m acc e1 e2
      obtain ⟨m, rfl⟩ : ∃ m', m = m' + 1 := ⟨m - 1, by omega⟩
      unfold fX12_slowOf_0_13_L6
      rw [if_pos (nI_lt (a := g) (b := i) (by omega) (by omega))]
      rfl
    | succ j ih =>
      intro i m acc e1 e2
      obtain ⟨m, rfl⟩ : ∃ m', m = m' + 1 := ⟨m - 1, by omega⟩
      unfold fX12_slowOf_0_13_L6
      rw [if_neg (nI_nlt (a := g) (b := i) (by omega) (by omega)), swOf13 hs hT hc hRt hM hR (by omega) hd]
      simp only [lt_e, bk_e, bd0_s, bd1_s, bd2_s, bd3_s, bd4_s, bdx_l, bdx_r, gd_tt, nI_1]
      exact ih (i + 1) m _ (by omega) (by omega)
  exact L (g + 1 - f) f FU 0 (by omega) (by unfold FU; omega)
theorem ab_ok {k a : Nat} (h : a < k) : okT k (some a) := fun x e => by cases e; exact h
theorem no_ok (k : Nat) : okT k none := fun x e => by cases e
theorem bits_out {m a : Nat} (ha : a < 31) : nI m &&& (((1 : Int32) <<< (nI a &&& 31)) ^^^ (-1)) = nI (m &&& (2 ^ 32 - 1 - 2 ^ a)) := by
  rw [bit_lt ha]
  have hb : ∀ i, i < 32 → (2 ^ 32 - 1 - 2 ^ a).testBit i = !decide (a = i) := by
    intro i hi
    rw [show 2 ^ 32 - 1 - 2 ^ a = 2 ^ 32 - (2 ^ a + 1) by omega, Nat.testBit_two_pow_sub_succ (Nat.pow_lt_pow_right (by decide) (by omega)), Nat.testBit_two_pow]
    simp [hi]
  apply b_ext
  intro i hi
  rw [b_and, b_xor, nbt hi, nbt hi, nbt hi, b_m1 i hi, Nat.testBit_and, hb i hi, Nat.testBit_two_pow]
  cases decide (a = i) <;> simp
theorem bo_pres (o : Option Nat) (a j : Nat) : (bo (pres (some a) o)).testBit j = ((bo o).testBit j && !decide (a = j)) := by
  rw [bo_tb, bo_tb]
  unfold pres
  by_cases e : o = some a
  · rw [if_pos e, e]
    by_cases e2 : a = j
    · simp [e2]
    · simp [e2]
  · rw [if_neg e]
    by_cases e2 : a = j
    · subst e2; simp [e]
    · simp [e2]
theorem set_out {x y z : Option Nat} {a : Nat} (ha : a < 31) : nI (bo x ||| bo y ||| bo z) &&& (((1 : Int32) <<< (nI a &&& 31)) ^^^ (-1)) = nI (bo (pres (some a) x) ||| bo (pres (some a) y) ||| bo (pres (some a) z)) := by
  rw [bit_lt ha]
  apply b_ext
  intro i hi
  rw [b_and, b_xor, nbt hi, nbt hi, nbt hi, b_m1 i hi]
  simp only [Nat.testBit_or, bo_pres, Nat.testBit_two_pow]
  cases decide (a = i) <;> simp
end S2
theorem sm_swing : St_swing Rel := fun S V S' V' L' a1 a2 hrel => by
  obtain ⟨-, -, -, ⟨h, t, ru, ⟨hs, hT, -, ⟨c0, c1, c2, -⟩, hCt, -, hc', hRt, -⟩, ⟨n, le, hM, -, hC, hR⟩, -⟩, -⟩ := id hrel
  rcases rng (a := a1) (N := 23) (by decide) with x1 | ⟨hr, hh, rfl⟩
  · refine Or.inr (Or.inl ⟨0, va_up (va_up S' 0 0) 0 1, ?_, ?_, rfl, R_thr (R_thr hrel)⟩)
    · unfold fX11_swing_0
      rw [nHour_f x1, bdx_r]
    · unfold fX12_swing_0
      simp only [lt_e]
      rw [isHour_f rfl x1, bd2_s, if_pos rfl]
  · rcases rng (a := a2) (N := 9999) (by decide) with x2 | ⟨d, hd, rfl⟩
    · refine Or.inr (Or.inr ⟨0, va_up (va_up S' 0 0) 0 2, ?_, ?_, rfl, R_thr (R_thr hrel)⟩)
      · unfold fX11_swing_0
        rw [nHour_t (by omega), bdx_l, nDay_f x2, bdx_r]
      · unfold fX12_swing_0
        simp only [lt_e]
        rw [isHour_t rfl (by omega), bd2_s, if_neg (by decide), isDay_f rfl (by decide) x2, bd2_s, if_pos rfl]
    · refine Or.inl ⟨nI (swH h t n le none hr (h 1 - d / h 2)), va_up S' 0 0, ?_, ?_, rfl, R_thr hrel⟩
      · unfold fX11_swing_0
        rw [nHour_t (by omega), bdx_l, nDay_t (by omega), bdx_l, oilC hs c1 c2 (by omega), bd1_s, show (-1 : Int32) = enc none from rfl, swIn48 hs hT c0 hCt hM hC (by omega) (Nat.le_trans (Nat.sub_le _ _) hs.2.1) (no_ok _), bd1_s]
      · unfold fX12_swing_0
        simp only [lt_e]
        rw [isHour_t rfl (by omega), bd2_s, if_neg (by decide), isDay_t rfl (by omega), bd2_s, if_neg (by decide), show va_up S' 0 0 42 = nI n from hR.1, swOf13 (S := va_up S' 0 0) hs hT hc' hRt hM hR (by omega) (by omega), bd1_s]
theorem sm_slow : St_slow Rel := fun S V S' V' L' a1 a2 a3 hrel => by
  obtain ⟨-, -, -, ⟨h, t, ru, ⟨hs, hT, -, ⟨c0, c1, c2, -⟩, hCt, -, hc', hRt, -⟩, ⟨n, le, hM, -, hC, hR⟩, -⟩, -⟩ := id hrel
  rcases rng (a := a1) (N := 23) (by decide) with x1 | ⟨f, hf, rfl⟩
  · refine Or.inr (Or.inl ⟨0, va_up (va_up S' 0 0) 0 1, ?_, ?_, rfl, R_thr (R_thr hrel)⟩)
    · unfold fX11_slow_0
      rw [nHour_f x1, bdx_r]
    · unfold fX12_slow_0
      simp only [lt_e]
      rw [isHour_f rfl x1, bd2_s, if_pos rfl]
  rcases rng (a := a2) (N := 23) (by decide) with x2 | ⟨g, hg, rfl⟩
  · refine Or.inr (Or.inl ⟨0, va_up (va_up S' 0 0) 0 1, ?_, ?_, rfl, R_thr (R_thr hrel)⟩)
    · unfold fX11_slow_0
      rw [nHour_t (by omega), bdx_l, nHour_f x2, bdx_r]
    · unfold fX12_slow_0
      simp only [lt_e]
      rw [isHour_t rfl (by omega), bd2_s, if_neg (by decide), isHour_f rfl x2, bd2_s, if_pos rfl]
  rcases rng (a := a3) (N := 9999) (by decide) with x3 | ⟨d, hd, rfl⟩
  · refine Or.inr (Or.inr ⟨0, va_up (va_up S' 0 0) 0 2, ?_, ?_, rfl, R_thr (R_thr hrel)⟩)
    · unfold fX11_slow_0
      rw [nHour_t (by omega), bdx_l, nHour_t (by omega), bdx_l, nDay_f x3, bdx_r]
    · unfold fX12_slow_0
      simp only [lt_e]
      rw [isHour_t rfl (by omega), bd2_s, if_neg (by decide), isHour_t rfl (by omega), bd2_s, if_neg (by decide), isDay_f rfl (by decide) x3, bd2_s, if_pos rfl]
  by_cases hfg : f ≤ g
  · refine Or.inl ⟨slF (fun hr => nI (swH h t n le none hr (h 1 - d / h 2))) f (g + 1 - f) 0, va_up S' 0 0, ?_, ?_, rfl, R_thr hrel⟩
    · unfold fX11_slow_0
      rw [nHour_t (by omega), bdx_l, nHour_t (by omega), bdx_l, nDay_t (by omega), bdx_l, if_pos (nI_le (a := f) (b := g) hfg (by omega)), oilC hs c1 c2 (by omega), bd1_s, show (-1 : Int32) = enc none from rfl, slow48 hs hT c0 hCt hM hC (Nat.le_trans (Nat.sub_le _ _) hs.2.1) (no_ok _) (by omega) (by omega), bd1_s]
    · unfold fX12_slow_0
      simp only [lt_e, bk_e]
      rw [isHour_t rfl (by omega), bd2_s, if_neg (by decide), isHour_t rfl (by omega), bd2_s, if_neg (by decide), isDay_t rfl (by omega), bd2_s, if_neg (by decide), if_neg (nI_nlt (a := g) (b := f) hfg (by omega)), right_t rfl, bd2_s, if_neg (by decide), show va_up S' 0 0 42 = nI n from hR.1, slowOf13 (S := va_up S' 0 0) hs hT hc' hRt hM hR (by omega) (by omega) (by omega), bd1_s]
  · refine Or.inr (Or.inr ⟨0, va_up (va_up S' 0 0) 0 2, ?_, ?_, rfl, R_thr (R_thr hrel)⟩)
    · unfold fX11_slow_0
      rw [nHour_t (by omega), bdx_l, nHour_t (by omega), bdx_l, nDay_t (by omega), bdx_l, if_neg (nI_ge (a := g) (b := f) (by omega) (by omega))]
    · unfold fX12_slow_0
      simp only [lt_e, bk_e]
      rw [isHour_t rfl (by omega), bd2_s, if_neg (by decide), isHour_t rfl (by omega), bd2_s, if_neg (by decide), isDay_t rfl (by omega), bd2_s, if_neg (by decide), if_pos (nI_lt (a := g) (b := f) (by omega) (by omega)), right_f rfl (by decide), bd2_s, if_pos rfl]
