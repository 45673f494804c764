theorem sN_ge {f : Nat → Nat} : ∀ {k i : Nat}, i < k → f i ≤ sN f k
  | 0, _, h => absurd h (Nat.not_lt_zero _)
  | k + 1, i, h => by
    rw [sN]
    by_cases e : i = k
    · subst e; omega
    · have := sN_ge (f := f) (k := k) (i := i) (by omega)
      omega
theorem sm_shared : St_shared Rel := fun S V S' V' L' a1 a2 hrel => by
  obtain ⟨-, -, -, ⟨h, t, ru, ⟨hs, hT, -, ⟨c0, c1, c2, c3, c4, -⟩, hCt, -, hc', hRt, -⟩, ⟨n, le, hM, -, hC, hR⟩, -⟩, -⟩ := id hrel
  have h46 := hs.2.2.2.2.1
  have d4 : va_up S' 0 0 5 = nI (h 4) := hc'.2.2.2.2.1
  rcases ten (S := S) (S' := va_up S' 0 0) (a := a1) h46 c4 d4 rfl with ⟨e1, e2⟩ | ⟨w, hw, rfl, e1, e2⟩
  · refine Or.inr (Or.inl ⟨0, va_up (va_up S' 0 0) 0 1, ?_, ?_, rfl, R_thr (R_thr hrel)⟩)
    · unfold fX11_shared_0
      rw [e1, bdx_r]
    · unfold fX12_shared_0
      simp only [lt_e]
      rw [e2, bd2_s, if_pos rfl]
  rcases rng (a := a2) (N := 9999) (by decide) with x2 | ⟨s, hsm, rfl⟩
  · refine Or.inr (Or.inr ⟨0, va_up (va_up S' 0 0) 0 2, ?_, ?_, rfl, R_thr (R_thr hrel)⟩)
    · unfold fX11_shared_0
      rw [e1, bdx_l]
      by_cases z : a2 < 0
      · rw [if_pos z]
      · rw [if_neg z, if_neg (show ¬ a2 ≤ 9999 from nle_of (x2.resolve_left z))]
    · unfold fX12_shared_0
      simp only [lt_e]
      rw [e2, bd2_s, if_neg (by decide), within_eq, if_pos (show a2 < 0 ∨ 9999 < a2 from x2), bd1_s, right_f rfl (by decide), bd2_s, if_pos rfl]
  have rC : ∀ k, k < h 4 → fX4_rentOf_30 S V (nI k) = some (nI (RR t n le k)) := fun k hk => by
    rw [(rentEq (S' := va_up S' 0 0) hM hC hR hCt hRt h46 hk).1, RR_i hT hM hk]
  have rR : ∀ k, k < h 4 → fX12_rentOf_0 (va_up S' 0 0) V' (nI k) = some (nI (RR t n le k)) := fun k hk => by
    rw [(rentEq (S' := va_up S' 0 0) hM hC hR hCt hRt h46 hk).2, RR_i hT hM hk]
  have rb : ∀ k, k < h 4 → RR t n le k ≤ 50000 := fun k hk => (RR_b hT hM hk).2.2
  generalize RR t n le = R at rC rR rb
  have hAll : sN R (h 4) ≤ 300000 := Nat.le_trans (sN_le (B := 50000) rb) (Nat.le_trans (Nat.mul_le_mul_right _ h46) (by decide))
  have L1 := fun E => shC1 (S := S) (V := V) (E := E) (x := nI w) (y := nI s) c4 h46 rC (h 4) 0 FU (by omega) (by unfold FU; omega)
  have M1 := fun E => shR1 (S := va_up S' 0 0) (V := V') (E := E) (x := nI w) (y := nI s) d4 h46 rb rR (h 4) 0 FU (by omega) (by unfold FU; omega)
  rw [show sN R 0 = 0 from rfl, nI_0] at L1 M1
  rw [show lN 0 = 0 from rfl] at M1
  have w1 : fX12_within (nI s) 0 9999 = some 1 := within_t (a := 0) (b := 9999) (by omega) hsm (by decide)
  have hw6 : w < 6 := by omega
  by_cases hA : sN R (h 4) = 0
  · refine Or.inl ⟨0, va_up S' 0 0, ?_, ?_, rfl, R_thr hrel⟩
    · unfold fX11_shared_0 fX4_shareOf_30
      simp only [lt_e, bk_e]
      rw [e1, bdx_l, if_neg (nI_pos (n := s) (by omega)), if_pos (show nI s ≤ 9999 from nI_le (a := s) (b := 9999) hsm (by decide)), L1, if_neg (fun z => by have := (nI_gt0 (n := sN R (h 4)) (by omega)).mp z; omega), bd1_s]
    · unfold fX12_shared_0
      simp only [lt_e, bk_e]
      rw [e2, bd2_s, if_neg (by decide), w1, bd1_s, right_t rfl, bd2_s, if_neg (by decide), M1, if_pos ((lg_cmp_eq _ _).mpr (by rw [hA]; rfl))]
  have hA0 : 0 < sN R (h 4) := by omega
  have hRA : ∀ k, k < h 4 → R k ≤ sN R (h 4) := fun k hk => sN_ge hk
  generalize sN R (h 4) = A at *
  have hAl : A < 2 ^ 31 := by omega
  have hr0 : s * R w % A < 2 ^ 31 := Nat.lt_trans (Nat.mod_lt _ hA0) hAl
  have L2 := fun E => shC2 (S := S) (V := V) (E := E) c4 h46 rb rC (w := w) (s := s) (A := A) (r0 := s * R w % A) hw6 hsm hA0 hAl hr0 (h 4) 0 FU (by omega) (by unfold FU; omega)
  have M2 := fun E => shR2 (S := va_up S' 0 0) (V := V') (E := E) (x := nI w) d4 h46 rb rR (s := s) (A := A) hsm hA0 hAl (h 4) 0 FU (by omega) (by unfold FU; omega)
  have M3 := fun E y => shR3 (S := va_up S' 0 0) (V := V') (E := E) (y := y) d4 h46 rb rR (w := w) (s := s) (A := A) (r0 := s * R w % A) hw6 hsm hA0 hAl hr0 (h 4) 0 FU (by omega) (by unfold FU; omega)
  simp only [sN, nI_0] at L2 M2 M3
  have hp := shB hsm (rb w hw)
  have rbw := rb w hw
  have z : nz (nI A) = true := decide_eq_true (nI_ne0 hA0 hAl)
  have zl : nzl (lN A) = true := decide_eq_true (fun e => by have := (lN_eq (a := A) (b := 0) hAl (by decide)).mp e; omega)
  have hH : sN (shA s A (s * R w % A) w R) (h 4) ≤ 6 := Nat.le_trans (sN_le (B := 1) (fun i hi => by unfold shA; split <;> omega)) (by omega)
  have hG2 : sN (fun k => s * R k / A) (h 4) ≤ 59994 := by
    refine Nat.le_trans (sN_le (B := 9999) (fun i hi => ?_)) (Nat.le_trans (Nat.mul_le_mul_right _ h46) (by decide))
    refine Nat.le_trans (Nat.div_le_of_le_mul ?_) hsm
    rw [Nat.mul_comm A s]
    exact Nat.mul_le_mul_left _ (hRA i hi)
  refine Or.inl ⟨if ((s : Int) - ((sN (fun k => s * R k / A) (h 4) : Nat) : Int) ≤ ((sN (shA s A (s * R w % A) w R) (h 4) : Nat) : Int)) then nI (s * R w / A) else nI (s * R w / A + 1), va_up S' 0 0, ?_, ?_, rfl, R_thr hrel⟩
  · unfold fX11_shared_0 fX4_shareOf_30
    simp only [lt_e, bk_e]
    rw [e1, bdx_l, if_neg (nI_pos (n := s) (by omega)), if_pos (show nI s ≤ 9999 from nI_le (a := s) (b := 9999) hsm (by decide)), L1, if_pos ((nI_gt0 (n := A) hAl).mpr hA0), rC w hw, bd1_s, gd_t z, nI_mul, nI_mod hp hAl, L2, rC w hw, bd1_s, gd_t z, nI_mul, nI_divI hp hAl]
    generalize sN (fun k => s * R k / A) (h 4) = G at hG2
    generalize sN (shA s A (s * R w % A) w R) (h 4) = H at hH
    rw [show nI s - nI G = zI ((s : Int) - (G : Int)) by rw [nI_z, nI_z, zI_sub], nI_z H]
    by_cases c : (s : Int) - (G : Int) ≤ (H : Int)
    · rw [if_pos ((zI_le (by omega) (by omega) (by omega) (by omega)).mpr c), if_pos c, bd1_s, Int32.add_zero]
    · rw [if_neg (fun q => c ((zI_le (by omega) (by omega) (by omega) (by omega)).mp q)), if_neg c, bd1_s, nI_1]
  · unfold fX12_shared_0
    simp only [lt_e, bk_e]
    have y32 : (nI s).toInt64 = zL ((s : Int) - ((0 : Nat) : Int)) := by rw [nI_l (by omega), lN_z]; rfl
    rw [e2, bd2_s, if_neg (by decide), w1, bd1_s, right_t rfl, bd2_s, if_neg (by decide), M1, if_neg (fun q => by
      have q2 := (lg_cmp_eq _ _).mp q
      have := (lN_eq (a := A) (b := 0) hAl (by decide)).mp q2
      omega), y32, M2, rR w hw, bd1_s, gd_t zl, nI_l (n := s) (by omega), nI_l (n := R w) (by omega), lN_mul, lN_mod hp hAl, M3, rR w hw, bd1_s, gd_t zl, nI_l (n := s) (by omega), nI_l (n := R w) (by omega), lN_mul, lN_div hp hAl, lN_i]
    generalize sN (fun k => s * R k / A) (h 4) = G at hG2
    generalize sN (shA s A (s * R w % A) w R) (h 4) = H at hH
    simp only [lg_cmp_ge]
    have hcmp : (zL ((s : Int) - (G : Int)) ≤ (nI H).toInt64) ↔ ((s : Int) - (G : Int) ≤ (H : Int)) := by
      rw [Int64.le_iff_toInt_le, zL_t (by omega) (by omega), nI_l (by omega), lN_toInt (by omega)]
    by_cases c : (s : Int) - (G : Int) ≤ (H : Int)
    · rw [if_pos (hcmp.mpr c), if_pos c, Int32.add_zero]
    · rw [if_neg (fun q => c (hcmp.mp q)), if_neg c, nI_1]
