/-! ===== judge, lease ===== -/
section LE
variable {h : Nat → Nat} {t : Nat → Nat → Nat} {n : Nat} {le : Nat → Nat → Nat} {ru : Nat → List Nat}
theorem CLs_mv {V : Nat → Nat → Int32} {sz : Int32} (hC : CLs n le sz (V 31) (V 32) (V 33) (V 34) (V 35)) (v : Nat → Nat) (f g : Nat → Int32) : CLs n le sz ((mvB V n v f g) 31) ((mvB V n v f g) 32) ((mvB V n v f g) 33) ((mvB V n v f g) 34) ((mvB V n v f g) 35) := by
  refine ⟨hC.1, fun i hi => ?_, hC.2.2⟩
  show upd (V 31) n (nI (v 0)) i = _ ∧ upd (V 32) n (nI (v 1)) i = _ ∧ upd (V 33) n (nI (v 2)) i = _ ∧ upd (V 34) n (nI (v 3)) i = _
  rw [upd_ne _ _ (by omega), upd_ne _ _ (by omega), upd_ne _ _ (by omega), upd_ne _ _ (by omega)]
  exact hC.2.1 i hi
theorem RLs_row {V : Nat → Nat → Int32} {sz : Int32} (hR : RLs n le sz (V 13)) (v : Nat → Nat) (f : Nat → Int32) : RLs n le sz ((va_up (rowR V n v) 15 f) 13) := by
  refine ⟨hR.1, fun i hi => ?_⟩
  have := upd4 (v := v) hR.2 i (by omega)
  rw [snoc_lt le v hi] at this
  exact this
theorem okL_pre {m : Nat} {v : Nat → Nat} (hm : m ≤ n) (hk : okL t (h 6) ru m le) : okL t (h 6) ru m (snoc le n v) := by
  intro k hr h1 h2 h3
  have w : ∀ x, whoL (snoc le n v) m x hr = whoL le m x hr := fun x => by
    unfold whoL
    rw [occ_snoc hm]
    cases hoc : occL le m x hr with
    | none => rfl
    | some i =>
      obtain ⟨a1, -⟩ := occ_lt hoc
      show some (snoc le n v i 0) = some (le i 0)
      rw [snoc_lt le v (by omega)]
  have e : vaL t m (snoc le n v) k hr = vaL t m le k hr := by
    funext q
    match q with
    | 0 => show t (snoc le n v k 0) 0 = t (le k 0) 0; rw [snoc_lt le v (by omega)]
    | 1 => show snoc le n v k 1 = le k 1; rw [snoc_lt le v (by omega)]
    | 2 => rfl
    | 3 => show snoc le n v k 3 - snoc le n v k 2 + 1 = le k 3 - le k 2 + 1; rw [snoc_lt le v (by omega)]
    | 4 => show (if snoc le n v k 1 = 0 then 0 else wOf t (whoL (snoc le n v) m 0 hr)) + (if snoc le n v k 1 = 1 then 0 else wOf t (whoL (snoc le n v) m 1 hr)) = (if le k 1 = 0 then 0 else wOf t (whoL le m 0 hr)) + (if le k 1 = 1 then 0 else wOf t (whoL le m 1 hr)); rw [snoc_lt le v (by omega), w, w]
    | q + 5 => show qOf t (snoc le n v k 0) (whoL (snoc le n v) m 0 hr) + qOf t (snoc le n v k 0) (whoL (snoc le n v) m 1 hr) + qOf t (snoc le n v k 0) (whoL (snoc le n v) m 2 hr) = qOf t (le k 0) (whoL le m 0 hr) + qOf t (le k 0) (whoL le m 1 hr) + qOf t (le k 0) (whoL le m 2 hr); rw [snoc_lt le v (by omega), w, w, w]
  rw [e]
  rw [snoc_lt le v (by omega)] at h2 h3
  exact hk k hr h1 h2 h3
theorem MLs_snoc {v : Nat → Nat} (hM : MLs h t n le) (hn : n < 12) (hM2 : ML2 h (n + 1) (snoc le n v)) (hl : letsT t (v 0) (v 1)) : MLs h t (n + 1) (snoc le n v) := by
  refine ⟨by omega, fun i hi => ?_, hM2.2.2⟩
  obtain ⟨m0, m1, m2, m3⟩ := hM2.2.1 i hi
  refine ⟨m0, m1, m2, m3, ?_⟩
  by_cases e : i = n
  · subst e
    rw [snoc_n]
    exact hl
  · rw [snoc_lt le v (by omega)]
    exact (hM.2.1 i (by omega)).2.2.2.2
end LE
theorem sm_judge : St_judge Rel := fun S V S' V' L' a1 a2 a3 a4 hrel => by
  obtain ⟨h1, h2, h3, ⟨h, t, ru, hH, ⟨n, le, hM, hr, hC, hR⟩, hI⟩, h5⟩ := id hrel
  obtain ⟨hs, hT, hU, ⟨c0, c1, c2, c3, c4, c5, c6⟩, hCt, hCU, ⟨d0, d1, d2, d3, d4, d5, d6⟩, hRt, hRU⟩ := id hH
  obtain ⟨r, V2, V3, e1, e2, o1, o2, -⟩ := troubles (S := S) (S' := va_up S' 0 0) (V := V) (V' := V') hs hT c4 c6 hCt hU hCU d4 d6 hRt hRU hM (hr n (Nat.le_refl _)) hC hR a1 a2 a3 a4
  refine ⟨r, V2, va_up S' 0 0, V3, ?_, ?_, ?_⟩
  · unfold fX11_judge_0
    rw [e1, bd2_s]
  · unfold fX12_judge_0
    simp only [lt_e]
    rw [e2, bd2_s]
  · rcases o1 with rfl | ⟨v, f, g, rfl⟩
    · rcases o2 with rfl | ⟨v', f', rfl⟩
      · exact R_thr hrel
      · exact ⟨h1, h2, h3, ⟨h, t, ru, hH, ⟨n, le, hM, hr, hC, RLs_row hR v' f'⟩, hI⟩, h5⟩
    · rcases o2 with rfl | ⟨v', f', rfl⟩
      · exact ⟨h1, h2, h3, ⟨h, t, ru, hH, ⟨n, le, hM, hr, CLs_mv hC v f g, hR⟩, hI⟩, h5⟩
      · exact ⟨h1, h2, h3, ⟨h, t, ru, hH, ⟨n, le, hM, hr, CLs_mv hC v f g, RLs_row hR v' f'⟩, hI⟩, h5⟩
/-- the class's side of a lease that is granted -/
theorem grantC {h : Nat → Nat} {n : Nat} {le : Nat → Nat → Nat} {v : Nat → Nat} {S : Nat → Int32} {V2 : Nat → Nat → Int32} (z : n < 12) (hC : CLs n le (S 3002) (V2 31) (V2 32) (V2 33) (V2 34) (V2 35)) (hM2 : ML2 h (n + 1) (snoc le n v)) : fX4_grant_30 S V2 (nI (v 0)) (nI (v 1)) (nI (v 2)) (nI (v 3)) = some (va_up S 3002 (nI (n + 1)), mvV V2 n v) ∧ CLs (n + 1) (snoc le n v) (nI (n + 1)) ((mvV V2 n v) 31) ((mvV V2 n v) 32) ((mvV V2 n v) 33) ((mvV V2 n v) 34) ((mvV V2 n v) 35) := by
  obtain ⟨v0, v1, v2, v3⟩ := hM2.2.1 n (by omega)
  rw [snoc_n] at v0 v1 v2 v3
  constructor
  · unfold fX4_grant_30
    rw [hC.1, if_neg (show ¬ 12 ≤ nI n from nI_ge (a := n) (b := 12) z (by decide)), mvIn (by omega) hC.1 v1 v2 v3, bd1_s]
    simp only [lt_e, nI_1]
  · have := CL2_mv (S := S) hC hM2
    exact ⟨rfl, this.1, this.2⟩
theorem sm_lease : St_lease Rel := fun S V S' V' L' a1 a2 a3 a4 hrel => by
  obtain ⟨h1, h2, ⟨r0, r1, r2⟩, ⟨h, t, ru, hH, ⟨n, le, hM, hr, hC, hR⟩, hI⟩, h5⟩ := id hrel
  obtain ⟨hs, hT, hU, ⟨c0, c1, c2, c3, c4, c5, c6⟩, hCt, hCU, ⟨d0, d1, d2, d3, d4, d5, d6⟩, hRt, hRU⟩ := id hH
  obtain ⟨r, V2, V3, e1, e2, o1, o2, o3⟩ := troubles (S := S) (S' := va_up S' 0 0) (V := V) (V' := V') hs hT c4 c6 hCt hU hCU d4 d6 hRt hRU hM (hr n (Nat.le_refl _)) hC hR a1 a2 a3 a4
  have hC2 : CLs n le (S 3002) (V2 31) (V2 32) (V2 33) (V2 34) (V2 35) := by
    rcases o1 with rfl | ⟨v, f, g, rfl⟩
    · exact hC
    · exact CLs_mv hC v f g
  have hR2 : RLs n le (S' 42) (V3 13) := by
    rcases o2 with rfl | ⟨v, f, rfl⟩
    · exact hR
    · exact RLs_row hR v f
  by_cases hz : r = 0
  · obtain ⟨z, v, f, q1, q2, q3, q4, hM2, hl, hk, hV3⟩ := o3 hz
    subst q1 q2 q3 q4
    obtain ⟨g1, g2⟩ := grantC (S := S) (V2 := V2) z hC2 hM2
    refine ⟨0, va_up S 3002 (nI (n + 1)), mvV V2 n v, va_up (va_up S' 0 0) 42 (nI (n + 1)), V3, ?_, ?_, ?_⟩
    · unfold fX11_lease_0
      rw [e1, bd2_s, if_pos hz, g1, bd2_s]
    · unfold fX12_lease_0
      simp only [lt_e]
      rw [e2, bd2_s, if_pos hz, hz, show va_up S' 0 0 42 = nI n from hR.1, nI_1]
    · have hrow : RLs (n + 1) (snoc le n v) (nI (n + 1)) (V3 13) := by
        rw [hV3]
        exact ⟨rfl, upd4 (v := v) hR.2⟩
      have hL : RLease h t ru (nI (n + 1)) ((mvV V2 n v) 31) ((mvV V2 n v) 32) ((mvV V2 n v) 33) ((mvV V2 n v) 34) ((mvV V2 n v) 35) (nI (n + 1)) (V3 13) := ⟨n + 1, snoc le n v, MLs_snoc hM z hM2 hl, fun m hm => by
        rcases Nat.lt_or_ge m (n + 1) with e | e
        · exact okL_pre (by omega) (hr m (by omega))
        · rw [show m = n + 1 by omega]; exact hk, g2, hrow⟩
      rw [hV3] at hL ⊢
      rcases o1 with rfl | ⟨v', f', g', rfl⟩
      · exact ⟨h1, h2, ⟨r0, r1, r2⟩, ⟨h, t, ru, hH, hL, hI⟩, h5⟩
      · exact ⟨h1, h2, ⟨r0, r1, r2⟩, ⟨h, t, ru, hH, hL, hI⟩, h5⟩
  · refine ⟨r, S, va_up V2 2 (upd (V2 2) 1 (V2 2 1 + 1)), va_up S' 0 0, va_up V3 6 (upd (V3 6) 1 (V3 6 1 + 1)), ?_, ?_, ?_⟩
    · unfold fX11_lease_0
      simp only [lt_e]
      rw [e1, bd2_s, if_neg hz, gd_t (by decide), gd_t (by decide)]
      rfl
    · unfold fX12_lease_0
      simp only [lt_e]
      rw [e2, bd2_s, if_neg hz, gd_t (by decide), gd_t (by decide)]
      rfl
    · have key : ∀ (A B : Nat → Nat → Int32), (A 2 = V 2) → (B 6 = V' 6) → (upd (A 2) 1 (A 2 1 + 1) 0 = upd (B 6) 1 (B 6 1 + 1) 0 ∧ upd (A 2) 1 (A 2 1 + 1) 1 = upd (B 6) 1 (B 6 1 + 1) 1 ∧ upd (A 2) 1 (A 2 1 + 1) 2 = upd (B 6) 1 (B 6 1 + 1) 2) := by
        intro A B ha hb
        rw [ha, hb, upd_ne _ _ (by decide), upd_ne _ _ (by decide), upd_same, upd_same, upd_ne _ _ (by decide), upd_ne _ _ (by decide), r1]
        exact ⟨r0, rfl, r2⟩
      rcases o1 with rfl | ⟨v, f, g, rfl⟩
      · rcases o2 with rfl | ⟨v', f', rfl⟩
        · exact ⟨h1, h2, key V2 V3 rfl rfl, ⟨h, t, ru, hH, ⟨n, le, hM, hr, hC2, hR2⟩, hI⟩, h5⟩
        · exact ⟨h1, h2, key V2 (va_up (rowR V' n v') 15 f') rfl rfl, ⟨h, t, ru, hH, ⟨n, le, hM, hr, hC2, hR2⟩, hI⟩, h5⟩
      · rcases o2 with rfl | ⟨v', f', rfl⟩
        · exact ⟨h1, h2, key (mvB V n v f g) V3 rfl rfl, ⟨h, t, ru, hH, ⟨n, le, hM, hr, hC2, hR2⟩, hI⟩, h5⟩
        · exact ⟨h1, h2, key (mvB V n v f g) (va_up (rowR V' n v') 15 f') rfl rfl, ⟨h, t, ru, hH, ⟨n, le, hM, hr, hC2, hR2⟩, hI⟩, h5⟩
