abbrev mvB (V : Nat → Nat → Int32) (n : Nat) (v : Nat → Nat) (f g : Nat → Int32) : Nat → Nat → Int32 := va_up (va_up (va_up (mvR V n v) 35 (V 35)) 28 f) 29 g
theorem up35 (M : Nat → Nat → Int32) (c c2 f g : Nat → Int32) : va_up (va_up (va_up (va_up M 35 c) 28 f) 29 g) 35 c2 = va_up (va_up (va_up M 35 c2) 28 f) 29 g := by
  funext j
  simp only [va_up_at]
  by_cases h1 : j = 35
  · simp [h1]
  · by_cases h2 : j = 29
    · simp [h2]
    · by_cases h3 : j = 28
      · simp [h3]
      · simp [h1, h2, h3]
section WF
variable {h : Nat → Nat} {t : Nat → Nat → Nat} {n : Nat} {le : Nat → Nat → Nat} {ru : Nat → List Nat} {S : Nat → Int32} {V : Nat → Nat → Int32} {v : Nat → Nat}
theorem wouldC (hs : MHs h) (hT : MHt h t) (e6 : S 306 = nI (h 6)) (hCt : CHt h t (V 4) (V 5) (V 6) (V 7) (V 8)) (hU : MU (h 6) ru) (hCU : CU (h 6) ru (V 9) (V 10)) (hM : MLs h t n le) (hr : okL t (h 6) ru n le) (hC : CLs n le (S 3002) (V 31) (V 32) (V 33) (V 34) (V 35)) (hM2 : ML2 h (n + 1) (snoc le n v)) : ∃ V2 b, fX4_rulesWouldHold_30 S V (nI (v 0)) (nI (v 1)) (nI (v 2)) (nI (v 3)) = some (b, V2) ∧ (V2 = V ∨ ∃ f g, V2 = mvB V n v f g) ∧ ((b = 1 ∧ okL t (h 6) ru (n + 1) (snoc le n v)) ∨ (b = 0 ∧ ¬ okL t (h 6) ru (n + 1) (snoc le n v))) := by
  have hn := hM.1
  obtain ⟨v0, v1, v2, v3⟩ := hM2.2.1 n (by omega)
  rw [snoc_n] at v0 v1 v2 v3
  unfold fX4_rulesWouldHold_30
  rw [e6]
  by_cases z : h 6 = 0
  · rw [if_pos (by rw [z]; exact nI_0)]
    exact ⟨V, 1, rfl, Or.inl rfl, Or.inl ⟨rfl, fun k hr _ _ _ r hr2 => by omega⟩⟩
  · rw [if_neg (nI_ne0 (by omega) (by have := hs.2.2.2.2.2.2; omega)), mvIn hn hC.1 v1 v2 v3, bd1_s]
    simp only [bk_e]
    have hC2 := CL2_mv (S := S) hC hM2
    obtain ⟨f, g, b, e1, e2⟩ := wdC27 (S := S) (V := mvV V n v) (n := n + 1) (le := snoc le n v) (E := fun x35 V36 => bd1 (fX4_moveOut_30 S V36) (fun V37 => gd (isb x35) (some (x35, V37)))) hs hT e6 hCt hU hCU hM2 hC2 v3 (v 3 + 1 - v 2) (v 2) FU ((mvV V n v) 28) ((mvV V n v) 29) (by omega) (by unfold FU; omega)
    rw [va_up_id, va_up_id] at e1
    have bb : isb b = true := by
      rcases e2 with ⟨b1, -⟩ | ⟨b1, -⟩ <;> (rw [b1]; decide)
    have ff := fill30 (S := S) (V := va_up (va_up (mvV V n v) 28 f) 29 g) (v := -1) (k := n) (x := v 1) (f := v 2) (g := v 3) hC.1 (by omega) v1 v2 v3 (upd_same _ _ _) (upd_same _ _ _) (upd_same _ _ _)
    have cells : (fun i => if 24 * v 1 + v 2 ≤ i ∧ i ≤ 24 * v 1 + v 3 then (-1 : Int32) else (va_up (va_up (mvV V n v) 28 f) 29 g) 35 i) = V 35 := by
      funext i
      by_cases c : 24 * v 1 + v 2 ≤ i ∧ i ≤ 24 * v 1 + v 3
      · rw [if_pos c]
        have hno : occL le n (v 1) (i - 24 * v 1) = none := occ_none.mpr (fun ⟨j, i1, i2, i3, i4⟩ => by
          have := hM2.2.2 j n (i - 24 * v 1) i1 (by omega)
          rw [snoc_lt le v i1, snoc_n] at this
          exact (this i3 i4 (by omega) (by omega)).1 i2)
        have := hC.2.2 (v 1) (i - 24 * v 1) v1 (by omega)
        rw [hno, show 24 * v 1 + (i - 24 * v 1) = i by omega] at this
        exact this.symm
      · rw [if_neg c]
        show (if 24 * v 1 + v 2 ≤ i ∧ i ≤ 24 * v 1 + v 3 then nI n else V 35 i) = V 35 i
        rw [if_neg c]
    rw [cells, up35] at ff
    refine ⟨mvB V n v f g, b, ?_, Or.inr ⟨f, g, rfl⟩, ?_⟩
    · rw [e1]
      unfold fX4_moveOut_30
      rw [ff, bd1_s, bd1_s, gd_t bb]
    · rw [okL_snoc hM2 hr]
      rcases e2 with ⟨b1, b2⟩ | ⟨b1, q, x, k, c1, c2, c3, c4, c5⟩
      · exact Or.inl ⟨b1, fun q x k h1 h2 h3 h4 => b2 q x k h1 h2 h3 h4⟩
      · exact Or.inr ⟨b1, fun hh => c5 (hh q x k c1 c2 c3 c4)⟩
end WF
