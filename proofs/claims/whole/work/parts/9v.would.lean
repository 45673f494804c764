/-! ===== a lease more ===== -/
theorem fst1_congr {f g : Nat → Bool} : ∀ (k i : Nat), (∀ j, i ≤ j → j < i + k → f j = g j) → fst1 f i k = fst1 g i k
  | 0, _, _ => rfl
  | k + 1, i, h => by
    rw [fst1, fst1, h i (Nat.le_refl _) (by omega), fst1_congr k (i + 1) (fun j h1 h2 => h j (by omega) (by omega))]
section WD
variable {h : Nat → Nat} {t : Nat → Nat → Nat} {n : Nat} {le : Nat → Nat → Nat} {ru : Nat → List Nat} {S : Nat → Int32} {V : Nat → Nat → Int32} {v : Nat → Nat}
theorem occ_snoc {m x hr : Nat} (hm : m ≤ n) : occL (snoc le n v) m x hr = occL le m x hr := by
  unfold occL
  apply fst1_congr
  intro j _ hj
  unfold covL
  rw [snoc_lt le v (by omega)]
theorem occ_out {x hr : Nat} (ho : ¬ (v 2 ≤ hr ∧ hr ≤ v 3)) : occL (snoc le n v) (n + 1) x hr = occL le n x hr := by
  rw [occ_succ, occ_snoc (Nat.le_refl _)]
  have : covL (snoc le n v) x hr n = false := by
    unfold covL
    rw [snoc_n, decide_eq_false_iff_not]
    exact fun q => ho q.2
  rw [this]
  cases occL le n x hr <;> rfl
theorem ML2_snoc (hM : MLs h t n le) (hv0 : v 0 < h 4) (hv1 : v 1 < 3) (hv2 : v 2 ≤ v 3) (hv3 : v 3 < 24) (hfree : ∀ i hr, i < n → le i 2 ≤ hr → hr ≤ le i 3 → v 2 ≤ hr → hr ≤ v 3 → le i 1 ≠ v 1 ∧ le i 0 ≠ v 0) : ML2 h (n + 1) (snoc le n v) := by
  refine ⟨by have := hM.1; omega, fun i hi => ?_, fun i j hr h1 h2 a1 a2 a3 a4 => ?_⟩
  · by_cases e : i = n
    · subst e
      rw [snoc_n]
      exact ⟨hv0, hv1, hv2, hv3⟩
    · rw [snoc_lt le v (by omega)]
      obtain ⟨q0, q1, q2, q3, -⟩ := hM.2.1 i (by omega)
      exact ⟨q0, q1, q2, q3⟩
  · rw [snoc_lt le v (show i < n by omega)] at a1 a2 ⊢
    by_cases e : j = n
    · subst e
      rw [snoc_n] at a3 a4 ⊢
      exact hfree i hr (by omega) a1 a2 a3 a4
    · rw [snoc_lt le v (show j < n by omega)] at a3 a4 ⊢
      exact hM.2.2 i j hr h1 (by omega) a1 a2 a3 a4
/-- the class's rows with one more -/
abbrev mvR (V : Nat → Nat → Int32) (n : Nat) (v : Nat → Nat) : Nat → Nat → Int32 := va_up (va_up (va_up (va_up V 31 (upd (V 31) n (nI (v 0)))) 32 (upd (V 32) n (nI (v 1)))) 33 (upd (V 33) n (nI (v 2)))) 34 (upd (V 34) n (nI (v 3)))
abbrev mvV (V : Nat → Nat → Int32) (n : Nat) (v : Nat → Nat) : Nat → Nat → Int32 := va_up (mvR V n v) 35 (fun i => if 24 * v 1 + v 2 ≤ i ∧ i ≤ 24 * v 1 + v 3 then nI n else V 35 i)
theorem mvIn (hn : n ≤ 12) (e : S 3002 = nI n) (hv1 : v 1 < 3) (hv2 : v 2 ≤ v 3) (hv3 : v 3 < 24) : fX4_moveIn_30 S V (nI (v 0)) (nI (v 1)) (nI (v 2)) (nI (v 3)) = some (mvV V n v) := by
  unfold fX4_moveIn_30
  simp (disch := omega) only [lt_e, e, gd_n, nI_cl]
  have ff := fill30 (S := S) (V := mvR V n v) (v := nI n) (k := n) (x := v 1) (f := v 2) (g := v 3) e (by omega) hv1 hv2 hv3 (upd_same _ _ _) (upd_same _ _ _) (upd_same _ _ _)
  rw [show fX4_fillCells_30 S (va_up (va_up (va_up (va_up V 31 (upd (V 31) n (nI (v 0)))) 32 (upd (va_up V 31 (upd (V 31) n (nI (v 0))) 32) n (nI (v 1)))) 33 (upd (va_up (va_up V 31 (upd (V 31) n (nI (v 0)))) 32 (upd (va_up V 31 (upd (V 31) n (nI (v 0))) 32) n (nI (v 1))) 33) n (nI (v 2)))) 34 (upd (va_up (va_up (va_up V 31 (upd (V 31) n (nI (v 0)))) 32 (upd (va_up V 31 (upd (V 31) n (nI (v 0))) 32) n (nI (v 1)))) 33 (upd (va_up (va_up V 31 (upd (V 31) n (nI (v 0)))) 32 (upd (va_up V 31 (upd (V 31) n (nI (v 0))) 32) n (nI (v 1))) 33) n (nI (v 2))) 34) n (nI (v 3)))) (nI n) = _ from ff, bd1_s]
  rfl
theorem CL2_mv (hC : CLs n le (S 3002) (V 31) (V 32) (V 33) (V 34) (V 35)) (hM2 : ML2 h (n + 1) (snoc le n v)) : CL2 (n + 1) (snoc le n v) ((mvV V n v) 31) ((mvV V n v) 32) ((mvV V n v) 33) ((mvV V n v) 34) ((mvV V n v) 35) := by
  have hn := hM2.1
  obtain ⟨v0, v1, v2, v3⟩ := hM2.2.1 n (by omega)
  rw [snoc_n] at v0 v1 v2 v3
  refine ⟨fun i hi => ?_, fun x hr hx hh => ?_⟩
  · show upd (V 31) n (nI (v 0)) i = _ ∧ upd (V 32) n (nI (v 1)) i = _ ∧ upd (V 33) n (nI (v 2)) i = _ ∧ upd (V 34) n (nI (v 3)) i = _
    by_cases e : i = n
    · subst e
      rw [upd_same, upd_same, upd_same, upd_same, snoc_n]
      exact ⟨rfl, rfl, rfl, rfl⟩
    · rw [upd_ne _ _ e, upd_ne _ _ e, upd_ne _ _ e, upd_ne _ _ e, snoc_lt le v (by omega)]
      exact hC.2.1 i (by omega)
  · show (if 24 * v 1 + v 2 ≤ 24 * x + hr ∧ 24 * x + hr ≤ 24 * v 1 + v 3 then nI n else V 35 (24 * x + hr)) = _
    rw [occ_succ, occ_snoc (Nat.le_refl _), hC.2.2 x hr hx hh]
    by_cases c : covL (snoc le n v) x hr n = true
    · have c2 : v 1 = x ∧ v 2 ≤ hr ∧ hr ≤ v 3 := by
        have := of_decide_eq_true c
        rwa [snoc_n] at this
      obtain ⟨c3, c4, c5⟩ := c2
      have hno : occL le n x hr = none := occ_none.mpr (fun ⟨i, i1, i2, i3, i4⟩ => by
        have := hM2.2.2 i n hr i1 (by omega)
        rw [snoc_lt le v i1, snoc_n] at this
        exact (this i3 i4 c4 c5).1 (i2.trans c3.symm))
      rw [hno, if_pos (by subst c3; omega)]
      show _ = (match (if covL (snoc le n v) x hr n = true then some n else none) with
        | some i => nI i
        | none => -1)
      rw [if_pos c]
    · have c2 : ¬ (24 * v 1 + v 2 ≤ 24 * x + hr ∧ 24 * x + hr ≤ 24 * v 1 + v 3) := fun q => by
        have : v 1 = x := by omega
        refine c (decide_eq_true ?_)
        rw [snoc_n]
        subst this
        omega
      rw [if_neg c2]
      cases occL le n x hr with
      | some j => rfl
      | none =>
        show -1 = (match (if covL (snoc le n v) x hr n = true then some n else none) with
          | some i => nI i
          | none => -1)
        rw [if_neg c]
end WD
theorem w28 (V : Nat → Nat → Int32) (f g f2 g2 : Nat → Int32) : va_up (va_up (va_up (va_up V 28 f) 29 g) 28 f2) 29 g2 = va_up (va_up V 28 f2) 29 g2 := by
  funext j
  simp only [va_up_at]
  by_cases h1 : j = 29
  · simp [h1]
  · by_cases h2 : j = 28
    · simp [h2]
    · simp [h1, h2]
