section WE2
variable {h : Nat → Nat} {t : Nat → Nat → Nat} {n : Nat} {le : Nat → Nat → Nat} {ru : Nat → List Nat} {S : Nat → Int32} {V : Nat → Nat → Int32}
/-- with the cells of n leases: the hours from hr to g -/
theorem wdC27 (hs : MHs h) (hT : MHt h t) (e6 : S 306 = nI (h 6)) (hCt : CHt h t (V 4) (V 5) (V 6) (V 7) (V 8)) (hU : MU (h 6) ru) (hCU : CU (h 6) ru (V 9) (V 10)) (hM : ML2 h n le) (hC : CL2 n le (V 31) (V 32) (V 33) (V 34) (V 35)) {E : Int32 → (Nat → Nat → Int32) → Option (Int32 × (Nat → Nat → Int32))} {l : Nat} (hl : l < 24) : ∀ (j hr m : Nat) (f g : Nat → Int32), hr + j = l + 1 → j + 1 < m → ∃ f2 g2 b, fX4_rulesWouldHold_30_L27 E S m (nI l) 1 (nI hr) (va_up (va_up V 28 f) 29 g) = E b (va_up (va_up V 28 f2) 29 g2) ∧ ((b = 1 ∧ ∀ q x k, hr ≤ q → q ≤ l → x < 3 → occL le n x q = some k → okR (vaL t n le k q) (h 6) ru) ∨ (b = 0 ∧ ∃ q x k, hr ≤ q ∧ q ≤ l ∧ x < 3 ∧ occL le n x q = some k ∧ ¬ okR (vaL t n le k q) (h 6) ru)) := by
  intro j
  induction j with
  | zero =>
    intro hr m f g c1 c2
    obtain ⟨m, rfl⟩ : ∃ z, m = z + 1 := ⟨m - 1, by omega⟩
    refine ⟨f, g, 1, ?_, Or.inl ⟨rfl, fun q x k h1 h2 => by omega⟩⟩
    rw [fX4_rulesWouldHold_30_L27, if_pos (nI_lt (by omega) (by omega))]
  | succ j ih =>
    intro hr m f g c1 c2
    obtain ⟨m, rfl⟩ : ∃ z, m = z + 1 := ⟨m - 1, by omega⟩
    have stop : ∀ (y : Int32) (U : Nat → Nat → Int32), fX4_rulesWouldHold_30_L27 E S m (nI l) 0 y U = E 0 U := fun y U => by
      obtain ⟨m, rfl⟩ : ∃ z, m = z + 1 := ⟨m - 1, by omega⟩
      rw [fX4_rulesWouldHold_30_L27]
      split
      · rfl
      · rw [if_pos rfl]
    rw [fX4_rulesWouldHold_30_L27, if_neg (nI_nlt (by omega) (by omega)), if_neg (show ¬ (1 : Int32) = 0 by decide)]
    simp only [lt_e, bk_e, nI_1]
    obtain ⟨V1, b1, e1, ⟨f1, g1, v1⟩, k1⟩ := ruleIn (S := S) (V := va_up (va_up V 28 f) 29 g) (x := 0) (hr := hr) hs hT e6 hCt hU hCU hM hC (by decide) (by omega)
    rw [w28] at v1
    subst v1
    rw [show fX4_rulesHoldIn_30 S (va_up (va_up V 28 f) 29 g) 0 (nI hr) = _ from e1, bd2_s]
    rcases k1 with ⟨rfl, k1⟩ | ⟨rfl, k1, o1, o2⟩
    · rw [if_neg (show ¬ (1 : Int32) = 0 by decide)]
      obtain ⟨V2, b2, e2, ⟨f2, g2, v2⟩, k2⟩ := ruleIn (S := S) (V := va_up (va_up V 28 f1) 29 g1) (x := 1) (hr := hr) hs hT e6 hCt hU hCU hM hC (by decide) (by omega)
      rw [w28] at v2
      subst v2
      rw [show fX4_rulesHoldIn_30 S (va_up (va_up V 28 f1) 29 g1) 1 (nI hr) = _ from e2, bd2_s]
      rcases k2 with ⟨rfl, k2⟩ | ⟨rfl, k2, o1, o2⟩
      · rw [if_neg (show ¬ (1 : Int32) = 0 by decide)]
        obtain ⟨V3, b3, e3, ⟨f3, g3, v3⟩, k3⟩ := ruleIn (S := S) (V := va_up (va_up V 28 f2) 29 g2) (x := 2) (hr := hr) hs hT e6 hCt hU hCU hM hC (by decide) (by omega)
        rw [w28] at v3
        subst v3
        rw [show fX4_rulesHoldIn_30 S (va_up (va_up V 28 f2) 29 g2) 2 (nI hr) = _ from e3, bd2_s]
        rcases k3 with ⟨rfl, k3⟩ | ⟨rfl, k3, o1, o2⟩
        · rw [if_neg (show ¬ (1 : Int32) = 0 by decide)]
          obtain ⟨f4, g4, b, d1, d2⟩ := ih (hr + 1) m f3 g3 (by omega) (by omega)
          refine ⟨f4, g4, b, d1, ?_⟩
          rcases d2 with ⟨rfl, d2⟩ | ⟨rfl, q, x, k, d2, d3, d4, d5, d6⟩
          · refine Or.inl ⟨rfl, fun q x k h1 h2 h3 h4 => ?_⟩
            by_cases e : q = hr
            · subst e
              rcases (show x = 0 ∨ x = 1 ∨ x = 2 by omega) with rfl | rfl | rfl
              · exact k1 k h4
              · exact k2 k h4
              · exact k3 k h4
            · exact d2 q x k (by omega) h2 h3 h4
          · exact Or.inr ⟨rfl, q, x, k, by omega, d3, d4, d5, d6⟩
        · rw [if_pos rfl, stop]
          exact ⟨f3, g3, 0, rfl, Or.inr ⟨rfl, hr, 2, k3, Nat.le_refl _, by omega, by decide, o1, o2⟩⟩
      · rw [if_pos rfl, stop]
        exact ⟨f2, g2, 0, rfl, Or.inr ⟨rfl, hr, 1, k2, Nat.le_refl _, by omega, by decide, o1, o2⟩⟩
    · rw [if_pos rfl, stop]
      exact ⟨f1, g1, 0, rfl, Or.inr ⟨rfl, hr, 0, k1, Nat.le_refl _, by omega, by decide, o1, o2⟩⟩
variable {v : Nat → Nat}
/-- without the hours of the new one nothing changes -/
theorem vaL_out {k hr : Nat} (hk : k < n) (ho : ¬ (v 2 ≤ hr ∧ hr ≤ v 3)) : vaL t (n + 1) (snoc le n v) k hr = vaL t n le k hr := by
  have w : ∀ x, whoL (snoc le n v) (n + 1) x hr = whoL le n x hr := fun x => by
    unfold whoL
    rw [occ_out ho]
    cases hoc : occL le n x hr with
    | none => rfl
    | some i =>
      obtain ⟨h1, -⟩ := occ_lt hoc
      show some (snoc le n v i 0) = some (le i 0)
      rw [snoc_lt le v h1]
  funext q
  match q with
  | 0 => show t (snoc le n v k 0) 0 = t (le k 0) 0; rw [snoc_lt le v hk]
  | 1 => show snoc le n v k 1 = le k 1; rw [snoc_lt le v hk]
  | 2 => rfl
  | 3 => show snoc le n v k 3 - snoc le n v k 2 + 1 = le k 3 - le k 2 + 1; rw [snoc_lt le v hk]
  | 4 => show (if snoc le n v k 1 = 0 then 0 else wOf t (whoL (snoc le n v) (n + 1) 0 hr)) + (if snoc le n v k 1 = 1 then 0 else wOf t (whoL (snoc le n v) (n + 1) 1 hr)) = (if le k 1 = 0 then 0 else wOf t (whoL le n 0 hr)) + (if le k 1 = 1 then 0 else wOf t (whoL le n 1 hr)); rw [snoc_lt le v hk, w, w]
  | q + 5 => show qOf t (snoc le n v k 0) (whoL (snoc le n v) (n + 1) 0 hr) + qOf t (snoc le n v k 0) (whoL (snoc le n v) (n + 1) 1 hr) + qOf t (snoc le n v k 0) (whoL (snoc le n v) (n + 1) 2 hr) = qOf t (le k 0) (whoL le n 0 hr) + qOf t (le k 0) (whoL le n 1 hr) + qOf t (le k 0) (whoL le n 2 hr); rw [snoc_lt le v hk, w, w, w]
/-- the hours of the new one are all that must be looked at -/
theorem okL_snoc (hM2 : ML2 h (n + 1) (snoc le n v)) (hold : okL t (h 6) ru n le) : okL t (h 6) ru (n + 1) (snoc le n v) ↔ ∀ q x k, v 2 ≤ q → q ≤ v 3 → x < 3 → occL (snoc le n v) (n + 1) x q = some k → okR (vaL t (n + 1) (snoc le n v) k q) (h 6) ru := by
  constructor
  · intro ok q x k h1 h2 h3 h4
    obtain ⟨a1, a2, a3, a4⟩ := occ_lt h4
    exact ok k q a1 a3 a4
  · intro hh k hr h1 h2 h3
    by_cases c : v 2 ≤ hr ∧ hr ≤ v 3
    · obtain ⟨m0, m1, m2, m3⟩ := hM2.2.1 k h1
      refine hh hr (snoc le n v k 1) k c.1 c.2 m1 ?_
      cases ho : occL (snoc le n v) (n + 1) (snoc le n v k 1) hr with
      | none => exact absurd ⟨k, h1, rfl, h2, h3⟩ (occ_none.mp ho)
      | some i =>
        obtain ⟨a1, a2, a3, a4⟩ := occ_lt ho
        rcases Nat.lt_trichotomy i k with e | e | e
        · exact absurd a2 (hM2.2.2 i k hr e h1 a3 a4 h2 h3).1
        · rw [e]
        · exact absurd a2.symm (hM2.2.2 k i hr e a1 h2 h3 a3 a4).1
    · have hk : k < n := by
        rcases Nat.lt_or_ge k n with e | e
        · exact e
        · have : k = n := by omega
          subst this
          rw [snoc_n] at h2 h3
          exact absurd ⟨h2, h3⟩ c
      rw [vaL_out hk c]
      rw [snoc_lt le v hk] at h2 h3
      exact hold k hr hk h2 h3
end WE2
