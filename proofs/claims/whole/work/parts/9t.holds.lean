section HS
variable {h : Nat → Nat} {t : Nat → Nat → Nat} {n : Nat} {le : Nat → Nat → Nat} {ru : Nat → List Nat} {S : Nat → Int32} {V : Nat → Nat → Int32}
theorem hs31 (hs : MHs h) (hT : MHt h t) (e7 : S 7 = nI (h 6)) (hRt : RHt h t (V 1) (V 2)) (hM : ML2 h n le) (hR : RL2 n le (V 13)) (hU : MU (h 6) ru) (hRU : RU (h 6) ru (V 4) (V 3)) {E : Int32 → Int32 → Int32 → (Nat → Nat → Int32) → Option (Int32 × (Nat → Nat → Int32))} {k hr : Nat} (hk : k < n) (hh : hr < 24) : ∀ (j r m : Nat) (f : Nat → Int32), r + j = h 6 → j < m → (∃ f2, fX12_holds_0_13_L31 E S m (nI n) (nI k) (nI hr) (nI r) (va_up V 15 f) = E (nI n) (nI k) (nI hr) (va_up V 15 f2) ∧ ∀ q, r ≤ q → q < h 6 → topR (vaL t n le k hr) ru q ≠ 0) ∨ (∃ f2, fX12_holds_0_13_L31 E S m (nI n) (nI k) (nI hr) (nI r) (va_up V 15 f) = some (0, va_up V 15 f2) ∧ ∃ q, q < h 6 ∧ topR (vaL t n le k hr) ru q = 0) := by
  have h6 := hs.2.2.2.2.2.2
  intro j
  induction j with
  | zero =>
    intro r m f c1 c2
    obtain ⟨m, rfl⟩ : ∃ z, m = z + 1 := ⟨m - 1, by omega⟩
    refine Or.inl ⟨f, ?_, fun q h1 h2 => by omega⟩
    rw [fX12_holds_0_13_L31, e7, if_pos (nI_le (by omega) (by omega))]
  | succ j ih =>
    intro r m f c1 c2
    obtain ⟨m, rfl⟩ : ∃ z, m = z + 1 := ⟨m - 1, by omega⟩
    obtain ⟨f2, v⟩ := reckR hs hT hRt hM hR hU hRU hk hh (show r < h 6 by omega) f
    have st : fX12_holds_0_13_L31 E S (m + 1) (nI n) (nI k) (nI hr) (nI r) (va_up V 15 f) = if topR (vaL t n le k hr) ru r = 0 then some (0, va_up V 15 f2) else fX12_holds_0_13_L31 E S m (nI n) (nI k) (nI hr) (nI (r + 1)) (va_up V 15 f2) := by
      rw [fX12_holds_0_13_L31, e7, if_neg (nI_ge (a := r) (b := h 6) (by omega) (by omega)), gd_n r 4 (by omega) (by decide), nI_cl r (by omega), va_up_ne _ _ (show (3 : Nat) ≠ 15 by decide), v, bd2_s]
      simp only [lt_e, nI_1]
    rw [st]
    by_cases p : topR (vaL t n le k hr) ru r = 0
    · rw [if_pos p]
      exact Or.inr ⟨f2, rfl, r, by omega, p⟩
    · rw [if_neg p]
      rcases ih (r + 1) m f2 (by omega) (by omega) with ⟨f3, e1, e2⟩ | e
      · refine Or.inl ⟨f3, e1, fun q h1 h2 => ?_⟩
        by_cases e : q = r
        · subst e; exact p
        · exact e2 q (by omega) h2
      · exact Or.inr e
theorem hs16 (hs : MHs h) (hT : MHt h t) (e7 : S 7 = nI (h 6)) (hRt : RHt h t (V 1) (V 2)) (hM : ML2 h n le) (hR : RL2 n le (V 13)) (hU : MU (h 6) ru) (hRU : RU (h 6) ru (V 4) (V 3)) {E : Int32 → Int32 → (Nat → Nat → Int32) → Option (Int32 × (Nat → Nat → Int32))} {k : Nat} (hk : k < n) : ∀ (j hr m : Nat) (f : Nat → Int32), hr + j = le k 3 + 1 → j < m → (∃ f2, fX12_holds_0_13_L16 E S m (nI n) (nI k) (nI hr) (va_up V 15 f) = E (nI n) (nI k) (va_up V 15 f2) ∧ ∀ q, hr ≤ q → q ≤ le k 3 → okR (vaL t n le k q) (h 6) ru) ∨ (∃ f2, fX12_holds_0_13_L16 E S m (nI n) (nI k) (nI hr) (va_up V 15 f) = some (0, va_up V 15 f2) ∧ ∃ q, hr ≤ q ∧ q ≤ le k 3 ∧ ¬ okR (vaL t n le k q) (h 6) ru) := by
  have h6 := hs.2.2.2.2.2.2
  have hn := hM.1
  obtain ⟨m0, m1, m2, m3⟩ := hM.2.1 k hk
  obtain ⟨r0, r1, r2, r3⟩ := hR k hk
  intro j
  induction j with
  | zero =>
    intro hr m f c1 c2
    obtain ⟨m, rfl⟩ : ∃ z, m = z + 1 := ⟨m - 1, by omega⟩
    refine Or.inl ⟨f, ?_, fun q h1 h2 => by omega⟩
    rw [fX12_holds_0_13_L16]
    simp only [lt_e]
    rw [nI_43, gd_n (4 * k + 3) 52 (by omega) (by decide), nI_cl (4 * k + 3) (by omega), va_up_ne _ _ (show (13 : Nat) ≠ 15 by decide), r3, if_pos (nI_lt (by omega) (by omega))]
  | succ j ih =>
    intro hr m f c1 c2
    obtain ⟨m, rfl⟩ : ∃ z, m = z + 1 := ⟨m - 1, by omega⟩
    rw [fX12_holds_0_13_L16]
    simp only [lt_e, bk_e]
    rw [nI_43, gd_n (4 * k + 3) 52 (by omega) (by decide), nI_cl (4 * k + 3) (by omega), va_up_ne _ _ (show (13 : Nat) ≠ 15 by decide), r3, if_neg (nI_nlt (by omega) (by omega))]
    have L := hs31 (E := fun x32 x33 x34 V35 => fX12_holds_0_13_L16 E S m x32 x33 (x34 + 1) V35) (S := S) hs hT e7 hRt hM hR hU hRU hk (hr := hr) (by omega) (h 6) 0 FU f (by omega) (by unfold FU; omega)
    rw [nI_0] at L
    rcases L with ⟨f2, e1, e2⟩ | ⟨f2, e1, q, e2, e3⟩
    · rw [e1, nI_1]
      have okh : okR (vaL t n le k hr) (h 6) ru := fun q hq => e2 q (Nat.zero_le _) hq
      rcases ih (hr + 1) m f2 (by omega) (by omega) with ⟨f3, d1, d2⟩ | ⟨f3, d1, q, d2, d3, d4⟩
      · refine Or.inl ⟨f3, d1, fun q h1 h2 => ?_⟩
        by_cases e : q = hr
        · subst e; exact okh
        · exact d2 q (by omega) h2
      · exact Or.inr ⟨f3, d1, q, by omega, d3, d4⟩
    · rw [e1]
      exact Or.inr ⟨f2, rfl, hr, Nat.le_refl _, by omega, fun ok => ok q e2 e3⟩
theorem hs2 (hs : MHs h) (hT : MHt h t) (e7 : S 7 = nI (h 6)) (hRt : RHt h t (V 1) (V 2)) (hM : ML2 h n le) (hR : RL2 n le (V 13)) (hU : MU (h 6) ru) (hRU : RU (h 6) ru (V 4) (V 3)) : ∀ (j k m : Nat) (f : Nat → Int32), k + j = n → j < m → (∃ f2, fX12_holds_0_13_L2 S m (nI n) (nI k) (va_up V 15 f) = some (1, va_up V 15 f2) ∧ ∀ q hr, k ≤ q → q < n → le q 2 ≤ hr → hr ≤ le q 3 → okR (vaL t n le q hr) (h 6) ru) ∨ (∃ f2, fX12_holds_0_13_L2 S m (nI n) (nI k) (va_up V 15 f) = some (0, va_up V 15 f2) ∧ ∃ q hr, q < n ∧ le q 2 ≤ hr ∧ hr ≤ le q 3 ∧ ¬ okR (vaL t n le q hr) (h 6) ru) := by
  have hn := hM.1
  intro j
  induction j with
  | zero =>
    intro k m f c1 c2
    obtain ⟨m, rfl⟩ : ∃ z, m = z + 1 := ⟨m - 1, by omega⟩
    refine Or.inl ⟨f, ?_, fun q hr h1 h2 => by omega⟩
    rw [fX12_holds_0_13_L2, if_pos (nI_le (by omega) (by omega))]
  | succ j ih =>
    intro k m f c1 c2
    obtain ⟨m, rfl⟩ : ∃ z, m = z + 1 := ⟨m - 1, by omega⟩
    obtain ⟨m0, m1, m2, m3⟩ := hM.2.1 k (by omega)
    obtain ⟨r0, r1, r2, r3⟩ := hR k (by omega)
    rw [fX12_holds_0_13_L2, if_neg (nI_ge (a := k) (b := n) (by omega) (by omega))]
    simp only [lt_e, bk_e]
    rw [nI_42, gd_n (4 * k + 2) 52 (by omega) (by decide), nI_cl (4 * k + 2) (by omega), va_up_ne _ _ (show (13 : Nat) ≠ 15 by decide), r2]
    rcases hs16 (E := fun x41 x42 V43 => fX12_holds_0_13_L2 S m x41 (x42 + 1) V43) (S := S) hs hT e7 hRt hM hR hU hRU (show k < n by omega) (le k 3 + 1 - le k 2) (le k 2) FU f (by omega) (by unfold FU; omega) with ⟨f2, e1, e2⟩ | ⟨f2, e1, q, e2, e3, e4⟩
    · rw [e1, nI_1]
      rcases ih (k + 1) m f2 (by omega) (by omega) with ⟨f3, d1, d2⟩ | e
      · refine Or.inl ⟨f3, d1, fun q hr h1 h2 h3 h4 => ?_⟩
        by_cases e : q = k
        · subst e; exact e2 hr h3 h4
        · exact d2 q hr (by omega) h2 h3 h4
      · exact Or.inr e
    · rw [e1]
      exact Or.inr ⟨f2, rfl, k, q, by omega, e2, e3, e4⟩
theorem holdsR (hs : MHs h) (hT : MHt h t) (e7 : S 7 = nI (h 6)) (hRt : RHt h t (V 1) (V 2)) (hM : ML2 h n le) (hR : RL2 n le (V 13)) (hU : MU (h 6) ru) (hRU : RU (h 6) ru (V 4) (V 3)) : (∃ f2, fX12_holds_0_13 S V (nI n) = some (1, va_up V 15 f2) ∧ okL t (h 6) ru n le) ∨ (∃ f2, fX12_holds_0_13 S V (nI n) = some (0, va_up V 15 f2) ∧ ¬ okL t (h 6) ru n le) := by
  have hn := hM.1
  have L := hs2 (S := S) (V := V) hs hT e7 hRt hM hR hU hRU n 0 FU (V 15) (by omega) (by unfold FU; omega)
  rw [nI_0, va_up_id] at L
  unfold fX12_holds_0_13
  rcases L with ⟨f2, e1, e2⟩ | ⟨f2, e1, q, hr, e2, e3, e4, e5⟩
  · exact Or.inl ⟨f2, e1, fun k hr h1 h2 h3 => e2 k hr (Nat.zero_le _) h1 h2 h3⟩
  · exact Or.inr ⟨f2, e1, fun ok => e5 (ok q hr e2 e3 e4)⟩
end HS
