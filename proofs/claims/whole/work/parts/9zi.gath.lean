/-! ===== the hours of some ===== -/
def hO (bT : Nat → Nat) (s : Nat) : Nat → Nat
  | 0 => 0
  | k + 1 => hO bT s k ||| (if s.testBit k = true then bT k else 0)
theorem hO_tb (bT : Nat → Nat) (s b : Nat) : ∀ k, (hO bT s k).testBit b = true ↔ ∃ a, a < k ∧ s.testBit a = true ∧ (bT a).testBit b = true
  | 0 => by
    constructor
    · intro h
      rw [hO, Nat.zero_testBit] at h
      cases h
    · rintro ⟨a, h, -⟩
      omega
  | k + 1 => by
    rw [hO, Nat.testBit_or, Bool.or_eq_true, hO_tb bT s b k]
    constructor
    · rintro (⟨a, h1, h2⟩ | h)
      · exact ⟨a, by omega, h2⟩
      · by_cases e : s.testBit k = true
        · rw [if_pos e] at h
          exact ⟨k, by omega, e, h⟩
        · rw [if_neg e, Nat.zero_testBit] at h
          cases h
    · rintro ⟨a, h1, h2, h3⟩
      by_cases e : a = k
      · subst e
        exact Or.inr (by rw [if_pos h2]; exact h3)
      · exact Or.inl ⟨a, by omega, h2, h3⟩
theorem hO_lt {bT : Nat → Nat} (hb : ∀ a, a < 6 → bT a < 2 ^ 24) (s : Nat) : ∀ k, k ≤ 6 → hO bT s k < 2 ^ 24
  | 0, _ => (by decide : 0 < 2 ^ 24)
  | k + 1, hk => by
    rw [hO]
    refine or_lt (hO_lt hb s k (by omega)) ?_
    split
    · exact hb k (by omega)
    · decide
theorem tb_add {t s a : Nat} (hs : s < 2 ^ t) : (2 ^ t + s).testBit a = (decide (a = t) || s.testBit a) := by
  rw [show 2 ^ t + s = 2 ^ t * 1 + s by omega, Nat.two_pow_add_eq_or_of_lt hs, Nat.testBit_or, Nat.mul_one, Nat.testBit_two_pow]
  congr 1
  rw [decide_eq_decide]
  exact ⟨fun h => h.symm, fun h => h.symm⟩
theorem hO_add {bT : Nat → Nat} {t s : Nat} (ht : t < 6) (hs : s < 2 ^ t) : hO bT (2 ^ t + s) 6 = hO bT s 6 ||| bT t := by
  apply Nat.eq_of_testBit_eq
  intro b
  rw [Bool.eq_iff_iff, Nat.testBit_or, Bool.or_eq_true, hO_tb, hO_tb]
  constructor
  · rintro ⟨a, h1, h2, h3⟩
    rw [tb_add hs, Bool.or_eq_true, decide_eq_true_iff] at h2
    rcases h2 with h2 | h2
    · subst h2; exact Or.inr h3
    · exact Or.inl ⟨a, h1, h2, h3⟩
  · rintro (⟨a, h1, h2, h3⟩ | h)
    · exact ⟨a, h1, by rw [tb_add hs, h2]; simp, h3⟩
    · exact ⟨t, ht, by rw [tb_add hs]; simp, h⟩
section GH
variable {h : Nat → Nat} {t : Nat → Nat → Nat} {n : Nat} {le : Nat → Nat → Nat} {S : Nat → Int32} {V : Nat → Nat → Int32}
theorem gh31 {bT : Nat → Nat} {k : Nat} (hk : k < 6) {E : Int32 → (Nat → Nat → Int32) → Option (Nat → Nat → Int32)} : ∀ (j s f : Nat) (u : Nat → Int32), s + j = 2 ^ k → j < f → (∀ q, q < 2 ^ k + s → u q = nI (hO bT q 6)) → ∃ u2, fX7_gatherHours_59_L31 E S f (nI k) (nI (bT k)) (nI (2 ^ k)) (nI s) (va_up V 60 u) = E (nI k) (va_up V 60 u2) ∧ ∀ q, q < 2 ^ (k + 1) → u2 q = nI (hO bT q 6) := by
  have h32 : 2 ^ k ≤ 2 ^ 5 := Nat.pow_le_pow_right (by decide) (by omega)
  have e32 : (2 : Nat) ^ 5 = 32 := by decide
  have hs1 : 2 ^ (k + 1) = 2 ^ k + 2 ^ k := by rw [Nat.pow_succ]; omega
  intro j
  induction j with
  | zero =>
    intro s f u c1 c2 c3
    obtain ⟨f, rfl⟩ : ∃ z, f = z + 1 := ⟨f - 1, by omega⟩
    refine ⟨u, ?_, fun q hq => c3 q (by omega)⟩
    rw [fX7_gatherHours_59_L31, if_pos (nI_le (by omega) (by omega))]
  | succ j ih =>
    intro s f u c1 c2 c3
    obtain ⟨f, rfl⟩ : ∃ z, f = z + 1 := ⟨f - 1, by omega⟩
    obtain ⟨u2, e1, e2⟩ := ih (s + 1) f (upd u (2 ^ k + s) (nI (hO bT (2 ^ k + s) 6))) (by omega) (by omega) (fun q hq => by
      by_cases e : q = 2 ^ k + s
      · rw [e, upd_same]
      · rw [upd_ne _ _ e]
        exact c3 q (by omega))
    refine ⟨u2, ?_, e2⟩
    rw [fX7_gatherHours_59_L31, if_neg (nI_ge (a := s) (b := 2 ^ k) (by omega) (by omega)), gd_n s 64 (by omega) (by decide), nI_cl s (by omega)]
    simp only [lt_e, va_up_self, va_up_up, nI_add, nI_1]
    rw [gd_n (2 ^ k + s) 64 (by omega) (by decide), nI_cl (2 ^ k + s) (by omega), c3 s (by omega), fa_or, ← hO_add hk (by omega)]
    exact e1
theorem gh9 (h46 : h 4 ≤ 6) (hM : MLs h t n le) (hC : CLs n le (S 3002) (V 31) (V 32) (V 33) (V 34) (V 35)) : ∀ (j k f : Nat) (u : Nat → Int32), k + j = 6 → j < f → (∀ q, q < 2 ^ k → u q = nI (hO (fun a => bitsT le a n) q 6)) → ∃ u2, fX7_gatherHours_59_L9 S f (nI k) (va_up V 60 u) = some (va_up V 60 u2) ∧ ∀ q, q < 64 → u2 q = nI (hO (fun a => bitsT le a n) q 6) := by
  intro j
  induction j with
  | zero =>
    intro k f u c1 c2 c3
    obtain ⟨f, rfl⟩ : ∃ z, f = z + 1 := ⟨f - 1, by omega⟩
    have : k = 6 := by omega
    subst this
    refine ⟨u, ?_, c3⟩
    rw [fX7_gatherHours_59_L9, if_pos (show 6 ≤ nI 6 from nI_le (a := 6) (b := 6) (by decide) (by decide))]
  | succ j ih =>
    intro k f u c1 c2 c3
    obtain ⟨f, rfl⟩ : ∃ z, f = z + 1 := ⟨f - 1, by omega⟩
    have hp : 0 < 2 ^ k := Nat.two_pow_pos k
    have h32 : 2 ^ k ≤ 2 ^ 5 := Nat.pow_le_pow_right (by decide) (by omega)
    have e32 : (2 : Nat) ^ 5 = 32 := by decide
    rw [fX7_gatherHours_59_L9, if_neg (show ¬ 6 ≤ nI k from nI_ge (a := k) (b := 6) (by omega) (by decide)), hoursOf30 (V := va_up V 60 u) (h2 := h) hM hC (show k < 6 by omega) h46, bd1_s]
    simp only [lt_e, bk_e]
    rw [bit_lt (by omega)]
    obtain ⟨u1, e1, e2⟩ := gh31 (S := S) (V := V) (bT := fun a => bitsT le a n) (E := fun x24 V25 => fX7_gatherHours_59_L9 S f (x24 + 1) V25) (show k < 6 by omega) (2 ^ k) 0 FU u (by omega) (by unfold FU; omega) (fun q hq => c3 q (by omega))
    rw [nI_0] at e1
    obtain ⟨u2, e3, e4⟩ := ih (k + 1) f u1 (by omega) (by omega) e2
    refine ⟨u2, ?_, e4⟩
    rw [show fX7_gatherHours_59_L31 (fun x24 V25 => fX7_gatherHours_59_L9 S f (x24 + 1) V25) S FU (nI k) (nI (bitsT le k n)) (nI (2 ^ k)) 0 (va_up V 60 u) = _ from e1, nI_1]
    exact e3
theorem gathH (h46 : h 4 ≤ 6) (hM : MLs h t n le) (hC : CLs n le (S 3002) (V 31) (V 32) (V 33) (V 34) (V 35)) : ∃ u, fX7_gatherHours_59 S V = some (va_up V 60 u) ∧ (∀ q, q < 64 → u q = nI (hO (fun a => bitsT le a n) q 6) ∧ hO (fun a => bitsT le a n) q 6 < 2 ^ 24) ∧ ∀ s hr, s < 64 → hr < 24 → (hO (fun a => bitsT le a n) s 6).testBit hr = nbF (fun a hr => (bitsT le a n).testBit hr) s.testBit hr := by
  obtain ⟨u, e1, e2⟩ := gh9 (S := S) (V := V) h46 hM hC 6 0 FU (upd (V 60) 0 0) (by omega) (by unfold FU; omega) (fun q hq => by
    have : q = 0 := by omega
    subst this
    rw [upd_same]
    have : hO (fun a => bitsT le a n) 0 6 = 0 := by simp [hO]
    rw [this, nI_0])
  refine ⟨u, ?_, fun q hq => ⟨e2 q hq, hO_lt (fun a ha => bitsT_lt hM a n (Nat.le_refl _)) q 6 (Nat.le_refl _)⟩, fun s hr hs hh => ?_⟩
  · unfold fX7_gatherHours_59
    simp only [lt_e]
    rw [gd_t (by decide)]
    rw [nI_0] at e1
    exact e1
  · rw [Bool.eq_iff_iff, hO_tb, nb_iff]
end GH
