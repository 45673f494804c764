/-! ===== hours as bits ===== -/
def bitsX (le : Nat → Nat → Nat) (x : Nat) : Nat → Nat
  | 0 => 0
  | n + 1 => bitsX le x n ||| (if le n 1 = x then ivl (le n 2) (le n 3) else 0)
def andn (a b : Nat) : Nat := a &&& (b ^^^ (2 ^ 32 - 1))
theorem andn_tb {a b k : Nat} (hk : k < 32) : (andn a b).testBit k = (a.testBit k && !b.testBit k) := by
  unfold andn
  rw [Nat.testBit_and, Nat.testBit_xor, Nat.testBit_two_pow_sub_one]
  simp [hk]
theorem andn_le (a b : Nat) : andn a b ≤ a := Nat.and_le_left
theorem andn_i (a b : Nat) : nI a &&& (nI b ^^^ (-1)) = nI (andn a b) := by
  apply b_ext
  intro i hi
  rw [b_and, b_xor, nbt hi, nbt hi, nbt hi, b_m1 i hi, andn_tb hi]
  simp
theorem nI_and0 {a b : Nat} (ha : a < 2 ^ 31) : (nI a &&& nI b = 0) ↔ ∀ k, k < 31 → ¬ (a.testBit k = true ∧ b.testBit k = true) := by
  have hl : a &&& b < 2 ^ 31 := Nat.lt_of_le_of_lt Nat.and_le_left ha
  rw [fa_and, nI_eq0 hl]
  constructor
  · intro e k hk ⟨h1, h2⟩
    have := congrArg (fun z => z.testBit k) e
    simp only [Nat.testBit_and, h1, h2, Nat.zero_testBit] at this
    cases this
  · intro hh
    apply Nat.eq_of_testBit_eq
    intro k
    rw [Nat.testBit_and, Nat.zero_testBit]
    by_cases hk : k < 31
    · have := hh k hk
      cases h1 : a.testBit k <;> cases h2 : b.testBit k <;> simp_all
    · rw [Nat.testBit_lt_two_pow (Nat.lt_of_lt_of_le ha (Nat.pow_le_pow_right (by decide) (by omega))), Bool.false_and]
theorem andn_0 {a b : Nat} (ha : a < 2 ^ 31) : (nI (andn a b) = 0) ↔ ∀ k, k < 31 → a.testBit k = true → b.testBit k = true := by
  have hl : andn a b < 2 ^ 31 := Nat.lt_of_le_of_lt (andn_le a b) ha
  rw [nI_eq0 hl]
  constructor
  · intro e k hk h1
    have := congrArg (fun z => z.testBit k) e
    simp only [andn_tb (show k < 32 by omega), h1, Nat.zero_testBit] at this
    simpa using this
  · intro hh
    apply Nat.eq_of_testBit_eq
    intro k
    rw [Nat.zero_testBit]
    by_cases hk : k < 31
    · rw [andn_tb (by omega)]
      have := hh k hk
      cases h1 : a.testBit k <;> cases h2 : b.testBit k <;> simp_all
    · exact Nat.testBit_lt_two_pow (Nat.lt_of_lt_of_le hl (Nat.pow_le_pow_right (by decide) (by omega)))
section BX
variable {h : Nat → Nat} {t : Nat → Nat → Nat} {n : Nat} {le : Nat → Nat → Nat}
theorem bitsX_lt (hM : MLs h t n le) (x : Nat) : ∀ m, m ≤ n → bitsX le x m < 2 ^ 24 := by
  intro m
  induction m with
  | zero => intro _; exact (by decide : 0 < 2 ^ 24)
  | succ m ih =>
    intro hm
    obtain ⟨-, -, q1, q2, -⟩ := hM.2.1 m (by omega)
    show bitsX le x m ||| _ < _
    refine or_lt (ih (by omega)) ?_
    by_cases e : le m 1 = x
    · rw [if_pos e]; exact ivl_lt _ (by omega) _ q2
    · rw [if_neg e]; decide
theorem bitsX_tb (hM : MLs h t n le) (x : Nat) : ∀ m, m ≤ n → ∀ k, k < 32 → ((bitsX le x m).testBit k = true ↔ ∃ i, i < m ∧ le i 1 = x ∧ le i 2 ≤ k ∧ k ≤ le i 3) := by
  intro m
  induction m with
  | zero =>
    intro _ k _
    constructor
    · intro h
      rw [show bitsX le x 0 = 0 from rfl, Nat.zero_testBit] at h
      cases h
    · rintro ⟨i, hi, _⟩
      exact absurd hi (Nat.not_lt_zero _)
  | succ m ih =>
    intro hm k hk
    obtain ⟨-, -, q1, q2, -⟩ := hM.2.1 m (by omega)
    rw [show bitsX le x (m + 1) = bitsX le x m ||| (if le m 1 = x then ivl (le m 2) (le m 3) else 0) from rfl, Nat.testBit_or, Bool.or_eq_true, ih (by omega) k hk]
    constructor
    · rintro (⟨i, hi, h2⟩ | h2)
      · exact ⟨i, by omega, h2⟩
      · by_cases e : le m 1 = x
        · rw [if_pos e, ivl_tb _ (by omega) _ q2 q1 k hk] at h2
          exact ⟨m, by omega, e, of_decide_eq_true h2⟩
        · rw [if_neg e, Nat.zero_testBit] at h2
          cases h2
    · rintro ⟨i, hi, h1, h2, h3⟩
      by_cases e : i = m
      · subst e
        right
        rw [if_pos h1, ivl_tb _ (by omega) _ q2 q1 k hk]
        exact decide_eq_true ⟨h2, h3⟩
      · exact Or.inl ⟨i, by omega, h1, h2, h3⟩
theorem occ_none {x hr : Nat} : occL le n x hr = none ↔ ¬ ∃ i, i < n ∧ le i 1 = x ∧ le i 2 ≤ hr ∧ hr ≤ le i 3 := by
  unfold occL
  rw [fst1_none]
  constructor
  · rintro h1 ⟨i, hi, h2⟩
    have := h1 i (Nat.zero_le _) (by omega)
    rw [covL, decide_eq_false_iff_not] at this
    exact this h2
  · intro h1 j _ hj
    rw [covL, decide_eq_false_iff_not]
    exact fun h2 => h1 ⟨j, by omega, h2⟩
theorem who_none {x hr : Nat} : whoL le n x hr = none ↔ ¬ ∃ i, i < n ∧ le i 1 = x ∧ le i 2 ≤ hr ∧ hr ≤ le i 3 := by
  rw [← occ_none]
  unfold whoL
  cases occL le n x hr <;> simp
theorem who_bit (hM : MLs h t n le) {x hr : Nat} (hh : hr < 32) : whoL le n x hr = none ↔ (bitsX le x n).testBit hr = false := by
  rw [who_none, ← bitsX_tb hM x n (Nat.le_refl _) hr hh]
  cases (bitsX le x n).testBit hr <;> simp
theorem letH30 {S : Nat → Int32} {V : Nat → Nat → Int32} (hM : MLs h t n le) (hC : CLs n le (S 3002) (V 31) (V 32) (V 33) (V 34) (V 35)) {x : Nat} (hx : x < 3) : fX4_letHours_30 S V (nI x) = some (nI (bitsX le x n)) := by
  have hn := hM.1
  have L : ∀ (j i m : Nat), i + j = n → j < m → fX4_letHours_30_L4 S V m (nI x) (nI (bitsX le x i)) (nI i) = some (nI (bitsX le x n)) := by
    intro j
    induction j with
    | zero =>
      intro i m e1 e2
      obtain ⟨m, rfl⟩ : ∃ m', m = m' + 1 := ⟨m - 1, by omega⟩
      rw [fX4_letHours_30_L4, hC.1, if_pos (nI_le (a := n) (b := i) (by omega) (by omega)), show i = n by omega]
    | succ j ih =>
      intro i m e1 e2
      obtain ⟨m, rfl⟩ : ∃ m', m = m' + 1 := ⟨m - 1, by omega⟩
      obtain ⟨q0, q3, q1, q2, -⟩ := hM.2.1 i (by omega)
      obtain ⟨c0, c1, c2, c3⟩ := hC.2.1 i (by omega)
      have ihn := ih (i + 1) m (by omega) (by omega)
      rw [show bitsX le x (i + 1) = bitsX le x i ||| (if le i 1 = x then ivl (le i 2) (le i 3) else 0) from rfl] at ihn
      rw [fX4_letHours_30_L4, hC.1, if_neg (nI_ge (a := i) (b := n) (by omega) (by omega)), gd_n i 13 (by omega) (by decide), nI_cl i (by omega), c1, c2, c3]
      simp only [lt_e, bk_e, nI_1]
      rw [gd_n i 13 (by omega) (by decide), gd_n i 13 (by omega) (by decide), hourBits_eq q1 q2, bd1_s]
      by_cases e : le i 1 = x
      · rw [if_pos (by rw [e]), fa_or]
        rw [if_pos e] at ihn
        exact ihn
      · rw [if_neg (fun z => e ((nI_eq (by omega) (by omega)).mp z))]
        rw [if_neg e, Nat.or_zero] at ihn
        exact ihn
  have := L n 0 FU (by omega) (by unfold FU; omega)
  rw [show nI (bitsX le x 0) = 0 from nI_0, nI_0] at this
  exact this
end BX
