/-! ===== copies, image and restore, housed, visit, offer ===== -/
theorem cp_7_1_loop : ∀ (k i m : Nat) (V : Nat → Nat → Int32), i + k = 24 → k < m → fX12_copies_0_7_1_L2 m (nI i) V = some (va_up V 1 (fun j => if i ≤ j ∧ j < 24 then V 7 j else V 1 j)) := by
  intro k
  induction k with
  | zero =>
    intro i m V h1 h2
    obtain ⟨m, rfl⟩ : ∃ m', m = m' + 1 := ⟨m - 1, by omega⟩
    unfold fX12_copies_0_7_1_L2
    rw [if_pos (show (24 : Int32) ≤ nI i from nI_le (a := 24) (b := i) (by omega) (by omega))]
    exact congrArg some (Eq.symm (va_same (funext (fun j => by rw [if_neg (by omega)]))))
  | succ k ih =>
    intro i m V h1 h2
    obtain ⟨m, rfl⟩ : ∃ m', m = m' + 1 := ⟨m - 1, by omega⟩
    unfold fX12_copies_0_7_1_L2
    rw [if_neg (show ¬ (24 : Int32) ≤ nI i from nI_ge (a := i) (b := 24) (by omega) (by decide))]
    simp only [lt_e]
    rw [gd_n i 24 (by omega) (by decide), gd_n i 24 (by omega) (by decide), nI_cl i (by omega), nI_1, ih (i + 1) m _ (by omega) (by omega)]
    refine congrArg some (funext (fun q => ?_))
    by_cases hq : q = 1
    · subst hq
      rw [va_up_self, va_up_self, va_up_self, va_up_ne _ _ (show 7 ≠ 1 by decide)]
      funext j
      by_cases hj : j = i
      · rw [if_neg (by omega), if_pos (by omega)]
        simp [upd, hj]
      · by_cases h3 : i ≤ j ∧ j < 24
        · rw [if_pos h3, if_pos (by omega)]
        · rw [if_neg h3, if_neg (by omega)]
          simp [upd, hj]
    · rw [va_up_ne _ _ hq, va_up_ne _ _ hq, va_up_ne _ _ hq]
theorem cp_7_1 (V : Nat → Nat → Int32) : fX12_copies_0_7_1 V = some (va_up V 1 (fun j => if j < 24 then V 7 j else V 1 j)) := by
  have h := cp_7_1_loop 24 0 FU V (by omega) (by unfold FU; omega)
  rw [nI_0] at h
  unfold fX12_copies_0_7_1
  refine h.trans (congrArg some (congrArg (va_up V 1) (funext (fun j => ?_))))
  by_cases hj : j < 24
  · rw [if_pos ⟨Nat.zero_le _, hj⟩, if_pos hj]
  · rw [if_neg (fun h => hj h.2), if_neg hj]
theorem cp_8_2_loop : ∀ (k i m : Nat) (V : Nat → Nat → Int32), i + k = 6 → k < m → fX12_copies_0_8_2_L2 m (nI i) V = some (va_up V 2 (fun j => if i ≤ j ∧ j < 6 then V 8 j else V 2 j)) := by
  intro k
  induction k with
  | zero =>
    intro i m V h1 h2
    obtain ⟨m, rfl⟩ : ∃ m', m = m' + 1 := ⟨m - 1, by omega⟩
    unfold fX12_copies_0_8_2_L2
    rw [if_pos (show (6 : Int32) ≤ nI i from nI_le (a := 6) (b := i) (by omega) (by omega))]
    exact congrArg some (Eq.symm (va_same (funext (fun j => by rw [if_neg (by omega)]))))
  | succ k ih =>
    intro i m V h1 h2
    obtain ⟨m, rfl⟩ : ∃ m', m = m' + 1 := ⟨m - 1, by omega⟩
    unfold fX12_copies_0_8_2_L2
    rw [if_neg (show ¬ (6 : Int32) ≤ nI i from nI_ge (a := i) (b := 6) (by omega) (by decide))]
    simp only [lt_e]
    rw [gd_n i 6 (by omega) (by decide), gd_n i 6 (by omega) (by decide), nI_cl i (by omega), nI_1, ih (i + 1) m _ (by omega) (by omega)]
    refine congrArg some (funext (fun q => ?_))
    by_cases hq : q = 2
    · subst hq
      rw [va_up_self, va_up_self, va_up_self, va_up_ne _ _ (show 8 ≠ 2 by decide)]
      funext j
      by_cases hj : j = i
      · rw [if_neg (by omega), if_pos (by omega)]
        simp [upd, hj]
      · by_cases h3 : i ≤ j ∧ j < 6
        · rw [if_pos h3, if_pos (by omega)]
        · rw [if_neg h3, if_neg (by omega)]
          simp [upd, hj]
    · rw [va_up_ne _ _ hq, va_up_ne _ _ hq, va_up_ne _ _ hq]
theorem cp_8_2 (V : Nat → Nat → Int32) : fX12_copies_0_8_2 V = some (va_up V 2 (fun j => if j < 6 then V 8 j else V 2 j)) := by
  have h := cp_8_2_loop 6 0 FU V (by omega) (by unfold FU; omega)
  rw [nI_0] at h
  unfold fX12_copies_0_8_2
  refine h.trans (congrArg some (congrArg (va_up V 2) (funext (fun j => ?_))))
  by_cases hj : j < 6
  · rw [if_pos ⟨Nat.zero_le _, hj⟩, if_pos hj]
  · rw [if_neg (fun h => hj h.2), if_neg hj]
theorem cp_9_3_loop : ∀ (k i m : Nat) (V : Nat → Nat → Int32), i + k = 4 → k < m → fX12_copies_0_9_3_L2 m (nI i) V = some (va_up V 3 (fun j => if i ≤ j ∧ j < 4 then V 9 j else V 3 j)) := by
  intro k
  induction k with
  | zero =>
    intro i m V h1 h2
    obtain ⟨m, rfl⟩ : ∃ m', m = m' + 1 := ⟨m - 1, by omega⟩
    unfold fX12_copies_0_9_3_L2
    rw [if_pos (show (4 : Int32) ≤ nI i from nI_le (a := 4) (b := i) (by omega) (by omega))]
    exact congrArg some (Eq.symm (va_same (funext (fun j => by rw [if_neg (by omega)]))))
  | succ k ih =>
    intro i m V h1 h2
    obtain ⟨m, rfl⟩ : ∃ m', m = m' + 1 := ⟨m - 1, by omega⟩
    unfold fX12_copies_0_9_3_L2
    rw [if_neg (show ¬ (4 : Int32) ≤ nI i from nI_ge (a := i) (b := 4) (by omega) (by decide))]
    simp only [lt_e]
    rw [gd_n i 4 (by omega) (by decide), gd_n i 4 (by omega) (by decide), nI_cl i (by omega), nI_1, ih (i + 1) m _ (by omega) (by omega)]
    refine congrArg some (funext (fun q => ?_))
    by_cases hq : q = 3
    · subst hq
      rw [va_up_self, va_up_self, va_up_self, va_up_ne _ _ (show 9 ≠ 3 by decide)]
      funext j
      by_cases hj : j = i
      · rw [if_neg (by omega), if_pos (by omega)]
        simp [upd, hj]
      · by_cases h3 : i ≤ j ∧ j < 4
        · rw [if_pos h3, if_pos (by omega)]
        · rw [if_neg h3, if_neg (by omega)]
          simp [upd, hj]
    · rw [va_up_ne _ _ hq, va_up_ne _ _ hq, va_up_ne _ _ hq]
theorem cp_9_3 (V : Nat → Nat → Int32) : fX12_copies_0_9_3 V = some (va_up V 3 (fun j => if j < 4 then V 9 j else V 3 j)) := by
  have h := cp_9_3_loop 4 0 FU V (by omega) (by unfold FU; omega)
  rw [nI_0] at h
  unfold fX12_copies_0_9_3
  refine h.trans (congrArg some (congrArg (va_up V 3) (funext (fun j => ?_))))
  by_cases hj : j < 4
  · rw [if_pos ⟨Nat.zero_le _, hj⟩, if_pos hj]
  · rw [if_neg (fun h => hj h.2), if_neg hj]
theorem cp_10_4_loop : ∀ (k i m : Nat) (V : Nat → Nat → Int32), i + k = 1600 → k < m → fX12_copies_0_10_4_L2 m (nI i) V = some (va_up V 4 (fun j => if i ≤ j ∧ j < 1600 then V 10 j else V 4 j)) := by
  intro k
  induction k with
  | zero =>
    intro i m V h1 h2
    obtain ⟨m, rfl⟩ : ∃ m', m = m' + 1 := ⟨m - 1, by omega⟩
    unfold fX12_copies_0_10_4_L2
    rw [if_pos (show (1600 : Int32) ≤ nI i from nI_le (a := 1600) (b := i) (by omega) (by omega))]
    exact congrArg some (Eq.symm (va_same (funext (fun j => by rw [if_neg (by omega)]))))
  | succ k ih =>
    intro i m V h1 h2
    obtain ⟨m, rfl⟩ : ∃ m', m = m' + 1 := ⟨m - 1, by omega⟩
    unfold fX12_copies_0_10_4_L2
    rw [if_neg (show ¬ (1600 : Int32) ≤ nI i from nI_ge (a := i) (b := 1600) (by omega) (by decide))]
    simp only [lt_e]
    rw [gd_n i 1600 (by omega) (by decide), gd_n i 1600 (by omega) (by decide), nI_cl i (by omega), nI_1, ih (i + 1) m _ (by omega) (by omega)]
    refine congrArg some (funext (fun q => ?_))
    by_cases hq : q = 4
    · subst hq
      rw [va_up_self, va_up_self, va_up_self, va_up_ne _ _ (show 10 ≠ 4 by decide)]
      funext j
      by_cases hj : j = i
      · rw [if_neg (by omega), if_pos (by omega)]
        simp [upd, hj]
      · by_cases h3 : i ≤ j ∧ j < 1600
        · rw [if_pos h3, if_pos (by omega)]
        · rw [if_neg h3, if_neg (by omega)]
          simp [upd, hj]
    · rw [va_up_ne _ _ hq, va_up_ne _ _ hq, va_up_ne _ _ hq]
theorem cp_10_4 (V : Nat → Nat → Int32) : fX12_copies_0_10_4 V = some (va_up V 4 (fun j => if j < 1600 then V 10 j else V 4 j)) := by
  have h := cp_10_4_loop 1600 0 FU V (by omega) (by unfold FU; omega)
  rw [nI_0] at h
  unfold fX12_copies_0_10_4
  refine h.trans (congrArg some (congrArg (va_up V 4) (funext (fun j => ?_))))
  by_cases hj : j < 1600
  · rw [if_pos ⟨Nat.zero_le _, hj⟩, if_pos hj]
  · rw [if_neg (fun h => hj h.2), if_neg hj]
theorem cp_13_22_loop : ∀ (k i m : Nat) (V : Nat → Nat → Int32), i + k = 52 → k < m → fX12_copies_0_13_22_L2 m (nI i) V = some (va_up V 22 (fun j => if i ≤ j ∧ j < 52 then V 13 j else V 22 j)) := by
  intro k
  induction k with
  | zero =>
    intro i m V h1 h2
    obtain ⟨m, rfl⟩ : ∃ m', m = m' + 1 := ⟨m - 1, by omega⟩
    unfold fX12_copies_0_13_22_L2
    rw [if_pos (show (52 : Int32) ≤ nI i from nI_le (a := 52) (b := i) (by omega) (by omega))]
    exact congrArg some (Eq.symm (va_same (funext (fun j => by rw [if_neg (by omega)]))))
  | succ k ih =>
    intro i m V h1 h2
    obtain ⟨m, rfl⟩ : ∃ m', m = m' + 1 := ⟨m - 1, by omega⟩
    unfold fX12_copies_0_13_22_L2
    rw [if_neg (show ¬ (52 : Int32) ≤ nI i from nI_ge (a := i) (b := 52) (by omega) (by decide))]
    simp only [lt_e]
    rw [gd_n i 52 (by omega) (by decide), gd_n i 52 (by omega) (by decide), nI_cl i (by omega), nI_1, ih (i + 1) m _ (by omega) (by omega)]
    refine congrArg some (funext (fun q => ?_))
    by_cases hq : q = 22
    · subst hq
      rw [va_up_self, va_up_self, va_up_self, va_up_ne _ _ (show 13 ≠ 22 by decide)]
      funext j
      by_cases hj : j = i
      · rw [if_neg (by omega), if_pos (by omega)]
        simp [upd, hj]
      · by_cases h3 : i ≤ j ∧ j < 52
        · rw [if_pos h3, if_pos (by omega)]
        · rw [if_neg h3, if_neg (by omega)]
          simp [upd, hj]
    · rw [va_up_ne _ _ hq, va_up_ne _ _ hq, va_up_ne _ _ hq]
theorem cp_13_22 (V : Nat → Nat → Int32) : fX12_copies_0_13_22 V = some (va_up V 22 (fun j => if j < 52 then V 13 j else V 22 j)) := by
  have h := cp_13_22_loop 52 0 FU V (by omega) (by unfold FU; omega)
  rw [nI_0] at h
  unfold fX12_copies_0_13_22
  refine h.trans (congrArg some (congrArg (va_up V 22) (funext (fun j => ?_))))
  by_cases hj : j < 52
  · rw [if_pos ⟨Nat.zero_le _, hj⟩, if_pos hj]
  · rw [if_neg (fun h => hj h.2), if_neg hj]
theorem cp_21_23_loop : ∀ (k i m : Nat) (V : Nat → Nat → Int32), i + k = 24 → k < m → fX12_copies_0_21_23_L2 m (nI i) V = some (va_up V 23 (fun j => if i ≤ j ∧ j < 24 then V 21 j else V 23 j)) := by
  intro k
  induction k with
  | zero =>
    intro i m V h1 h2
    obtain ⟨m, rfl⟩ : ∃ m', m = m' + 1 := ⟨m - 1, by omega⟩
    unfold fX12_copies_0_21_23_L2
    rw [if_pos (show (24 : Int32) ≤ nI i from nI_le (a := 24) (b := i) (by omega) (by omega))]
    exact congrArg some (Eq.symm (va_same (funext (fun j => by rw [if_neg (by omega)]))))
  | succ k ih =>
    intro i m V h1 h2
    obtain ⟨m, rfl⟩ : ∃ m', m = m' + 1 := ⟨m - 1, by omega⟩
    unfold fX12_copies_0_21_23_L2
    rw [if_neg (show ¬ (24 : Int32) ≤ nI i from nI_ge (a := i) (b := 24) (by omega) (by decide))]
    simp only [lt_e]
    rw [gd_n i 24 (by omega) (by decide), gd_n i 24 (by omega) (by decide), nI_cl i (by omega), nI_1, ih (i + 1) m _ (by omega) (by omega)]
    refine congrArg some (funext (fun q => ?_))
    by_cases hq : q = 23
    · subst hq
      rw [va_up_self, va_up_self, va_up_self, va_up_ne _ _ (show 21 ≠ 23 by decide)]
      funext j
      by_cases hj : j = i
      · rw [if_neg (by omega), if_pos (by omega)]
        simp [upd, hj]
      · by_cases h3 : i ≤ j ∧ j < 24
        · rw [if_pos h3, if_pos (by omega)]
        · rw [if_neg h3, if_neg (by omega)]
          simp [upd, hj]
    · rw [va_up_ne _ _ hq, va_up_ne _ _ hq, va_up_ne _ _ hq]
theorem cp_21_23 (V : Nat → Nat → Int32) : fX12_copies_0_21_23 V = some (va_up V 23 (fun j => if j < 24 then V 21 j else V 23 j)) := by
  have h := cp_21_23_loop 24 0 FU V (by omega) (by unfold FU; omega)
  rw [nI_0] at h
  unfold fX12_copies_0_21_23
  refine h.trans (congrArg some (congrArg (va_up V 23) (funext (fun j => ?_))))
  by_cases hj : j < 24
  · rw [if_pos ⟨Nat.zero_le _, hj⟩, if_pos hj]
  · rw [if_neg (fun h => hj h.2), if_neg hj]
theorem cp_22_13_loop : ∀ (k i m : Nat) (V : Nat → Nat → Int32), i + k = 52 → k < m → fX12_copies_0_22_13_L2 m (nI i) V = some (va_up V 13 (fun j => if i ≤ j ∧ j < 52 then V 22 j else V 13 j)) := by
  intro k
  induction k with
  | zero =>
    intro i m V h1 h2
    obtain ⟨m, rfl⟩ : ∃ m', m = m' + 1 := ⟨m - 1, by omega⟩
    unfold fX12_copies_0_22_13_L2
    rw [if_pos (show (52 : Int32) ≤ nI i from nI_le (a := 52) (b := i) (by omega) (by omega))]
    exact congrArg some (Eq.symm (va_same (funext (fun j => by rw [if_neg (by omega)]))))
  | succ k ih =>
    intro i m V h1 h2
    obtain ⟨m, rfl⟩ : ∃ m', m = m' + 1 := ⟨m - 1, by omega⟩
    unfold fX12_copies_0_22_13_L2
    rw [if_neg (show ¬ (52 : Int32) ≤ nI i from nI_ge (a := i) (b := 52) (by omega) (by decide))]
    simp only [lt_e]
    rw [gd_n i 52 (by omega) (by decide), gd_n i 52 (by omega) (by decide), nI_cl i (by omega), nI_1, ih (i + 1) m _ (by omega) (by omega)]
    refine congrArg some (funext (fun q => ?_))
    by_cases hq : q = 13
    · subst hq
      rw [va_up_self, va_up_self, va_up_self, va_up_ne _ _ (show 22 ≠ 13 by decide)]
      funext j
      by_cases hj : j = i
      · rw [if_neg (by omega), if_pos (by omega)]
        simp [upd, hj]
      · by_cases h3 : i ≤ j ∧ j < 52
        · rw [if_pos h3, if_pos (by omega)]
        · rw [if_neg h3, if_neg (by omega)]
          simp [upd, hj]
    · rw [va_up_ne _ _ hq, va_up_ne _ _ hq, va_up_ne _ _ hq]
theorem cp_22_13 (V : Nat → Nat → Int32) : fX12_copies_0_22_13 V = some (va_up V 13 (fun j => if j < 52 then V 22 j else V 13 j)) := by
  have h := cp_22_13_loop 52 0 FU V (by omega) (by unfold FU; omega)
  rw [nI_0] at h
  unfold fX12_copies_0_22_13
  refine h.trans (congrArg some (congrArg (va_up V 13) (funext (fun j => ?_))))
  by_cases hj : j < 52
  · rw [if_pos ⟨Nat.zero_le _, hj⟩, if_pos hj]
  · rw [if_neg (fun h => hj h.2), if_neg hj]
theorem cp_23_21_loop : ∀ (k i m : Nat) (V : Nat → Nat → Int32), i + k = 24 → k < m → fX12_copies_0_23_21_L2 m (nI i) V = some (va_up V 21 (fun j => if i ≤ j ∧ j < 24 then V 23 j else V 21 j)) := by
  intro k
  induction k with
  | zero =>
    intro i m V h1 h2
    obtain ⟨m, rfl⟩ : ∃ m', m = m' + 1 := ⟨m - 1, by omega⟩
    unfold fX12_copies_0_23_21_L2
    rw [if_pos (show (24 : Int32) ≤ nI i from nI_le (a := 24) (b := i) (by omega) (by omega))]
    exact congrArg some (Eq.symm (va_same (funext (fun j => by rw [if_neg (by omega)]))))
  | succ k ih =>
    intro i m V h1 h2
    obtain ⟨m, rfl⟩ : ∃ m', m = m' + 1 := ⟨m - 1, by omega⟩
    unfold fX12_copies_0_23_21_L2
    rw [if_neg (show ¬ (24 : Int32) ≤ nI i from nI_ge (a := i) (b := 24) (by omega) (by decide))]
    simp only [lt_e]
    rw [gd_n i 24 (by omega) (by decide), gd_n i 24 (by omega) (by decide), nI_cl i (by omega), nI_1, ih (i + 1) m _ (by omega) (by omega)]
    refine congrArg some (funext (fun q => ?_))
    by_cases hq : q = 21
    · subst hq
      rw [va_up_self, va_up_self, va_up_self, va_up_ne _ _ (show 23 ≠ 21 by decide)]
      funext j
      by_cases hj : j = i
      · rw [if_neg (by omega), if_pos (by omega)]
        simp [upd, hj]
      · by_cases h3 : i ≤ j ∧ j < 24
        · rw [if_pos h3, if_pos (by omega)]
        · rw [if_neg h3, if_neg (by omega)]
          simp [upd, hj]
    · rw [va_up_ne _ _ hq, va_up_ne _ _ hq, va_up_ne _ _ hq]
theorem cp_23_21 (V : Nat → Nat → Int32) : fX12_copies_0_23_21 V = some (va_up V 21 (fun j => if j < 24 then V 23 j else V 21 j)) := by
  have h := cp_23_21_loop 24 0 FU V (by omega) (by unfold FU; omega)
  rw [nI_0] at h
  unfold fX12_copies_0_23_21
  refine h.trans (congrArg some (congrArg (va_up V 21) (funext (fun j => ?_))))
  by_cases hj : j < 24
  · rw [if_pos ⟨Nat.zero_le _, hj⟩, if_pos hj]
  · rw [if_neg (fun h => hj h.2), if_neg hj]
theorem cp_19_20_loop : ∀ (k i m : Nat) (V : Nat → Nat → Int32), i + k = 6 → k < m → fX12_copies_0_19_20_L2 m (nI i) V = some (va_up V 20 (fun j => if i ≤ j ∧ j < 6 then V 19 j else V 20 j)) := by
  intro k
  induction k with
  | zero =>
    intro i m V h1 h2
    obtain ⟨m, rfl⟩ : ∃ m', m = m' + 1 := ⟨m - 1, by omega⟩
    unfold fX12_copies_0_19_20_L2
    rw [if_pos (show (6 : Int32) ≤ nI i from nI_le (a := 6) (b := i) (by omega) (by omega))]
    exact congrArg some (Eq.symm (va_same (funext (fun j => by rw [if_neg (by omega)]))))
  | succ k ih =>
    intro i m V h1 h2
    obtain ⟨m, rfl⟩ : ∃ m', m = m' + 1 := ⟨m - 1, by omega⟩
    unfold fX12_copies_0_19_20_L2
    rw [if_neg (show ¬ (6 : Int32) ≤ nI i from nI_ge (a := i) (b := 6) (by omega) (by decide))]
    simp only [lt_e]
    rw [gd_n i 6 (by omega) (by decide), gd_n i 6 (by omega) (by decide), nI_cl i (by omega), nI_1, ih (i + 1) m _ (by omega) (by omega)]
    refine congrArg some (funext (fun q => ?_))
    by_cases hq : q = 20
    · subst hq
      rw [va_up_self, va_up_self, va_up_self, va_up_ne _ _ (show 19 ≠ 20 by decide)]
      funext j
      by_cases hj : j = i
      · rw [if_neg (by omega), if_pos (by omega)]
        simp [upd, hj]
      · by_cases h3 : i ≤ j ∧ j < 6
        · rw [if_pos h3, if_pos (by omega)]
        · rw [if_neg h3, if_neg (by omega)]
          simp [upd, hj]
    · rw [va_up_ne _ _ hq, va_up_ne _ _ hq, va_up_ne _ _ hq]
theorem cp_19_20 (V : Nat → Nat → Int32) : fX12_copies_0_19_20 V = some (va_up V 20 (fun j => if j < 6 then V 19 j else V 20 j)) := by
  have h := cp_19_20_loop 6 0 FU V (by omega) (by unfold FU; omega)
  rw [nI_0] at h
  unfold fX12_copies_0_19_20
  refine h.trans (congrArg some (congrArg (va_up V 20) (funext (fun j => ?_))))
  by_cases hj : j < 6
  · rw [if_pos ⟨Nat.zero_le _, hj⟩, if_pos hj]
  · rw [if_neg (fun h => hj h.2), if_neg hj]
theorem cpy_at {f g : Nat → Int32} {n i : Nat} (h : i < n) : va_cpy f g 0 0 n i = f i := by
  unfold va_cpy
  rw [if_pos ⟨Nat.zero_le _, by omega⟩]
  simp
theorem cpr_n {n N M : Nat} (h1 : n ≤ N) (h2 : n ≤ M) (hN : N < 2 ^ 31) : cpr 0 0 (nI n) N M = true := by
  unfold cpr
  refine decide_eq_true ⟨by decide, by decide, nI_pos (by omega), ?_, ?_⟩
  · rw [nI_cl n (by omega), show (0 : Int32).toNatClampNeg = 0 from by decide]; omega
  · rw [nI_cl n (by omega), show (0 : Int32).toNatClampNeg = 0 from by decide]; omega
theorem CLs_to {n : Nat} {le : Nat → Nat → Nat} {sz : Int32} {te ha fr to cl te2 ha2 fr2 to2 cl2 : Nat → Int32} (hC : CLs n le sz te ha fr to cl) (h1 : ∀ i, i < n → te2 i = te i ∧ ha2 i = ha i ∧ fr2 i = fr i ∧ to2 i = to i) (h2 : ∀ j, j < 72 → cl2 j = cl j) : CLs n le sz te2 ha2 fr2 to2 cl2 := by
  refine ⟨hC.1, fun i hi => ?_, fun x hr hx hh => ?_⟩
  · obtain ⟨a, b, c, d⟩ := h1 i hi
    rw [a, b, c, d]
    exact hC.2.1 i hi
  · rw [h2 _ (by omega)]
    exact hC.2.2 x hr hx hh
theorem RLs_to {n : Nat} {le : Nat → Nat → Nat} {sz : Int32} {row row2 : Nat → Int32} (hn : n ≤ 12) (hR : RLs n le sz row) (h : ∀ j, j < 52 → row2 j = row j) : RLs n le sz row2 := by
  refine ⟨hR.1, fun i hi => ?_⟩
  rw [h _ (by omega), h _ (by omega), h _ (by omega), h _ (by omega)]
  exact hR.2 i hi
theorem COf_to {n : Nat} {of : Nat → Nat → Nat} {sz : Int32} {ho co ho2 co2 : Nat → Int32} (hC : COf n of sz ho co) (h : ∀ i, i < n → ho2 i = ho i ∧ co2 i = co i) : COf n of sz ho2 co2 := by
  refine ⟨hC.1, fun i hi => ?_⟩
  obtain ⟨a, b⟩ := h i hi
  rw [a, b]
  exact hC.2 i hi
theorem ROf_to {n : Nat} {of : Nat → Nat → Nat} {sz : Int32} {row row2 : Nat → Int32} (hn : n ≤ 8) (hR : ROf n of sz row) (h : ∀ j, j < 24 → row2 j = row j) : ROf n of sz row2 := by
  refine ⟨hR.1, fun i hi => ?_⟩
  rw [h _ (by omega), h _ (by omega), h _ (by omega)]
  exact hR.2 i hi
theorem lcp_36_30 {S : Nat → Int32} {V : Nat → Nat → Int32} {n : Nat} (hS : S 3002 = nI n) (hn : n ≤ 12) : fX4_copyFrom_36_30 S V = some (va_up S 3602 (nI n), va_up (va_up (va_up (va_up (va_up V 37 (va_cpy (V 31) (V 37) 0 0 n)) 38 (va_cpy (V 32) (V 38) 0 0 n)) 39 (va_cpy (V 33) (V 39) 0 0 n)) 40 (va_cpy (V 34) (V 40) 0 0 n)) 41 (va_cpy (V 35) (V 41) 0 0 72)) := by
  unfold fX4_copyFrom_36_30
  simp only [lt_e]
  rw [hS, va_up_self]
  rw [gd_t (cpr_n (n := n) (N := 13) (M := 13) (by omega) (by omega) (by decide)), gd_t (cpr_n (n := n) (N := 13) (M := 13) (by omega) (by omega) (by decide)), gd_t (cpr_n (n := n) (N := 13) (M := 13) (by omega) (by omega) (by decide)), gd_t (cpr_n (n := n) (N := 13) (M := 13) (by omega) (by omega) (by decide)), gd_t (show cpr 0 0 72 72 72 = true from cpr_n (n := 72) (N := 72) (M := 72) (by decide) (by decide) (by decide)), nI_cl n (by omega)]
  rfl
theorem lcp_30_36 {S : Nat → Int32} {V : Nat → Nat → Int32} {n : Nat} (hS : S 3602 = nI n) (hn : n ≤ 12) : fX4_copyFrom_30_36 S V = some (va_up S 3002 (nI n), va_up (va_up (va_up (va_up (va_up V 31 (va_cpy (V 37) (V 31) 0 0 n)) 32 (va_cpy (V 38) (V 32) 0 0 n)) 33 (va_cpy (V 39) (V 33) 0 0 n)) 34 (va_cpy (V 40) (V 34) 0 0 n)) 35 (va_cpy (V 41) (V 35) 0 0 72)) := by
  unfold fX4_copyFrom_30_36
  simp only [lt_e]
  rw [hS, va_up_self]
  rw [gd_t (cpr_n (n := n) (N := 13) (M := 13) (by omega) (by omega) (by decide)), gd_t (cpr_n (n := n) (N := 13) (M := 13) (by omega) (by omega) (by decide)), gd_t (cpr_n (n := n) (N := 13) (M := 13) (by omega) (by omega) (by decide)), gd_t (cpr_n (n := n) (N := 13) (M := 13) (by omega) (by omega) (by decide)), gd_t (show cpr 0 0 72 72 72 = true from cpr_n (n := 72) (N := 72) (M := 72) (by decide) (by decide) (by decide)), nI_cl n (by omega)]
  rfl
theorem ocp_45_42 {S : Nat → Int32} {V : Nat → Nat → Int32} {n : Nat} (hS : S 4200 = nI n) (hn : n ≤ 8) : fX5_copyFrom_45_42 S V = some (va_up S 4500 (nI n), va_up (va_up V 46 (va_cpy (V 43) (V 46) 0 0 n)) 47 (va_cpy (V 44) (V 47) 0 0 n)) := by
  unfold fX5_copyFrom_45_42
  simp only [lt_e]
  rw [hS, va_up_self]
  rw [gd_t (cpr_n (n := n) (N := 8) (M := 8) hn hn (by decide)), gd_t (cpr_n (n := n) (N := 8) (M := 8) hn hn (by decide)), nI_cl n (by omega)]
  rfl
theorem ocp_42_45 {S : Nat → Int32} {V : Nat → Nat → Int32} {n : Nat} (hS : S 4500 = nI n) (hn : n ≤ 8) : fX5_copyFrom_42_45 S V = some (va_up S 4200 (nI n), va_up (va_up V 43 (va_cpy (V 46) (V 43) 0 0 n)) 44 (va_cpy (V 47) (V 44) 0 0 n)) := by
  unfold fX5_copyFrom_42_45
  simp only [lt_e]
  rw [hS, va_up_self]
  rw [gd_t (cpr_n (n := n) (N := 8) (M := 8) hn hn (by decide)), gd_t (cpr_n (n := n) (N := 8) (M := 8) hn hn (by decide)), nI_cl n (by omega)]
  rfl
theorem sm_image : St_image Rel := fun S V S' V' L' h => by
  obtain ⟨h1, h2, h3, ⟨hh, t, ru, hH, ⟨n, le, hM, hr, hC, hR⟩, hI⟩, ⟨on, of, hOM, hOC, hOR⟩, h6, h7⟩ := id h
  have hn := hM.1
  have hon := hOM.1
  refine ⟨?_, ?_, ?_, ?_, ?_, ?_, ?_⟩
  rotate_left 4
  · unfold fX11_image_0
    rw [lcp_36_30 hC.1 hn, bd2_s, ocp_45_42 (n := on) (show va_up S 3602 (nI n) 4200 = nI on from hOC.1) hon, bd2_s, lt_e]
  · unfold fX12_image_0
    simp only [lt_e]
    rw [cp_13_22, bd1_s, cp_21_23, bd1_s]
  · refine ⟨h1, h2, h3, ⟨hh, t, ru, hH, ⟨n, le, hM, hr, hC, hR⟩, Or.inr ⟨rfl, rfl, ⟨n, le, hM, hr, ?_, ?_⟩, ⟨on, of, hOM, ?_, ?_⟩⟩⟩, ⟨on, of, hOM, hOC, hOR⟩, h6, h7⟩
    · exact CLs_to (sz := nI n) ⟨rfl, hC.2⟩ (fun i hi => ⟨cpy_at hi, cpy_at hi, cpy_at hi, cpy_at hi⟩) (fun j hj => cpy_at hj)
    · exact RLs_to hn ⟨hR.1, hR.2⟩ (fun j hj => if_pos hj)
    · exact COf_to (sz := nI on) ⟨rfl, hOC.2⟩ (fun i hi => ⟨cpy_at hi, cpy_at hi⟩)
    · exact ROf_to hon ⟨hOR.1, hOR.2⟩ (fun j hj => if_pos hj)
theorem sm_restore : St_restore Rel := fun S V S' V' L' h => by
  obtain ⟨h1, h2, h3, ⟨hh, t, ru, hH, hL, hI⟩, hO, h6, h7⟩ := id h
  rcases hI with ⟨i1, i2⟩ | ⟨i1, i2, ⟨n, le, hM, hr, hC, hR⟩, ⟨on, of, hOM, hOC, hOR⟩⟩
  · refine ⟨0, S, V, va_up S' 0 0, V', ?_, ?_, R_thr h⟩
    · unfold fX11_restore_0
      rw [if_pos i1]
    · unfold fX12_restore_0
      simp only [lt_e]
      rw [if_pos (show va_up S' 0 0 55 = 0 from i2)]
  · have hn := hM.1
    have hon := hOM.1
    refine ⟨1, ?_, ?_, ?_, ?_, ?_, ?_, ?_⟩
    rotate_left 4
    · unfold fX11_restore_0
      rw [if_neg (by rw [i1]; decide), lcp_30_36 hC.1 hn, bd2_s, ocp_42_45 (n := on) (show va_up S 3002 (nI n) 4500 = nI on from hOC.1) hon, bd2_s]
    · unfold fX12_restore_0
      simp only [lt_e]
      rw [if_neg (show ¬ va_up S' 0 0 55 = 0 from by show ¬ S' 55 = 0; rw [i2]; decide), cp_22_13, bd1_s, cp_23_21, bd1_s]
    · refine ⟨h1, h2, h3, ⟨hh, t, ru, hH, ⟨n, le, hM, hr, ?_, ?_⟩, Or.inr ⟨i1, i2, ⟨n, le, hM, hr, hC, hR⟩, ⟨on, of, hOM, hOC, hOR⟩⟩⟩, ⟨on, of, hOM, ?_, ?_⟩, h6, h7⟩
      · exact CLs_to (sz := nI n) ⟨rfl, hC.2⟩ (fun i hi => ⟨cpy_at hi, cpy_at hi, cpy_at hi, cpy_at hi⟩) (fun j hj => cpy_at hj)
      · exact RLs_to hn ⟨hR.1, hR.2⟩ (fun j hj => if_pos hj)
      · exact COf_to (sz := nI on) ⟨rfl, hOC.2⟩ (fun i hi => ⟨cpy_at hi, cpy_at hi⟩)
      · exact ROf_to hon ⟨hOR.1, hOR.2⟩ (fun j hj => if_pos hj)
/-- is there such a tenant -/
theorem ten {S S' : Nat → Int32} {h : Nat → Nat} {a : Int32} (hb : h 4 ≤ 6) (e : S 304 = nI (h 4)) (e' : S' 5 = nI (h 4)) (h0 : S' 0 = 0) : (fX11_needTenant_0 S a = some (.inr 1) ∧ fX12_isTenant_0 S' a = some (0, va_up S' 0 1)) ∨ ∃ k : Nat, k < h 4 ∧ a = nI k ∧ fX11_needTenant_0 S a = some (.inl ()) ∧ fX12_isTenant_0 S' a = some (1, S') := by
  unfold fX11_needTenant_0 fX2_hasTenant_3 fX12_isTenant_0
  simp only [bk_e]
  rw [e, e']
  by_cases h1 : a < 0
  · rw [if_pos h1, if_pos h1]
    refine Or.inl ⟨rfl, ?_⟩
    show bd2 (fX12_right_0 S' 0 1) _ = _
    rw [right_f h0 (by decide)]
    rfl
  · by_cases h2 : nI (h 4) ≤ a
    · rw [if_neg h1, if_pos h2, if_neg h1, if_pos h2]
      refine Or.inl ⟨rfl, ?_⟩
      show bd2 (fX12_right_0 S' 0 1) _ = _
      rw [right_f h0 (by decide)]
      rfl
    · rw [if_neg h1, if_neg h2, if_neg h1, if_neg h2]
      have h3 : 0 ≤ a.toInt := Int.not_lt.mp (fun h3 => h1 (i_lt.mpr h3))
      have h4 : a.toInt < (h 4 : Int) := Int.not_le.mp (fun h4 => h2 (i_le.mpr (by rw [nI_toInt (n := h 4) (by omega)]; exact h4)))
      refine Or.inr ⟨a.toInt.toNat, by omega, i_eq (by rw [nI_toInt (n := a.toInt.toNat) (by omega)]; omega), rfl, ?_⟩
      show bd2 (fX12_right_0 S' 1 1) _ = _
      rw [right_t h0]
      rfl
theorem sm_housed : St_housed Rel := fun S V S' V' L' a h => by
  obtain ⟨h1, h2, h3, ⟨hh, t, ru, ⟨hs, -, -, ⟨-, -, -, -, c4, -⟩, -, -, ⟨-, -, -, -, d4, -⟩, -, -⟩, hL, hI⟩, hO, h6, h7⟩ := id h
  rcases ten (S := S) (S' := va_up S' 0 0) (a := a) hs.2.2.2.2.1 c4 d4 rfl with ⟨e1, e2⟩ | ⟨k, hk, rfl, e1, e2⟩
  · refine Or.inr ⟨0, va_up (va_up S' 0 0) 0 1, ?_, ?_, rfl, R_thr (R_thr h)⟩
    · unfold fX11_housed_0
      rw [e1]
      rfl
    · unfold fX12_housed_0
      simp only [lt_e]
      rw [e2]
      rfl
  · have hk6 : k < 6 := by have := hs.2.2.2.2.1; omega
    rcases h6 with ⟨i1, i2⟩ | ⟨i1, i2, i3⟩
    · refine Or.inr ⟨0, va_up (va_up S' 0 0) 0 1, ?_, ?_, rfl, R_thr (R_thr h)⟩
      · unfold fX11_housed_0
        rw [e1, i1]
        rfl
      · unfold fX12_housed_0
        simp only [lt_e]
        rw [e2]
        show bd2 (fX12_right_0 (va_up S' 0 0) (S' 49) 1) _ = _
        rw [i2, right_f rfl (by decide)]
        rfl
    · refine Or.inl ⟨V 57 k, va_up S' 0 0, ?_, ?_, rfl, R_thr h⟩
      · unfold fX11_housed_0
        rw [e1, i1]
        show gd (ib (nI k) 6) _ = _
        rw [gd_n k 6 hk6 (by decide), nI_cl k (by omega)]
      · unfold fX12_housed_0
        simp only [lt_e]
        rw [e2]
        show bd2 (fX12_right_0 (va_up S' 0 0) (S' 49) 1) _ = _
        rw [i2, right_t rfl]
        show gd (ib (nI k) 6) _ = _
        rw [gd_n k 6 hk6 (by decide), nI_cl k (by omega), i3 k hk6]
theorem sm_visit : St_visit Rel := fun S V S' V' L' a h => by
  obtain ⟨h1, h2, h3, ⟨hh, t, ru, ⟨hs, -, -, ⟨-, -, -, -, c4, -⟩, -, -, ⟨-, -, -, -, d4, -⟩, -, -⟩, hL, hI⟩, hO, h6, h7⟩ := id h
  rcases ten (S := S) (S' := va_up S' 0 0) (a := a) hs.2.2.2.2.1 c4 d4 rfl with ⟨e1, e2⟩ | ⟨k, hk, rfl, e1, e2⟩
  · refine Or.inr ⟨0, va_up (va_up S' 0 0) 0 1, ?_, ?_, rfl, R_thr (R_thr h)⟩
    · unfold fX11_visit_0
      rw [e1]
      rfl
    · unfold fX12_visit_0
      simp only [lt_e]
      rw [e2]
      rfl
  · have hk6 : k < 6 := by have := hs.2.2.2.2.1; omega
    rcases h7 with ⟨i1, i2⟩ | ⟨i1, i2, i3⟩
    · refine Or.inr ⟨0, va_up (va_up S' 0 0) 0 1, ?_, ?_, rfl, R_thr (R_thr h)⟩
      · unfold fX11_visit_0
        rw [e1, i1]
        rfl
      · unfold fX12_visit_0
        simp only [lt_e]
        rw [e2]
        show bd2 (fX12_right_0 (va_up S' 0 0) (S' 52) 1) _ = _
        rw [i2, right_f rfl (by decide)]
        rfl
    · refine Or.inl ⟨V 62 k, va_up S' 0 0, ?_, ?_, rfl, R_thr h⟩
      · unfold fX11_visit_0
        rw [e1, i1]
        show gd (ib (nI k) 6) _ = _
        rw [gd_n k 6 hk6 (by decide), nI_cl k (by omega)]
      · unfold fX12_visit_0
        simp only [lt_e]
        rw [e2]
        show bd2 (fX12_right_0 (va_up S' 0 0) (S' 52) 1) _ = _
        rw [i2, right_t rfl]
        show gd (ib (nI k) 6) _ = _
        rw [gd_n k 6 hk6 (by decide), nI_cl k (by omega), i3 k hk6]
