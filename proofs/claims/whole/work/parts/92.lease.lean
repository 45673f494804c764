/-! ===== leases: who is in, undo ===== -/
theorem fst1_none {f : Nat → Bool} : ∀ {k i : Nat}, fst1 f i k = none ↔ ∀ j, i ≤ j → j < i + k → f j = false := by
  intro k
  induction k with
  | zero => intro i; exact ⟨fun _ j h1 h2 => absurd h2 (by omega), fun _ => rfl⟩
  | succ k ih =>
    intro i
    unfold fst1
    by_cases h : f i = true
    · rw [if_pos h]
      exact ⟨fun h2 => (by cases h2), fun h2 => by have := h2 i (Nat.le_refl _) (by omega); rw [h] at this; cases this⟩
    · rw [if_neg h, ih]
      refine ⟨fun h2 j h3 h4 => ?_, fun h2 j h3 h4 => h2 j (by omega) (by omega)⟩
      by_cases hj : j = i
      · subst hj; exact Bool.eq_false_iff.mpr h
      · exact h2 j (by omega) (by omega)
theorem fst1_some {f : Nat → Bool} : ∀ {k i j : Nat}, fst1 f i k = some j ↔ (i ≤ j ∧ j < i + k ∧ f j = true ∧ ∀ m, i ≤ m → m < j → f m = false) := by
  intro k
  induction k with
  | zero => intro i j; exact ⟨fun h => (by cases h), fun h => absurd h.2.1 (by omega)⟩
  | succ k ih =>
    intro i j
    unfold fst1
    by_cases h : f i = true
    · rw [if_pos h]
      refine ⟨fun h2 => ?_, fun h2 => ?_⟩
      · cases h2
        exact ⟨Nat.le_refl _, by omega, h, fun m h3 h4 => absurd h4 (by omega)⟩
      · by_cases hj : j = i
        · rw [hj]
        · have := h2.2.2.2 i (Nat.le_refl _) (by omega)
          rw [h] at this
          cases this
    · rw [if_neg h, ih]
      refine ⟨fun h2 => ⟨by omega, by omega, h2.2.2.1, fun m h3 h4 => ?_⟩, fun h2 => ⟨?_, by omega, h2.2.2.1, fun m h3 h4 => h2.2.2.2 m (by omega) h4⟩⟩
      · by_cases hm : m = i
        · subst hm; exact Bool.eq_false_iff.mpr h
        · exact h2.2.2.2 m (by omega) h4
      · by_cases hj : j = i
        · subst hj; exact absurd h2.2.2.1 h
        · omega
theorem fst1_app {f : Nat → Bool} : ∀ (k i : Nat), fst1 f i (k + 1) = (match fst1 f i k with
    | some j => some j
    | none => if f (i + k) = true then some (i + k) else none) := by
  intro k
  induction k with
  | zero => intro i; rfl
  | succ k ih =>
    intro i
    show (if f i = true then some i else fst1 f (i + 1) (k + 1)) = (match (if f i = true then some i else fst1 f (i + 1) k) with
      | some j => some j
      | none => if f (i + (k + 1)) = true then some (i + (k + 1)) else none)
    by_cases h : f i = true
    · rw [if_pos h, if_pos h]
    · rw [if_neg h, if_neg h, ih (i + 1), show i + 1 + k = i + (k + 1) by omega]
theorem occ_lt {le : Nat → Nat → Nat} {n x hr i : Nat} (h : occL le n x hr = some i) : i < n ∧ le i 1 = x ∧ le i 2 ≤ hr ∧ hr ≤ le i 3 := by
  obtain ⟨-, h2, h3, -⟩ := fst1_some.mp h
  exact ⟨by omega, of_decide_eq_true h3⟩
theorem inOf13_loop {V : Nat → Nat → Int32} {le : Nat → Nat → Nat} {n x hr : Nat} {E : Int32 → Option Int32} (hn : n ≤ 13) (hR : ∀ i, i < n → V 13 (4 * i) = nI (le i 0) ∧ V 13 (4 * i + 1) = nI (le i 1) ∧ V 13 (4 * i + 2) = nI (le i 2) ∧ V 13 (4 * i + 3) = nI (le i 3)) (hb : ∀ i, i < n → le i 1 < 3 ∧ le i 2 < 24 ∧ le i 3 < 24) (hx : x < 3) (hh : hr < 24) :
    ∀ (k i m : Nat), i + k = n → k < m → fX12_inOf_13_L3 E V m (nI n) (nI x) (nI hr) (nI i) = (match fst1 (covL le x hr) i k with
      | some j => E (nI j)
      | none => some (-1)) := by
  intro k
  induction k with
  | zero =>
    intro i m h1 h2
    obtain ⟨m, rfl⟩ : ∃ m', m = m' + 1 := ⟨m - 1, by omega⟩
    unfold fX12_inOf_13_L3
    rw [if_pos (nI_le (a := n) (b := i) (by omega) (by omega))]
    rfl
  | succ k ih =>
    intro i m h1 h2
    obtain ⟨m, rfl⟩ : ∃ m', m = m' + 1 := ⟨m - 1, by omega⟩
    have hi : i < n := by omega
    obtain ⟨r0, r1, r2, r3⟩ := hR i hi
    obtain ⟨b1, b2, b3⟩ := hb i hi
    have ihn := ih (i + 1) m (by omega) (by omega)
    unfold fX12_inOf_13_L3 fst1
    simp (disch := omega) only [lt_e, bk_e, bd0_s, bd1_s, bd2_s, bd3_s, bd4_s, bdx_l, bdx_r, gd_tt, nI_ltI, nI_leI, nI_eq, nI_lt0, nI_ge0, nI_le0, nI_gt0, nI_eq0, nI_eq1, nI_lt1, nI_le1, nI_gt1, nI_ge1, nI_l1, nI_s1, nI_1, nI_a0, nI_0a, nI_add, nI_mul, nI_sub, nI_cl, gd_n, nI_em1, q_l2, q_l3, q_l4, q_l5, q_l6, q_l7, q_l8, q_l9, q_l10, q_l11, q_l12, q_l13, q_l14, q_l15, q_l16, q_l17, q_l18, q_l19, q_l20, q_l21, q_l22, q_l23, q_l24, q_l30, q_l31, q_l32, q_l40, q_l41, q_l45, q_l48, q_l49, q_l60, q_l63, q_l64, q_l72, q_l84, q_l96, q_l99, q_l100, q_l255, q_l343, q_l400, q_l500, q_l600, q_l800, q_l1000, q_l1440, q_l1600, q_l4095, q_l9999, q_l10000, q_l10001, q_l20000, q_l32767, q_l1000000, r1, r2, r3, ihn]
    rw [if_neg (by omega)]
    by_cases c1 : covL le x hr i = true
    · obtain ⟨q1, q2, q3⟩ : le i 1 = x ∧ le i 2 ≤ hr ∧ hr ≤ le i 3 := of_decide_eq_true c1
      rw [if_pos c1, if_pos q1, if_neg (by omega), if_neg (by omega)]
    · have c2 : ¬ (le i 1 = x ∧ le i 2 ≤ hr ∧ hr ≤ le i 3) := fun h => c1 (decide_eq_true h)
      rw [if_neg c1]
      by_cases d1 : le i 1 = x
      · rw [if_pos d1]
        by_cases d2 : hr < le i 2
        · rw [if_pos d2]
        · rw [if_neg d2, if_pos (by omega)]
      · rw [if_neg d1]
theorem inOf13 {V : Nat → Nat → Int32} {le : Nat → Nat → Nat} {n x hr : Nat} (hn : n ≤ 13) (hR : ∀ i, i < n → V 13 (4 * i) = nI (le i 0) ∧ V 13 (4 * i + 1) = nI (le i 1) ∧ V 13 (4 * i + 2) = nI (le i 2) ∧ V 13 (4 * i + 3) = nI (le i 3)) (hb : ∀ i, i < n → le i 1 < 3 ∧ le i 2 < 24 ∧ le i 3 < 24) (hx : x < 3) (hh : hr < 24) :
    fX12_inOf_13 V (nI n) (nI x) (nI hr) = some (match occL le n x hr with
      | some i => nI (le i 0)
      | none => -1) := by
  unfold fX12_inOf_13
  simp only [bk_e]
  have h := inOf13_loop (E := fun x23 => lt ((4 : Int32) * x23) (fun x24 => gd (ib x24 52) (some (V 13 x24.toNatClampNeg)))) hn hR hb hx hh n 0 FU (by omega) (by unfold FU; omega)
  rw [nI_0] at h
  rw [h]
  unfold occL
  cases ho : fst1 (covL le x hr) 0 n with
  | none => rfl
  | some j =>
    obtain ⟨h1, -⟩ := occ_lt ho
    have e0 := (hR j h1).1
    simp (disch := omega) only [lt_e, bk_e, bd0_s, bd1_s, bd2_s, bd3_s, bd4_s, bdx_l, bdx_r, gd_tt, nI_ltI, nI_leI, nI_eq, nI_lt0, nI_ge0, nI_le0, nI_gt0, nI_eq0, nI_eq1, nI_lt1, nI_le1, nI_gt1, nI_ge1, nI_l1, nI_s1, nI_1, nI_a0, nI_0a, nI_add, nI_mul, nI_sub, nI_cl, gd_n, nI_em1, q_l2, q_l3, q_l4, q_l5, q_l6, q_l7, q_l8, q_l9, q_l10, q_l11, q_l12, q_l13, q_l14, q_l15, q_l16, q_l17, q_l18, q_l19, q_l20, q_l21, q_l22, q_l23, q_l24, q_l30, q_l31, q_l32, q_l40, q_l41, q_l45, q_l48, q_l49, q_l60, q_l63, q_l64, q_l72, q_l84, q_l96, q_l99, q_l100, q_l255, q_l343, q_l400, q_l500, q_l600, q_l800, q_l1000, q_l1440, q_l1600, q_l4095, q_l9999, q_l10000, q_l10001, q_l20000, q_l32767, q_l1000000, e0]
theorem ML_b {h : Nat → Nat} {t : Nat → Nat → Nat} {n : Nat} {le : Nat → Nat → Nat} (hM : MLs h t n le) : ∀ i, i < n → le i 1 < 3 ∧ le i 2 < 24 ∧ le i 3 < 24 := fun i hi => by
  obtain ⟨-, h1, h2, h3, -⟩ := hM.2.1 i hi
  exact ⟨h1, by omega, h3⟩
theorem who30 {V : Nat → Nat → Int32} {le : Nat → Nat → Nat} {n x hr : Nat} {sz : Int32} (hn : n ≤ 12) (hC : CLs n le sz (V 31) (V 32) (V 33) (V 34) (V 35)) (hx : x < 3) (hh : hr < 24) : fX4_who_30 V (nI x) (nI hr) = some (match occL le n x hr with
      | some i => nI (le i 0)
      | none => -1) := by
  unfold fX4_who_30
  simp only [lt_e]
  rw [show (24 : Int32) = nI 24 from rfl, nI_mul, nI_add, gd_n (x * 24 + hr) 72 (by omega) (by decide), nI_cl (x * 24 + hr) (by omega), show x * 24 + hr = 24 * x + hr by omega, hC.2.2 x hr hx hh]
  cases ho : occL le n x hr with
  | none => rfl
  | some j =>
    obtain ⟨h1, -⟩ := occ_lt ho
    show (if nI j = -1 then some (-1) else gd (ib (nI j) 13) (some (V 31 (nI j).toNatClampNeg))) = _
    rw [if_neg (nI_m1 (i := j) (by omega)), gd_n j 13 (by omega) (by decide), nI_cl j (by omega), (hC.2.1 j h1).1]
/-- a number that is none from 0 to N, or one of them -/
theorem rng {a : Int32} {N : Nat} (hN : N < 2 ^ 31) : (a < 0 ∨ nI N < a) ∨ ∃ k : Nat, k ≤ N ∧ a = nI k := by
  by_cases h : a < 0 ∨ nI N < a
  · exact Or.inl h
  · have h1 : 0 ≤ a.toInt := Int.not_lt.mp (fun h2 => h (Or.inl (i_lt.mpr h2)))
    have h2 : a.toInt ≤ (N : Int) := Int.not_lt.mp (fun h2 => h (Or.inr (i_lt.mpr (by rw [nI_toInt hN]; exact h2))))
    exact Or.inr ⟨a.toInt.toNat, by omega, i_eq (by rw [nI_toInt (n := a.toInt.toNat) (by omega)]; omega)⟩
theorem within_t {k a b : Nat} (h1 : a ≤ k) (h2 : k ≤ b) (hb : b < 2 ^ 31) : fX12_within (nI k) (nI a) (nI b) = some 1 := by
  rw [within_eq, if_neg (by
    rintro (h | h)
    · exact nI_nlt (a := k) (b := a) h1 (by omega) h
    · exact nI_nlt (a := b) (b := k) h2 hb h)]
theorem isHour_t {S : Nat → Int32} {k : Nat} (h0 : S 0 = 0) (hk : k < 24) : fX12_isHour_0 S (nI k) = some (1, S) := by
  unfold fX12_isHour_0
  rw [show fX12_within (nI k) 0 23 = some 1 from within_t (a := 0) (b := 23) (by omega) (by omega) (by decide), bd1_s, right_t h0]
  rfl
theorem isHour_f {S : Nat → Int32} {a : Int32} (h0 : S 0 = 0) (ha : a < 0 ∨ nI 23 < a) : fX12_isHour_0 S a = some (0, va_up S 0 1) := by
  unfold fX12_isHour_0
  rw [within_eq, if_pos (show a < 0 ∨ 23 < a from ha), bd1_s, right_f h0 (by decide)]
  rfl
theorem isDay_t {S : Nat → Int32} {k : Nat} {w : Int32} (h0 : S 0 = 0) (hk : k < 10000) : fX12_isDay_0 S (nI k) w = some (1, S) := by
  unfold fX12_isDay_0
  rw [show fX12_within (nI k) 0 9999 = some 1 from within_t (a := 0) (b := 9999) (by omega) (by omega) (by decide), bd1_s, right_t h0]
  rfl
theorem isDay_f {S : Nat → Int32} {a w : Int32} (h0 : S 0 = 0) (hw : ¬ w = 0) (ha : a < 0 ∨ nI 9999 < a) : fX12_isDay_0 S a w = some (0, va_up S 0 w) := by
  unfold fX12_isDay_0
  rw [within_eq, if_pos (show a < 0 ∨ 9999 < a from ha), bd1_s, right_f h0 hw]
  rfl
/-- above N is not at most N -/
theorem nle_of {a : Int32} {N : Nat} (h : nI N < a) : ¬ a ≤ nI N := fun h2 => by
  have h3 := i_lt.mp h
  have h4 := i_le.mp h2
  omega
theorem nlt_of {a : Int32} {N : Nat} (hN : N + 1 < 2 ^ 31) (h : nI N < a) : ¬ a < nI (N + 1) := fun h2 => by
  have h3 := i_lt.mp h
  have h4 := i_lt.mp h2
  rw [nI_toInt (by omega)] at h3 h4
  omega
theorem nHour_t {k : Nat} (hk : k < 24) : fX11_needHour (nI k) = some (.inl ()) := by
  unfold fX11_needHour
  simp (disch := omega) only [nI_ltI, nI_leI, nI_eq, nI_lt0, nI_ge0, nI_le0, nI_gt0, nI_eq0, nI_eq1, nI_lt1, nI_le1, nI_gt1, nI_ge1, nI_l1, nI_s1, nI_1, nI_a0, nI_0a, nI_add, nI_mul, nI_sub, nI_cl, gd_n, nI_em1, q_l2, q_l3, q_l4, q_l5, q_l6, q_l7, q_l8, q_l9, q_l10, q_l11, q_l12, q_l13, q_l14, q_l15, q_l16, q_l17, q_l18, q_l19, q_l20, q_l21, q_l22, q_l23, q_l24, q_l30, q_l31, q_l32, q_l40, q_l41, q_l45, q_l48, q_l49, q_l60, q_l63, q_l64, q_l72, q_l84, q_l96, q_l99, q_l100, q_l255, q_l343, q_l400, q_l500, q_l600, q_l800, q_l1000, q_l1440, q_l1600, q_l4095, q_l9999, q_l10000, q_l10001, q_l20000, q_l32767, q_l1000000]
  rw [if_neg (by simp), if_pos (by omega)]
theorem nHour_f {a : Int32} (ha : a < 0 ∨ nI 23 < a) : fX11_needHour a = some (.inr 1) := by
  unfold fX11_needHour
  by_cases h : a < 0
  · rw [if_pos h]
  · rcases ha with ha | ha
    · exact absurd ha h
    · rw [if_neg h, if_neg (show ¬ a ≤ 23 from nle_of ha)]
theorem nDay_t {k : Nat} (hk : k < 10000) : fX11_needDay (nI k) = some (.inl ()) := by
  unfold fX11_needDay
  simp (disch := omega) only [nI_ltI, nI_leI, nI_eq, nI_lt0, nI_ge0, nI_le0, nI_gt0, nI_eq0, nI_eq1, nI_lt1, nI_le1, nI_gt1, nI_ge1, nI_l1, nI_s1, nI_1, nI_a0, nI_0a, nI_add, nI_mul, nI_sub, nI_cl, gd_n, nI_em1, q_l2, q_l3, q_l4, q_l5, q_l6, q_l7, q_l8, q_l9, q_l10, q_l11, q_l12, q_l13, q_l14, q_l15, q_l16, q_l17, q_l18, q_l19, q_l20, q_l21, q_l22, q_l23, q_l24, q_l30, q_l31, q_l32, q_l40, q_l41, q_l45, q_l48, q_l49, q_l60, q_l63, q_l64, q_l72, q_l84, q_l96, q_l99, q_l100, q_l255, q_l343, q_l400, q_l500, q_l600, q_l800, q_l1000, q_l1440, q_l1600, q_l4095, q_l9999, q_l10000, q_l10001, q_l20000, q_l32767, q_l1000000]
  rw [if_neg (by simp), if_pos (by omega)]
theorem nDay_f {a : Int32} (ha : a < 0 ∨ nI 9999 < a) : fX11_needDay a = some (.inr 0) := by
  unfold fX11_needDay
  by_cases h : a < 0
  · rw [if_pos h]
  · rcases ha with ha | ha
    · exact absurd ha h
    · rw [if_neg h, if_neg (show ¬ a ≤ 9999 from nle_of ha)]
theorem sm_in : St_in Rel := fun S V S' V' L' a1 a2 h => by
  obtain ⟨-, -, -, ⟨hh, t, ru, -, ⟨n, le, hM, -, hC, hR⟩, -⟩, -⟩ := id h
  rcases rng (a := a1) (N := 2) (by decide) with h1 | ⟨x, hx, rfl⟩
  · refine Or.inr ⟨0, va_up (va_up S' 0 0) 0 1, ?_, ?_, rfl, R_thr (R_thr h)⟩
    · unfold fX11_in_0
      by_cases h2 : a1 < 0
      · rw [if_pos h2]
      · rcases h1 with h1 | h1
        · exact absurd h1 h2
        · rw [if_neg h2, if_neg (show ¬ a1 < 3 from nlt_of (N := 2) (by decide) h1)]
    · unfold fX12_in_0
      simp only [lt_e]
      rw [within_eq, if_pos (show a1 < 0 ∨ 2 < a1 from h1), bd1_s, right_f rfl (by decide)]
      rfl
  · have e1 : ¬ (nI x < 0) := nI_pos (by omega)
    have e2 : nI x < 3 := nI_lt (a := x) (b := 3) (by omega) (by decide)
    have e3 : fX12_within (nI x) 0 2 = some 1 := within_t (a := 0) (b := 2) (by omega) hx (by decide)
    rcases rng (a := a2) (N := 23) (by decide) with h2 | ⟨y, hy, rfl⟩
    · refine Or.inr ⟨0, va_up (va_up S' 0 0) 0 1, ?_, ?_, rfl, R_thr (R_thr h)⟩
      · unfold fX11_in_0
        rw [if_neg e1, if_pos e2, nHour_f h2]
        rfl
      · unfold fX12_in_0
        simp only [lt_e]
        rw [e3, bd1_s, right_t rfl, bd2_s, if_neg (by decide), isHour_f rfl h2]
        rfl
    · refine Or.inl ⟨(match occL le n x y with
        | some i => nI (le i 0)
        | none => -1), va_up S' 0 0, ?_, ?_, rfl, R_thr h⟩
      · unfold fX11_in_0
        rw [if_neg e1, if_pos e2, nHour_t (k := y) (by omega), bdx_l, who30 (x := x) (hr := y) hM.1 hC (by omega) (by omega)]
        rfl
      · unfold fX12_in_0
        simp only [lt_e]
        rw [e3, bd1_s, right_t rfl, bd2_s, if_neg (by decide), isHour_t (k := y) rfl (by omega), bd2_s, if_neg (by decide), show va_up S' 0 0 42 = nI n from hR.1, inOf13 (x := x) (hr := y) (by have := hM.1; omega) hR.2 (ML_b hM) (by omega) (by omega)]
        rfl

/-! ===== undo ===== -/
theorem occ_succ {le : Nat → Nat → Nat} (n x hr : Nat) : occL le (n + 1) x hr = (match occL le n x hr with
    | some j => some j
    | none => if covL le x hr n = true then some n else none) := by
  unfold occL
  rw [fst1_app, Nat.zero_add]
theorem fill30_loop {S : Nat → Int32} {V : Nat → Nat → Int32} {v : Int32} {k x g : Nat} (hS : S 3002 = nI k) (hk : k < 13) (hx : x < 3) (hg : g < 24) (e32 : V 32 k = nI x) (e34 : V 34 k = nI g) : ∀ (j f m : Nat) (c : Nat → Int32), f + j = g + 1 → j < m →
    fX4_fillCells_30_L10 S m v (nI f) (va_up V 35 c) = some (va_up V 35 (fun i => if 24 * x + f ≤ i ∧ i ≤ 24 * x + g then v else c i)) := by
  intro j
  induction j with
  | zero =>
    intro f m c h1 h2
    obtain ⟨m, rfl⟩ : ∃ m', m = m' + 1 := ⟨m - 1, by omega⟩
    unfold fX4_fillCells_30_L10
    simp only [lt_e]
    rw [hS, gd_n k 13 hk (by decide), nI_cl k (by omega), va_up_ne _ _ (show 34 ≠ 35 by decide), e34, if_pos (nI_lt (a := g) (b := f) (by omega) (by omega))]
    refine congrArg some (congrArg (va_up V 35) ?_)
    funext i
    rw [if_neg (by omega)]
  | succ j ih =>
    intro f m c h1 h2
    obtain ⟨m, rfl⟩ : ∃ m', m = m' + 1 := ⟨m - 1, by omega⟩
    unfold fX4_fillCells_30_L10
    simp only [lt_e]
    rw [hS, gd_n k 13 hk (by decide), nI_cl k (by omega), va_up_ne _ _ (show 34 ≠ 35 by decide), e34, if_neg (nI_nlt (a := g) (b := f) (by omega) (by omega)), gd_n k 13 hk (by decide), va_up_ne _ _ (show 32 ≠ 35 by decide), e32, show (24 : Int32) = nI 24 from rfl, nI_mul, nI_add, gd_n (x * 24 + f) 72 (by omega) (by decide), nI_cl (x * 24 + f) (by omega), nI_1, va_up_self]
    rw [va_up_up, ih (f + 1) m _ (by omega) (by omega)]
    refine congrArg some (congrArg (va_up V 35) ?_)
    funext i
    by_cases hi : i = x * 24 + f
    · rw [if_neg (by omega), if_pos (by omega)]
      simp [upd, hi]
    · by_cases h3 : 24 * x + f ≤ i ∧ i ≤ 24 * x + g
      · rw [if_pos (by omega), if_pos h3]
      · rw [if_neg (by omega), if_neg h3]
        simp [upd, hi]
theorem va_up_id {α : Type} (f : Nat → α) (k : Nat) : va_up f k (f k) = f := va_same rfl
theorem fill30 {S : Nat → Int32} {V : Nat → Nat → Int32} {v : Int32} {k x f g : Nat} (hS : S 3002 = nI k) (hk : k < 13) (hx : x < 3) (hf : f ≤ g) (hg : g < 24) (e32 : V 32 k = nI x) (e33 : V 33 k = nI f) (e34 : V 34 k = nI g) :
    fX4_fillCells_30 S V v = some (va_up V 35 (fun i => if 24 * x + f ≤ i ∧ i ≤ 24 * x + g then v else V 35 i)) := by
  unfold fX4_fillCells_30
  simp only [lt_e]
  rw [hS, gd_n k 13 hk (by decide), nI_cl k (by omega), e33]
  have h := fill30_loop (v := v) hS hk hx hg e32 e34 (g + 1 - f) f FU (V 35) (by omega) (by unfold FU; omega)
  rw [va_up_id] at h
  rw [h]
theorem MLs_pred {h : Nat → Nat} {t : Nat → Nat → Nat} {n : Nat} {le : Nat → Nat → Nat} (hM : MLs h t (n + 1) le) : MLs h t n le := ⟨by have := hM.1; omega, fun i hi => hM.2.1 i (by omega), fun i j hr h1 h2 => hM.2.2 i j hr h1 (by omega)⟩
theorem MLr_pred {h : Nat → Nat} {t : Nat → Nat → Nat} {ru : Nat → List Nat} {n : Nat} {le : Nat → Nat → Nat} (hM : MLr h t ru (n + 1) le) : MLr h t ru n le := fun m hm => hM m (by omega)
/-- without the last lease -/
theorem CLs_pred {h : Nat → Nat} {t : Nat → Nat → Nat} {n : Nat} {le : Nat → Nat → Nat} {sz : Int32} {te ha fr to cl : Nat → Int32} (hM : MLs h t (n + 1) le) (hC : CLs (n + 1) le sz te ha fr to cl) : CLs n le (nI n) te ha fr to (fun i => if 24 * le n 1 + le n 2 ≤ i ∧ i ≤ 24 * le n 1 + le n 3 then -1 else cl i) := by
  refine ⟨rfl, fun i hi => hC.2.1 i (by omega), fun x hr hx hh => ?_⟩
  obtain ⟨b0, b1, b2, b3, -⟩ := hM.2.1 n (by omega)
  have hc := hC.2.2 x hr hx hh
  rw [occ_succ] at hc
  by_cases hcv : covL le x hr n = true
  · obtain ⟨q1, q2, q3⟩ : le n 1 = x ∧ le n 2 ≤ hr ∧ hr ≤ le n 3 := of_decide_eq_true hcv
    have hno : occL le n x hr = none := by
      refine fst1_none.mpr (fun j _ h2 => ?_)
      cases hcj : covL le x hr j with
      | false => rfl
      | true =>
        obtain ⟨p1, p2, p3⟩ : le j 1 = x ∧ le j 2 ≤ hr ∧ hr ≤ le j 3 := of_decide_eq_true hcj
        exact absurd (p1.trans q1.symm) (hM.2.2 j n hr (by omega) (by omega) p2 p3 q2 q3).1
    rw [hno]
    exact if_pos (by subst q1; omega)
  · have hn : ¬ (24 * le n 1 + le n 2 ≤ 24 * x + hr ∧ 24 * x + hr ≤ 24 * le n 1 + le n 3) := fun h => by
      have : le n 1 = x := by omega
      subst this
      exact hcv (decide_eq_true ⟨rfl, by omega, by omega⟩)
    refine (if_neg hn).trans ?_
    rw [hc]
    cases occL le n x hr with
    | some j => rfl
    | none =>
      show (match (if covL le x hr n = true then some n else none) with
        | some i => nI i
        | none => -1) = _
      rw [if_neg hcv]
theorem nI_dec (n : Nat) : nI (n + 1) - 1 = nI n := nI_pred n
theorem sm_undo : St_undo Rel := fun S V S' V' L' h => by
  obtain ⟨h1, h2, h3, ⟨hh, t, ru, hH, ⟨n, le, hM, hr, hC, hR⟩, hI⟩, h5⟩ := id h
  cases n with
  | zero =>
    refine ⟨-1, S, V, va_up S' 0 0, ?_, ?_, R_thr h⟩
    · unfold fX11_undo_0 fX4_takeBack_30
      rw [if_pos (hC.1.trans nI_0)]
      rfl
    · unfold fX12_undo_0
      simp only [lt_e]
      rw [if_pos (show va_up S' 0 0 42 = 0 from hR.1.trans nI_0)]
  | succ n =>
    have hn := hM.1
    obtain ⟨b0, b1, b2, b3, -⟩ := hM.2.1 n (by omega)
    obtain ⟨c0, c1, c2, c3⟩ := hC.2.1 n (by omega)
    have hf := fill30 (S := va_up S 3002 (nI n)) (V := V) (v := -1) (k := n) (x := le n 1) (f := le n 2) (g := le n 3) rfl (by omega) b1 b2 b3 c1 c2 c3
    refine ⟨nI n, va_up S 3002 (nI n), va_up V 35 (fun i => if 24 * le n 1 + le n 2 ≤ i ∧ i ≤ 24 * le n 1 + le n 3 then -1 else V 35 i), va_up (va_up S' 0 0) 42 (nI n), ?_, ?_, h1, h2, h3, ⟨hh, t, ru, hH, ⟨n, le, MLs_pred hM, MLr_pred hr, CLs_pred hM hC, rfl, fun i hi => hR.2 i (by omega)⟩, hI⟩, h5⟩
    · unfold fX11_undo_0 fX4_takeBack_30 fX4_moveOut_30
      rw [hC.1, if_neg (nI_ne0 (n := n + 1) (by omega) (by omega))]
      simp only [lt_e]
      rw [nI_dec, hf]
      rfl
    · unfold fX12_undo_0
      simp only [lt_e]
      rw [show va_up S' 0 0 42 = nI (n + 1) from hR.1, if_neg (nI_ne0 (n := n + 1) (by omega) (by omega)), nI_dec]
      rfl
