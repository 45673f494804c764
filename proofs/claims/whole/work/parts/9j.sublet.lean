/-! ===== sublet ===== -/
def hvF (op : Nat) : Nat → Nat → Nat → Nat
  | _, 0, acc => acc
  | i, k + 1, acc => hvF op (i + 1) k (acc ||| (if op.testBit i = true then 2 ^ i else 2 ^ 24))
theorem hv_tb (op b : Nat) : ∀ (k i acc : Nat), ((hvF op i k acc).testBit b = true ↔ (acc.testBit b = true ∨ ∃ q, i ≤ q ∧ q < i + k ∧ ((op.testBit q = true ∧ b = q) ∨ (op.testBit q = false ∧ b = 24))))
  | 0, i, acc => by
    show acc.testBit b = true ↔ _
    constructor
    · exact Or.inl
    · rintro (h | ⟨q, h1, h2, -⟩)
      · exact h
      · omega
  | k + 1, i, acc => by
    rw [hvF, hv_tb op b k (i + 1), Nat.testBit_or, Bool.or_eq_true]
    have e : ((if op.testBit i = true then 2 ^ i else 2 ^ 24).testBit b = true) ↔ ((op.testBit i = true ∧ b = i) ∨ (op.testBit i = false ∧ b = 24)) := by
      cases op.testBit i with
      | true => rw [if_pos rfl, Nat.testBit_two_pow]; simp [eq_comm]
      | false => rw [if_neg (by decide), Nat.testBit_two_pow]; simp [eq_comm]
    rw [e]
    constructor
    · rintro ((h | h) | ⟨q, h1, h2, h3⟩)
      · exact Or.inl h
      · exact Or.inr ⟨i, Nat.le_refl _, by omega, h⟩
      · exact Or.inr ⟨q, by omega, by omega, h3⟩
    · rintro (h | ⟨q, h1, h2, h3⟩)
      · exact Or.inl (Or.inl h)
      · by_cases e2 : q = i
        · subst e2
          exact Or.inl (Or.inr h3)
        · exact Or.inr ⟨q, by omega, by omega, h3⟩
theorem hv_lt (op : Nat) : ∀ (k i acc : Nat), i + k ≤ 24 → acc < 2 ^ 25 → hvF op i k acc < 2 ^ 25
  | 0, _, _, _, h => h
  | k + 1, i, acc, h1, h2 => by
    rw [hvF]
    refine hv_lt op k (i + 1) _ (by omega) (or_lt h2 ?_)
    split
    · exact Nat.pow_lt_pow_right (by decide) (by omega)
    · decide
theorem shr24 {x : Nat} (hx : x < 2 ^ 25) : ((nI x >>> ((24 : Int32) &&& 31)) = 0) ↔ x.testBit 24 = false := by
  constructor
  · intro e
    have : bt (nI x >>> ((24 : Int32) &&& 31)) 0 = bt 0 0 := by rw [e]
    rw [show (nI x >>> ((24 : Int32) &&& 31)) = (nI x >>> (nI 24 &&& 31)) from rfl, b_sshr 24 (by decide) _ (by decide), if_pos (by decide), nbt (by decide), bt_0 0 (by decide)] at this
    exact this
  · intro e
    apply b_ext
    intro i hi
    rw [show (nI x >>> ((24 : Int32) &&& 31)) = (nI x >>> (nI 24 &&& 31)) from rfl, b_sshr 24 (by decide) _ hi, bt_0 i hi]
    have big : ∀ j, 25 ≤ j → x.testBit j = false := fun j hj => Nat.testBit_lt_two_pow (Nat.lt_of_lt_of_le hx (Nat.pow_le_pow_right (by decide) hj))
    split
    · rw [nbt (by omega)]
      by_cases h0 : i = 0
      · subst h0; exact e
      · exact big _ (by omega)
    · rw [nbt (by decide)]
      exact big _ (by decide)
theorem ivl_tb' {f g : Nat} (h1 : f ≤ g) (h2 : g < 24) (k : Nat) : (ivl f g).testBit k = decide (f ≤ k ∧ k ≤ g) := by
  by_cases hk : k < 32
  · exact ivl_tb f (by omega) g h2 h1 k hk
  · rw [Nat.testBit_lt_two_pow (Nat.lt_of_lt_of_le (ivl_lt f (by omega) g h2) (Nat.pow_le_pow_right (by decide) (by omega)))]
    exact (decide_eq_false (by omega)).symm
theorem hv_24 {op f g : Nat} (h1 : f ≤ g) (h2 : g < 24) : (hvF op f (g + 1 - f) 0).testBit 24 = false ↔ ∀ q, f ≤ q → q ≤ g → op.testBit q = true := by
  have e := hv_tb op 24 (g + 1 - f) f 0
  constructor
  · intro h q q1 q2
    cases ho : op.testBit q with
    | true => rfl
    | false =>
      have := e.mpr (Or.inr ⟨q, q1, by omega, Or.inr ⟨ho, rfl⟩⟩)
      rw [h] at this
      cases this
  · intro h
    cases hb : (hvF op f (g + 1 - f) 0).testBit 24 with
    | false => rfl
    | true =>
      rcases e.mp hb with h3 | ⟨q, q1, q2, (⟨-, q3⟩ | ⟨q3, -⟩)⟩
      · rw [Nat.zero_testBit] at h3; cases h3
      · omega
      · rw [h q q1 (by omega)] at q3; cases q3
theorem hv_ivl {op f g : Nat} (h1 : f ≤ g) (h2 : g < 24) (hc : ∀ q, f ≤ q → q ≤ g → op.testBit q = true) : hvF op f (g + 1 - f) 0 = ivl f g := by
  apply Nat.eq_of_testBit_eq
  intro b
  rw [ivl_tb' h1 h2, Bool.eq_iff_iff, hv_tb, decide_eq_true_iff]
  constructor
  · rintro (h3 | ⟨q, q1, q2, (⟨-, q3⟩ | ⟨q3, -⟩)⟩)
    · rw [Nat.zero_testBit] at h3; cases h3
    · omega
    · rw [hc q q1 (by omega)] at q3; cases q3
  · rintro ⟨b1, b2⟩
    exact Or.inr ⟨b, b1, by omega, Or.inl ⟨hc b b1 b2, rfl⟩⟩
section SB
variable {h : Nat → Nat} {t : Nat → Nat → Nat} {n : Nat} {le : Nat → Nat → Nat}
abbrev opN (le : Nat → Nat → Nat) (n : Nat) : Nat := andn (bitsX le 0 n &&& bitsX le 1 n) (bitsX le 2 n)
theorem op_tb (hM : MLs h t n le) {hr : Nat} (hh : hr < 24) : (opN le n).testBit hr = true ↔ (whoL le n 0 hr ≠ none ∧ whoL le n 1 hr ≠ none ∧ whoL le n 2 hr = none) := by
  unfold opN
  rw [andn_tb (by omega), Nat.testBit_and, Ne, Ne, who_bit hM (by omega), who_bit hM (by omega), who_bit hM (by omega)]
  cases (bitsX le 0 n).testBit hr <;> cases (bitsX le 1 n).testBit hr <;> cases (bitsX le 2 n).testBit hr <;> simp
theorem op_lt (hM : MLs h t n le) : opN le n < 2 ^ 24 := Nat.lt_of_le_of_lt (andn_le _ _) (Nat.lt_of_le_of_lt Nat.and_le_left (bitsX_lt hM 0 n (Nat.le_refl _)))
theorem openC {S : Nat → Int32} {V : Nat → Nat → Int32} (hM : MLs h t n le) (hC : CLs n le (S 3002) (V 31) (V 32) (V 33) (V 34) (V 35)) : fX4_openPauses_30 S V = some (nI (opN le n)) := by
  unfold fX4_openPauses_30
  rw [show fX4_letHours_30 S V 0 = _ from letH30 (x := 0) hM hC (by decide), bd1_s, show fX4_letHours_30 S V 1 = _ from letH30 (x := 1) hM hC (by decide), bd1_s, show fX4_letHours_30 S V 2 = _ from letH30 (x := 2) hM hC (by decide), bd1_s, fa_and, andn_i]
theorem offR {S : Nat → Int32} {V : Nat → Nat → Int32} (h46 : h 4 ≤ 6) (hM : MLs h t n le) (hR : RLs n le (S 42) (V 13)) {k f g : Nat} (hk : k < 8) (v0 : V 21 (3 * k) = nI f) (v1 : V 21 (3 * k + 1) = nI g) (hfg : f ≤ g) (hg : g < 24) : fX12_hoursOfOffer_0 S V (nI k) = some (nI (hvF (opN le n) f (g + 1 - f) 0)) := by
  have L : ∀ (j i m acc : Nat), i + j = g + 1 → j < m → fX12_hoursOfOffer_0_L11 S V m (nI k) (nI acc) (nI i) = some (nI (hvF (opN le n) i j acc)) := by
    intro j
    induction j with
    | zero =>
      intro i m acc c1 c2
      obtain ⟨m, rfl⟩ : ∃ z, m = z + 1 := ⟨m - 1, by omega⟩
      rw [fX12_hoursOfOffer_0_L11]
      simp only [lt_e]
      rw [show (3 : Int32) * nI k + 1 = nI (3 * k + 1) by rw [show (3 : Int32) = nI 3 from rfl, nI_mul, nI_1], gd_n (3 * k + 1) 24 (by omega) (by decide), nI_cl (3 * k + 1) (by omega), v1, if_pos (nI_lt (by omega) (by omega))]
      rfl
    | succ j ih =>
      intro i m acc c1 c2
      obtain ⟨m, rfl⟩ : ∃ z, m = z + 1 := ⟨m - 1, by omega⟩
      have o0 : (enc (whoL le n 0 i) = -1) ↔ _ := enc_m1 h46 (who_ok hM 0 i)
      have o1 : (enc (whoL le n 1 i) = -1) ↔ _ := enc_m1 h46 (who_ok hM 1 i)
      have o2 : (enc (whoL le n 2 i) = -1) ↔ _ := enc_m1 h46 (who_ok hM 2 i)
      have ob := op_tb hM (hr := i) (by omega)
      rw [fX12_hoursOfOffer_0_L11]
      simp only [lt_e, bk_e]
      rw [show (3 : Int32) * nI k + 1 = nI (3 * k + 1) by rw [show (3 : Int32) = nI 3 from rfl, nI_mul, nI_1], gd_n (3 * k + 1) 24 (by omega) (by decide), nI_cl (3 * k + 1) (by omega), v1, if_neg (nI_nlt (by omega) (by omega)), hR.1, show fX12_inOf_13 V (nI n) 0 (nI i) = _ from inOf13' (x := 0) hM hR (by decide) (by omega), show fX12_inOf_13 V (nI n) 1 (nI i) = _ from inOf13' (x := 1) hM hR (by decide) (by omega), show fX12_inOf_13 V (nI n) 2 (nI i) = _ from inOf13' (x := 2) hM hR (by decide) (by omega)]
      simp only [bd1_s, o0, o1, o2, if_true, bit_lt (show i < 31 by omega), fa_or, show (16777216 : Int32) = nI (2 ^ 24) from rfl, nI_1]
      rw [hvF]
      by_cases p0 : whoL le n 0 i = none
      · rw [if_pos p0, if_neg (fun z => (ob.mp z).1 p0)]
        exact ih (i + 1) m _ (by omega) (by omega)
      · rw [if_neg p0]
        by_cases p1 : whoL le n 1 i = none
        · rw [if_pos p1, if_neg (fun z => (ob.mp z).2.1 p1)]
          exact ih (i + 1) m _ (by omega) (by omega)
        · rw [if_neg p1]
          by_cases p2 : whoL le n 2 i = none
          · rw [if_pos p2, if_neg (by decide), if_pos (ob.mpr ⟨p0, p1, p2⟩)]
            exact ih (i + 1) m _ (by omega) (by omega)
          · rw [if_neg p2, if_neg (fun z => p2 (ob.mp z).2.2)]
            exact ih (i + 1) m _ (by omega) (by omega)
  unfold fX12_hoursOfOffer_0
  simp only [lt_e]
  rw [show (3 : Int32) * nI k = nI (3 * k) by rw [show (3 : Int32) = nI 3 from rfl, nI_mul], gd_n (3 * k) 24 (by omega) (by decide), nI_cl (3 * k) (by omega), v0]
  have := L (g + 1 - f) f FU 0 (by omega) (by unfold FU; omega)
  rw [nI_0] at this
  exact this
end SB
