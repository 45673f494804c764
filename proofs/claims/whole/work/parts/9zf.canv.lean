/-! ===== can they visit: the class's look ===== -/
def subM (s m : Nat) : Prop := ∀ k, k < 31 → s.testBit k = true → m.testBit k = true
theorem canL {V : Nat → Nat → Int32} {hS : Nat → Nat} {m hb : Nat} (hm : m < 64) (h60 : ∀ s, s < 64 → V 60 s = nI (hS s) ∧ hS s < 2 ^ 24) : ∀ (j s f : Nat), s + j = m + 1 → j < f → ∃ b : Bool, fX7_canVisit_59_L2 V f (nI m) (nI hb) (nI s) = some (bI b) ∧ (b = true ↔ ∀ q, s ≤ q → q ≤ m → subM q m → fb_ct q.testBit 32 ≤ fb_ct (hS q &&& hb).testBit 32) := by
  intro j
  induction j with
  | zero =>
    intro s f c1 c2
    obtain ⟨f, rfl⟩ : ∃ z, f = z + 1 := ⟨f - 1, by omega⟩
    refine ⟨true, ?_, fun _ q h1 h2 => by omega, fun _ => rfl⟩
    rw [fX7_canVisit_59_L2, if_pos (nI_lt (by omega) (by omega))]
    rfl
  | succ j ih =>
    intro s f c1 c2
    obtain ⟨f, rfl⟩ : ∃ z, f = z + 1 := ⟨f - 1, by omega⟩
    obtain ⟨v1, v2⟩ := h60 s (by omega)
    obtain ⟨b, e1, e2⟩ := ih (s + 1) f (by omega) (by omega)
    have hl : hS s &&& hb < 2 ^ 31 := Nat.lt_of_le_of_lt Nat.and_le_left (by omega)
    have st : fX7_canVisit_59_L2 V (f + 1) (nI m) (nI hb) (nI s) = if nI (andn s m) = 0 then (if nI (fb_ct s.testBit 32) ≤ nI (fb_ct (hS s &&& hb).testBit 32) then fX7_canVisit_59_L2 V f (nI m) (nI hb) (nI (s + 1)) else some 0) else fX7_canVisit_59_L2 V f (nI m) (nI hb) (nI (s + 1)) := by
      rw [fX7_canVisit_59_L2, if_neg (nI_nlt (by omega) (by omega)), andn_i]
      simp only [lt_e, bk_e, nI_1]
      rw [gd_n s 64 (by omega) (by decide), nI_cl s (by omega), v1, fa_and, bitCount_eq hl, bd1_s, bitCount_eq (by omega), bd1_s]
    rw [st]
    have cb1 := fb_ct_le s.testBit 32
    have cb2 := fb_ct_le (hS s &&& hb).testBit 32
    by_cases p : subM s m
    · rw [if_pos ((andn_0 (by omega)).mpr p)]
      by_cases q : fb_ct s.testBit 32 ≤ fb_ct (hS s &&& hb).testBit 32
      · rw [if_pos (nI_le q (by omega))]
        refine ⟨b, e1, e2.trans ⟨fun hh k h1 h2 h3 => ?_, fun hh k h1 h2 h3 => hh k (by omega) h2 h3⟩⟩
        by_cases e : k = s
        · subst e; exact q
        · exact hh k (by omega) h2 h3
      · rw [if_neg (nI_ge (by omega) (by omega))]
        exact ⟨false, rfl, fun hh => (by cases hh), fun hh => absurd (hh s (Nat.le_refl _) (by omega) p) q⟩
    · rw [if_neg (fun z => p ((andn_0 (by omega)).mp z))]
      refine ⟨b, e1, e2.trans ⟨fun hh k h1 h2 h3 => ?_, fun hh k h1 h2 h3 => hh k (by omega) h2 h3⟩⟩
      by_cases e : k = s
      · subst e; exact absurd h3 p
      · exact hh k (by omega) h2 h3
def mM (s : Nat → Bool) : Nat → Nat
  | 0 => 0
  | k + 1 => mM s k ||| (if s k = true then 2 ^ k else 0)
theorem mM_tb (s : Nat → Bool) : ∀ (k a : Nat), (mM s k).testBit a = (decide (a < k) && s a)
  | 0, a => by simp [mM]
  | k + 1, a => by
    rw [mM, Nat.testBit_or, mM_tb s k a]
    by_cases h : s k = true
    · rw [if_pos h, Nat.testBit_two_pow]
      by_cases e : k = a
      · subst e; simp [h]
      · have : (a < k) ↔ (a < k + 1) := by omega
        simp [e, this]
    · rw [if_neg h, Nat.zero_testBit, Bool.or_false]
      by_cases e : a = k
      · subst e; simp at h; simp [h]
      · have : (a < k) ↔ (a < k + 1) := by omega
        simp [this]
theorem mM_lt (s : Nat → Bool) : ∀ k, mM s k < 2 ^ k
  | 0 => (by decide : 0 < 2 ^ 0)
  | k + 1 => by
    rw [mM]
    refine or_lt (Nat.lt_trans (mM_lt s k) (Nat.pow_lt_pow_right (by decide) (by omega))) ?_
    split
    · exact Nat.pow_lt_pow_right (by decide) (by omega)
    · exact Nat.two_pow_pos _
theorem ct_6 {x : Nat} (hx : x < 64) : fb_ct x.testBit 32 = fb_ct x.testBit 6 := by
  have h1 : fb_ct x.testBit 32 = fb_ct x.testBit 6 + fb_ct (fun k => x.testBit (6 + k)) 26 := fb_ct_split x.testBit 6 26
  have h2 : fb_ct (fun k => x.testBit (6 + k)) 26 = 0 := fb_ct_zero.mpr (fun k _ => Nat.testBit_lt_two_pow (Nat.lt_of_lt_of_le hx (Nat.pow_le_pow_right (n := 2) (i := 6) (j := 6 + k) (by decide) (by omega))))
  omega
theorem ct_24 {x : Nat} (hx : x < 2 ^ 24) : fb_ct x.testBit 32 = fb_ct x.testBit 24 := by
  have h1 : fb_ct x.testBit 32 = fb_ct x.testBit 24 + fb_ct (fun k => x.testBit (24 + k)) 8 := fb_ct_split x.testBit 24 8
  have h2 : fb_ct (fun k => x.testBit (24 + k)) 8 = 0 := fb_ct_zero.mpr (fun k _ => Nat.testBit_lt_two_pow (Nat.lt_of_lt_of_le hx (Nat.pow_le_pow_right (n := 2) (i := 24) (j := 24 + k) (by decide) (by omega))))
  omega
