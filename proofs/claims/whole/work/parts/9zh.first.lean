noncomputable def eb (Hs : Nat → Nat → Bool) (p fr : Nat → Bool) : Bool := @decide (sdr Hs p fr) (Classical.propDecidable _)
theorem eb_iff {Hs : Nat → Nat → Bool} {p fr : Nat → Bool} : eb Hs p fr = true ↔ sdr Hs p fr := by
  unfold eb
  exact @decide_eq_true_iff _ (Classical.propDecidable _)
theorem sdr_cong {Hs : Nat → Nat → Bool} {p p2 fr fr2 : Nat → Bool} (h1 : ∀ a, a < 6 → p a = p2 a) (h2 : ∀ k, k < 24 → fr k = fr2 k) : sdr Hs p fr ↔ sdr Hs p2 fr2 := by
  constructor
  · rintro ⟨f, f1, f2⟩
    refine ⟨f, fun a ha h => ?_, fun a b ha hb ha2 hb2 => f2 a b ha hb (by rw [h1 a ha]; exact ha2) (by rw [h1 b hb]; exact hb2)⟩
    obtain ⟨q1, q2, q3⟩ := f1 a ha (by rw [h1 a ha]; exact h)
    exact ⟨q1, q2, by rw [← h2 _ q1]; exact q3⟩
  · rintro ⟨f, f1, f2⟩
    refine ⟨f, fun a ha h => ?_, fun a b ha hb ha2 hb2 => f2 a b ha hb (by rw [← h1 a ha]; exact ha2) (by rw [← h1 b hb]; exact hb2)⟩
    obtain ⟨q1, q2, q3⟩ := f1 a ha (by rw [← h1 a ha]; exact h)
    exact ⟨q1, q2, by rw [h2 _ q1]; exact q3⟩
theorem eb_cong {Hs : Nat → Nat → Bool} {p p2 fr fr2 : Nat → Bool} (h1 : ∀ a, a < 6 → p a = p2 a) (h2 : ∀ k, k < 24 → fr k = fr2 k) : eb Hs p fr = eb Hs p2 fr2 := by
  rw [Bool.eq_iff_iff, eb_iff, eb_iff]
  exact sdr_cong h1 h2
/-- the hours without one -/
abbrev wo (fr : Nat → Bool) (hr : Nat) : Nat → Bool := fun k => if k = hr then false else fr k
theorem andn_pow {x hr k : Nat} (hk : k < 32) : (andn x (2 ^ hr)).testBit k = wo x.testBit hr k := by
  rw [andn_tb hk, Nat.testBit_two_pow]
  by_cases e : k = hr
  · subst e; simp
  · have : ¬ hr = k := fun q => e q.symm
    simp [e, this]
theorem firstH {V : Nat → Nat → Int32} {hS : Nat → Nat} {Hs : Nat → Nat → Bool} {rest free hs : Nat} (hm : rest < 64) (hhb : free < 2 ^ 24) (h60 : ∀ s, s < 64 → V 60 s = nI (hS s) ∧ hS s < 2 ^ 24) (hHs : ∀ s hr, s < 64 → hr < 24 → (hS s).testBit hr = nbF Hs s.testBit hr) : fX7_firstHour_59 V (nI hs) (nI rest) (nI free) = some (enc (fst1 (fun hr => hs.testBit hr && eb Hs rest.testBit (wo free.testBit hr)) 0 24)) := by
  have L : ∀ (j hr f : Nat), hr + j = 24 → j < f → fX7_firstHour_59_L3 V f (nI hs) (nI rest) (nI free) (nI hr) = some (enc (fst1 (fun hr => hs.testBit hr && eb Hs rest.testBit (wo free.testBit hr)) hr j)) := by
    intro j
    induction j with
    | zero =>
      intro hr f c1 c2
      obtain ⟨f, rfl⟩ : ∃ z, f = z + 1 := ⟨f - 1, by omega⟩
      rw [fX7_firstHour_59_L3, if_pos (show 24 ≤ nI hr from nI_le (a := 24) (b := hr) (by omega) (by omega))]
      rfl
    | succ j ih =>
      intro hr f c1 c2
      obtain ⟨f, rfl⟩ : ∃ z, f = z + 1 := ⟨f - 1, by omega⟩
      have ihn := ih (hr + 1) f (by omega) (by omega)
      obtain ⟨b, e1, e2⟩ := can_iff (V := V) (Hs := Hs) (m := rest) (hb := andn free (2 ^ hr)) hm (Nat.lt_of_le_of_lt (andn_le _ _) hhb) h60 hHs
      have eb' : eb Hs rest.testBit (wo free.testBit hr) = b := by
        rw [Bool.eq_iff_iff, e2, eb_iff]
        exact sdr_cong (fun _ _ => rfl) (fun k hk => (andn_pow (by omega)).symm)
      rw [fX7_firstHour_59_L3, if_neg (show ¬ 24 ≤ nI hr from nI_ge (a := hr) (b := 24) (by omega) (by omega)), bit_lt (by omega), andn_i, e1]
      simp only [lt_e, bk_e, bd1_s, nI_1, sh1_0 (show hr < 32 by omega)]
      rw [fst1, ihn]
      show _ = some (enc (if (hs.testBit hr && eb Hs rest.testBit (wo free.testBit hr)) = true then some hr else _))
      rw [eb']
      cases hb : hs.testBit hr with
      | false =>
        rw [if_pos rfl, if_neg (by simp)]
      | true =>
        rw [if_neg (by decide)]
        cases b with
        | true => rw [if_neg (by decide), if_pos (show (true && true) = true from rfl)]; rfl
        | false => rw [if_pos (show bI false = 0 from rfl), if_neg (by decide)]
  have := L 24 0 FU (by omega) (by unfold FU; omega)
  rw [nI_0] at this
  exact this
