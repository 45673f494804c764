theorem nb_cong {Hs : Nat → Nat → Bool} {p q : Nat → Bool} (h : ∀ a, a < 6 → p a = q a) (hr : Nat) : nbF Hs p hr = nbF Hs q hr := by
  rw [Bool.eq_iff_iff, nb_iff, nb_iff]
  constructor
  · rintro ⟨a, h1, h2, h3⟩; exact ⟨a, h1, by rw [← h a h1]; exact h2, h3⟩
  · rintro ⟨a, h1, h2, h3⟩; exact ⟨a, h1, by rw [h a h1]; exact h2, h3⟩
theorem can_iff {V : Nat → Nat → Int32} {hS : Nat → Nat} {Hs : Nat → Nat → Bool} {m hb : Nat} (hm : m < 64) (hhb : hb < 2 ^ 24) (h60 : ∀ s, s < 64 → V 60 s = nI (hS s) ∧ hS s < 2 ^ 24) (hHs : ∀ s hr, s < 64 → hr < 24 → (hS s).testBit hr = nbF Hs s.testBit hr) : ∃ b : Bool, fX7_canVisit_59 V (nI m) (nI hb) = some (bI b) ∧ (b = true ↔ sdr Hs m.testBit hb.testBit) := by
  obtain ⟨b, e1, e2⟩ := canL (hb := hb) hm h60 m 1 FU (by omega) (by unfold FU; omega)
  refine ⟨b, e1, e2.trans ?_⟩
  rw [← hall_iff]
  have cth : ∀ q, q < 64 → fb_ct (hS q &&& hb).testBit 32 = fb_ct (fun hr => nbF Hs q.testBit hr && hb.testBit hr) 24 := fun q hq => by
    rw [ct_24 (Nat.lt_of_le_of_lt Nat.and_le_right hhb)]
    exact fb_ct_cong (fun hr hh => by rw [Nat.testBit_and, hHs q hr hq hh])
  constructor
  · intro hh s hs
    have ql : mM s 6 < 64 := mM_lt s 6
    have qt : ∀ a, a < 6 → (mM s 6).testBit a = s a := fun a ha => by rw [mM_tb]; simp [ha]
    have sub : subM (mM s 6) m := fun k _ hk => by
      rw [mM_tb, Bool.and_eq_true] at hk
      exact hs k (of_decide_eq_true hk.1) hk.2
    have cs : fb_ct s 6 = fb_ct (mM s 6).testBit 32 := by
      rw [ct_6 ql]
      exact fb_ct_cong (fun a ha => (qt a ha).symm)
    have cn : fb_ct (fun hr => nbF Hs (mM s 6).testBit hr && hb.testBit hr) 24 = fb_ct (fun hr => nbF Hs s hr && hb.testBit hr) 24 := fb_ct_cong (fun hr _ => by rw [nb_cong qt])
    by_cases q0 : mM s 6 = 0
    · rw [cs, q0, fb_ct_zero.mpr (fun k _ => Nat.zero_testBit k)]
      exact Nat.zero_le _
    · have qm : mM s 6 ≤ m := by
        have e : mM s 6 &&& m = mM s 6 := by
          apply Nat.eq_of_testBit_eq
          intro i
          rw [Nat.testBit_and]
          by_cases hi : i < 31
          · have := sub i hi
            cases h1 : (mM s 6).testBit i <;> cases h2 : m.testBit i <;> simp_all
          · rw [Nat.testBit_lt_two_pow (Nat.lt_of_lt_of_le ql (Nat.pow_le_pow_right (n := 2) (i := 6) (by decide) (by omega))), Bool.false_and]
        rw [← e]
        exact Nat.and_le_right
      have := hh (mM s 6) (by omega) qm sub
      rw [cth _ ql, cn] at this
      rw [cs]
      exact this
  · intro hc q h1 h2 h3
    have := hc q.testBit (fun a ha h => h3 a (by omega) h)
    rw [cth q (by omega), ct_6 (by omega)]
    exact this
