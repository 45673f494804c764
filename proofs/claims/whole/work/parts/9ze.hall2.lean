theorem ct_inj {f : Nat → Nat} : ∀ (n : Nat) (s q : Nat → Bool), (∀ a, a < n → s a = true → f a < 24 ∧ q (f a) = true) → (∀ a b, a < n → b < n → s a = true → s b = true → a ≠ b → f a ≠ f b) → fb_ct s n ≤ fb_ct q 24
  | 0, _, _, _, _ => Nat.zero_le _
  | n + 1, s, q, h1, h2 => by
    rw [fb_ct_succ]
    cases hs : s n with
    | false =>
      have := ct_inj n s q (fun a ha h => h1 a (by omega) h) (fun a b ha hb => h2 a b (by omega) (by omega))
      simp only [Bool.false_eq_true, if_false]
      omega
    | true =>
      obtain ⟨q1, q2⟩ := h1 n (by omega) hs
      have c := ct_inj n s (fun k => if k = f n then false else q k) (fun a ha h => by
        obtain ⟨r1, r2⟩ := h1 a (by omega) h
        refine ⟨r1, ?_⟩
        show (if f a = f n then false else q (f a)) = true
        rw [if_neg (h2 a n (by omega) (by omega) h hs (by omega))]
        exact r2) (fun a b ha hb => h2 a b (by omega) (by omega))
      have d := ct_rem (p := q) q1 q2
      simp only [if_true]
      omega
theorem sdr_hall {Hs : Nat → Nat → Bool} {p fr : Nat → Bool} (h : sdr Hs p fr) : hallC Hs p fr := by
  obtain ⟨f, f1, f2⟩ := h
  intro s hs
  refine ct_inj (f := f) 6 s _ (fun a ha h => ?_) (fun a b ha hb h1 h2 => f2 a b ha hb (hs a ha h1) (hs b hb h2))
  obtain ⟨q1, q2, q3⟩ := f1 a ha (hs a ha h)
  exact ⟨q1, by rw [Bool.and_eq_true]; exact ⟨nb_iff.mpr ⟨a, ha, h, q2⟩, q3⟩⟩
theorem hall_iff {Hs : Nat → Nat → Bool} {p fr : Nat → Bool} : hallC Hs p fr ↔ sdr Hs p fr := ⟨fun h => hall Hs _ p fr rfl h, sdr_hall⟩
/-- one after another -/
theorem sdr_step {Hs : Nat → Nat → Bool} {p fr : Nat → Bool} {t : Nat} (ht : t < 6) (hp : p t = true) : sdr Hs p fr ↔ ∃ hr, hr < 24 ∧ Hs t hr = true ∧ fr hr = true ∧ sdr Hs (fun a => if a = t then false else p a) (fun k => if k = hr then false else fr k) := by
  constructor
  · rintro ⟨f, f1, f2⟩
    obtain ⟨q1, q2, q3⟩ := f1 t ht hp
    refine ⟨f t, q1, q2, q3, f, fun a ha h => ?_, fun a b ha hb h1 h2 hab => ?_⟩
    · by_cases e : a = t
      · simp [e] at h
      · simp [e] at h
        obtain ⟨r1, r2, r3⟩ := f1 a ha h
        refine ⟨r1, r2, ?_⟩
        show (if f a = f t then false else fr (f a)) = true
        rw [if_neg (f2 a t ha ht h hp e)]
        exact r3
    · have ea : a ≠ t := fun e => by simp [e] at h1
      have eb : b ≠ t := fun e => by simp [e] at h2
      simp [ea] at h1
      simp [eb] at h2
      exact f2 a b ha hb h1 h2 hab
  · rintro ⟨hr, q1, q2, q3, f, f1, f2⟩
    refine ⟨fun a => if a = t then hr else f a, fun a ha h => ?_, fun a b ha hb h1 h2 hab => ?_⟩
    · by_cases e : a = t
      · subst e
        simp only [if_true]
        exact ⟨q1, q2, q3⟩
      · simp only [if_neg e]
        obtain ⟨r1, r2, r3⟩ := f1 a ha (by simp [e, h])
        refine ⟨r1, r2, ?_⟩
        by_cases e2 : f a = hr
        · simp [e2] at r3
        · simpa [e2] using r3
    · by_cases e : a = t
      · have e3 : ¬ b = t := fun q => hab (e.trans q.symm)
        simp only [if_pos e, if_neg e3]
        intro q
        obtain ⟨r1, r2, r3⟩ := f1 b hb (by simp [e3, h2])
        simp [← q] at r3
      · by_cases e3 : b = t
        · simp only [if_neg e, if_pos e3]
          intro q
          obtain ⟨r1, r2, r3⟩ := f1 a ha (by simp [e, h1])
          simp [q] at r3
        · simp only [if_neg e, if_neg e3]
          exact f2 a b ha hb (by simp [e, h1]) (by simp [e3, h2]) hab
