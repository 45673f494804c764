/-! ===== each an hour of his own ===== -/
def nbF (Hs : Nat → Nat → Bool) (p : Nat → Bool) (hr : Nat) : Bool := anF (fun a => p a && Hs a hr) 0 6
theorem nb_iff {Hs : Nat → Nat → Bool} {p : Nat → Bool} {hr : Nat} : nbF Hs p hr = true ↔ ∃ a, a < 6 ∧ p a = true ∧ Hs a hr = true := by
  unfold nbF
  rw [anF_iff]
  constructor
  · rintro ⟨q, -, h2, h3⟩
    rw [Bool.and_eq_true] at h3
    exact ⟨q, by omega, h3.1, h3.2⟩
  · rintro ⟨a, h1, h2, h3⟩
    exact ⟨a, Nat.zero_le _, by omega, by rw [h2, h3]; rfl⟩
def hallC (Hs : Nat → Nat → Bool) (p fr : Nat → Bool) : Prop := ∀ s : Nat → Bool, (∀ a, a < 6 → s a = true → p a = true) → fb_ct s 6 ≤ fb_ct (fun hr => nbF Hs s hr && fr hr) 24
def sdr (Hs : Nat → Nat → Bool) (p fr : Nat → Bool) : Prop := ∃ f : Nat → Nat, (∀ a, a < 6 → p a = true → f a < 24 ∧ Hs a (f a) = true ∧ fr (f a) = true) ∧ ∀ a b, a < 6 → b < 6 → p a = true → p b = true → a ≠ b → f a ≠ f b
theorem ct_pos {p : Nat → Bool} {n : Nat} (h : 0 < fb_ct p n) : ∃ k, k < n ∧ p k = true := by
  refine Classical.byContradiction (fun hx => ?_)
  have : fb_ct p n = 0 := fb_ct_zero.mpr (fun k hk => by
    cases hp : p k with
    | false => rfl
    | true => exact absurd ⟨k, hk, hp⟩ hx)
  omega
theorem ct_rem {p : Nat → Bool} {n i : Nat} (hi : i < n) (hp : p i = true) : fb_ct (fun k => if k = i then false else p k) n + 1 = fb_ct p n := by
  have := fb_ct_upd p false hi
  rw [hp] at this
  simpa using this
theorem ct_rem_le {p : Nat → Bool} {n : Nat} (i : Nat) : fb_ct p n ≤ fb_ct (fun k => if k = i then false else p k) n + 1 := by
  by_cases hi : i < n
  · have := fb_ct_upd p false hi
    cases hp : p i with
    | true =>
      rw [hp] at this
      simp only [if_true, Bool.false_eq_true, if_false] at this
      omega
    | false =>
      rw [hp] at this
      simp only [Bool.false_eq_true, if_false] at this
      omega
  · rw [fb_ct_out p false (by omega)]
    omega
theorem hall (Hs : Nat → Nat → Bool) : ∀ (k : Nat) (p fr : Nat → Bool), fb_ct p 6 = k → hallC Hs p fr → sdr Hs p fr := by
  intro k
  induction k using Nat.strongRecOn with
  | _ k ih =>
    intro p fr hk hC
    by_cases k0 : k = 0
    · have hz := fb_ct_zero.mp (hk.trans k0)
      exact ⟨fun _ => 0, fun a ha hp => (by rw [hz a ha] at hp; cases hp), fun a b ha hb hp => (by rw [hz a ha] at hp; cases hp)⟩
    · by_cases tight : ∃ s : Nat → Bool, (∀ a, a < 6 → s a = true → p a = true) ∧ 0 < fb_ct s 6 ∧ fb_ct s 6 < k ∧ fb_ct (fun hr => nbF Hs s hr && fr hr) 24 = fb_ct s 6
      · obtain ⟨s, s1, s2, s3, s4⟩ := tight
        obtain ⟨f1, a1, a2⟩ := ih (fb_ct s 6) s3 s fr rfl (fun u hu => hC u (fun a ha hs => s1 a ha (hu a ha hs)))
        have hdis : fb_ct p 6 = fb_ct s 6 + fb_ct (fun a => p a && !s a) 6 := by
          rw [← fb_ct_or (fun k hk => by cases s k <;> simp)]
          exact fb_ct_cong (fun k hk => by
            have := s1 k hk
            cases hs : s k <;> cases hp : p k <;> simp_all)
        obtain ⟨f2, b1, b2⟩ := ih (fb_ct (fun a => p a && !s a) 6) (by omega) (fun a => p a && !s a) (fun hr => fr hr && !nbF Hs s hr) rfl (fun u hu => by
          have hu1 : ∀ a, a < 6 → u a = true → p a = true ∧ s a = false := fun a ha h => by
            have := hu a ha h
            simpa using this
          have c1 := hC (fun a => s a || u a) (fun a ha h => by
            rw [Bool.or_eq_true] at h
            rcases h with h | h
            · exact s1 a ha h
            · exact (hu1 a ha h).1)
          rw [fb_ct_or (fun a ha ⟨h1, h2⟩ => by rw [(hu1 a ha h2).2] at h1; cases h1)] at c1
          have c2 : fb_ct (fun hr => nbF Hs (fun a => s a || u a) hr && fr hr) 24 = fb_ct (fun hr => nbF Hs s hr && fr hr) 24 + fb_ct (fun hr => nbF Hs u hr && (fr hr && !nbF Hs s hr)) 24 := by
            rw [← fb_ct_or (fun hr _ => by cases nbF Hs s hr <;> simp)]
            refine fb_ct_cong (fun hr _ => ?_)
            have e : nbF Hs (fun a => s a || u a) hr = (nbF Hs s hr || nbF Hs u hr) := by
              rw [Bool.eq_iff_iff, Bool.or_eq_true, nb_iff, nb_iff, nb_iff]
              constructor
              · rintro ⟨a, h1, h2, h3⟩
                rw [Bool.or_eq_true] at h2
                rcases h2 with h2 | h2
                · exact Or.inl ⟨a, h1, h2, h3⟩
                · exact Or.inr ⟨a, h1, h2, h3⟩
              · rintro (⟨a, h1, h2, h3⟩ | ⟨a, h1, h2, h3⟩)
                · exact ⟨a, h1, by rw [h2]; rfl, h3⟩
                · exact ⟨a, h1, by rw [h2]; simp, h3⟩
            rw [e]
            cases nbF Hs s hr <;> cases nbF Hs u hr <;> cases fr hr <;> rfl
          show fb_ct u 6 ≤ fb_ct (fun hr => nbF Hs u hr && (fr hr && !nbF Hs s hr)) 24
          omega)
        refine ⟨fun a => if s a = true then f1 a else f2 a, fun a ha hp => ?_, fun a b ha hb hpa hpb hab => ?_⟩
        · by_cases hs : s a = true
          · simp only [if_pos hs]
            exact a1 a ha hs
          · simp only [if_neg hs]
            obtain ⟨q1, q2, q3⟩ := b1 a ha (by simp [hp, hs])
            rw [Bool.and_eq_true] at q3
            exact ⟨q1, q2, q3.1⟩
        · by_cases hsa : s a = true
          · by_cases hsb : s b = true
            · simp only [if_pos hsa, if_pos hsb]
              exact a2 a b ha hb hsa hsb hab
            · simp only [if_pos hsa, if_neg hsb]
              intro e
              obtain ⟨q1, q2, q3⟩ := b1 b hb (by simp [hpb, hsb])
              have := nb_iff.mpr ⟨a, ha, hsa, (a1 a ha hsa).2.1⟩
              rw [e] at this
              simp [this] at q3
          · by_cases hsb : s b = true
            · simp only [if_neg hsa, if_pos hsb]
              intro e
              obtain ⟨q1, q2, q3⟩ := b1 a ha (by simp [hpa, hsa])
              have := nb_iff.mpr ⟨b, hb, hsb, (a1 b hb hsb).2.1⟩
              rw [← e] at this
              simp [this] at q3
            · simp only [if_neg hsa, if_neg hsb]
              exact b2 a b ha hb (by simp [hpa, hsa]) (by simp [hpb, hsb]) hab
      · obtain ⟨a0, ha0, hp0⟩ := ct_pos (p := p) (n := 6) (by omega)
        have one := hC (fun a => decide (a = a0)) (fun a ha h => by rw [of_decide_eq_true h]; exact hp0)
        have c1 : 0 < fb_ct (fun a => decide (a = a0)) 6 := by
          have := ct_rem (p := fun a => decide (a = a0)) ha0 (by simp)
          omega
        obtain ⟨h0, hh0, hq⟩ := ct_pos (p := fun hr => nbF Hs (fun a => decide (a = a0)) hr && fr hr) (n := 24) (by omega)
        rw [Bool.and_eq_true, nb_iff] at hq
        obtain ⟨⟨a, ha, hd, hHs⟩, hfr⟩ := hq
        have : a = a0 := of_decide_eq_true hd
        subst this
        have hr1 := ct_rem (p := p) ha0 hp0
        obtain ⟨f2, b1, b2⟩ := ih (fb_ct (fun k => if k = a then false else p k) 6) (by omega) (fun k => if k = a then false else p k) (fun hr => if hr = h0 then false else fr hr) rfl (fun u hu => by
          have hu1 : ∀ b, b < 6 → u b = true → b ≠ a ∧ p b = true := fun b hb h => by
            have := hu b hb h
            by_cases e : b = a
            · simp [e] at this
            · simp [e] at this
              exact ⟨e, this⟩
          show fb_ct u 6 ≤ fb_ct (fun hr => nbF Hs u hr && (if hr = h0 then false else fr hr)) 24
          by_cases u0 : fb_ct u 6 = 0
          · omega
          · have c2 := hC u (fun b hb h => (hu1 b hb h).2)
            have c3 : fb_ct u 6 ≤ fb_ct (fun k => if k = a then false else p k) 6 := fb_ct_sub (fun b hb h => hu b hb h)
            have c4 : fb_ct (fun hr => nbF Hs u hr && fr hr) 24 ≠ fb_ct u 6 := fun e => tight ⟨u, fun b hb h => (hu1 b hb h).2, by omega, by omega, e⟩
            have c5 := ct_rem_le (p := fun hr => nbF Hs u hr && fr hr) (n := 24) h0
            have c6 : fb_ct (fun k => if k = h0 then false else (nbF Hs u k && fr k)) 24 = fb_ct (fun hr => nbF Hs u hr && (if hr = h0 then false else fr hr)) 24 := fb_ct_cong (fun k _ => by
              by_cases e : k = h0 <;> simp [e])
            omega)
        refine ⟨fun b => if b = a then h0 else f2 b, fun b hb hp => ?_, fun b c hb hc hpb hpc hbc => ?_⟩
        · by_cases e : b = a
          · subst e
            simp only [if_true]
            exact ⟨hh0, hHs, hfr⟩
          · simp only [if_neg e]
            obtain ⟨q1, q2, q3⟩ := b1 b hb (by simp [e, hp])
            refine ⟨q1, q2, ?_⟩
            by_cases e2 : f2 b = h0
            · simp [e2] at q3
            · simpa [e2] using q3
        · by_cases e : b = a
          · have e3 : ¬ c = a := fun q => hbc (e.trans q.symm)
            simp only [if_pos e, if_neg e3]
            intro q
            obtain ⟨q1, q2, q3⟩ := b1 c hc (by simp [e3, hpc])
            simp [← q] at q3
          · by_cases e3 : c = a
            · simp only [if_neg e, if_pos e3]
              intro q
              obtain ⟨q1, q2, q3⟩ := b1 b hb (by simp [e, hpb])
              simp [q] at q3
            · simp only [if_neg e, if_neg e3]
              exact b2 b c hb hc (by simp [e, hpb]) (by simp [e3, hpc]) hbc
