/-! ===== one after another, each the first hour that leaves the rest a way ===== -/
noncomputable def nxF (Hs : Nat → Nat → Bool) (m : Nat → Bool) (t : Nat) (fr : Nat → Bool) : Option Nat := fst1 (fun hr => Hs t hr && fr hr && eb Hs (fun a => decide (t < a) && m a) (wo fr hr)) 0 24
noncomputable def lxF (Hs : Nat → Nat → Bool) (m : Nat → Bool) : Nat → Nat → (Nat → Bool) → (Nat → Int32) → (Nat → Int32)
  | 0, _, _, w => w
  | j + 1, t, fr, w => if m t = true then (match nxF Hs m t fr with
    | some hr => lxF Hs m j (t + 1) (wo fr hr) (upd w t (nI hr))
    | none => w) else lxF Hs m j (t + 1) fr (upd w t (-1))
theorem nxF_cong {Hs : Nat → Nat → Bool} {m fr fr2 : Nat → Bool} {t : Nat} (h : ∀ k, k < 24 → fr k = fr2 k) : nxF Hs m t fr = nxF Hs m t fr2 := by
  unfold nxF
  apply fst1_congr
  intro hr _ hh
  rw [h hr (by omega), eb_cong (fun _ _ => rfl) (fun k hk => show wo fr hr k = wo fr2 hr k by unfold wo; rw [h k hk])]
theorem lxF_cong {Hs : Nat → Nat → Bool} {m : Nat → Bool} : ∀ (j t : Nat) (fr fr2 : Nat → Bool) (w : Nat → Int32), (∀ k, k < 24 → fr k = fr2 k) → lxF Hs m j t fr w = lxF Hs m j t fr2 w
  | 0, _, _, _, _, _ => rfl
  | j + 1, t, fr, fr2, w, h => by
    rw [lxF, lxF, nxF_cong h]
    by_cases c : m t = true
    · rw [if_pos c, if_pos c]
      cases nxF Hs m t fr2 with
      | none => rfl
      | some hr => exact lxF_cong j (t + 1) _ _ _ (fun k hk => by show wo fr hr k = wo fr2 hr k; unfold wo; rw [h k hk])
    · rw [if_neg c, if_neg c]
      exact lxF_cong j (t + 1) _ _ _ h
theorem upd_upd (f : Nat → Int32) (k : Nat) (x y : Int32) : upd (upd f k x) k y = upd f k y := by
  funext j
  by_cases e : j = k
  · rw [e, upd_same, upd_same]
  · rw [upd_ne _ _ e, upd_ne _ _ e, upd_ne _ _ e]
/-- there is a next, while there is a way -/
theorem nx_some {Hs : Nat → Nat → Bool} {m fr : Nat → Bool} {t : Nat} (ht : t < 6) (hm : m t = true) (hw : sdr Hs (fun a => decide (t ≤ a) && m a) fr) : ∃ hr, nxF Hs m t fr = some hr ∧ hr < 24 ∧ sdr Hs (fun a => decide (t < a) && m a) (wo fr hr) := by
  have cg : ∀ a, a < 6 → (fun a => if a = t then false else (decide (t ≤ a) && m a)) a = (fun a => decide (t < a) && m a) a := fun a _ => by
    by_cases e : a = t
    · subst e; simp
    · have : (t ≤ a) ↔ (t < a) := by omega
      simp [e, this]
  obtain ⟨hr, q1, q2, q3, q4⟩ := (sdr_step (t := t) ht (by simp [hm])).mp hw
  have q5 := (sdr_cong cg (fun _ _ => rfl)).mp q4
  cases hn : nxF Hs m t fr with
  | none =>
    have := fst1_none.mp hn hr (Nat.zero_le _) (by omega)
    rw [q2, q3, eb_iff.mpr q5] at this
    cases this
  | some h2 =>
    obtain ⟨-, r1, r2, -⟩ := fst1_some.mp hn
    refine ⟨h2, rfl, by omega, ?_⟩
    simp only [Bool.and_eq_true] at r2
    exact eb_iff.mp r2.2
theorem chooseL {V : Nat → Nat → Int32} {hS : Nat → Nat} {Hs : Nat → Nat → Bool} {m : Nat} (hm : m < 64) (h60 : ∀ s, s < 64 → V 60 s = nI (hS s) ∧ hS s < 2 ^ 24) (hHs : ∀ s hr, s < 64 → hr < 24 → (hS s).testBit hr = nbF Hs s.testBit hr) : ∀ (j t f rest free : Nat) (w : Nat → Int32), t + j = 6 → j < f → rest < 64 → free < 2 ^ 24 → (∀ a, a < 6 → rest.testBit a = (decide (t ≤ a) && m.testBit a)) → sdr Hs (fun a => decide (t ≤ a) && m.testBit a) free.testBit → fX7_choose_59_L8 f (nI m) (nI rest) (nI free) (nI t) (va_up V 61 w) = some (va_up V 61 (lxF Hs m.testBit j t free.testBit w)) := by
  intro j
  induction j with
  | zero =>
    intro t f rest free w c1 c2 c3 c4 c5 c6
    obtain ⟨f, rfl⟩ : ∃ z, f = z + 1 := ⟨f - 1, by omega⟩
    rw [fX7_choose_59_L8, if_pos (show 6 ≤ nI t from nI_le (a := 6) (b := t) (by omega) (by omega))]
    rfl
  | succ j ih =>
    intro t f rest free w c1 c2 c3 c4 c5 c6
    obtain ⟨f, rfl⟩ : ∃ z, f = z + 1 := ⟨f - 1, by omega⟩
    have hp : 2 ^ t < 64 := Nat.lt_of_lt_of_le (Nat.pow_lt_pow_right (by decide) (show t < 6 by omega)) (by decide)
    rw [fX7_choose_59_L8, if_neg (show ¬ 6 ≤ nI t from nI_ge (a := t) (b := 6) (by omega) (by decide)), gd_n t 6 (by omega) (by decide), nI_cl t (by omega), bit_lt (by omega)]
    simp only [lt_e, bk_e, va_up_self, va_up_up, nI_1, sh1_0 (show t < 32 by omega), andn_i, upd_upd, upd_same]
    rw [lxF]
    cases hmt : m.testBit t with
    | false =>
      rw [if_pos rfl, if_neg (by decide)]
      refine ih (t + 1) f rest free _ (by omega) (by omega) c3 c4 (fun a ha => ?_) ?_
      · rw [c5 a ha]
        by_cases e : a = t
        · subst e; simp [hmt]
        · have : (t ≤ a) ↔ (t + 1 ≤ a) := by omega
          simp [this]
      · refine (sdr_cong (fun a ha => ?_) (fun _ _ => rfl)).mp c6
        by_cases e : a = t
        · subst e; simp [hmt]
        · have : (t ≤ a) ↔ (t + 1 ≤ a) := by omega
          simp [this]
    | true =>
      obtain ⟨hr, n1, n2, n3⟩ := nx_some (show t < 6 by omega) hmt c6
      rw [if_neg (by decide), if_pos rfl, n1]
      have ebc : ∀ a, a < 6 → (andn rest (2 ^ t)).testBit a = (decide (t < a) && m.testBit a) := fun a ha => by
        rw [andn_pow (by omega)]
        show (if a = t then false else rest.testBit a) = _
        by_cases e : a = t
        · subst e; simp
        · rw [if_neg e, c5 a ha]
          have : (t ≤ a) ↔ (t < a) := by omega
          simp [this]
      have hlow : hS (2 ^ t) &&& free < 2 ^ 31 := Nat.lt_of_le_of_lt Nat.and_le_right (by omega)
      have fh := firstH (V := va_up V 61 (upd w t (-1))) (Hs := Hs) (rest := andn rest (2 ^ t)) (free := free) (hs := hS (2 ^ t) &&& free) (Nat.lt_of_le_of_lt (andn_le _ _) c3) c4 h60 hHs
      have same : fst1 (fun hr => (hS (2 ^ t) &&& free).testBit hr && eb Hs (andn rest (2 ^ t)).testBit (wo free.testBit hr)) 0 24 = nxF Hs m.testBit t free.testBit := by
        unfold nxF
        apply fst1_congr
        intro k _ hk
        rw [Nat.testBit_and, hHs (2 ^ t) k hp (by omega), eb_cong ebc (fun _ _ => rfl)]
        have : nbF Hs (2 ^ t).testBit k = Hs t k := by
          rw [Bool.eq_iff_iff, nb_iff]
          constructor
          · rintro ⟨a, h1, h2, h3⟩
            rw [Nat.testBit_two_pow, decide_eq_true_iff] at h2
            subst h2; exact h3
          · intro h
            exact ⟨t, by omega, by rw [Nat.testBit_two_pow]; simp, h⟩
        rw [this]
      rw [same, n1] at fh
      simp (disch := omega) only [gd_n, nI_cl]
      rw [va_up_ne _ _ (show (60 : Nat) ≠ 61 by decide), (h60 (2 ^ t) hp).1, fa_and, fh, bd1_s, show enc (some hr) = nI hr from rfl, bit_lt (by omega)]
      simp only [andn_i, gd_n t 6 (show t < 6 by omega) (by decide)]
      have step := ih (t + 1) f (andn rest (2 ^ t)) (andn free (2 ^ hr)) (upd w t (nI hr)) (by omega) (by omega) (Nat.lt_of_le_of_lt (andn_le _ _) c3) (Nat.lt_of_le_of_lt (andn_le _ _) c4) (fun a ha => (ebc a ha).trans rfl) ((sdr_cong (fun a ha => rfl) (fun k hk => (andn_pow (by omega)).symm)).mp n3)
      rw [step, lxF_cong j (t + 1) _ (wo free.testBit hr) _ (fun k hk => andn_pow (by omega))]
