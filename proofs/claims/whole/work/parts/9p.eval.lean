/-! ===== rules reckoned ===== -/
def stR (f : Nat → Int32) : List Int32 → Prop
  | [] => True
  | a :: r => f r.length = a ∧ stR f r
theorem stR_upd {f : Nat → Int32} {k : Nat} {x : Int32} : ∀ {st : List Int32}, st.length ≤ k → stR f st → stR (upd f k x) st
  | [], _, _ => trivial
  | a :: r, h1, h2 => ⟨by rw [upd_ne _ _ (by simp at h1; omega)]; exact h2.1, stR_upd (by simp at h1; omega) h2.2⟩
theorem joined_eq {p : Nat} (h1 : 20001 ≤ p) (h2 : p ≤ 20009) (h3 : p ≠ 20003) (a b : Int32) : fX8_joined (nI (p - 20000)) a b = some (jnT p a b) := by
  rcases (show p = 20001 ∨ p = 20002 ∨ p = 20004 ∨ p = 20005 ∨ p = 20006 ∨ p = 20007 ∨ p = 20008 ∨ p = 20009 by omega) with rfl | rfl | rfl | rfl | rfl | rfl | rfl | rfl
  · show (if a = 0 then (if b = 0 then some (0 : Int32) else some 1) else some 1) = some (if a ≠ 0 ∨ b ≠ 0 then 1 else 0)
    by_cases c : a = 0 <;> by_cases d : b = 0 <;> simp [c, d]
  · show (if a = 0 then some (0 : Int32) else (if b = 0 then some 0 else some 1)) = some (if a ≠ 0 ∧ b ≠ 0 then 1 else 0)
    by_cases c : a = 0 <;> by_cases d : b = 0 <;> simp [c, d]
  · show (if b ≤ a then some (0 : Int32) else some 1) = some (if a < b then 1 else 0)
    by_cases c : b ≤ a
    · rw [if_pos c, if_neg (fun q => nle_iff.mpr q c)]
    · rw [if_neg c, if_pos (nle_iff.mp c)]
  · show (if a = b then some (1 : Int32) else some 0) = some (if a = b then 1 else 0)
    by_cases c : a = b <;> simp [c]
  · rfl
  · rfl
  · rfl
  · show (if b = 0 then some (0 : Int32) else gd (nz b) (some (a / b))) = some (if b = 0 then 0 else a / b)
    by_cases c : b = 0
    · rw [if_pos c, if_pos c]
    · rw [if_neg c, if_neg c, gd_t (show nz b = true from decide_eq_true c)]
theorem htT_cases {p k k2 : Nat} (h : htT p k = some k2) : (p < 10000 ∧ k < 40 ∧ k2 = k + 1) ∨ (10000 ≤ p ∧ p < 10006 ∧ k < 40 ∧ k2 = k + 1) ∨ (p = 20003 ∧ 1 ≤ k ∧ k2 = k) ∨ (20001 ≤ p ∧ p ≤ 20009 ∧ p ≠ 20003 ∧ 2 ≤ k ∧ k2 = k - 1) := by
  unfold htT at h
  by_cases h1 : p < 10006
  · rw [if_pos h1, if_pos (by omega)] at h
    by_cases h2 : k < 40
    · rw [if_pos h2] at h
      have := Option.some.inj h
      omega
    · rw [if_neg h2] at h; cases h
  · rw [if_neg h1] at h
    by_cases h2 : p = 20003
    · rw [if_pos h2] at h
      by_cases h3 : 1 ≤ k
      · rw [if_pos h3] at h
        have := Option.some.inj h
        omega
      · rw [if_neg h3] at h; cases h
    · rw [if_neg h2] at h
      by_cases h3 : 20001 ≤ p ∧ p ≤ 20009
      · rw [if_pos h3] at h
        by_cases h4 : 2 ≤ k
        · rw [if_pos h4] at h
          have := Option.some.inj h
          omega
        · rw [if_neg h4] at h; cases h
      · rw [if_neg h3] at h; cases h
theorem htT_le {p k k2 : Nat} (hk : k ≤ 40) (h : htT p k = some k2) : k2 ≤ 40 := by
  rcases htT_cases h with h | h | h | h <;> omega
theorem evC {V : Nat → Nat → Int32} {va : Nat → Nat} (hva : ∀ q, q < 6 → V 28 q = nI (va q)) {E : (Nat → Nat → Int32) → Option (Int32 × (Nat → Nat → Int32))} : ∀ (ps : List Nat) (st : List Int32) (f : Nat → Int32) (i m k2 : Nat), stR f st → st.length ≤ 40 → htL ps st.length = some k2 → (∀ j p, ps[j]? = some p → V 9 (i + j) = nI p) → i + ps.length ≤ 600 → ps.length < m →
    ∃ f2, stR f2 (evL va ps st) ∧ (evL va ps st).length = k2 ∧ fX8_valueOf_27_L5 E m (nI (i + ps.length)) (nI st.length) (nI i) (va_up V 29 f) = E (va_up V 29 f2) := by
  intro ps
  induction ps with
  | nil =>
    intro st f i m k2 s1 s2 s3 s4 s5 s6
    obtain ⟨m, rfl⟩ : ∃ z, m = z + 1 := ⟨m - 1, by omega⟩
    refine ⟨f, s1, Option.some.inj s3, ?_⟩
    rw [fX8_valueOf_27_L5, if_pos (nI_le (by simp) (by simp at s5 ⊢; omega))]
  | cons p ps ih =>
    intro st f i m k2 s1 s2 s3 s4 s5 s6
    obtain ⟨m, rfl⟩ : ∃ z, m = z + 1 := ⟨m - 1, by omega⟩
    have hl : (p :: ps).length = ps.length + 1 := rfl
    rw [hl] at s5 s6
    have hp : V 9 i = nI p := s4 0 p rfl
    have s4' : ∀ j q, ps[j]? = some q → V 9 (i + 1 + j) = nI q := fun j q hq => by
      have := s4 (j + 1) q hq
      rwa [show i + (j + 1) = i + 1 + j by omega] at this
    obtain ⟨k1, t1, t2⟩ : ∃ k1, htT p st.length = some k1 ∧ htL ps k1 = some k2 := by
      unfold htL at s3
      cases hh : htT p st.length with
      | none => rw [hh] at s3; cases s3
      | some k1 => rw [hh] at s3; exact ⟨k1, rfl, s3⟩
    have hk1 := htT_le s2 t1
    have fin : ∀ (st2 : List Int32) (g : Nat → Int32), st2 = evT va p st → st2.length = k1 → stR g st2 → fX8_valueOf_27_L5 E (m + 1) (nI (i + (p :: ps).length)) (nI st.length) (nI i) (va_up V 29 f) = fX8_valueOf_27_L5 E m (nI (i + 1 + ps.length)) (nI st2.length) (nI (i + 1)) (va_up V 29 g) → ∃ f2, stR f2 (evL va (p :: ps) st) ∧ (evL va (p :: ps) st).length = k2 ∧ fX8_valueOf_27_L5 E (m + 1) (nI (i + (p :: ps).length)) (nI st.length) (nI i) (va_up V 29 f) = E (va_up V 29 f2) := by
      intro st2 g q1 q2 q3 q4
      obtain ⟨f2, r1, r2, r3⟩ := ih st2 g (i + 1) m k2 q3 (by omega) (by rw [q2]; exact t2) s4' (by omega) (by omega)
      refine ⟨f2, ?_, ?_, q4.trans r3⟩
      · show stR f2 (evL va ps (evT va p st))
        rw [← q1]; exact r1
      · show (evL va ps (evT va p st)).length = k2
        rw [← q1]; exact r2
    rcases htT_cases t1 with ⟨a1, a2, a3⟩ | ⟨a1, a2, a3, a4⟩ | ⟨a1, a2, a3⟩ | ⟨a1, a2, a3, a4, a5⟩
    · refine fin (nI p :: st) (upd f st.length (nI p)) (by unfold evT; rw [if_pos a1]) (by rw [List.length_cons]; omega) ⟨upd_same _ _ _, stR_upd (Nat.le_refl _) s1⟩ ?_
      rw [fX8_valueOf_27_L5, if_neg (nI_ge (a := i) (b := i + (p :: ps).length) (by rw [hl]; omega) (by rw [hl]; omega)), gd_n i 600 (by omega) (by decide), nI_cl i (by omega), hl, show i + (ps.length + 1) = i + 1 + ps.length by omega]
      simp only [lt_e, bk_e, va_up_ne _ _ (show (9 : Nat) ≠ 29 by decide), va_up_ne _ _ (show (28 : Nat) ≠ 29 by decide), va_up_self, va_up_up, hp, nI_1]
      rw [if_neg (show ¬ 20000 ≤ nI p from nI_ge (a := p) (b := 20000) (by omega) (by decide)), if_neg (show ¬ 40 ≤ nI st.length from nI_ge (a := st.length) (b := 40) a2 (by decide)), if_neg (show ¬ 10000 ≤ nI p from nI_ge (a := p) (b := 10000) a1 (by decide)), gd_n st.length 40 a2 (by decide), nI_cl st.length (by omega)]
      rfl
    · refine fin (nI (va (p - 10000)) :: st) (upd f st.length (nI (va (p - 10000)))) (by unfold evT; rw [if_neg (show ¬ p < 10000 by omega), if_pos (show p < 20000 by omega)]) (by rw [List.length_cons]; omega) ⟨upd_same _ _ _, stR_upd (Nat.le_refl _) s1⟩ ?_
      rw [fX8_valueOf_27_L5, if_neg (nI_ge (a := i) (b := i + (p :: ps).length) (by rw [hl]; omega) (by rw [hl]; omega)), gd_n i 600 (by omega) (by decide), nI_cl i (by omega), hl, show i + (ps.length + 1) = i + 1 + ps.length by omega]
      simp only [lt_e, bk_e, va_up_ne _ _ (show (9 : Nat) ≠ 29 by decide), va_up_ne _ _ (show (28 : Nat) ≠ 29 by decide), va_up_self, va_up_up, hp, nI_1]
      rw [if_neg (show ¬ 20000 ≤ nI p from nI_ge (a := p) (b := 20000) (by omega) (by decide)), if_neg (show ¬ 40 ≤ nI st.length from nI_ge (a := st.length) (b := 40) a3 (by decide)), if_pos (show 10000 ≤ nI p from nI_le (a := 10000) (b := p) a1 (by omega)), show nI p - 10000 = nI (p - 10000) from nI_sub (b := 10000) a1, gd_n (p - 10000) 6 (by omega) (by decide), nI_cl (p - 10000) (by omega), hva (p - 10000) (by omega), gd_n st.length 40 a3 (by decide), nI_cl st.length (by omega)]
      rfl
    · cases st with
      | nil => exact absurd a2 (by decide)
      | cons a r =>
        have hlr : (a :: r).length = r.length + 1 := rfl
        rw [hlr] at s2 a2 fin ⊢
        refine fin ((if a = 0 then 1 else 0) :: r) (upd f r.length (if a = 0 then 1 else 0)) (by unfold evT; rw [if_neg (show ¬ p < 10000 by omega), if_neg (show ¬ p < 20000 by omega), if_pos a1]) (by rw [List.length_cons]; omega) ⟨upd_same _ _ _, stR_upd (Nat.le_refl _) s1.2⟩ ?_
        rw [fX8_valueOf_27_L5, if_neg (nI_ge (a := i) (b := i + (p :: ps).length) (by rw [hl]; omega) (by rw [hl]; omega)), gd_n i 600 (by omega) (by decide), nI_cl i (by omega), hl, show i + (ps.length + 1) = i + 1 + ps.length by omega]
        simp only [lt_e, bk_e, va_up_ne _ _ (show (9 : Nat) ≠ 29 by decide), va_up_ne _ _ (show (28 : Nat) ≠ 29 by decide), va_up_self, va_up_up, hp, nI_1]
        rw [if_pos (show 20000 ≤ nI p from nI_le (a := 20000) (b := p) (by omega) (by omega)), if_pos (show nI p = 20003 by rw [a1]; rfl), if_neg (nI_nle (by omega) (by omega)), nI_dec, gd_n r.length 40 (by omega) (by decide), nI_cl r.length (by omega), s1.1]
        split
        · rw [gd_n r.length 40 (by omega) (by decide)]; rfl
        · rw [gd_n r.length 40 (by omega) (by decide)]; rfl
    · cases st with
      | nil => exact absurd a4 (by decide)
      | cons b r0 =>
        cases r0 with
        | nil => exact absurd a4 (by simp)
        | cons a r =>
          have hlr : (b :: a :: r).length = r.length + 1 + 1 := rfl
          rw [hlr] at s2 a4 a5 fin ⊢
          obtain ⟨sb1, sb2, sb3⟩ := s1
          have sb1' : f (r.length + 1) = b := sb1
          refine fin (jnT p a b :: r) (upd f r.length (jnT p a b)) (by unfold evT; rw [if_neg (show ¬ p < 10000 by omega), if_neg (show ¬ p < 20000 by omega), if_neg a3]) (by rw [List.length_cons]; omega) ⟨upd_same _ _ _, stR_upd (Nat.le_refl _) sb3⟩ ?_
          rw [fX8_valueOf_27_L5, if_neg (nI_ge (a := i) (b := i + (p :: ps).length) (by rw [hl]; omega) (by rw [hl]; omega)), gd_n i 600 (by omega) (by decide), nI_cl i (by omega), hl, show i + (ps.length + 1) = i + 1 + ps.length by omega]
          simp only [lt_e, bk_e, va_up_ne _ _ (show (9 : Nat) ≠ 29 by decide), va_up_ne _ _ (show (28 : Nat) ≠ 29 by decide), va_up_self, va_up_up, hp, nI_1]
          rw [if_pos (show 20000 ≤ nI p from nI_le (a := 20000) (b := p) (by omega) (by omega)), if_neg (show ¬ nI p = 20003 from fun q => a3 ((nI_eq (a := p) (b := 20003) (by omega) (by decide)).mp q)), if_neg (show ¬ nI (r.length + 1 + 1) ≤ 1 from nI_ge (a := 1) (b := r.length + 1 + 1) (by omega) (by omega)), show nI (r.length + 1 + 1) + -1 = nI (r.length + 1) by rw [← nI_dec (r.length + 1)]; grind, nI_dec, show nI p - 20000 = nI (p - 20000) from nI_sub (b := 20000) (by omega), gd_n r.length 40 (by omega) (by decide), gd_n (r.length + 1) 40 (by omega) (by decide), nI_cl r.length (by omega), nI_cl (r.length + 1) (by omega), sb1', sb2, joined_eq a1 a2 a3, bd1_s, gd_n r.length 40 (by omega) (by decide)]
          rfl
