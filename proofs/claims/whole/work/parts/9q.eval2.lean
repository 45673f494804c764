abbrev opR (p : Nat) : Nat := ([0, 5, 4, 3, 6, 7, 8, 9, 10, 11] : List Nat).getD (p - 20000) 0
theorem works_eq {p : Nat} (h1 : 20001 ≤ p) (h2 : p ≤ 20009) (h3 : p ≠ 20003) (a b : Int32) : fX12_works (nI (opR p)) a b = some (jnT p a b) := by
  rcases (show p = 20001 ∨ p = 20002 ∨ p = 20004 ∨ p = 20005 ∨ p = 20006 ∨ p = 20007 ∨ p = 20008 ∨ p = 20009 by omega) with rfl | rfl | rfl | rfl | rfl | rfl | rfl | rfl
  · show (if a = 0 then (if b = 0 then some (0 : Int32) else some 1) else some 1) = some (if a ≠ 0 ∨ b ≠ 0 then 1 else 0)
    by_cases c : a = 0 <;> by_cases d : b = 0 <;> simp [c, d]
  · show (if a = 0 then some (0 : Int32) else (if b = 0 then some 0 else some 1)) = some (if a ≠ 0 ∧ b ≠ 0 then 1 else 0)
    by_cases c : a = 0 <;> by_cases d : b = 0 <;> simp [c, d]
  · show (if b ≤ a then some (0 : Int32) else some 1) = some (if a < b then 1 else 0)
    by_cases c : b ≤ a
    · rw [if_pos c, if_neg (fun q => nle_iff.mpr q c)]
    · rw [if_neg c, if_pos (nle_iff.mp c)]
  · show (if a = b then some (1 : Int32) else some 0) = some (if a = b then 1 else 0)
    by_cases c : a = b <;> simp [c]
  · rfl
  · rfl
  · rfl
  · show (if b = 0 then some (0 : Int32) else gd (nz b) (some (a / b))) = some (if b = 0 then 0 else a / b)
    by_cases c : b = 0
    · rw [if_pos c, if_pos c]
    · rw [if_neg c, if_neg c, gd_t (show nz b = true from decide_eq_true c)]
theorem opR_b {p : Nat} (h1 : 20001 ≤ p) (h2 : p ≤ 20009) (h3 : p ≠ 20003) : 4 ≤ opR p ∧ opR p ≤ 11 := by
  rcases (show p = 20001 ∨ p = 20002 ∨ p = 20004 ∨ p = 20005 ∨ p = 20006 ∨ p = 20007 ∨ p = 20008 ∨ p = 20009 by omega) with rfl | rfl | rfl | rfl | rfl | rfl | rfl | rfl <;> decide
theorem trT_1 {p : Nat} (h : p < 10000) : trT p = [1, p] := by unfold trT; rw [if_pos h]
theorem trT_2 {p : Nat} (h : 10000 ≤ p) (h2 : p < 20000) : trT p = [2, p - 10000] := by unfold trT; rw [if_neg (by omega), if_pos h2]
theorem trT_3 {p : Nat} (h : 20000 ≤ p) : trT p = [opR p] := by unfold trT; rw [if_neg (by omega), if_neg (by omega)]
theorem evR {V : Nat → Nat → Int32} {va : Nat → Nat} {N l hr : Int32} (hva : ∀ q, q < 6 → ∀ f, fX12_valueOf_0_13 (va_up V 15 f) (nI q) N l hr = some (nI (va q))) {E : (Nat → Nat → Int32) → Option (Int32 × (Nat → Nat → Int32))} : ∀ (ps : List Nat) (st : List Int32) (f : Nat → Int32) (i m k2 : Nat), stR f st → st.length ≤ 40 → htL ps st.length = some k2 → (∀ j p, (ps.flatMap trT ++ [0])[j]? = some p → V 4 (i + j) = nI p) → i + (ps.flatMap trT).length + 1 ≤ 1600 → ps.length < m →
    ∃ f2, stR f2 (evL va ps st) ∧ (evL va ps st).length = k2 ∧ fX12_reckons_0_13_L6 E m N l hr (nI st.length) (nI i) (va_up V 15 f) = E (va_up V 15 f2) := by
  intro ps
  induction ps with
  | nil =>
    intro st f i m k2 s1 s2 s3 s4 s5 s6
    obtain ⟨m, rfl⟩ : ∃ z, m = z + 1 := ⟨m - 1, by omega⟩
    refine ⟨f, s1, Option.some.inj s3, ?_⟩
    have e : V 4 i = nI 0 := s4 0 0 rfl
    have s5' : i + 0 + 1 ≤ 1600 := s5
    rw [fX12_reckons_0_13_L6, gd_n i 1600 (by omega) (by decide), nI_cl i (by omega), va_up_ne _ _ (show (4 : Nat) ≠ 15 by decide), e, if_pos nI_0]
  | cons p ps ih =>
    intro st f i m k2 s1 s2 s3 s4 s5 s6
    obtain ⟨m, rfl⟩ : ∃ z, m = z + 1 := ⟨m - 1, by omega⟩
    have hl : (p :: ps).length = ps.length + 1 := rfl
    rw [hl] at s6
    obtain ⟨k1, t1, t2⟩ : ∃ k1, htT p st.length = some k1 ∧ htL ps k1 = some k2 := by
      unfold htL at s3
      cases hh : htT p st.length with
      | none => rw [hh] at s3; cases s3
      | some k1 => rw [hh] at s3; exact ⟨k1, rfl, s3⟩
    have hk1 := htT_le s2 t1
    rw [List.flatMap_cons] at s4 s5
    rw [List.length_append] at s5
    have s4' : ∀ w, (trT p).length = w → ∀ j q, (ps.flatMap trT ++ [0])[j]? = some q → V 4 (i + w + j) = nI q := fun w hw j q hq => by
      have := s4 (w + j) q (by
        rw [List.append_assoc, List.getElem?_append_right (by omega), show w + j - (trT p).length = j by omega]
        exact hq)
      rwa [show i + (w + j) = i + w + j by omega] at this
    have s40 : ∀ j q, (trT p)[j]? = some q → V 4 (i + j) = nI q := fun j q hq => s4 j q (by
      rw [List.append_assoc, List.getElem?_append_left (List.getElem?_eq_some_iff.mp hq).1]
      exact hq)
    have fin : ∀ (w : Nat) (st2 : List Int32) (g : Nat → Int32), (trT p).length = w → st2 = evT va p st → st2.length = k1 → stR g st2 → fX12_reckons_0_13_L6 E (m + 1) N l hr (nI st.length) (nI i) (va_up V 15 f) = fX12_reckons_0_13_L6 E m N l hr (nI st2.length) (nI (i + w)) (va_up V 15 g) → ∃ f2, stR f2 (evL va (p :: ps) st) ∧ (evL va (p :: ps) st).length = k2 ∧ fX12_reckons_0_13_L6 E (m + 1) N l hr (nI st.length) (nI i) (va_up V 15 f) = E (va_up V 15 f2) := by
      intro w st2 g q0 q1 q2 q3 q4
      obtain ⟨f2, r1, r2, r3⟩ := ih st2 g (i + w) m k2 q3 (by omega) (by rw [q2]; exact t2) (s4' w q0) (by omega) (by omega)
      refine ⟨f2, ?_, ?_, q4.trans r3⟩
      · show stR f2 (evL va ps (evT va p st))
        rw [← q1]; exact r1
      · show (evL va ps (evT va p st)).length = k2
        rw [← q1]; exact r2
    rcases htT_cases t1 with ⟨a1, a2, a3⟩ | ⟨a1, a2, a3, a4⟩ | ⟨a1, a2, a3⟩ | ⟨a1, a2, a3, a4, a5⟩
    · rw [trT_1 a1] at s5 s40
      have e0 : V 4 i = nI 1 := s40 0 1 rfl
      have e1 : V 4 (i + 1) = nI p := s40 1 p rfl
      have s5' : i + (2 + (ps.flatMap trT).length) + 1 ≤ 1600 := s5
      refine fin 2 (nI p :: st) (upd f st.length (nI p)) (by rw [trT_1 a1]; rfl) (by unfold evT; rw [if_pos a1]) (by rw [List.length_cons]; omega) ⟨upd_same _ _ _, stR_upd (Nat.le_refl _) s1⟩ ?_
      rw [fX12_reckons_0_13_L6]
      simp (disch := omega) only [lt_e, bk_e, gd_n, nI_cl, va_up_ne _ _ (show (4 : Nat) ≠ 15 by decide), va_up_self, va_up_up, e0, nI_1]
      rw [if_neg (by decide), if_pos (show nI 1 = 1 from rfl), if_pos (show nI 1 = 1 from rfl), e1]
      rfl
    · rw [trT_2 a1 (by omega)] at s5 s40
      have e0 : V 4 i = nI 2 := s40 0 2 rfl
      have e1 : V 4 (i + 1) = nI (p - 10000) := s40 1 (p - 10000) rfl
      have s5' : i + (2 + (ps.flatMap trT).length) + 1 ≤ 1600 := s5
      refine fin 2 (nI (va (p - 10000)) :: st) (upd f st.length (nI (va (p - 10000)))) (by rw [trT_2 a1 (by omega)]; rfl) (by unfold evT; rw [if_neg (show ¬ p < 10000 by omega), if_pos (show p < 20000 by omega)]) (by rw [List.length_cons]; omega) ⟨upd_same _ _ _, stR_upd (Nat.le_refl _) s1⟩ ?_
      rw [fX12_reckons_0_13_L6]
      simp (disch := omega) only [lt_e, bk_e, gd_n, nI_cl, va_up_ne _ _ (show (4 : Nat) ≠ 15 by decide), va_up_self, va_up_up, e0, e1, nI_1]
      rw [if_neg (by decide), if_neg (by decide), if_pos (show nI 2 = 2 from rfl), if_neg (by decide), hva (p - 10000) (by omega), bd1_s]
      rfl
    · rw [trT_3 (by omega)] at s5 s40
      have e0' : V 4 i = nI (opR p) := s40 0 (opR p) rfl
      have e0 : V 4 i = nI 3 := by rw [e0', a1]; rfl
      have s5' : i + (1 + (ps.flatMap trT).length) + 1 ≤ 1600 := s5
      cases st with
      | nil => exact absurd a2 (by decide)
      | cons a r =>
        have hlr : (a :: r).length = r.length + 1 := rfl
        rw [hlr] at s2 a2 fin ⊢
        have s11 := s1.1
        refine fin 1 ((if a = 0 then 1 else 0) :: r) (upd f r.length (if a = 0 then 1 else 0)) (by rw [trT_3 (by omega)]; rfl) (by unfold evT; rw [if_neg (show ¬ p < 10000 by omega), if_neg (show ¬ p < 20000 by omega), if_pos a1]) (by rw [List.length_cons]; omega) ⟨upd_same _ _ _, stR_upd (Nat.le_refl _) s1.2⟩ ?_
        rw [fX12_reckons_0_13_L6]
        simp (disch := omega) only [lt_e, bk_e, nI_dec, gd_n, nI_cl, va_up_ne _ _ (show (4 : Nat) ≠ 15 by decide), va_up_self, va_up_up, e0, nI_1, s11]
        rw [if_neg (by decide), if_neg (by decide), if_neg (by decide), if_pos (show nI 3 = 3 from rfl)]
        split <;> rfl
    · rw [trT_3 (by omega)] at s5 s40
      have e0 : V 4 i = nI (opR p) := s40 0 (opR p) rfl
      obtain ⟨o1, o2⟩ := opR_b a1 a2 a3
      have s5' : i + (1 + (ps.flatMap trT).length) + 1 ≤ 1600 := s5
      cases st with
      | nil => exact absurd a4 (by decide)
      | cons b r0 =>
        cases r0 with
        | nil => exact absurd a4 (by simp)
        | cons a r =>
          have hlr : (b :: a :: r).length = r.length + 1 + 1 := rfl
          rw [hlr] at s2 a4 a5 fin ⊢
          obtain ⟨sb1, sb2, sb3⟩ := s1
          have sb1' : f (r.length + 1) = b := sb1
          refine fin 1 (jnT p a b :: r) (upd f r.length (jnT p a b)) (by rw [trT_3 (by omega)]; rfl) (by unfold evT; rw [if_neg (show ¬ p < 10000 by omega), if_neg (show ¬ p < 20000 by omega), if_neg a3]) (by rw [List.length_cons]; omega) ⟨upd_same _ _ _, stR_upd (Nat.le_refl _) sb3⟩ ?_
          rw [fX12_reckons_0_13_L6]
          simp (disch := omega) only [lt_e, bk_e, show nI (r.length + 1 + 1) + -1 = nI (r.length + 1) by rw [← nI_dec (r.length + 1)]; grind, nI_dec, gd_n, nI_cl, va_up_ne _ _ (show (4 : Nat) ≠ 15 by decide), va_up_self, va_up_up, e0, nI_1, sb1', sb2]
          rw [if_neg (nI_ne0 (by omega) (by omega)), if_neg (show ¬ nI (opR p) = 1 from fun q => by have := (nI_eq (a := opR p) (b := 1) (by omega) (by decide)).mp q; omega), if_neg (show ¬ nI (opR p) = 2 from fun q => by have := (nI_eq (a := opR p) (b := 2) (by omega) (by decide)).mp q; omega), if_neg (show ¬ nI (opR p) = 3 from fun q => by have := (nI_eq (a := opR p) (b := 3) (by omega) (by decide)).mp q; omega), works_eq a1 a2 a3, bd1_s]
          rfl
