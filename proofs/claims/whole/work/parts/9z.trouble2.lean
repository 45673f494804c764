theorem le3 {a : Int32} : 3 ≤ a ↔ 2 < a := by
  rw [i_le, i_lt, show (3 : Int32).toInt = 3 from by decide, show (2 : Int32).toInt = 2 from by decide]
  omega
def badA (n a1 a2 a3 a4 : Int32) : Prop := a1 < 0 ∨ n ≤ a1 ∨ a2 < 0 ∨ 3 ≤ a2 ∨ a3 < 0 ∨ a4 < a3 ∨ ¬ a4 ≤ 23
theorem tr1C {S : Nat → Int32} {V : Nat → Nat → Int32} {a1 a2 a3 a4 : Int32} (hb : badA (S 304) a1 a2 a3 a4) : fX4_troubleOf_30 S V a1 a2 a3 a4 = some (1, V) := by
  unfold badA at hb
  unfold fX4_troubleOf_30 fX2_hasTenant_3
  simp only [bk_e]
  by_cases q1 : a1 < 0
  · simp only [if_pos q1, bd1_s, if_true]
    split
    · rfl
    · split <;> rfl
  by_cases q2 : S 304 ≤ a1
  · simp only [if_neg q1, if_pos q2, bd1_s, if_true]
    split
    · rfl
    · split <;> rfl
  simp only [if_neg q1, if_neg q2, bd1_s, e10, if_false]
  by_cases q3 : a2 < 0
  · simp only [if_pos q3, if_true]
  by_cases q4 : 3 ≤ a2
  · simp only [if_neg q3, if_pos q4, if_true]
  rw [if_neg q3, if_neg q4]
  by_cases q5 : a3 < 0
  · rw [if_pos q5]
  rw [if_neg q5]
  by_cases q6 : a4 < a3
  · rw [if_pos q6]
  rw [if_neg q6]
  by_cases q7 : a4 ≤ 23
  · rcases hb with hb | hb | hb | hb | hb | hb | hb <;> contradiction
  · rw [if_neg q7]
theorem tr1R {S : Nat → Int32} {V : Nat → Nat → Int32} {a1 a2 a3 a4 : Int32} (hb : badA (S 5) a1 a2 a3 a4) : fX12_trouble_0 S V a1 a2 a3 a4 = some (1, V) := by
  unfold badA at hb
  unfold fX12_trouble_0
  by_cases q1 : a1 < 0
  · rw [if_pos q1]
  rw [if_neg q1]
  by_cases q2 : S 5 ≤ a1
  · rw [if_pos q2]
  rw [if_neg q2, within_eq, within_eq, within_eq]
  simp only [bd1_s]
  by_cases q3 : a2 < 0 ∨ 2 < a2
  · rw [if_pos q3, if_pos rfl]
  rw [if_neg q3, if_neg (by decide)]
  by_cases q5 : a3 < 0 ∨ 23 < a3
  · rw [if_pos q5, if_pos rfl]
  rw [if_neg q5, if_neg (by decide)]
  by_cases q6 : a4 < a3 ∨ 23 < a4
  · rw [if_pos q6, if_pos rfl]
  exfalso
  rcases hb with hb | hb | hb | hb | hb | hb | hb
  · exact q1 hb
  · exact q2 hb
  · exact q3 (Or.inl hb)
  · exact q3 (Or.inr (le3.mp hb))
  · exact q5 (Or.inl hb)
  · exact q6 (Or.inl hb)
  · exact q6 (Or.inr (nle_iff.mp hb))
/-- the reference's row with one more -/
abbrev rowR (V : Nat → Nat → Int32) (n : Nat) (v : Nat → Nat) : Nat → Nat → Int32 := va_up V 13 (upd (upd (upd (upd (V 13) (4 * n) (nI (v 0))) (4 * n + 1) (nI (v 1))) (4 * n + 2) (nI (v 2))) (4 * n + 3) (nI (v 3)))
theorem upd4 {f : Nat → Int32} {n : Nat} {v : Nat → Nat} {le : Nat → Nat → Nat} (hR : RL2 n le f) : RL2 (n + 1) (snoc le n v) (upd (upd (upd (upd f (4 * n) (nI (v 0))) (4 * n + 1) (nI (v 1))) (4 * n + 2) (nI (v 2))) (4 * n + 3) (nI (v 3))) := by
  intro i hi
  by_cases e : i = n
  · subst e
    rw [snoc_n]
    refine ⟨?_, ?_, ?_, upd_same _ _ _⟩
    · rw [upd_ne _ _ (by omega), upd_ne _ _ (by omega), upd_ne _ _ (by omega), upd_same]
    · rw [upd_ne _ _ (by omega), upd_ne _ _ (by omega), upd_same]
    · rw [upd_ne _ _ (by omega), upd_same]
  · rw [snoc_lt le v (by omega)]
    obtain ⟨r0, r1, r2, r3⟩ := hR i (by omega)
    refine ⟨?_, ?_, ?_, ?_⟩
    · rw [upd_ne _ _ (by omega), upd_ne _ _ (by omega), upd_ne _ _ (by omega), upd_ne _ _ (by omega)]; exact r0
    · rw [upd_ne _ _ (by omega), upd_ne _ _ (by omega), upd_ne _ _ (by omega), upd_ne _ _ (by omega)]; exact r1
    · rw [upd_ne _ _ (by omega), upd_ne _ _ (by omega), upd_ne _ _ (by omega), upd_ne _ _ (by omega)]; exact r2
    · rw [upd_ne _ _ (by omega), upd_ne _ _ (by omega), upd_ne _ _ (by omega), upd_ne _ _ (by omega)]; exact r3
def v4 (w x f g : Nat) : Nat → Nat
  | 0 => w
  | 1 => x
  | 2 => f
  | _ => g
section TQ
variable {h : Nat → Nat} {t : Nat → Nat → Nat} {n : Nat} {le : Nat → Nat → Nat}
theorem isLet_iff (hM : MLs h t n le) {x f g : Nat} (hf : f ≤ g) (hg : g < 24) : (nI (ivl f g) &&& nI (bitsX le x n) = 0) ↔ anF (pA le n x) f (g + 1 - f) = false := by
  rw [nI_and0 (by have := ivl_lt f (by omega) g hg; omega), ← Bool.not_eq_true, anF_iff]
  constructor
  · rintro hh ⟨q, q1, q2, q3⟩
    refine hh q (by omega) ⟨by rw [ivl_tb' hf hg]; exact decide_eq_true ⟨q1, by omega⟩, ?_⟩
    cases hb : (bitsX le x n).testBit q with
    | true => rfl
    | false =>
      rw [show pA le n x q = (whoL le n x q).isSome from rfl, (who_bit hM (by omega)).mpr hb] at q3
      cases q3
  · intro hh q hq ⟨b1, b2⟩
    rw [ivl_tb' hf hg, decide_eq_true_iff] at b1
    refine hh ⟨q, b1.1, by omega, ?_⟩
    show (whoL le n x q).isSome = true
    cases hw : whoL le n x q with
    | some a => rfl
    | none => rw [(who_bit hM (by omega)).mp hw] at b2; cases b2
theorem who_iff {w q : Nat} (hM : MLs h t n le) : pB le n w q = true ↔ ∃ i, i < n ∧ le i 0 = w ∧ le i 2 ≤ q ∧ q ≤ le i 3 := by
  show (bo (whoL le n 0 q) ||| bo (whoL le n 1 q) ||| bo (whoL le n 2 q)).testBit w = true ↔ _
  rw [Nat.testBit_or, Nat.testBit_or, bo_tb, bo_tb, bo_tb, Bool.or_eq_true, Bool.or_eq_true, decide_eq_true_iff, decide_eq_true_iff, decide_eq_true_iff]
  constructor
  · rintro ((e | e) | e) <;> (obtain ⟨p, p1, p2, p3, p4, p5⟩ := who_spec e; exact ⟨p, p1, p5, p3, p4⟩)
  · rintro ⟨i, i1, i2, i3, i4⟩
    have key : whoL le n (le i 1) q = some w := by
      cases ho : occL le n (le i 1) q with
      | none => exact absurd ⟨i, i1, rfl, i3, i4⟩ (occ_none.mp ho)
      | some j =>
        obtain ⟨a1, a2, a3, a4⟩ := occ_lt ho
        unfold whoL
        rw [ho]
        show some (le j 0) = some w
        rcases Nat.lt_trichotomy i j with e | e | e
        · exact absurd a2.symm (hM.2.2 i j q e a1 i3 i4 a3 a4).1
        · rw [← e, i2]
        · exact absurd a2 (hM.2.2 j i q e i1 a3 a4 i3 i4).1
    have := (hM.2.1 i i1).2.1
    rcases (show le i 1 = 0 ∨ le i 1 = 1 ∨ le i 1 = 2 by omega) with e | e | e <;> rw [e] at key
    · exact Or.inl (Or.inl key)
    · exact Or.inl (Or.inr key)
    · exact Or.inr key
theorem else_iff (hM : MLs h t n le) {w f g : Nat} (hf : f ≤ g) (hg : g < 24) : (nI (ivl f g) &&& nI (bitsT le w n) = 0) ↔ anF (pB le n w) f (g + 1 - f) = false := by
  rw [nI_and0 (by have := ivl_lt f (by omega) g hg; omega), ← Bool.not_eq_true, anF_iff]
  constructor
  · rintro hh ⟨q, q1, q2, q3⟩
    exact hh q (by omega) ⟨by rw [ivl_tb' hf hg]; exact decide_eq_true ⟨q1, by omega⟩, (bitsT_tb hM w n (Nat.le_refl _) q (by omega)).mpr ((who_iff hM).mp q3)⟩
  · intro hh q hq ⟨b1, b2⟩
    rw [ivl_tb' hf hg, decide_eq_true_iff] at b1
    exact hh ⟨q, b1.1, by omega, (who_iff hM).mpr ((bitsT_tb hM w n (Nat.le_refl _) q (by omega)).mp b2)⟩
theorem alone_iff (hM : MLs h t n le) {f g : Nat} (hf : f ≤ g) (hg : g < 24) : (nI (ivl f g) &&& ((nI (bitsX le 0 n) &&& nI (bitsX le 1 n)) ^^^ (-1)) = 0) ↔ anF (pC le n 2) f (g + 1 - f) = false := by
  rw [fa_and, andn_i, andn_0 (by have := ivl_lt f (by omega) g hg; omega), ← Bool.not_eq_true, anF_iff]
  have key : ∀ q, q < 32 → ((bitsX le 0 n &&& bitsX le 1 n).testBit q = true ↔ pC le n 2 q = false) := fun q hq => by
    rw [Nat.testBit_and]
    show _ ↔ (decide (2 = 2) && ((whoL le n 0 q).isNone || (whoL le n 1 q).isNone)) = false
    have k0 := who_bit hM (x := 0) hq
    have k1 := who_bit hM (x := 1) hq
    cases h0 : whoL le n 0 q <;> cases h1 : whoL le n 1 q <;> cases b0 : (bitsX le 0 n).testBit q <;> cases b1 : (bitsX le 1 n).testBit q <;> simp_all
  constructor
  · rintro hh ⟨q, q1, q2, q3⟩
    have := hh q (by omega) (by rw [ivl_tb' hf hg]; exact decide_eq_true ⟨q1, by omega⟩)
    rw [key q (by omega), q3] at this
    cases this
  · intro hh q hq b1
    rw [ivl_tb' hf hg, decide_eq_true_iff] at b1
    rw [key q (by omega)]
    cases hp : pC le n 2 q with
    | false => rfl
    | true => exact absurd ⟨q, b1.1, by omega, hp⟩ hh
end TQ
