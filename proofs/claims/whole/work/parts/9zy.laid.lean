/-! ===== housed anew: the reference ===== -/
abbrev RV (V : Nat → Nat → Int32) (p q w s : Nat → Int32) : Nat → Nat → Int32 := va_up (va_up (va_up (va_up V 14 p) 15 q) 17 w) 18 s
theorem rv_14 (V : Nat → Nat → Int32) (p q w s p2 : Nat → Int32) : va_up (RV V p q w s) 14 p2 = RV V p2 q w s := by
  funext x
  simp only [RV, va_up]
  by_cases h1 : x = 14
  · subst h1; rfl
  · simp only [if_neg h1]
theorem rv_15 (V : Nat → Nat → Int32) (p q w s p2 : Nat → Int32) : va_up (RV V p q w s) 15 p2 = RV V p p2 w s := by
  funext x
  simp only [RV, va_up]
  by_cases h1 : x = 15
  · subst h1; rfl
  · simp only [if_neg h1]
theorem rv_17 (V : Nat → Nat → Int32) (p q w s p2 : Nat → Int32) : va_up (RV V p q w s) 17 p2 = RV V p q p2 s := by
  funext x
  simp only [RV, va_up]
  by_cases h1 : x = 17
  · subst h1; rfl
  · simp only [if_neg h1]
theorem rv_18 (V : Nat → Nat → Int32) (p q w s p2 : Nat → Int32) : va_up (RV V p q w s) 18 p2 = RV V p q w p2 := va_up_up _ _ _ _
theorem t15 : ∀ i, i < 32 → (15 : Nat).testBit i = decide (i < 4) := by decide +kernel
theorem nib_sh {r n : Nat} (hr : r < 2 ^ 31) (hn : n < 28) : (nI r >>> (nI n &&& 31)) &&& 15 = nI (r / 2 ^ n % 16) := by
  apply b_ext
  intro i hi
  rw [b_and, b_sshr n (by omega) _ hi, show (15 : Int32) = nI 15 from rfl, nbt hi, nbt hi, t15 i hi, show (16 : Nat) = 2 ^ 4 from rfl, Nat.testBit_mod_two_pow, Nat.testBit_div_two_pow]
  by_cases c : i < 4
  · rw [if_pos (by omega), nbt (by omega), Nat.add_comm n i]
    simp [c]
  · simp [c]
section LD
variable {h : Nat → Nat} {t : Nat → Nat → Nat} {ru : Nat → List Nat} {wh : Nat → Nat} {N : Nat} {V : Nat → Nat → Int32} {S : Nat → Int32}
theorem hw117 (hN : N ≤ 4) {r : Nat} (hr : r < 65536) {x y z : Int32} {E : Int32 → Int32 → Int32 → Int32 → Int32 → (Nat → Int32) → (Nat → Nat → Int32) → Option (Int32 × (Nat → Int32) × (Nat → Nat → Int32))} : ∀ (j k f : Nat) (p q w s : Nat → Int32), k + j = N → j < f → (∀ i, i < k → w i = nI (wsP N r i)) → ∃ w2, fX12_house4_0_L117 E f x (nI N) y z (nI r) (nI k) S (RV V p q w s) = E x (nI N) y z (nI r) S (RV V p q w2 s) ∧ ∀ i, i < N → w2 i = nI (wsP N r i) := by
  intro j
  induction j with
  | zero =>
    intro k f p q w s c1 c2 c3
    obtain ⟨f, rfl⟩ : ∃ z, f = z + 1 := ⟨f - 1, by omega⟩
    refine ⟨w, ?_, fun i hi => c3 i (by omega)⟩
    rw [fX12_house4_0_L117, if_pos (nI_le (by omega) (by omega))]
  | succ j ih =>
    intro k f p q w s c1 c2 c3
    obtain ⟨f, rfl⟩ : ∃ z, f = z + 1 := ⟨f - 1, by omega⟩
    have e : ((nI r >>> (((4 : Int32) * ((nI N - 1) - nI k)) &&& 31)) &&& 15) = nI (wsP N r k) := by
      rw [nI_s1 (by omega), nI_sub (by omega), nI_40, nib_sh (by omega) (by omega)]
      unfold wsP
      rw [if_pos (by omega), show (16 : Nat) ^ (N - 1 - k) = 2 ^ (4 * (N - 1 - k)) by rw [Nat.pow_mul]]
    obtain ⟨w2, e1, e2⟩ := ih (k + 1) f p q (upd w k (nI (wsP N r k))) s (by omega) (by omega) (fun i hi => by
      by_cases e : i = k
      · rw [e, upd_same]
      · rw [upd_ne _ _ e]; exact c3 i (by omega))
    refine ⟨w2, ?_, e2⟩
    rw [fX12_house4_0_L117, if_neg (nI_ge (a := k) (b := N) (by omega) (by omega)), e]
    simp only [lt_e]
    rw [gd_n k 4 (by omega) (by decide), nI_cl k (by omega), rv_17, nI_1]
    exact e1
abbrev cfW (t : Nat → Nat → Nat) (wh ws : Nat → Nat) (k q : Nat) : Prop := ws q / 8 = ws k / 8 ∧ frS (ws q) < frS (ws k) + t (wh k) 2 ∧ frS (ws k) < frS (ws q) + t (wh q) 2
theorem frS_le (s : Nat) : frS s ≤ 21 := by
  show s % 8 * 3 ≤ 21
  omega
theorem il129 (hT : MHt h t) (hw : whOK h wh N) {ws : Nat → Nat} (h16 : ∀ i, i < N → ws i < 16) {p q w s : Nat → Int32} (h17 : ∀ i, i < N → w i = nI (ws i)) {k : Nat} (hk : k < N) (hp : ∀ i, i ≤ k → p (4 * i + 2) = nI (frS (ws i)) ∧ p (4 * i + 3) = nI (frS (ws i) + t (wh i) 2 - 1)) {E : Int32 → Int32 → (Nat → Nat → Int32) → Option (Int32 × (Nat → Nat → Int32))} : ∀ (j o f : Nat), o + j = k → j < f → ((∀ i, o ≤ i → i < k → ¬ cfW t wh ws k i) → fX12_isLaid_0_L129 E S f (nI N) (nI k) (nI (ws k / 8)) (nI (frS (ws k))) (nI o) (RV V p q w s) = E (nI N) (nI k) (RV V p q w s)) ∧ (¬ (∀ i, o ≤ i → i < k → ¬ cfW t wh ws k i) → fX12_isLaid_0_L129 E S f (nI N) (nI k) (nI (ws k / 8)) (nI (frS (ws k))) (nI o) (RV V p q w s) = some (0, RV V p q w s)) := by
  have hN := hw.1
  intro j
  induction j with
  | zero =>
    intro o f c1 c2
    obtain ⟨f, rfl⟩ : ∃ z, f = z + 1 := ⟨f - 1, by omega⟩
    refine ⟨fun _ => ?_, fun z => absurd (fun i i1 i2 => by omega) z⟩
    rw [fX12_isLaid_0_L129, if_pos (nI_le (by omega) (by omega))]
  | succ j ih =>
    intro o f c1 c2
    obtain ⟨f, rfl⟩ : ∃ z, f = z + 1 := ⟨f - 1, by omega⟩
    obtain ⟨i1, i2⟩ := ih (o + 1) f (by omega) (by omega)
    have s1 := stay_b hT hw hk
    have s2 := stay_b hT hw (show o < N by omega)
    have f1 := frS_le (ws k)
    have f2 := frS_le (ws o)
    have w1 := h16 k hk
    have w2 := h16 o (by omega)
    have step : fX12_isLaid_0_L129 E S (f + 1) (nI N) (nI k) (nI (ws k / 8)) (nI (frS (ws k))) (nI o) (RV V p q w s) = (if nI (ws o / 8) = nI (ws k / 8) then (if nI (frS (ws k) + t (wh k) 2 - 1) < nI (frS (ws o)) then fX12_isLaid_0_L129 E S f (nI N) (nI k) (nI (ws k / 8)) (nI (frS (ws k))) (nI (o + 1)) (RV V p q w s) else (if nI (frS (ws o) + t (wh o) 2 - 1) < nI (frS (ws k)) then fX12_isLaid_0_L129 E S f (nI N) (nI k) (nI (ws k / 8)) (nI (frS (ws k))) (nI (o + 1)) (RV V p q w s) else some (0, RV V p q w s))) else fX12_isLaid_0_L129 E S f (nI N) (nI k) (nI (ws k / 8)) (nI (frS (ws k))) (nI (o + 1)) (RV V p q w s)) := by
      rw [fX12_isLaid_0_L129, if_neg (nI_ge (a := o) (b := k) (by omega) (by omega)), gd_n o 4 (by omega) (by decide), nI_cl o (by omega), show RV V p q w s 17 o = nI (ws o) from h17 o (by omega), show (8 : Int32) = nI 8 from rfl, nI_divI (by omega) (by decide)]
      simp only [bk_e, lt_e, nI_42, nI_43, nI_1]
      rw [gd_n (4 * o + 2) 16 (by omega) (by decide), gd_n (4 * k + 3) 16 (by omega) (by decide), gd_n (4 * o + 3) 16 (by omega) (by decide), nI_cl (4 * o + 2) (by omega), nI_cl (4 * k + 3) (by omega), nI_cl (4 * o + 3) (by omega), show RV V p q w s 14 = p from rfl, (hp o (by omega)).1, (hp o (by omega)).2, (hp k (Nat.le_refl _)).2]
    rw [step]
    have more : ¬ cfW t wh ws k o → ((∀ i, o ≤ i → i < k → ¬ cfW t wh ws k i) → fX12_isLaid_0_L129 E S f (nI N) (nI k) (nI (ws k / 8)) (nI (frS (ws k))) (nI (o + 1)) (RV V p q w s) = E (nI N) (nI k) (RV V p q w s)) ∧ (¬ (∀ i, o ≤ i → i < k → ¬ cfW t wh ws k i) → fX12_isLaid_0_L129 E S f (nI N) (nI k) (nI (ws k / 8)) (nI (frS (ws k))) (nI (o + 1)) (RV V p q w s) = some (0, RV V p q w s)) := fun hn => ⟨fun z => i1 (fun i a1 a2 => z i (by omega) a2), fun z => i2 (fun z2 => z (fun i a1 a2 => by
      by_cases e : i = o
      · subst e; exact hn
      · exact z2 i (by omega) a2))⟩
    by_cases d1 : ws o / 8 = ws k / 8
    · rw [if_pos (by rw [d1])]
      by_cases d2 : frS (ws k) + t (wh k) 2 - 1 < frS (ws o)
      · rw [if_pos (nI_lt d2 (by omega))]
        exact more (fun z => by have := z.2.1; omega)
      · rw [if_neg (nI_nlt (by omega) (by omega))]
        by_cases d3 : frS (ws o) + t (wh o) 2 - 1 < frS (ws k)
        · rw [if_pos (nI_lt d3 (by omega))]
          exact more (fun z => by have := z.2.2; omega)
        · rw [if_neg (nI_nlt (by omega) (by omega))]
          exact ⟨fun z => absurd ⟨d1, by omega, by omega⟩ (z o (Nat.le_refl _) (by omega)), fun _ => rfl⟩
    · rw [if_neg (fun z => d1 ((nI_eq (by omega) (by omega)).mp z))]
      exact more (fun z => d1 z.1)
abbrev goodW (t : Nat → Nat → Nat) (wh ws : Nat → Nat) (n : Nat) : Prop := (∀ k, k < n → Gk t wh k (ws k)) ∧ noC t wh ws n
theorem il2 (hs : MHs h) (hT : MHt h t) (hRt : RHt h t (V 1) (V 2)) (hw : whOK h wh N) (hV16 : ∀ i, i < N → V 16 i = nI (wh i)) {ws : Nat → Nat} (h16 : ∀ i, i < N → ws i < 16) {q w s : Nat → Int32} (h17 : ∀ i, i < N → w i = nI (ws i)) {E : Int32 → (Nat → Nat → Int32) → Option (Int32 × (Nat → Nat → Int32))} : ∀ (j k f : Nat) (p : Nat → Int32), k + j = N → j < f → RL2 k (leW t wh ws) p → goodW t wh ws k → (∃ p2, fX12_isLaid_0_L2 E S f (nI N) (nI k) (RV V p q w s) = E (nI N) (RV V p2 q w s) ∧ RL2 N (leW t wh ws) p2 ∧ goodW t wh ws N) ∨ (∃ p2, fX12_isLaid_0_L2 E S f (nI N) (nI k) (RV V p q w s) = some (0, RV V p2 q w s) ∧ ¬ goodW t wh ws N) := by
  have hN := hw.1
  have h46 := hs.2.2.2.2.1
  intro j
  induction j with
  | zero =>
    intro k f p c1 c2 c3 c4
    obtain ⟨f, rfl⟩ : ∃ z, f = z + 1 := ⟨f - 1, by omega⟩
    have : k = N := by omega
    subst this
    refine Or.inl ⟨p, ?_, c3, c4⟩
    rw [fX12_isLaid_0_L2, if_pos (nI_le (by omega) (by omega))]
  | succ j ih =>
    intro k f p c1 c2 c3 c4
    obtain ⟨f, rfl⟩ : ∃ z, f = z + 1 := ⟨f - 1, by omega⟩
    have hk : k < N := by omega
    have hwk := hw.2.1 k hk
    have hst := stay_b hT hw hk
    have w1 := h16 k hk
    have f1 := frS_le (ws k)
    have lr := ltR (V := RV V p q w s) hs hT hRt hwk (show ws k / 8 < 3 by omega)
    have t2 : V 1 (4 * wh k + 2) = nI (t (wh k) 2) := (hRt (wh k) hwk).2.2.1
    have emod : (nI (ws k) - nI (ws k) / nI 8 * nI 8) * 3 = nI (frS (ws k)) := by
      rw [nI_mod (by omega) (by decide), show (3 : Int32) = nI 3 from rfl, nI_mul]
    rw [fX12_isLaid_0_L2, if_neg (nI_ge (a := k) (b := N) (by omega) (by omega))]
    simp only [lt_e]
    rw [gd_n k 4 (by omega) (by decide), gd_n k 4 (by omega) (by decide), gd_n k 4 (by omega) (by decide), nI_cl k (by omega), show RV V p q w s 17 k = nI (ws k) from h17 k hk, show RV V p q w s 16 k = nI (wh k) from hV16 k hk, show (8 : Int32) = nI 8 from rfl, emod, nI_divI (by omega) (by decide)]
    by_cases g2 : letsT t (wh k) (ws k / 8)
    · rw [lr.1 g2, bd1_s, if_neg (by decide), nI_42, gd_n (4 * wh k + 2) 24 (by omega) (by decide), nI_cl (4 * wh k + 2) (by omega), show RV V p q w s 1 (4 * wh k + 2) = nI (t (wh k) 2) from t2, nI_add]
      by_cases g1 : frS (ws k) + t (wh k) 2 ≤ 24
      · rw [if_pos (show nI (frS (ws k) + t (wh k) 2) ≤ 24 from nI_le (a := frS (ws k) + t (wh k) 2) (b := 24) g1 (by decide))]
        simp only [nI_41, nI_42, nI_43, bk_e]
        rw [nI_40]
        rw [gd_n (4 * k) 16 (by omega) (by decide), gd_n (4 * k + 1) 16 (by omega) (by decide), gd_n (4 * k + 2) 16 (by omega) (by decide), gd_n (4 * k + 3) 16 (by omega) (by decide), gd_n (4 * wh k + 2) 24 (by omega) (by decide), nI_cl (4 * k) (by omega), nI_cl (4 * k + 1) (by omega), nI_cl (4 * k + 2) (by omega), nI_cl (4 * k + 3) (by omega)]
        simp only [rv_14]
        rw [show ∀ pp, RV V pp q w s 1 (4 * wh k + 2) = nI (t (wh k) 2) from fun _ => t2, nI_add, nI_s1 (by omega)]
        simp only [show ∀ pp, RV V pp q w s 14 = pp from fun _ => rfl]
        generalize hpp : upd (upd (upd (upd p (4 * k) (nI (wh k))) (4 * k + 1) (nI (ws k / 8))) (4 * k + 2) (nI (frS (ws k)))) (4 * k + 3) (nI (frS (ws k) + t (wh k) 2 - 1)) = pp
        have rl : RL2 (k + 1) (leW t wh ws) pp := fun i hi => by
          rw [← hpp]
          by_cases e : i = k
          · subst e
            refine ⟨?_, ?_, ?_, ?_⟩
            · rw [upd_ne _ _ (by omega), upd_ne _ _ (by omega), upd_ne _ _ (by omega), upd_same]; rfl
            · rw [upd_ne _ _ (by omega), upd_ne _ _ (by omega), upd_same]; rfl
            · rw [upd_ne _ _ (by omega), upd_same]; rfl
            · rw [upd_same]; rfl
          · obtain ⟨x0, x1, x2, x3⟩ := c3 i (by omega)
            refine ⟨?_, ?_, ?_, ?_⟩
            · rw [upd_ne _ _ (by omega), upd_ne _ _ (by omega), upd_ne _ _ (by omega), upd_ne _ _ (by omega)]; exact x0
            · rw [upd_ne _ _ (by omega), upd_ne _ _ (by omega), upd_ne _ _ (by omega), upd_ne _ _ (by omega)]; exact x1
            · rw [upd_ne _ _ (by omega), upd_ne _ _ (by omega), upd_ne _ _ (by omega), upd_ne _ _ (by omega)]; exact x2
            · rw [upd_ne _ _ (by omega), upd_ne _ _ (by omega), upd_ne _ _ (by omega), upd_ne _ _ (by omega)]; exact x3
        obtain ⟨n1, n2⟩ := il129 (V := V) (S := S) (p := pp) (q := q) (s := s) hT hw h16 h17 hk (fun i hi => ⟨(rl i (by omega)).2.2.1, (rl i (by omega)).2.2.2⟩) (E := fun x62 x63 V64 => fX12_isLaid_0_L2 E S f x62 (x63 + 1) V64) k 0 FU (by omega) (by unfold FU; omega)
        rw [nI_0, nI_1] at n1
        rw [nI_0] at n2
        by_cases nc : ∀ i, 0 ≤ i → i < k → ¬ cfW t wh ws k i
        · have gk : goodW t wh ws (k + 1) := ⟨fun i hi => by
            by_cases e : i = k
            · subst e; exact ⟨g1, g2⟩
            · exact c4.1 i (by omega), fun i o hi ho => by
            by_cases e : i = k
            · subst e; exact nc o (Nat.zero_le _) ho
            · exact c4.2 i o (by omega) ho⟩
          rw [n1 nc]
          exact ih (k + 1) f pp (by omega) (by omega) rl gk
        · refine Or.inr ⟨pp, n2 nc, fun z => nc (fun i _ hi => z.2 k i hk hi)⟩
      · rw [if_neg (show ¬ nI (frS (ws k) + t (wh k) 2) ≤ 24 from nI_ge (a := 24) (b := frS (ws k) + t (wh k) 2) (by omega) (by omega))]
        exact Or.inr ⟨p, rfl, fun z => g1 (z.1 k hk).1⟩
    · rw [lr.2 g2, bd1_s, if_pos rfl]
      exact Or.inr ⟨p, rfl, fun z => g2 (z.1 k hk).2⟩
theorem laidR (hs : MHs h) (hT : MHt h t) (e7 : S 7 = nI (h 6)) (hRt : RHt h t (V 1) (V 2)) (hU : MU (h 6) ru) (hRU : RU (h 6) ru (V 4) (V 3)) (hw : whOK h wh N) (hV16 : ∀ i, i < N → V 16 i = nI (wh i)) {ws : Nat → Nat} (h16 : ∀ i, i < N → ws i < 16) {p q w s : Nat → Int32} (h17 : ∀ i, i < N → w i = nI (ws i)) : (∃ p2 q2, fX12_isLaid_0 S (RV V p q w s) (nI N) = some (1, RV V p2 q2 w s) ∧ RL2 N (leW t wh ws) p2 ∧ vldW h t ru wh N ws) ∨ (∃ p2 q2, fX12_isLaid_0 S (RV V p q w s) (nI N) = some (0, RV V p2 q2 w s) ∧ ¬ vldW h t ru wh N ws) := by
  have hN := hw.1
  have L := il2 (V := V) (S := S) (q := q) (w := w) (s := s) hs hT hRt hw hV16 h16 h17 (E := fun x69 V70 => bd2 (fX12_holds_0_14 S V70 x69) (fun r71 V72 => gd (isb r71) (some (r71, V72)))) N 0 FU p (by omega) (by unfold FU; omega) (fun i hi => by omega) ⟨fun i hi => by omega, fun i o hi => by omega⟩
  rw [nI_0] at L
  unfold fX12_isLaid_0
  simp only [bk_e]
  rcases L with ⟨p2, e1, e2, e3⟩ | ⟨p2, e1, e2⟩
  · rw [e1]
    have hM := ML4_W hT hw h16 (Nat.le_refl N) e3.1 e3.2
    rcases holdsR14 (S := S) (V := RV V p2 q w s) hs hT e7 hRt hM e2 hU hRU with ⟨f2, r1, r2⟩ | ⟨f2, r1, r2⟩
    · rw [r1, bd2_s, rv_15]
      exact Or.inl ⟨p2, f2, rfl, e2, e3.1, e3.2, r2⟩
    · rw [r1, bd2_s, rv_15]
      exact Or.inr ⟨p2, f2, rfl, fun z => r2 z.2.2⟩
  · exact Or.inr ⟨p2, q, e1, fun z => e2 ⟨z.1, z.2.1⟩⟩
end LD
