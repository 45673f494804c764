/-! ===== do the rules hold ===== -/
theorem stR_top {f : Nat → Int32} {st : List Int32} (h : stR f st) (hl : st.length = 1) : f 0 = st.getD 0 0 := by
  match st, h, hl with
  | [a], h, _ => exact h.1
abbrev topR (va : Nat → Nat) (ru : Nat → List Nat) (r : Nat) : Int32 := (evL va (ru r) []).getD 0 0
theorem valC {W : Nat → Nat → Int32} {va : Nat → Nat} (hva : ∀ q, q < 6 → W 28 q = nI (va q)) {ps : List Nat} (hh : htL ps 0 = some 1) {s : Nat} (hc : ∀ j p, ps[j]? = some p → W 9 (s + j) = nI p) (hs : s + ps.length ≤ 600) (f : Nat → Int32) : ∃ f2, fX8_valueOf_27 (va_up W 29 f) (nI s) (nI (s + ps.length)) = some ((evL va ps []).getD 0 0, va_up W 29 f2) := by
  obtain ⟨f2, r1, r2, r3⟩ := evC (V := W) hva (E := fun V55 => gd (ib (0 : Int32) 40) (some (V55 29 ((0 : Int32)).toNatClampNeg, V55))) ps [] f s FU 1 trivial (by decide) hh hc hs (by unfold FU; omega)
  refine ⟨f2, ?_⟩
  unfold fX8_valueOf_27
  simp only [bk_e]
  rw [show nI ([] : List Int32).length = 0 from nI_0] at r3
  rw [r3, gd_t (by decide), va_up_self, show ((0 : Int32)).toNatClampNeg = 0 from by decide, stR_top r1 r2]
section HD
variable {n : Nat} {ru : Nat → List Nat} {va : Nat → Nat} {S : Nat → Int32} {W : Nat → Nat → Int32}
theorem holdL (hn : n ≤ 4) (e6 : S 306 = nI n) (hva : ∀ q, q < 6 → W 28 q = nI (va q)) (hU : MU n ru) {st : Nat → Nat} (hst : ∀ r, r < n → (W 10 r = nI (st (r + 1)) ∧ st (r + 1) = st r + (ru r).length ∧ st (r + 1) ≤ 600) ∧ ∀ j p, (ru r)[j]? = some p → W 9 (st r + j) = nI p) : ∀ (j r m : Nat) (f : Nat → Int32), r + j = n → j < m → ∃ f2 b, fX8_holdOf_27_L58 S m (nI (st r)) (nI r) (va_up W 29 f) = some (b, va_up W 29 f2) ∧ ((b = 1 ∧ ∀ q, r ≤ q → q < n → topR va ru q ≠ 0) ∨ (b = 0 ∧ ∃ q, r ≤ q ∧ q < n ∧ topR va ru q = 0)) := by
  intro j
  induction j with
  | zero =>
    intro r m f c1 c2
    obtain ⟨m, rfl⟩ : ∃ z, m = z + 1 := ⟨m - 1, by omega⟩
    refine ⟨f, 1, ?_, Or.inl ⟨rfl, fun q h1 h2 => by omega⟩⟩
    rw [fX8_holdOf_27_L58, e6, if_pos (nI_le (by omega) (by omega))]
  | succ j ih =>
    intro r m f c1 c2
    obtain ⟨m, rfl⟩ : ∃ z, m = z + 1 := ⟨m - 1, by omega⟩
    obtain ⟨⟨q1, q2, q3⟩, q4⟩ := hst r (by omega)
    obtain ⟨f2, v⟩ := valC hva (hU r (by omega)) q4 (by omega) f
    rw [← q2] at v
    by_cases p : topR va ru r = 0
    · refine ⟨f2, 0, ?_, Or.inr ⟨rfl, r, Nat.le_refl _, by omega, p⟩⟩
      rw [fX8_holdOf_27_L58, e6, if_neg (nI_ge (a := r) (b := n) (by omega) (by omega)), gd_n r 4 (by omega) (by decide), nI_cl r (by omega), va_up_ne _ _ (show (10 : Nat) ≠ 29 by decide), q1, v, bd2_s, if_pos p]
    · obtain ⟨f3, b, e1, e2⟩ := ih (r + 1) m f2 (by omega) (by omega)
      refine ⟨f3, b, ?_, ?_⟩
      · rw [fX8_holdOf_27_L58, e6, if_neg (nI_ge (a := r) (b := n) (by omega) (by omega)), gd_n r 4 (by omega) (by decide), nI_cl r (by omega), va_up_ne _ _ (show (10 : Nat) ≠ 29 by decide), q1, v, bd2_s, if_neg p, gd_n r 4 (by omega) (by decide)]
        simp only [lt_e, nI_1]
        rw [va_up_ne _ _ (show (10 : Nat) ≠ 29 by decide), q1]
        exact e1
      · rcases e2 with ⟨b1, b2⟩ | ⟨b1, q, b2, b3, b4⟩
        · refine Or.inl ⟨b1, fun q h1 h2 => ?_⟩
          by_cases e : q = r
          · subst e; exact p
          · exact b2 q (by omega) h2
        · exact Or.inr ⟨b1, q, by omega, b3, b4⟩
end HD
def vq (a b c d e f : Nat) : Nat → Nat
  | 0 => a
  | 1 => b
  | 2 => c
  | 3 => d
  | 4 => e
  | _ => f
theorem holdC {h : Nat → Nat} {t : Nat → Nat → Nat} {ru : Nat → List Nat} {S : Nat → Int32} {V : Nat → Nat → Int32} (hs : MHs h) (hCt : CHt h t (V 4) (V 5) (V 6) (V 7) (V 8)) (e6 : S 306 = nI (h 6)) (hU : MU (h 6) ru) (hC : CU (h 6) ru (V 9) (V 10)) {who half hr hours other quar : Nat} (hw : who < h 4) : ∃ f g b, fX8_holdOf_27 S V (nI who) (nI half) (nI hr) (nI hours) (nI other) (nI quar) = some (b, va_up (va_up V 28 f) 29 g) ∧ ((b = 1 ∧ okR (vq (t who 0) half hr hours other quar) (h 6) ru) ∨ (b = 0 ∧ ¬ okR (vq (t who 0) half hr hours other quar) (h 6) ru)) := by
  have h46 := hs.2.2.2.2.1
  have h6 := hs.2.2.2.2.2.2
  obtain ⟨st, s0, s1⟩ := hC
  have ew : fX2_weightOf_3 V (nI who) = some (nI (t who 0)) := wt3 h46 hCt (o := some who) (ab_ok hw)
  generalize hG : upd (upd (upd (upd (upd (upd (V 28) 0 (nI (t who 0))) 1 (nI half)) 2 (nI hr)) 3 (nI hours)) 4 (nI other)) 5 (nI quar) = G
  have hva : ∀ q, q < 6 → (va_up V 28 G) 28 q = nI (vq (t who 0) half hr hours other quar q) := fun q hq => by
    rw [va_up_self, ← hG]
    rcases (show q = 0 ∨ q = 1 ∨ q = 2 ∨ q = 3 ∨ q = 4 ∨ q = 5 by omega) with rfl | rfl | rfl | rfl | rfl | rfl <;> simp [upd, vq]
  obtain ⟨f2, b, e1, e2⟩ := holdL (S := S) (W := va_up V 28 G) (va := vq (t who 0) half hr hours other quar) h6 e6 hva hU (st := st) s1 (h 6) 0 FU (V 29) (by omega) (by unfold FU; omega)
  refine ⟨G, f2, b, ?_, ?_⟩
  · rw [s0, nI_0, show va_up (va_up V 28 G) 29 (V 29) = va_up V 28 G from va_same rfl] at e1
    unfold fX8_holdOf_27
    simp only [lt_e]
    rw [ew, bd1_s, gd_t (by decide), gd_t (by decide), gd_t (by decide), gd_t (by decide), gd_t (by decide), gd_t (by decide)]
    simp only [va_up_self, va_up_up]
    rw [show upd (upd (upd (upd (upd (upd (V 28) (0 : Int32).toNatClampNeg (nI (t who 0))) (1 : Int32).toNatClampNeg (nI half)) (2 : Int32).toNatClampNeg (nI hr)) (3 : Int32).toNatClampNeg (nI hours)) (4 : Int32).toNatClampNeg (nI other)) (5 : Int32).toNatClampNeg (nI quar) = G from hG]
    exact e1
  · rcases e2 with ⟨b1, b2⟩ | ⟨b1, q, b2, b3, b4⟩
    · exact Or.inl ⟨b1, fun r hr => b2 r (Nat.zero_le _) hr⟩
    · exact Or.inr ⟨b1, fun hok => hok q b3 b4⟩
