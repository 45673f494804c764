/-! ===== housed anew: where one may be (the class) ===== -/
abbrev MV (V : Nat → Nat → Int32) (f g a b c : Nat → Int32) : Nat → Nat → Int32 := va_up (va_up (va_up (va_up (va_up V 28 f) 29 g) 51 a) 52 b) 53 c
theorem mv_28 (V : Nat → Nat → Int32) (f g a b c f2 g2 : Nat → Int32) : va_up (va_up (MV V f g a b c) 28 f2) 29 g2 = MV V f2 g2 a b c := by
  funext q
  simp only [MV, va_up]
  by_cases h1 : q = 28
  · subst h1; rfl
  · by_cases h2 : q = 29
    · subst h2; rfl
    · simp only [if_neg h1, if_neg h2]
theorem mv_51 (V : Nat → Nat → Int32) (f g a b c a2 : Nat → Int32) : va_up (MV V f g a b c) 51 a2 = MV V f g a2 b c := by
  funext q
  simp only [MV, va_up]
  by_cases h1 : q = 51
  · subst h1; rfl
  · simp only [if_neg h1]
theorem mv_52 (V : Nat → Nat → Int32) (f g a b c b2 : Nat → Int32) : va_up (MV V f g a b c) 52 b2 = MV V f g a b2 c := by
  funext q
  simp only [MV, va_up]
  by_cases h1 : q = 52
  · subst h1; rfl
  · simp only [if_neg h1]
theorem mv_53 (V : Nat → Nat → Int32) (f g a b c c2 : Nat → Int32) : va_up (MV V f g a b c) 53 c2 = MV V f g a b c2 := va_up_up _ _ _ _
section ME
variable {h : Nat → Nat} {t : Nat → Nat → Nat} {ru : Nat → List Nat} {wh : Nat → Nat} {N : Nat} {V : Nat → Nat → Int32} {S : Nat → Int32}
/-- what measuring needs -/
def ME0 (h : Nat → Nat) (t : Nat → Nat → Nat) (ru : Nat → List Nat) (wh : Nat → Nat) (N : Nat) (S : Nat → Int32) (V : Nat → Nat → Int32) : Prop := MHs h ∧ MHt h t ∧ CHt h t (V 4) (V 5) (V 6) (V 7) (V 8) ∧ S 306 = nI (h 6) ∧ MU (h 6) ru ∧ CU (h 6) ru (V 9) (V 10) ∧ whOK h wh N ∧ S 4903 = nI N ∧ ∀ k, k < N → V 50 k = nI (wh k)
theorem good34 (hE : ME0 h t ru wh N S V) {k hf fr to w q : Nat} (hk : k < N) (hft : fr ≤ to) (hto : to < 24) : ∀ (j hr m x : Nat) (f g a b c : Nat → Int32), hr + j = to + 1 → fr ≤ hr → j < m → x < 2 ^ 24 → ∃ f2 g2 y, fX0_goodHours_49_L34 S m (nI k) (nI hf) (nI fr) (nI to) (nI w) (nI q) (nI x) (nI hr) (MV V f g a b c) = some (nI y, MV V f2 g2 a b c) ∧ y < 2 ^ 24 ∧ ∀ z, z < 24 → (y.testBit z = true ↔ (x.testBit z = true ∨ (hr ≤ z ∧ z ≤ to ∧ okR (vq (t (wh k) 0) hf z (to - fr + 1) w q) (h 6) ru))) := by
  obtain ⟨hs, hT, hCt, e6, hU, hCU, hw, hS, h50⟩ := hE
  have hN := hw.1
  intro j
  induction j with
  | zero =>
    intro hr m x f g a b c c1 c2 c3 c4
    obtain ⟨m, rfl⟩ : ∃ z, m = z + 1 := ⟨m - 1, by omega⟩
    refine ⟨f, g, x, ?_, c4, fun z hz => ⟨fun y => Or.inl y, fun y => y.elim id (fun y => by omega)⟩⟩
    rw [fX0_goodHours_49_L34, if_pos (nI_lt (by omega) (by omega))]
  | succ j ih =>
    intro hr m x f g a b c c1 c2 c3 c4
    obtain ⟨m, rfl⟩ : ∃ z, m = z + 1 := ⟨m - 1, by omega⟩
    obtain ⟨f1, g1, r, e1, e2⟩ := holdC (V := MV V f g a b c) (S := S) (half := hf) (hr := hr) (hours := to - fr + 1) (other := w) (quar := q) hs hCt e6 hU hCU (hw.2.1 k hk)
    rw [mv_28] at e1
    rw [fX0_goodHours_49_L34, if_neg (nI_nlt (by omega) (by omega)), gd_n k 4 (by omega) (by decide), nI_cl k (by omega), show MV V f g a b c 50 k = nI (wh k) from h50 k hk, nI_sub hft, nI_1, e1, bd2_s]
    simp only [bk_e, lt_e, nI_1]
    rcases e2 with ⟨b1, b2⟩ | ⟨b1, b2⟩
    · have hx : x ||| 2 ^ hr < 2 ^ 24 := or_lt c4 (Nat.pow_lt_pow_right (by decide) (by omega))
      obtain ⟨f2, g2, y, r1, r2, r3⟩ := ih (hr + 1) m (x ||| 2 ^ hr) f1 g1 a b c (by omega) (by omega) (by omega) hx
      refine ⟨f2, g2, y, ?_, r2, fun z hz => (r3 z hz).trans ?_⟩
      · rw [b1, if_neg (by decide), bit_lt (by omega), fa_or]
        exact r1
      · rw [Nat.testBit_or, Bool.or_eq_true, Nat.testBit_two_pow, decide_eq_true_iff]
        constructor
        · rintro ((y1 | y1) | ⟨y1, y2, y3⟩)
          · exact Or.inl y1
          · subst y1; exact Or.inr ⟨Nat.le_refl _, by omega, b2⟩
          · exact Or.inr ⟨by omega, y2, y3⟩
        · rintro (y1 | ⟨y1, y2, y3⟩)
          · exact Or.inl (Or.inl y1)
          · by_cases e : hr = z
            · exact Or.inl (Or.inr e)
            · exact Or.inr ⟨by omega, y2, y3⟩
    · obtain ⟨f2, g2, y, r1, r2, r3⟩ := ih (hr + 1) m x f1 g1 a b c (by omega) (by omega) (by omega) c4
      refine ⟨f2, g2, y, ?_, r2, fun z hz => (r3 z hz).trans ?_⟩
      · rw [b1, if_pos rfl]
        exact r1
      · constructor
        · rintro (y1 | ⟨y1, y2, y3⟩)
          · exact Or.inl y1
          · exact Or.inr ⟨by omega, y2, y3⟩
        · rintro (y1 | ⟨y1, y2, y3⟩)
          · exact Or.inl y1
          · refine Or.inr ⟨?_, y2, y3⟩
            by_cases e : hr = z
            · subst e; exact absurd y3 b2
            · omega
theorem goodC (hE : ME0 h t ru wh N S V) {k hf fr to : Nat} (hk : k < N) (hft : fr ≤ to) (hto : to < 24) {oo : Option Nat} (hoo : okT (h 4) oo) (f g a b c : Nat → Int32) : ∃ f2 g2 y, fX0_goodHours_49 S (MV V f g a b c) (nI k) (nI hf) (nI fr) (nI to) (enc oo) = some (nI y, MV V f2 g2 a b c) ∧ y < 2 ^ 24 ∧ ∀ z, z < 24 → (y.testBit z = true ↔ (fr ≤ z ∧ z ≤ to ∧ okR (vq (t (wh k) 0) hf z (to - fr + 1) (wOf t oo) (qq t (some (wh k)) oo)) (h 6) ru)) := by
  obtain ⟨hs, hT, hCt, e6, hU, hCU, hw, hS, h50⟩ := id hE
  have h46 := hs.2.2.2.2.1
  have hN := hw.1
  obtain ⟨f2, g2, y, e1, e2, e3⟩ := good34 hE (hf := hf) (w := wOf t oo) (q := qq t (some (wh k)) oo) hk hft hto (to + 1 - fr) fr FU 0 f g a b c (by omega) (Nat.le_refl _) (by unfold FU; omega) (by decide)
  refine ⟨f2, g2, y, ?_, e2, fun z hz => (e3 z hz).trans ⟨fun q => q.elim (fun q => by rw [Nat.zero_testBit] at q; cases q) id, fun q => Or.inr q⟩⟩
  have qr : fX2_quarrelsOf_3 (MV V f g a b c) (nI (wh k)) (enc oo) = some (nI (qq t (some (wh k)) oo)) := qr3 (V := MV V f g a b c) h46 hCt (a := some (wh k)) (b := oo) (ab_ok (hw.2.1 k hk)) hoo
  unfold fX0_goodHours_49
  rw [wt3 (V := MV V f g a b c) h46 hCt hoo, bd1_s, gd_n k 4 (by omega) (by decide), nI_cl k (by omega), show MV V f g a b c 50 k = nI (wh k) from h50 k hk, qr, bd1_s]
  rw [nI_0] at e1
  exact e1
/-- beside each other one -/
theorem me100 (hE : ME0 h t ru wh N S V) {k s : Nat} (hk : k < N) (hs16 : s < 16) (hG : Gk t wh k s) {E : Int32 → Int32 → Int32 → Int32 → (Nat → Nat → Int32) → Option (Nat → Nat → Int32)} : ∀ (j o m x : Nat) (f g a b c : Nat → Int32), o + j = N → j < m → x < 2 ^ 24 → ∃ f2 g2 c2 y, fX0_measure_49_L100 E S m (nI k) (nI s) (nI (k * 16 + s)) (nI (frS s)) (nI (frS s + t (wh k) 2 - 1)) (nI x) (nI o) (MV V f g a b c) = E (nI (k * 16 + s)) (nI (frS s)) (nI (frS s + t (wh k) 2 - 1)) (nI y) (MV V f2 g2 a b c2) ∧ y < 2 ^ 24 ∧ (∀ z, z < 24 → (y.testBit z = true ↔ (x.testBit z = true ∨ ∃ q, o ≤ q ∧ q < N ∧ q ≠ k ∧ inS t wh k s z = true ∧ ok2 h t ru wh k s q z))) ∧ (∀ i, ¬ i / 4 = k * 16 + s → c2 i = c i) ∧ (∀ q, q < o → c2 ((k * 16 + s) * 4 + q) = c ((k * 16 + s) * 4 + q)) ∧ ∀ q, o ≤ q → q < N → q ≠ k → ∃ be : Nat, c2 ((k * 16 + s) * 4 + q) = nI be ∧ ∀ hr, hr < 24 → (be.testBit hr = true ↔ inS t wh k s hr = true ∧ ok2 h t ru wh k s q hr) := by
  obtain ⟨hs, hT, hCt, e6, hU, hCU, hw, hS, h50⟩ := id hE
  have hN := hw.1
  have hst := stay_b hT hw hk
  have hg1 := hG.1
  intro j
  induction j with
  | zero =>
    intro o m x f g a b c c1 c2 c3
    obtain ⟨m, rfl⟩ : ∃ z, m = z + 1 := ⟨m - 1, by omega⟩
    refine ⟨f, g, c, x, ?_, c3, fun z hz => ⟨fun y => Or.inl y, fun y => y.elim id (fun ⟨q, y⟩ => by omega)⟩, fun _ _ => rfl, fun _ _ => rfl, fun q q1 q2 => by omega⟩
    rw [fX0_measure_49_L100, hS, if_pos (nI_le (by omega) (by omega))]
  | succ j ih =>
    intro o m x f g a b c c1 c2 c3
    obtain ⟨m, rfl⟩ : ∃ z, m = z + 1 := ⟨m - 1, by omega⟩
    rw [fX0_measure_49_L100, hS, if_neg (nI_ge (a := o) (b := N) (by omega) (by omega))]
    simp only [bk_e, lt_e, nI_1]
    by_cases e : o = k
    · obtain ⟨f2, g2, c2', y, r1, r2, r3, r4, r5, r6⟩ := ih (o + 1) m x f g a b c (by omega) (by omega) c3
      refine ⟨f2, g2, c2', y, ?_, r2, fun z hz => (r3 z hz).trans ⟨fun q => q.imp id (fun ⟨w, w1, w2⟩ => ⟨w, by omega, w2⟩), fun q => q.imp id (fun ⟨w, w1, w2, w3, w4⟩ => ⟨w, by omega, w2, w3, w4⟩)⟩, r4, fun q hq => r5 q (by omega), fun q q1 q2 q3 => r6 q (by omega) q2 q3⟩
      rw [if_pos (by rw [e])]
      exact r1
    · have ho : o < N := by omega
      obtain ⟨f1, g1, be, e1, e2, e3⟩ := goodC hE (hf := s / 8) (fr := frS s) (to := frS s + t (wh k) 2 - 1) hk (by omega) (by omega) (oo := some (wh o)) (ab_ok (hw.2.1 o ho)) f g a b c
      have hlen : frS s + t (wh k) 2 - 1 - frS s + 1 = t (wh k) 2 := by omega
      have e3' : ∀ z, z < 24 → (be.testBit z = true ↔ inS t wh k s z = true ∧ ok2 h t ru wh k s o z) := fun z hz => by
        rw [e3 z hz, inS_iff, hlen]
        constructor
        · rintro ⟨y1, y2, y3⟩; exact ⟨⟨y1, by omega⟩, y3⟩
        · rintro ⟨⟨y1, y2⟩, y3⟩; exact ⟨y1, by omega, y3⟩
      have hx : x ||| be < 2 ^ 24 := or_lt c3 e2
      obtain ⟨f2, g2, c2', y, r1, r2, r3, r4, r5, r6⟩ := ih (o + 1) m (x ||| be) f1 g1 a b (upd c ((k * 16 + s) * 4 + o) (nI be)) (by omega) (by omega) hx
      refine ⟨f2, g2, c2', y, ?_, r2, fun z hz => (r3 z hz).trans ?_, fun i hi => ?_, fun q hq => ?_, fun q q1 q2 q3 => ?_⟩
      · rw [if_neg (fun z => e ((nI_eq (by omega) (by omega)).mp z)), half_n hs16, bd1_s, gd_n o 4 (by omega) (by decide), nI_cl o (by omega), show MV V f g a b c 50 o = enc (some (wh o)) from h50 o ho, e1, bd2_s, nI_4r, gd_n ((k * 16 + s) * 4 + o) 256 (by omega) (by decide), gd_n ((k * 16 + s) * 4 + o) 256 (by omega) (by decide), nI_cl ((k * 16 + s) * 4 + o) (by omega), mv_53, show MV V f1 g1 a b c 53 = c from rfl, show MV V f1 g1 a b (upd c ((k * 16 + s) * 4 + o) (nI be)) 53 ((k * 16 + s) * 4 + o) = nI be from upd_same _ _ _, fa_or]
        exact r1
      · rw [Nat.testBit_or, Bool.or_eq_true, e3' z hz]
        constructor
        · rintro ((y1 | ⟨y1, y2⟩) | ⟨q, y1, y2⟩)
          · exact Or.inl y1
          · exact Or.inr ⟨o, Nat.le_refl _, ho, e, y1, y2⟩
          · exact Or.inr ⟨q, by omega, y2⟩
        · rintro (y1 | ⟨q, y1, y2, y3, y4, y5⟩)
          · exact Or.inl (Or.inl y1)
          · by_cases eq : q = o
            · subst eq; exact Or.inl (Or.inr ⟨y4, y5⟩)
            · exact Or.inr ⟨q, by omega, y2, y3, y4, y5⟩
      · rw [r4 i hi, upd_ne _ _ (fun z => hi (by omega))]
      · rw [r5 q (by omega), upd_ne _ _ (by omega)]
      · by_cases eq : q = o
        · subst eq
          exact ⟨be, by rw [r5 q (by omega), upd_same], e3'⟩
        · exact r6 q (by omega) q2 q3
/-- what stands of one and his slot -/
def Mks (h : Nat → Nat) (t : Nat → Nat → Nat) (ru : Nat → List Nat) (wh : Nat → Nat) (N : Nat) (a b c : Nat → Int32) (k s : Nat) : Prop :=
  (spOK h t ru wh N k s → a (k * 16 + s) = nI (ivW t wh k s)) ∧ (¬ spOK h t ru wh N k s → a (k * 16 + s) = 0) ∧
  (spOK h t ru wh N k s → ∃ al : Nat, b (k * 16 + s) = nI al ∧ ∀ hr, hr < 24 → (al.testBit hr = true ↔ inS t wh k s hr = true ∧ ok1 h t ru wh k s hr)) ∧
  (spOK h t ru wh N k s → ∀ o, o < N → o ≠ k → ∃ be : Nat, c ((k * 16 + s) * 4 + o) = nI be ∧ ∀ hr, hr < 24 → (be.testBit hr = true ↔ inS t wh k s hr = true ∧ ok2 h t ru wh k s o hr))
theorem from_n {s : Nat} (hs : s < 16) : fX0_fromOf (nI s) = some (nI (frS s)) := by
  unfold fX0_fromOf
  rw [show (8 : Int32) = nI 8 from rfl, show (3 : Int32) = nI 3 from rfl, nI_divI (by omega) (by decide), nI_mul, nI_sub (by omega), nI_mul, show s - s / 8 * 8 = s % 8 by omega]
theorem measC (hE : ME0 h t ru wh N S V) {k s : Nat} (hk : k < N) (hs16 : s < 16) (f g a b c : Nat → Int32) : ∃ f2 g2 a2 b2 c2, fX0_measure_49 S (MV V f g a b c) (nI k) (nI s) = some (MV V f2 g2 a2 b2 c2) ∧ Mks h t ru wh N a2 b2 c2 k s ∧ (∀ i, i ≠ k * 16 + s → a2 i = a i ∧ b2 i = b i) ∧ ∀ i, ¬ i / 4 = k * 16 + s → c2 i = c i := by
  obtain ⟨hs, hT, hCt, e6, hU, hCU, hw, hS, h50⟩ := id hE
  have h46 := hs.2.2.2.2.1
  have hN := hw.1
  have hst := stay_b hT hw hk
  have hwk := hw.2.1 k hk
  have t2 : MV V f g (upd a (k * 16 + s) 0) b c 6 (wh k) = nI (t (wh k) 2) := (hCt (wh k) hwk).2.2.1
  have br := brL (V := MV V f g (upd a (k * 16 + s) 0) b c) hs hT hCt hwk (show s / 8 < 3 by omega)
  have hout : ∀ i, i ≠ k * 16 + s → upd a (k * 16 + s) 0 i = a i := fun i hi => upd_ne _ _ hi
  have bad : ¬ Gk t wh k s → Mks h t ru wh N (upd a (k * 16 + s) 0) b c k s := fun hn => ⟨fun z => absurd z.1 hn, fun _ => upd_same _ _ _, fun z => absurd z.1 hn, fun z => absurd z.1 hn⟩
  unfold fX0_measure_49
  simp only [lt_e, nI_16]
  rw [gd_n (k * 16 + s) 64 (by omega) (by decide), nI_cl (k * 16 + s) (by omega), from_n hs16, bd1_s, gd_n k 4 (by omega) (by decide), nI_cl k (by omega), mv_51, show MV V f g a b c 51 = a from rfl, show MV V f g (upd a (k * 16 + s) 0) b c 50 k = nI (wh k) from h50 k hk, gd_n (wh k) 6 (by omega) (by decide), nI_cl (wh k) (by omega), t2, nI_add, nI_s1 (by omega)]
  by_cases g1 : frS s + t (wh k) 2 ≤ 24
  · rw [if_neg (show ¬ 23 < nI (frS s + t (wh k) 2 - 1) from nI_nlt (a := 23) (b := frS s + t (wh k) 2 - 1) (by omega) (by decide)), gd_n k 4 (by omega) (by decide), half_n hs16, bd1_s]
    by_cases g2 : letsT t (wh k) (s / 8)
    · have hG : Gk t wh k s := ⟨g1, g2⟩
      rw [br.1 g2, bd1_s, if_neg (by decide), bd1_s]
      obtain ⟨f1, g1', al, e1, e2, e3⟩ := goodC hE (hf := s / 8) (fr := frS s) (to := frS s + t (wh k) 2 - 1) hk (by omega) (by omega) (oo := none) (no_ok _) f g (upd a (k * 16 + s) 0) b c
      have hlen : frS s + t (wh k) 2 - 1 - frS s + 1 = t (wh k) 2 := by omega
      have e3' : ∀ z, z < 24 → (al.testBit z = true ↔ inS t wh k s z = true ∧ ok1 h t ru wh k s z) := fun z hz => by
        rw [e3 z hz, inS_iff, hlen, qq_n]
        constructor
        · rintro ⟨y1, y2, y3⟩; exact ⟨⟨y1, by omega⟩, y3⟩
        · rintro ⟨⟨y1, y2⟩, y3⟩; exact ⟨y1, by omega, y3⟩
      rw [show (-1 : Int32) = enc none from rfl, e1, bd2_s, gd_n (k * 16 + s) 64 (by omega) (by decide), gd_n (k * 16 + s) 64 (by omega) (by decide), mv_52, show MV V f1 g1' (upd a (k * 16 + s) 0) b c 52 = b from rfl, show MV V f1 g1' (upd a (k * 16 + s) 0) (upd b (k * 16 + s) (nI al)) c 52 (k * 16 + s) = nI al from upd_same _ _ _]
      simp only [bk_e]
      obtain ⟨f2, g2', c2, y, r1, r2, r3, r4, r5, r6⟩ := me100 hE hk hs16 hG (E := fun x64 x65 x66 x67 V68 => bd1 (fX11_hourBits x65 x66) (fun r69 => if x67 = r69 then gd (ib x64 64) (some (va_up V68 51 (upd (V68 51) (x64).toNatClampNeg x67))) else gd (ib x64 64) (some (va_up V68 51 (upd (V68 51) (x64).toNatClampNeg 0))))) N 0 FU al f1 g1' (upd a (k * 16 + s) 0) (upd b (k * 16 + s) (nI al)) c (by omega) (by unfold FU; omega) e2
      rw [nI_0] at r1
      rw [r1, show fX11_hourBits (nI (frS s)) (nI (frS s + t (wh k) 2 - 1)) = some (nI (ivW t wh k s)) from hourBits_eq (by omega) (by omega), bd1_s, gd_n (k * 16 + s) 64 (by omega) (by decide), gd_n (k * 16 + s) 64 (by omega) (by decide), nI_cl (k * 16 + s) (by omega), mv_51, mv_51, show MV V f2 g2' (upd a (k * 16 + s) 0) (upd b (k * 16 + s) (nI al)) c2 51 = upd a (k * 16 + s) 0 from rfl]
      have tb := iv_tb hT hw hk hG
      have il := iv_lt hT hw hk hG
      have hgood : (y = ivW t wh k s) ↔ spOK h t ru wh N k s := by
        constructor
        · intro z
          refine ⟨hG, fun hr hi => ?_⟩
          have h24 := inS_24 hG hi
          have := (r3 hr h24).mp (by rw [z, tb]; exact hi)
          rcases this with q | ⟨o, o1, o2, o3, o4, o5⟩
          · exact Or.inl ((e3' hr h24).mp q).2
          · exact Or.inr ⟨o, o2, o3, o5⟩
        · intro z
          apply Nat.eq_of_testBit_eq
          intro hr
          by_cases h24 : hr < 24
          · rw [Bool.eq_iff_iff, tb, r3 hr h24, e3' hr h24]
            constructor
            · rintro (q | ⟨o, -, -, -, q, -⟩)
              · exact q.1
              · exact q
            · intro q
              rcases z.2 hr q with w | ⟨o, w1, w2, w3⟩
              · exact Or.inl ⟨q, w⟩
              · exact Or.inr ⟨o, Nat.zero_le _, w1, w2, q, w3⟩
          · have hp : 2 ^ 24 ≤ 2 ^ hr := Nat.pow_le_pow_right (by decide) (by omega)
            rw [Nat.testBit_lt_two_pow (by omega), Nat.testBit_lt_two_pow (by omega)]
      have fin : ∀ v : Int32, (spOK h t ru wh N k s → v = nI (ivW t wh k s)) → (¬ spOK h t ru wh N k s → v = 0) → Mks h t ru wh N (upd (upd a (k * 16 + s) 0) (k * 16 + s) v) (upd b (k * 16 + s) (nI al)) c2 k s ∧ (∀ i, i ≠ k * 16 + s → upd (upd a (k * 16 + s) 0) (k * 16 + s) v i = a i ∧ upd b (k * 16 + s) (nI al) i = b i) ∧ ∀ i, ¬ i / 4 = k * 16 + s → c2 i = c i := fun v q1 q2 => ⟨⟨fun z => by rw [upd_same]; exact q1 z, fun z => by rw [upd_same]; exact q2 z, fun _ => ⟨al, upd_same _ _ _, e3'⟩, fun _ o o1 o2 => r6 o (Nat.zero_le _) o1 o2⟩, fun i hi => ⟨by rw [upd_ne _ _ hi, upd_ne _ _ hi], upd_ne _ _ hi⟩, r4⟩
      by_cases q : spOK h t ru wh N k s
      · rw [if_pos (by rw [hgood.mpr q])]
        exact ⟨f2, g2', _, _, c2, rfl, fin _ (fun _ => by rw [hgood.mpr q]) (fun z => absurd q z)⟩
      · rw [if_neg (fun z => q (hgood.mp ((nI_eq (by omega) (by omega)).mp z)))]
        exact ⟨f2, g2', _, _, c2, rfl, fin _ (fun z => absurd z q) (fun _ => rfl)⟩
    · rw [br.2 g2, bd1_s, if_pos rfl]
      exact ⟨f, g, _, b, c, rfl, bad (fun z => g2 z.2), fun i hi => ⟨hout i hi, rfl⟩, fun _ _ => rfl⟩
  · have hf21 : frS s ≤ 21 := by
      show s % 8 * 3 ≤ 21
      omega
    rw [if_pos (show 23 < nI (frS s + t (wh k) 2 - 1) from nI_lt (a := 23) (b := frS s + t (wh k) 2 - 1) (by omega) (by omega))]
    exact ⟨f, g, _, b, c, rfl, bad (fun z => g1 z.1), fun i hi => ⟨hout i hi, rfl⟩, fun _ _ => rfl⟩
end ME
