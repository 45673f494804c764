/-! ===== housed anew: does one fit, what does he add (the class) ===== -/
abbrev ivW (t : Nat → Nat → Nat) (wh : Nat → Nat) (k s : Nat) : Nat := ivl (frS s) (frS s + t (wh k) 2 - 1)
def AE (h : Nat → Nat) (t : Nat → Nat → Nat) (ru : Nat → List Nat) (wh : Nat → Nat) (N : Nat) (V : Nat → Nat → Int32) : Prop :=
  (∀ k, k < N → V 50 k = nI (wh k)) ∧
  (∀ k s, k < N → s < 16 → (spOK h t ru wh N k s → V 51 (k * 16 + s) = nI (ivW t wh k s)) ∧ (¬ spOK h t ru wh N k s → V 51 (k * 16 + s) = 0)) ∧
  (∀ k s, k < N → s < 16 → spOK h t ru wh N k s → ∃ al : Nat, V 52 (k * 16 + s) = nI al ∧ ∀ hr, hr < 24 → (al.testBit hr = true ↔ inS t wh k s hr = true ∧ ok1 h t ru wh k s hr)) ∧
  (∀ k s o, k < N → s < 16 → o < N → o ≠ k → spOK h t ru wh N k s → ∃ be : Nat, V 53 ((k * 16 + s) * 4 + o) = nI be ∧ ∀ hr, hr < 24 → (be.testBit hr = true ↔ inS t wh k s hr = true ∧ ok2 h t ru wh k s o hr)) ∧
  ∀ k, k ≤ N → V 54 k = nI (mbW t wh k (N - k))
section FC
variable {h : Nat → Nat} {t : Nat → Nat → Nat} {ru : Nat → List Nat} {wh : Nat → Nat} {N : Nat} {V : Nat → Nat → Int32} {ws : Nat → Nat} {k s : Nat}
theorem iv_tb (hT : MHt h t) (hw : whOK h wh N) (hk : k < N) (hG : Gk t wh k s) (hr : Nat) : (ivW t wh k s).testBit hr = inS t wh k s hr := by
  have h1 := stay_b hT hw hk
  have h2 := hG.1
  unfold ivW inS
  rw [ivl_tb' (by omega) (by omega), decide_eq_decide]
  omega
theorem iv_lt (hT : MHt h t) (hw : whOK h wh N) (hk : k < N) (hG : Gk t wh k s) : ivW t wh k s < 2 ^ 24 := by
  have h1 := stay_b hT hw hk
  have h2 := hG.1
  exact ivl_lt _ (by omega) _ (by omega)
theorem inS_24 (hG : Gk t wh k s) {hr : Nat} (hi : inS t wh k s hr = true) : hr < 24 := by
  have := inS_iff.mp hi
  have := hG.1
  omega
theorem half_n {s : Nat} (hs : s < 16) : fX0_halfOf (nI s) = some (nI (s / 8)) := by
  unfold fX0_halfOf
  rw [show (8 : Int32) = nI 8 from rfl, nI_divI (by omega) (by decide)]
theorem nI_16 (a b : Nat) : nI a * 16 + nI b = nI (a * 16 + b) := by rw [show (16 : Int32) = nI 16 from rfl, nI_mul, nI_add]
theorem nI_4r (a b : Nat) : nI a * 4 + nI b = nI (a * 4 + b) := by rw [show (4 : Int32) = nI 4 from rfl, nI_mul, nI_add]
abbrev cndW (h : Nat → Nat) (t : Nat → Nat → Nat) (ru : Nat → List Nat) (wh : Nat → Nat) (ws : Nat → Nat) (k s o : Nat) : Prop := (∃ hr, inS t wh k s hr = true ∧ inS t wh o (ws o) hr = true) → s / 8 ≠ ws o / 8 ∧ ∀ hr, inS t wh k s hr = true → inS t wh o (ws o) hr = true → ok2 h t ru wh k s o hr ∧ ok2 h t ru wh o (ws o) k hr
theorem fitsL (hT : MHt h t) (hw : whOK h wh N) (hA : AE h t ru wh N V) (hk : k < N) (hs : s < 16) (hu : ∀ i, i < k → V 55 i = nI (ws i)) (h16 : ∀ i, i < k → ws i < 16) (hsp : ∀ i, i < k → spOK h t ru wh N i (ws i)) (hks : spOK h t ru wh N k s) : ∀ (j o f : Nat), o + j = k → j < f → ∃ b : Bool, fX0_fits_49_L21 V f (nI k) (nI s) (nI (k * 16 + s)) (nI o) = some (bI b) ∧ (b = true ↔ ∀ q, o ≤ q → q < k → cndW h t ru wh ws k s q) := by
  obtain ⟨a50, a51, a52, a53, a54⟩ := hA
  have hN := hw.1
  intro j
  induction j with
  | zero =>
    intro o f c1 c2
    obtain ⟨f, rfl⟩ : ∃ z, f = z + 1 := ⟨f - 1, by omega⟩
    refine ⟨true, ?_, fun _ q q1 q2 => by omega, fun _ => rfl⟩
    rw [fX0_fits_49_L21, if_pos (nI_le (by omega) (by omega))]
    rfl
  | succ j ih =>
    intro o f c1 c2
    obtain ⟨f, rfl⟩ : ∃ z, f = z + 1 := ⟨f - 1, by omega⟩
    obtain ⟨b, e1, e2⟩ := ih (o + 1) f (by omega) (by omega)
    have ho : o < k := by omega
    have hwo := h16 o ho
    have hso := hsp o ho
    have v1 := (a51 k s hk hs).1 hks
    have v2 := (a51 o (ws o) (by omega) hwo).1 hso
    obtain ⟨be1, v3, w3⟩ := a53 k s o hk hs (by omega) (by omega) hks
    obtain ⟨be2, v4, w4⟩ := a53 o (ws o) k (by omega) hwo hk (by omega) hso
    have l1 := iv_lt hT hw hk hks.1
    have t1 := iv_tb hT hw hk hks.1
    have t2 := iv_tb hT hw (show o < N by omega) hso.1
    rw [fX0_fits_49_L21, if_neg (nI_ge (a := o) (b := k) (by omega) (by omega)), gd_n o 4 (by omega) (by decide), nI_cl o (by omega), hu o ho]
    simp only [lt_e, bk_e, nI_16, nI_4r, nI_1]
    rw [gd_n (k * 16 + s) 64 (by omega) (by decide), gd_n (o * 16 + ws o) 64 (by omega) (by decide), nI_cl (k * 16 + s) (by omega), nI_cl (o * 16 + ws o) (by omega), v1, v2, half_n hs, bd1_s, gd_n o 4 (by omega) (by decide), half_n hwo, bd1_s, gd_n ((k * 16 + s) * 4 + o) 256 (by omega) (by decide), gd_n ((o * 16 + ws o) * 4 + k) 256 (by omega) (by decide), nI_cl ((k * 16 + s) * 4 + o) (by omega), nI_cl ((o * 16 + ws o) * 4 + k) (by omega), v3, v4, e1]
    by_cases hco : ∃ hr, inS t wh k s hr = true ∧ inS t wh o (ws o) hr = true
    · obtain ⟨hr, i1, i2⟩ := hco
      have h24 := inS_24 hks.1 i1
      rw [if_neg (fun z => ((nI_and0 (by omega)).mp z) hr (by omega) ⟨by rw [t1]; exact i1, by rw [t2]; exact i2⟩)]
      by_cases hh : s / 8 = ws o / 8
      · rw [if_pos (by rw [hh])]
        exact ⟨false, rfl, fun z => (by cases z), fun z => absurd hh (z o (Nat.le_refl _) ho ⟨hr, i1, i2⟩).1⟩
      · rw [if_neg (fun z => hh ((nI_eq (by omega) (by omega)).mp z)), fa_and, fa_and, andn_i]
        have hlt : ivW t wh k s &&& ivW t wh o (ws o) < 2 ^ 31 := Nat.lt_of_le_of_lt Nat.and_le_left (by omega)
        by_cases hg : ∀ hr, inS t wh k s hr = true → inS t wh o (ws o) hr = true → ok2 h t ru wh k s o hr ∧ ok2 h t ru wh o (ws o) k hr
        · rw [if_pos ((andn_0 hlt).mpr (fun q hq hb => by
            rw [Nat.testBit_and, Bool.and_eq_true, t1, t2] at hb
            have q24 := inS_24 hks.1 hb.1
            obtain ⟨g1, g2⟩ := hg q hb.1 hb.2
            rw [Nat.testBit_and, Bool.and_eq_true]
            exact ⟨(w3 q q24).mpr ⟨hb.1, g1⟩, (w4 q q24).mpr ⟨hb.2, g2⟩⟩))]
          refine ⟨b, rfl, e2.trans ⟨fun z q q1 q2 => ?_, fun z q q1 q2 => z q (by omega) q2⟩⟩
          by_cases e : q = o
          · subst e; exact fun _ => ⟨hh, hg⟩
          · exact z q (by omega) q2
        · rw [if_neg (fun z => hg (fun q q1 q2 => by
            have q24 := inS_24 hks.1 q1
            have := (andn_0 hlt).mp z q (by omega) (by rw [Nat.testBit_and, t1, t2, q1, q2]; rfl)
            rw [Nat.testBit_and, Bool.and_eq_true] at this
            exact ⟨((w3 q q24).mp this.1).2, ((w4 q q24).mp this.2).2⟩))]
          exact ⟨false, rfl, fun z => (by cases z), fun z => absurd (z o (Nat.le_refl _) ho ⟨hr, i1, i2⟩).2 hg⟩
    · rw [if_pos ((nI_and0 (by omega)).mpr (fun q _ hq => hco ⟨q, by rw [← t1]; exact hq.1, by rw [← t2]; exact hq.2⟩))]
      refine ⟨b, rfl, e2.trans ⟨fun z q q1 q2 => ?_, fun z q q1 q2 => z q (by omega) q2⟩⟩
      by_cases e : q = o
      · subst e; exact fun c => absurd c hco
      · exact z q (by omega) q2
theorem iv_pos (hT : MHt h t) (hw : whOK h wh N) (hk : k < N) (hG : Gk t wh k s) : ¬ nI (ivW t wh k s) = 0 := by
  have hl := iv_lt hT hw hk hG
  intro e
  have e0 := (nI_eq0 (n := ivW t wh k s) (by omega)).mp e
  have h1 := stay_b hT hw hk
  have := iv_tb hT hw hk hG (frS s)
  rw [e0, Nat.zero_testBit] at this
  have i := inS_iff (t := t) (wh := wh) (k := k) (s := s) (hr := frS s)
  rw [← this] at i
  cases i.mpr ⟨Nat.le_refl _, by omega⟩
theorem fitsC (hT : MHt h t) (hw : whOK h wh N) (hA : AE h t ru wh N V) (hk : k < N) (hs : s < 16) (hu : ∀ i, i < k → V 55 i = nI (ws i)) (h16 : ∀ i, i < k → ws i < 16) (hsp : ∀ i, i < k → spOK h t ru wh N i (ws i)) : ∃ b : Bool, fX0_fits_49 V (nI k) (nI s) = some (bI b) ∧ (b = true ↔ fitW h t ru wh N ws k s) := by
  have hN := hw.1
  obtain ⟨v1, v2⟩ := hA.2.1 k s hk hs
  unfold fX0_fits_49
  simp only [lt_e, nI_16]
  rw [gd_n (k * 16 + s) 64 (by omega) (by decide), nI_cl (k * 16 + s) (by omega)]
  by_cases hks : spOK h t ru wh N k s
  · rw [v1 hks, if_neg (iv_pos hT hw hk hks.1)]
    obtain ⟨b, e1, e2⟩ := fitsL hT hw hA hk hs hu h16 hsp hks k 0 FU (by omega) (by unfold FU; omega)
    rw [nI_0] at e1
    exact ⟨b, e1, e2.trans ⟨fun z => ⟨hks, fun o ho => z o (Nat.zero_le _) ho⟩, fun z q _ q2 => z.2 q q2⟩⟩
  · rw [v2 hks, if_pos rfl]
    exact ⟨false, rfl, fun z => (by cases z), fun z => absurd z.1 hks⟩
theorem ct_12 {x : Nat} {p : Nat → Bool} (hx : ∀ hr, hr < 32 → x.testBit hr = (p hr && decide (hr < 12))) : fb_ct x.testBit 32 = fb_ct p 12 := by
  have h1 : fb_ct x.testBit 32 = fb_ct x.testBit 12 + fb_ct (fun k => x.testBit (12 + k)) 20 := fb_ct_split x.testBit 12 20
  rw [h1, (fb_ct_zero (p := fun k => x.testBit (12 + k)) (n := 20)).mpr (fun k hk => by show x.testBit (12 + k) = false; rw [hx (12 + k) (by omega), decide_eq_false (by omega), Bool.and_false]), Nat.add_zero]
  exact fb_ct_cong (fun k hk => by rw [hx k (by omega), decide_eq_true hk, Bool.and_true])
theorem t4095 : ∀ hr, hr < 32 → (4095 : Nat).testBit hr = decide (hr < 12) := by decide +kernel
theorem addsL (hT : MHt h t) (h46 : h 4 ≤ 6) (hCt : CHt h t (V 4) (V 5) (V 6) (V 7) (V 8)) (hw : whOK h wh N) (hA : AE h t ru wh N V) (hk : k < N) (hs : s < 16) (hu : ∀ i, i < k → V 55 i = nI (ws i)) (h16 : ∀ i, i < k → ws i < 16) (hsp : ∀ i, i < k → spOK h t ru wh N i (ws i)) (hks : spOK h t ru wh N k s) : ∀ (j o f acc : Nat), o + j = k → j < f → fX0_adds_49_L40 V f (nI k) (nI (ivW t wh k s &&& 4095)) (nI (acc + sN (fun o => 3 * qW t wh k o * fb_ct (fun hr => inS t wh k s hr && inS t wh o (ws o) hr) 12) o)) (nI o) = some (nI (acc + sN (fun o => 3 * qW t wh k o * fb_ct (fun hr => inS t wh k s hr && inS t wh o (ws o) hr) 12) k)) := by
  obtain ⟨a50, a51, a52, a53, a54⟩ := hA
  have hN := hw.1
  intro j
  induction j with
  | zero =>
    intro o f acc c1 c2
    obtain ⟨f, rfl⟩ : ∃ z, f = z + 1 := ⟨f - 1, by omega⟩
    have : o = k := by omega
    subst this
    rw [fX0_adds_49_L40, if_pos (nI_le (by omega) (by omega))]
  | succ j ih =>
    intro o f acc c1 c2
    obtain ⟨f, rfl⟩ : ∃ z, f = z + 1 := ⟨f - 1, by omega⟩
    have ihn := ih (o + 1) f acc (by omega) (by omega)
    have ho : o < k := by omega
    have hwo := h16 o ho
    have hso := hsp o ho
    have v2 := (a51 o (ws o) (by omega) hwo).1 hso
    have t1 := iv_tb hT hw hk hks.1
    have t2 := iv_tb hT hw (show o < N by omega) hso.1
    have l1 := iv_lt hT hw hk hks.1
    have qr := qr3 h46 hCt (a := some (wh k)) (b := some (wh o)) (ab_ok (hw.2.1 k hk)) (ab_ok (hw.2.1 o (by omega)))
    have qr' : fX2_quarrelsOf_3 V (nI (wh k)) (nI (wh o)) = some (nI (qW t wh k o)) := qr
    have ql : qW t wh k o ≤ 1 := qq_le _ _ _
    have hlt : ivW t wh k s &&& 4095 &&& ivW t wh o (ws o) < 2 ^ 31 := Nat.lt_of_le_of_lt Nat.and_le_left (Nat.lt_of_le_of_lt Nat.and_le_left (by omega))
    rw [sN] at ihn
    rw [fX0_adds_49_L40, if_neg (nI_ge (a := o) (b := k) (by omega) (by omega)), gd_n k 4 (by omega) (by decide), gd_n o 4 (by omega) (by decide), nI_cl o (by omega), nI_cl k (by omega), a50 k hk, a50 o (by omega), qr', bd1_s, hu o ho]
    simp only [lt_e, bk_e, nI_16, nI_1]
    by_cases hq : qW t wh k o = 0
    · rw [if_pos (by rw [hq, nI_0])]
      rw [hq, Nat.mul_zero, Nat.zero_mul, Nat.add_zero] at ihn
      exact ihn
    · have q1 : qW t wh k o = 1 := by omega
      rw [if_neg (fun z => hq ((nI_eq0 (by omega)).mp z)), gd_n o 4 (by omega) (by decide), gd_n (o * 16 + ws o) 64 (by omega) (by decide), nI_cl (o * 16 + ws o) (by omega), v2, fa_and, bitCount_eq hlt, bd1_s, ct_12 (p := fun hr => inS t wh k s hr && inS t wh o (ws o) hr) (fun hr hh => by
        rw [Nat.testBit_and, Nat.testBit_and, t1, t2, t4095 hr hh]
        cases inS t wh k s hr <;> cases inS t wh o (ws o) hr <;> cases decide (hr < 12) <;> rfl), show (3 : Int32) = nI 3 from rfl, nI_mul, nI_add]
      rw [q1, Nat.mul_one, ← Nat.add_assoc] at ihn
      exact ihn
theorem addsC (hT : MHt h t) (h46 : h 4 ≤ 6) (hCt : CHt h t (V 4) (V 5) (V 6) (V 7) (V 8)) (hw : whOK h wh N) (hA : AE h t ru wh N V) (hk : k < N) (hs : s < 16) (hu : ∀ i, i < k → V 55 i = nI (ws i)) (h16 : ∀ i, i < k → ws i < 16) (hsp : ∀ i, i < k → spOK h t ru wh N i (ws i)) (hks : spOK h t ru wh N k s) : fX0_adds_49 V (nI k) (nI s) = some (nI (adW t wh 12 ws k s)) := by
  have hN := hw.1
  have v1 := (hA.2.1 k s hk hs).1 hks
  have t1 := iv_tb hT hw hk hks.1
  have l1 := iv_lt hT hw hk hks.1
  have hwk := hw.2.1 k hk
  have hlt : ivW t wh k s &&& 4095 < 2 ^ 31 := Nat.lt_of_le_of_lt Nat.and_le_left (by omega)
  unfold fX0_adds_49
  simp only [lt_e, nI_16]
  rw [gd_n (k * 16 + s) 64 (by omega) (by decide), nI_cl (k * 16 + s) (by omega), v1, gd_n k 4 (by omega) (by decide), nI_cl k (by omega), hA.1 k hk, gd_n (wh k) 6 (by omega) (by decide), nI_cl (wh k) (by omega), (hCt (wh k) hwk).1, show (4095 : Int32) = nI 4095 from rfl, fa_and, bitCount_eq hlt, bd1_s, ct_12 (p := inS t wh k s) (fun hr hh => by rw [Nat.testBit_and, t1, t4095 hr hh]), nI_mul]
  have := addsL hT h46 hCt hw hA hk hs hu h16 hsp hks k 0 FU (t (wh k) 0 * fb_ct (inS t wh k s) 12) (by omega) (by unfold FU; omega)
  rw [sN, Nat.add_zero, nI_0] at this
  exact this
end FC
