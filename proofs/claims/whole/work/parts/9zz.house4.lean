/-! ===== house4 ===== -/
section H4
variable {h : Nat → Nat} {t : Nat → Nat → Nat} {ru : Nat → List Nat} {wh : Nat → Nat} {N : Nat} {V : Nat → Nat → Int32} {S : Nat → Int32}
theorem hw202 {x1 x2 x3 x4 x5 : Int32} {p q w s : Nat → Int32} {E : Int32 → Int32 → Int32 → Int32 → Int32 → (Nat → Int32) → (Nat → Nat → Int32) → Option (Int32 × (Nat → Int32) × (Nat → Nat → Int32))} : ∃ u : Nat → Int32, (∀ i, i < 6 → u i = -1) ∧ fX12_house4_0_L202 E FU x1 x2 x3 x4 x5 0 S (RV V p q w s) = E x1 x2 x3 x4 x5 S (RV V p q w u) := by
  have L : ∀ (j i f : Nat) (v : Nat → Int32), i + j = 6 → j < f → (∀ a, a < i → v a = -1) → ∃ u : Nat → Int32, (∀ a, a < 6 → u a = -1) ∧ fX12_house4_0_L202 E f x1 x2 x3 x4 x5 (nI i) S (RV V p q w v) = E x1 x2 x3 x4 x5 S (RV V p q w u) := by
    intro j
    induction j with
    | zero =>
      intro i f v c1 c2 c3
      obtain ⟨f, rfl⟩ : ∃ z, f = z + 1 := ⟨f - 1, by omega⟩
      refine ⟨v, fun a ha => c3 a (by omega), ?_⟩
      rw [fX12_house4_0_L202, if_pos (show 6 ≤ nI i from nI_le (a := 6) (b := i) (by omega) (by omega))]
    | succ j ih =>
      intro i f v c1 c2 c3
      obtain ⟨f, rfl⟩ : ∃ z, f = z + 1 := ⟨f - 1, by omega⟩
      obtain ⟨u, e1, e2⟩ := ih (i + 1) f (upd v i (-1)) (by omega) (by omega) (fun a ha => by
        by_cases e : a = i
        · rw [e, upd_same]
        · rw [upd_ne _ _ e]; exact c3 a (by omega))
      refine ⟨u, e1, ?_⟩
      rw [fX12_house4_0_L202, if_neg (show ¬ 6 ≤ nI i from nI_ge (a := i) (b := 6) (by omega) (by omega)), gd_n i 6 (by omega) (by decide), nI_cl i (by omega)]
      simp only [lt_e, rv_18, nI_1]
      exact e2
  have := L 6 0 FU s (by omega) (by unfold FU; omega) (fun a ha => by omega)
  rw [nI_0] at this
  exact this
theorem hw226 (h46 : h 4 ≤ 6) (hw : whOK h wh N) (hV16 : ∀ i, i < N → V 16 i = nI (wh i)) {ws : Nat → Nat} (h16 : ∀ i, i < N → ws i < 16) {p q w : Nat → Int32} (h17 : ∀ i, i < N → w i = nI (ws i)) (u : Nat → Int32) {x1 x3 x4 x5 : Int32} {E : Int32 → Int32 → Int32 → Int32 → Int32 → (Nat → Int32) → (Nat → Nat → Int32) → Option (Int32 × (Nat → Int32) × (Nat → Nat → Int32))} : ∀ (j k f : Nat), k + j = N → j < f → fX12_house4_0_L226 E f x1 (nI N) x3 x4 x5 (nI k) S (RV V p q w (upW wh ws u k)) = E x1 (nI N) x3 x4 x5 S (RV V p q w (upW wh ws u N)) := by
  have hN := hw.1
  intro j
  induction j with
  | zero =>
    intro k f c1 c2
    obtain ⟨f, rfl⟩ : ∃ z, f = z + 1 := ⟨f - 1, by omega⟩
    have : k = N := by omega
    subst this
    rw [fX12_house4_0_L226, if_pos (nI_le (Nat.le_refl _) (by omega))]
  | succ j ih =>
    intro k f c1 c2
    obtain ⟨f, rfl⟩ : ∃ z, f = z + 1 := ⟨f - 1, by omega⟩
    have hwk := hw.2.1 k (by omega)
    have w1 := h16 k (by omega)
    have ihn := ih (k + 1) f (by omega) (by omega)
    rw [upW] at ihn
    have emod : (nI (ws k) - nI (ws k) / nI 8 * nI 8) * 3 = nI (frS (ws k)) := by
      rw [nI_mod (by omega) (by decide), show (3 : Int32) = nI 3 from rfl, nI_mul]
    rw [fX12_house4_0_L226, if_neg (nI_ge (a := k) (b := N) (by omega) (by omega)), gd_n k 4 (by omega) (by decide), gd_n k 4 (by omega) (by decide), gd_n k 4 (by omega) (by decide), nI_cl k (by omega), show RV V p q w (upW wh ws u k) 17 k = nI (ws k) from h17 k (by omega)]
    simp only [lt_e]
    rw [show RV V p q w (upW wh ws u k) 16 k = nI (wh k) from hV16 k (by omega), gd_n (wh k) 6 (by omega) (by decide), nI_cl (wh k) (by omega), rv_18, show RV V p q w (upW wh ws u k) 18 = upW wh ws u k from rfl, show (8 : Int32) = nI 8 from rfl, emod, nI_divI (by omega) (by decide), show (24 : Int32) = nI 24 from rfl, nI_mul, nI_add, nI_1]
    exact ihn
def enB (st : Wst) : Int32 := if st.1 = 1000000 then -1 else nI st.1
def Hst (wh : Nat → Nat) (N : Nat) (s0 : Nat → Int32) (st : Wst) (s : Nat → Int32) : Prop := st.1 ≤ 1000000 ∧ (st.1 = 1000000 → s = s0) ∧ (st.1 < 1000000 → ∃ u0 : Nat → Int32, (∀ i, i < 6 → u0 i = -1) ∧ s = upW wh st.2 u0 N)
theorem hw107 (hs : MHs h) (hT : MHt h t) (hc : CHs h (S 1) (S 2) (S 3) (S 4) (S 5) (S 6) (S 7)) (hRt : RHt h t (V 1) (V 2)) (hU : MU (h 6) ru) (hRU : RU (h 6) ru (V 4) (V 3)) (hw : whOK h wh N) (hV16 : ∀ i, i < N → V 16 i = nI (wh i)) {d : Nat} (hd : d < 10000) {s0 : Nat → Int32} {E : Int32 → (Nat → Int32) → (Nat → Nat → Int32) → Option (Int32 × (Nat → Int32) × (Nat → Nat → Int32))} : ∀ (j r f : Nat) (st : Wst) (p q w s : Nat → Int32), r + j = 16 ^ N → j < f → Hst wh N s0 st s → ∃ p2 q2 w2 s2, fX12_house4_0_L107 E f (nI d) (nI N) (enB st) (nI (16 ^ N)) (nI r) S (RV V p q w s) = E (enB (itF (fun r => stpW h t ru wh N (h 1 - d / h 2) (wsP N r)) r j st)) S (RV V p2 q2 w2 s2) ∧ Hst wh N s0 (itF (fun r => stpW h t ru wh N (h 1 - d / h 2) (wsP N r)) r j st) s2 := by
  have hN := hw.1
  have h46 := hs.2.2.2.2.1
  have e7 : S 7 = nI (h 6) := hc.2.2.2.2.2.2
  have oil := oil30 hs d
  have h16N : 16 ^ N ≤ 16 ^ 4 := Nat.pow_le_pow_right (by decide) hN
  have e16 : (16 : Nat) ^ 4 = 65536 := by decide
  intro j
  induction j with
  | zero =>
    intro r f st p q w s c1 c2 c3
    obtain ⟨f, rfl⟩ : ∃ z, f = z + 1 := ⟨f - 1, by omega⟩
    refine ⟨p, q, w, s, ?_, c3⟩
    rw [fX12_house4_0_L107, if_pos (nI_le (by omega) (by omega))]
    rfl
  | succ j ih =>
    intro r f st p q w s c1 c2 c3
    obtain ⟨f, rfl⟩ : ∃ z, f = z + 1 := ⟨f - 1, by omega⟩
    have sl := sl_b hs hT hw oil (wsP N r) (Nat.le_refl N)
    have c31 := c3.1
    rw [fX12_house4_0_L107, if_neg (nI_ge (a := r) (b := 16 ^ N) (by omega) (by omega))]
    simp only [bk_e, lt_e]
    obtain ⟨w2, L1, L2⟩ := hw117 (V := V) (S := S) hN (r := r) (by omega) (x := nI d) (y := enB st) (z := nI (16 ^ N)) (E := fun x74 x75 x76 x77 x78 S79 V80 => bd2 (fX12_isLaid_0 S79 V80 x75) (fun r81 V82 => if r81 = 0 then fX12_house4_0_L107 E f x74 x75 x76 x77 (x78 + 1) S79 V82 else bd1 (fX12_slowOf_0_14 S79 V82 x75 0 11 x74) (fun r94 => bd1 (fX12_size r94) (fun r96 => if x76 = -1 then fX12_house4_0_L202 (fun x126 x127 x128 x129 x130 S131 V132 => fX12_house4_0_L226 (fun x85 x86 x87 x88 x89 S90 V91 => fX12_house4_0_L107 E f x85 x86 x87 x88 (x89 + 1) S90 V91) FU x126 x127 x128 x129 x130 0 S131 V132) FU x74 x75 r96 x77 x78 0 S79 V82 else if r96 < x76 then fX12_house4_0_L202 (fun x126 x127 x128 x129 x130 S131 V132 => fX12_house4_0_L226 (fun x85 x86 x87 x88 x89 S90 V91 => fX12_house4_0_L107 E f x85 x86 x87 x88 (x89 + 1) S90 V91) FU x126 x127 x128 x129 x130 0 S131 V132) FU x74 x75 r96 x77 x78 0 S79 V82 else fX12_house4_0_L107 E f x74 x75 x76 x77 (x78 + 1) S79 V82)))) N 0 FU p q w s (by omega) (by unfold FU; omega) (fun i hi => by omega)
    rw [nI_0] at L1
    rw [L1, itF]
    rcases laidR (V := V) (S := S) (p := p) (q := q) (w := w2) (s := s) hs hT e7 hRt hU hRU hw hV16 (wsP_lt N r) L2 with ⟨p2, q2, l1, l2, l3⟩ | ⟨p2, q2, l1, l2⟩
    · have hM := ML4_W hT hw (wsP_lt N r) (Nat.le_refl N) l3.1 l3.2.1
      have sw : fX12_slowOf_0_14 S (RV V p2 q2 w2 s) (nI N) 0 11 (nI d) = some (zI (slW h t wh (h 1 - d / h 2) (wsP N r) N)) := by
        have := slowOf14 (S := S) (V := RV V p2 q2 w2 s) (f := 0) (g := 11) (d := d) hs hT hc hRt hM l2 (by decide) (by decide) hd
        rw [← slow_W hs hT hw (wsP_lt N r) l3.1 l3.2.1 oil]
        exact this
      rw [l1, bd2_s, if_neg (by decide), sw, bd1_s, size_eq, bd1_s, abI_z (by omega) (by omega)]
      generalize hz : slW h t wh (h 1 - d / h 2) (wsP N r) N = z at *
      obtain ⟨u, u1, u2⟩ := hw202 (V := V) (S := S) (x1 := nI d) (x2 := nI N) (x3 := nI z.natAbs) (x4 := nI (16 ^ N)) (x5 := nI r) (p := p2) (q := q2) (w := w2) (s := s) (E := fun x126 x127 x128 x129 x130 S131 V132 => fX12_house4_0_L226 (fun x85 x86 x87 x88 x89 S90 V91 => fX12_house4_0_L107 E f x85 x86 x87 x88 (x89 + 1) S90 V91) FU x126 x127 x128 x129 x130 0 S131 V132)
      have L3 := hw226 (V := V) (S := S) (p := p2) (q := q2) (x1 := nI d) (x3 := nI z.natAbs) (x4 := nI (16 ^ N)) (x5 := nI r) h46 hw hV16 (wsP_lt N r) L2 u (E := fun x85 x86 x87 x88 x89 S90 V91 => fX12_house4_0_L107 E f x85 x86 x87 x88 (x89 + 1) S90 V91) N 0 FU (by omega) (by unfold FU; omega)
      rw [nI_0] at L3
      have e2 := u2.trans L3
      have upd1 : z.natAbs < st.1 → ∃ p3 q3 w3 s3, fX12_house4_0_L202 (fun x126 x127 x128 x129 x130 S131 V132 => fX12_house4_0_L226 (fun x85 x86 x87 x88 x89 S90 V91 => fX12_house4_0_L107 E f x85 x86 x87 x88 (x89 + 1) S90 V91) FU x126 x127 x128 x129 x130 0 S131 V132) FU (nI d) (nI N) (nI z.natAbs) (nI (16 ^ N)) (nI r) 0 S (RV V p2 q2 w2 s) = E (enB (itF (fun r => stpW h t ru wh N (h 1 - d / h 2) (wsP N r)) (r + 1) j (stpW h t ru wh N (h 1 - d / h 2) (wsP N r) st))) S (RV V p3 q3 w3 s3) ∧ Hst wh N s0 (itF (fun r => stpW h t ru wh N (h 1 - d / h 2) (wsP N r)) (r + 1) j (stpW h t ru wh N (h 1 - d / h 2) (wsP N r) st)) s3 := by
        intro hlt
        have es : stpW h t ru wh N (h 1 - d / h 2) (wsP N r) st = (z.natAbs, wsP N r) := by
          unfold stpW
          rw [hz]
          exact @if_pos _ (Classical.propDecidable _) ⟨l3, hlt⟩ _ _ _
        have enz : enB (z.natAbs, wsP N r) = nI z.natAbs := if_neg (show ¬ z.natAbs = 1000000 by omega)
        obtain ⟨p3, q3, w3, s3, r1, r2⟩ := ih (r + 1) f (z.natAbs, wsP N r) p2 q2 w2 (upW wh (wsP N r) u N) (by omega) (by omega) ⟨by show z.natAbs ≤ 1000000; omega, fun q => (by have q' : z.natAbs = 1000000 := q; omega), fun _ => ⟨u, u1, rfl⟩⟩
        refine ⟨p3, q3, w3, s3, ?_, by rw [es]; exact r2⟩
        rw [e2, es]
        show fX12_house4_0_L107 E f (nI d) (nI N) (nI z.natAbs) (nI (16 ^ N)) (nI r + 1) S (RV V p2 q2 w2 (upW wh (wsP N r) u N)) = _
        rw [nI_1, ← enz]
        exact r1
      by_cases d0 : st.1 = 1000000
      · rw [show enB st = -1 from if_pos d0, if_pos rfl]
        exact upd1 (by omega)
      · rw [show enB st = nI st.1 from if_neg d0, if_neg (nI_m1 (by omega))]
        by_cases d1 : z.natAbs < st.1
        · rw [if_pos (nI_lt d1 (by omega))]
          exact upd1 d1
        · rw [if_neg (nI_nlt (by omega) (by omega))]
          have es : stpW h t ru wh N (h 1 - d / h 2) (wsP N r) st = st := by
            unfold stpW
            rw [hz]
            exact @if_neg _ (Classical.propDecidable _) (fun q => d1 q.2) _ _ _
          rw [es, nI_1]
          have := ih (r + 1) f st p2 q2 w2 s (by omega) (by omega) c3
          rw [show enB st = nI st.1 from if_neg d0] at this
          exact this
    · have es : stpW h t ru wh N (h 1 - d / h 2) (wsP N r) st = st := @if_neg _ (Classical.propDecidable _) (fun q => l2 q.1) _ _ _
      rw [l1, bd2_s, if_pos rfl, es, nI_1]
      exact ih (r + 1) f st p2 q2 w2 s (by omega) (by omega) c3
end H4
theorem ct_8 {x : Nat} (hx : x < 64) : fb_ct x.testBit 8 = fb_ct x.testBit 6 := by
  have h1 : fb_ct x.testBit 8 = fb_ct x.testBit 6 + fb_ct (fun k => x.testBit (6 + k)) 2 := fb_ct_split x.testBit 6 2
  have h2 : fb_ct (fun k => x.testBit (6 + k)) 2 = 0 := fb_ct_zero.mpr (fun k _ => Nat.testBit_lt_two_pow (Nat.lt_of_lt_of_le hx (Nat.pow_le_pow_right (n := 2) (i := 6) (j := 6 + k) (by decide) (by omega))))
  omega
theorem sm_house4 : St_house4 Rel := fun S V S' V' L' a1 a2 hrel => by
  obtain ⟨h1, h2, h3, ⟨h, t, ru, hH, ⟨n, le, hM, hr, hC, hR⟩, hI⟩, h5, h6, h7⟩ := id hrel
  obtain ⟨hs, hT, hU, hCs, hCt, hCU, hRs, hRt, hRU⟩ := id hH
  have h46 : h 4 ≤ 6 := hs.2.2.2.2.1
  have c4 : S 304 = nI (h 4) := hCs.2.2.2.2.1
  have d4 : S' 5 = nI (h 4) := hRs.2.2.2.2.1
  have h64 : 2 ^ h 4 ≤ 2 ^ 6 := Nat.pow_le_pow_right (by decide) h46
  have e64 : (2 : Nat) ^ 6 = 64 := by decide
  -- the tenants
  rcases bits_rng (a := a1) h46 with x1 | ⟨m, m0, m1, rfl⟩
  · refine Or.inr ⟨0, va_up (va_up S' 0 0) 0 1, V', ?_, ?_, rfl, R_thr (R_thr hrel)⟩
    · unfold fX11_house4_0
      rcases rng (a := a2) (N := 9999) (by decide) with x2 | ⟨d, hd, rfl⟩
      · rw [nDay_f x2, bdx_r]
      · rw [nDay_t (by omega), bdx_l, nBits_f (by rw [c4]; exact x1), bdx_r]
    · have zz : ∀ {β : Type} (A B : β), (if a1 ≤ 0 then A else (if ((1 : Int32) <<< ((va_up S' 0 0) 5 &&& 31)) ≤ a1 then A else B)) = A := fun A B => by
        by_cases c : a1 ≤ 0
        · rw [if_pos c]
        · rw [if_neg c, if_pos (show ((1 : Int32) <<< ((va_up S' 0 0) 5 &&& 31)) ≤ a1 from by rw [show (va_up S' 0 0) 5 = nI (h 4) from d4]; exact x1.resolve_left c)]
      unfold fX12_house4_0
      simp only [lt_e, bk_e]
      rw [zz, right_f rfl (by decide), bd2_s, if_pos rfl]
  have zz : ∀ {β : Type} (A B : β), (if nI m ≤ 0 then A else (if ((1 : Int32) <<< ((va_up S' 0 0) 5 &&& 31)) ≤ nI m then A else B)) = B := fun A B => by
    rw [if_neg (fun z => by have := (nI_le0 (n := m) (by omega)).mp z; omega), if_neg (show ¬ ((1 : Int32) <<< ((va_up S' 0 0) 5 &&& 31)) ≤ nI m from by rw [show (va_up S' 0 0) 5 = nI (h 4) from d4, bit_lt (by omega)]; exact nI_ge m1 (by omega))]
  have bc : fJ6_bitCount_0f7a4 (nI m) = some (nI (fb_ct m.testBit 6)) := by rw [bitCount_eq (by omega), ct_6 (by omega)]
  have bt : fX12_bits (nI m) = some (nI (fb_ct m.testBit 6)) := by rw [bits_eq, ct_8 (by omega)]
  have ctl := fb_ct_le m.testBit 6
  rcases Nat.lt_or_ge 4 (fb_ct m.testBit 6) with h4 | h4
  · refine Or.inr ⟨0, va_up (va_up S' 0 0) 0 1, V', ?_, ?_, rfl, R_thr (R_thr hrel)⟩
    · unfold fX11_house4_0
      rcases rng (a := a2) (N := 9999) (by decide) with x2 | ⟨d, hd, rfl⟩
      · rw [nDay_f x2, bdx_r]
      · rw [nDay_t (by omega), bdx_l, nBits_t c4 h46 m0 m1, bdx_l, bc, bd1_s, if_neg (show ¬ nI (fb_ct m.testBit 6) ≤ 4 from nI_ge (a := 4) (b := fb_ct m.testBit 6) (by omega) (by omega))]
    · unfold fX12_house4_0
      simp only [lt_e, bk_e]
      rw [zz, bt, bd1_s, if_pos (show 4 < nI (fb_ct m.testBit 6) from nI_lt (a := 4) (b := fb_ct m.testBit 6) (by omega) (by omega)), right_f rfl (by decide), bd2_s, if_pos rfl]
  rcases rng (a := a2) (N := 9999) (by decide) with x2 | ⟨d, hd, rfl⟩
  · refine Or.inr ⟨0, va_up (va_up S' 0 0) 0 1, V', ?_, ?_, rfl, R_thr (R_thr hrel)⟩
    · unfold fX11_house4_0
      rw [nDay_f x2, bdx_r]
    · unfold fX12_house4_0
      simp only [lt_e, bk_e]
      rw [zz, bt, bd1_s, if_neg (show ¬ 4 < nI (fb_ct m.testBit 6) from nI_nlt (a := 4) (b := fb_ct m.testBit 6) (by omega) (by decide)), right_t rfl, bd2_s, if_neg (by decide), isDay_f rfl (by decide) x2, bd2_s, if_pos rfl]
  have hw := whOK_B m1 h4
  have oil := oil30 hs d
  have ch := ct_h4 h46 m1
  obtain ⟨sle, u, w, f, g, a, b, c, u2, v2, fn, fs⟩ := find4 (S := S) (V := V) (m := m) hs hT hU hCs.1 hCs.2.2.2.2.2.2 hCt hCU m1 h4 oil
  have eC : fX11_house4_0 S V (nI m) (nI d) = bd3 (fX0_find_49 S V (nI m) (nI (h 1 - d / h 2))) (fun r10 S11 V12 => some (.inl (r10, S11, V12))) := by
    unfold fX11_house4_0
    rw [nDay_t (by omega), bdx_l, nBits_t c4 h46 m0 m1, bdx_l, bc, bd1_s, if_pos (show nI (fb_ct m.testBit 6) ≤ 4 from nI_le (a := fb_ct m.testBit 6) (b := 4) h4 (by decide)), oilC hs hCs.2.1 hCs.2.2.1 (by omega), bd1_s]
  obtain ⟨w16, g1, g2⟩ := ga56 (S := va_up S' 0 0) (V := V') (m := m) (x := nI d) h46 d4 h4 (E := fun x40 x41 S42 V43 => fX12_house4_0_L107 (fun x164 S165 V166 => if (S165 49) = 0 then (if x164 = (-1 : Int32) then gd (isb 0) (some (x164, va_up S165 49 0, V166)) else gd (isb 1) (some (x164, va_up S165 49 1, V166))) else gd (isb 1) (some (x164, va_up S165 49 1, V166))) FU x40 x41 (-1 : Int32) ((1 : Int32) <<< (((4 : Int32) * x41) &&& 31)) (0 : Int32) S42 V43) (h 4) 0 FU (V' 16) (by omega) (by unfold FU; omega) (fun q hq => by simp [fb_ct] at hq)
  rw [nI_0, show fb_ct m.testBit 0 = 0 from rfl, nI_0, va_up_id, ch] at g1
  rw [ch] at g2
  have pw : ((1 : Int32) <<< (((4 : Int32) * nI (fb_ct m.testBit 6)) &&& 31)) = nI (16 ^ fb_ct m.testBit 6) := by
    rw [nI_40, bit_lt (by omega), Nat.pow_mul]
  obtain ⟨p2, q2, w2, s2, r1, r2⟩ := hw107 (S := va_up S' 0 0) (V := va_up V' 16 w16) (s0 := V' 18) hs hT hRs hRt hU hRU hw g2 (d := d) (by omega) (E := fun x164 S165 V166 => if (S165 49) = 0 then (if x164 = (-1 : Int32) then gd (isb 0) (some (x164, va_up S165 49 0, V166)) else gd (isb 1) (some (x164, va_up S165 49 1, V166))) else gd (isb 1) (some (x164, va_up S165 49 1, V166))) (16 ^ fb_ct m.testBit 6) 0 FU (1000000, fun _ => 0) (V' 14) (V' 15) (V' 17) (V' 18) (by omega) (by
    have h16N : 16 ^ fb_ct m.testBit 6 ≤ 16 ^ 4 := Nat.pow_le_pow_right (by decide) h4
    have e16 : (16 : Nat) ^ 4 = 65536 := by decide
    unfold FU
    omega) ⟨Nat.le_refl _, fun _ => rfl, fun z => absurd z (by decide)⟩
  have stE : itF (fun r => stpW h t ru (kthB m) (fb_ct m.testBit 6) (h 1 - d / h 2) (wsP (fb_ct m.testBit 6) r)) 0 (16 ^ fb_ct m.testBit 6) (1000000, fun _ => 0) = stF h t ru m (h 1 - d / h 2) := by
    unfold stF
    rw [nf_flat, Nat.zero_mul, Nat.zero_add]
  rw [stE, nI_0, show enB (1000000, fun _ => 0) = -1 from rfl, show RV (va_up V' 16 w16) (V' 14) (V' 15) (V' 17) (V' 18) = va_up V' 16 w16 from by
    show va_up (va_up (va_up (va_up (va_up V' 16 w16) 14 ((va_up V' 16 w16) 14)) 15 ((va_up V' 16 w16) 15)) 17 ((va_up V' 16 w16) 17)) 18 ((va_up V' 16 w16) 18) = _
    rw [va_up_id, va_up_id, va_up_id, va_up_id]] at r1
  rw [stE] at r2
  have eR : fX12_house4_0 S' V' (nI m) (nI d) = (if S' 49 = 0 then (if enB (stF h t ru m (h 1 - d / h 2)) = (-1 : Int32) then some (enB (stF h t ru m (h 1 - d / h 2)), va_up (va_up S' 0 0) 49 0, RV (va_up V' 16 w16) p2 q2 w2 s2) else some (enB (stF h t ru m (h 1 - d / h 2)), va_up (va_up S' 0 0) 49 1, RV (va_up V' 16 w16) p2 q2 w2 s2)) else some (enB (stF h t ru m (h 1 - d / h 2)), va_up (va_up S' 0 0) 49 1, RV (va_up V' 16 w16) p2 q2 w2 s2)) := by
    unfold fX12_house4_0
    simp only [lt_e, bk_e]
    rw [zz, bt, bd1_s, if_neg (show ¬ 4 < nI (fb_ct m.testBit 6) from nI_nlt (a := 4) (b := fb_ct m.testBit 6) (by omega) (by decide)), right_t rfl, bd2_s, if_neg (by decide), show fX12_isDay_0 (va_up S' 0 0) (nI d) 1 = some (1, va_up S' 0 0) from isDay_t rfl (by omega), bd2_s, if_neg (by decide)]
    refine g1.trans ?_
    show fX12_house4_0_L107 _ FU (nI d) (nI (fb_ct m.testBit 6)) (-1) ((1 : Int32) <<< (((4 : Int32) * nI (fb_ct m.testBit 6)) &&& 31)) 0 (va_up S' 0 0) (va_up V' 16 w16) = _
    rw [pw]
    exact r1
  rw [eC, eR]
  by_cases hst : (stF h t ru m (h 1 - d / h 2)).1 = 1000000
  · have s2e : s2 = V' 18 := r2.2.1 hst
    rw [fn hst, show enB (stF h t ru m (h 1 - d / h 2)) = -1 from if_pos hst, if_pos rfl]
    rcases h6 with ⟨k1, k2⟩ | ⟨k1, k2, k3⟩
    · refine Or.inl ⟨-1, _, _, va_up (va_up S' 0 0) 49 0, RV (va_up V' 16 w16) p2 q2 w2 s2, rfl, by rw [if_pos k2], rfl, ?_⟩
      exact ⟨h1, h2, h3, ⟨h, t, ru, hH, ⟨n, le, hM, hr, hC, hR⟩, hI⟩, h5, Or.inl ⟨k1, rfl⟩, h7⟩
    · refine Or.inl ⟨-1, _, _, va_up (va_up S' 0 0) 49 1, RV (va_up V' 16 w16) p2 q2 w2 s2, rfl, by rw [if_neg (by rw [k2]; decide)], rfl, ?_⟩
      refine ⟨h1, h2, h3, ⟨h, t, ru, hH, ⟨n, le, hM, hr, hC, hR⟩, hI⟩, h5, Or.inr ⟨k1, rfl, fun i hi => ?_⟩, h7⟩
      show V 57 i = s2 i
      rw [s2e]
      exact k3 i hi
  · have hlt : (stF h t ru m (h 1 - d / h 2)).1 < 1000000 := by omega
    obtain ⟨u0, z1, z2⟩ := fs hlt
    obtain ⟨u3, y1, y2⟩ := r2.2.2 hlt
    have en : enB (stF h t ru m (h 1 - d / h 2)) = nI (stF h t ru m (h 1 - d / h 2)).1 := if_neg hst
    rw [z2, en, if_neg (show ¬ nI (stF h t ru m (h 1 - d / h 2)).1 = -1 from nI_m1 (by omega))]
    refine Or.inl ⟨nI (stF h t ru m (h 1 - d / h 2)).1, _, _, va_up (va_up S' 0 0) 49 1, RV (va_up V' 16 w16) p2 q2 w2 s2, rfl, by split <;> rfl, rfl, ?_⟩
    refine ⟨h1, h2, h3, ⟨h, t, ru, hH, ⟨n, le, hM, hr, hC, hR⟩, hI⟩, h5, Or.inr ⟨rfl, rfl, fun i hi => ?_⟩, h7⟩
    show upW (kthB m) (stF h t ru m (h 1 - d / h 2)).2 u0 (fb_ct m.testBit 6) i = s2 i
    rw [y2]
    exact upW_ag (fun j hj => by rw [z1 j hj, y1 j hj]) _ i hi
