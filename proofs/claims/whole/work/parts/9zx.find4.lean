/-! ===== housed anew: the class's whole ===== -/
section F4
variable {h : Nat → Nat} {t : Nat → Nat → Nat} {ru : Nat → List Nat} {wh : Nat → Nat} {N : Nat} {V : Nat → Nat → Int32} {S : Nat → Int32}
theorem Mks_cong (hw : whOK h wh N) {a b c a2 b2 c2 : Nat → Int32} {k s : Nat} (h1 : a2 (k * 16 + s) = a (k * 16 + s)) (h2 : b2 (k * 16 + s) = b (k * 16 + s)) (h3 : ∀ o, o < 4 → c2 ((k * 16 + s) * 4 + o) = c ((k * 16 + s) * 4 + o)) (hM : Mks h t ru wh N a b c k s) : Mks h t ru wh N a2 b2 c2 k s := by
  have hN := hw.1
  obtain ⟨m1, m2, m3, m4⟩ := hM
  refine ⟨fun z => by rw [h1]; exact m1 z, fun z => by rw [h1]; exact m2 z, fun z => by rw [h2]; exact m3 z, fun z o o1 o2 => by rw [h3 o (by omega)]; exact m4 z o o1 o2⟩
def DNk (h : Nat → Nat) (t : Nat → Nat → Nat) (ru : Nat → List Nat) (wh : Nat → Nat) (N : Nat) (a b c : Nat → Int32) (n : Nat) : Prop := ∀ k s, k < N → s < 16 → k * 16 + s < n → Mks h t ru wh N a b c k s
theorem fd18 (hE : ME0 h t ru wh N S V) {k : Nat} (hk : k < N) {x : Int32} {E : Int32 → Int32 → (Nat → Int32) → (Nat → Nat → Int32) → Option (Int32 × (Nat → Int32) × (Nat → Nat → Int32))} : ∀ (j s m : Nat) (f g a b c : Nat → Int32), s + j = 16 → j < m → DNk h t ru wh N a b c (k * 16 + s) → ∃ f2 g2 a2 b2 c2, fX0_find_49_L18 E m x (nI k) (nI s) S (MV V f g a b c) = E x (nI k) S (MV V f2 g2 a2 b2 c2) ∧ DNk h t ru wh N a2 b2 c2 ((k + 1) * 16) := by
  have hw : whOK h wh N := hE.2.2.2.2.2.2.1
  have hN := hw.1
  intro j
  induction j with
  | zero =>
    intro s m f g a b c c1 c2 c3
    obtain ⟨m, rfl⟩ : ∃ z, m = z + 1 := ⟨m - 1, by omega⟩
    refine ⟨f, g, a, b, c, ?_, fun k2 s2 q1 q2 q3 => c3 k2 s2 q1 q2 (by omega)⟩
    rw [fX0_find_49_L18, if_pos (show 16 ≤ nI s from nI_le (a := 16) (b := s) (by omega) (by omega))]
  | succ j ih =>
    intro s m f g a b c c1 c2 c3
    obtain ⟨m, rfl⟩ : ∃ z, m = z + 1 := ⟨m - 1, by omega⟩
    obtain ⟨f1, g1, a1, b1, d1, e1, e2, e3, e4⟩ := measC hE hk (show s < 16 by omega) f g a b c
    obtain ⟨f2, g2, a2, b2, d2, r1, r2⟩ := ih (s + 1) m f1 g1 a1 b1 d1 (by omega) (by omega) (fun k2 s2 q1 q2 q3 => by
      by_cases e : k2 * 16 + s2 = k * 16 + s
      · have ek : k2 = k := by omega
        have es : s2 = s := by omega
        rw [ek, es]
        exact e2
      · exact Mks_cong hw (e3 _ e).1 (e3 _ e).2 (fun o ho => e4 _ (by omega)) (c3 k2 s2 q1 q2 (by omega)))
    refine ⟨f2, g2, a2, b2, d2, ?_, r2⟩
    rw [fX0_find_49_L18, if_neg (show ¬ 16 ≤ nI s from nI_ge (a := s) (b := 16) (by omega) (by decide)), e1, bd1_s]
    simp only [lt_e, nI_1]
    exact r1
theorem fd7 (hE : ME0 h t ru wh N S V) {x : Int32} {E : Int32 → (Nat → Int32) → (Nat → Nat → Int32) → Option (Int32 × (Nat → Int32) × (Nat → Nat → Int32))} : ∀ (j k m : Nat) (f g a b c : Nat → Int32), k + j = N → j < m → DNk h t ru wh N a b c (k * 16) → ∃ f2 g2 a2 b2 c2, fX0_find_49_L7 E m x (nI k) S (MV V f g a b c) = E x S (MV V f2 g2 a2 b2 c2) ∧ DNk h t ru wh N a2 b2 c2 (N * 16) := by
  have hw : whOK h wh N := hE.2.2.2.2.2.2.1
  have hS : S 4903 = nI N := hE.2.2.2.2.2.2.2.1
  have hN := hw.1
  intro j
  induction j with
  | zero =>
    intro k m f g a b c c1 c2 c3
    obtain ⟨m, rfl⟩ : ∃ z, m = z + 1 := ⟨m - 1, by omega⟩
    have : k = N := by omega
    subst this
    refine ⟨f, g, a, b, c, ?_, c3⟩
    rw [fX0_find_49_L7, hS, if_pos (nI_le (Nat.le_refl _) (by omega))]
  | succ j ih =>
    intro k m f g a b c c1 c2 c3
    obtain ⟨m, rfl⟩ : ∃ z, m = z + 1 := ⟨m - 1, by omega⟩
    obtain ⟨f1, g1, a1, b1, d1, e1, e2⟩ := fd18 hE (show k < N by omega) (x := x) (E := fun x23 x24 S25 V26 => fX0_find_49_L7 E m x23 (x24 + 1) S25 V26) 16 0 FU f g a b c (by omega) (by unfold FU; omega) c3
    obtain ⟨f2, g2, a2, b2, d2, r1, r2⟩ := ih (k + 1) m f1 g1 a1 b1 d1 (by omega) (by omega) e2
    refine ⟨f2, g2, a2, b2, d2, ?_, r2⟩
    rw [fX0_find_49_L7, hS, if_neg (nI_ge (a := k) (b := N) (by omega) (by omega))]
    simp only [bk_e, lt_e]
    rw [nI_0, nI_1] at e1
    exact e1.trans r1
/-- where they are kept -/
def upW (wh ws : Nat → Nat) (u : Nat → Int32) : Nat → (Nat → Int32)
  | 0 => u
  | n + 1 => upd (upW wh ws u n) (wh n) (nI (24 * (ws n / 8) + frS (ws n)))
theorem upW_ag {wh ws : Nat → Nat} {u u2 : Nat → Int32} (hu : ∀ i, i < 6 → u i = u2 i) : ∀ n i, i < 6 → upW wh ws u n i = upW wh ws u2 n i
  | 0, i, hi => hu i hi
  | n + 1, i, hi => by
    rw [upW, upW]
    by_cases e : i = wh n
    · rw [e, upd_same, upd_same]
    · rw [upd_ne _ _ e, upd_ne _ _ e]
      exact upW_ag hu n i hi
theorem fill57 : ∃ u : Nat → Int32, (∀ i, i < 6 → u i = -1) ∧ fJ7_fill_53178_57 V (-1) = some (va_up V 57 u) := by
  have L : ∀ (j i f : Nat) (v : Nat → Int32), i + j = 6 → j < f → (∀ a, a < i → v a = -1) → ∃ u : Nat → Int32, (∀ a, a < 6 → u a = -1) ∧ fJ7_fill_53178_57_L5 f (-1) (nI i) 6 (va_up V 57 v) = some (va_up V 57 u) := by
    intro j
    induction j with
    | zero =>
      intro i f v c1 c2 c3
      obtain ⟨f, rfl⟩ : ∃ z, f = z + 1 := ⟨f - 1, by omega⟩
      refine ⟨v, fun a ha => c3 a (by omega), ?_⟩
      rw [fJ7_fill_53178_57_L5, if_pos (show 6 ≤ nI i from nI_le (a := 6) (b := i) (by omega) (by omega))]
    | succ j ih =>
      intro i f v c1 c2 c3
      obtain ⟨f, rfl⟩ : ∃ z, f = z + 1 := ⟨f - 1, by omega⟩
      obtain ⟨u, e1, e2⟩ := ih (i + 1) f (upd v i (-1)) (by omega) (by omega) (fun a ha => by
        by_cases e : a = i
        · rw [e, upd_same]
        · rw [upd_ne _ _ e]; exact c3 a (by omega))
      refine ⟨u, e1, ?_⟩
      rw [fJ7_fill_53178_57_L5, if_neg (show ¬ 6 ≤ nI i from nI_ge (a := i) (b := 6) (by omega) (by omega)), gd_n i 6 (by omega) (by decide), nI_cl i (by omega)]
      simp only [lt_e, va_up_self, va_up_up, nI_1]
      exact e2
  obtain ⟨u, e1, e2⟩ := L 6 0 FU (V 57) (by omega) (by unfold FU; omega) (fun a ha => by omega)
  refine ⟨u, e1, ?_⟩
  rw [nI_0, va_up_id] at e2
  exact e2
theorem keep10 (h46 : h 4 ≤ 6) (hw : whOK h wh N) (hS : S 4903 = nI N) (h50 : ∀ k, k < N → V 50 k = nI (wh k)) {ws : Nat → Nat} (h16 : ∀ k, k < N → ws k < 16) (h56 : ∀ k, k < N → V 56 k = nI (ws k)) (u : Nat → Int32) {E : (Nat → Int32) → (Nat → Nat → Int32) → Option ((Nat → Int32) × (Nat → Nat → Int32))} : ∀ (j k f : Nat), k + j = N → j < f → fX0_keep_49_L10 E f (nI k) S (va_up V 57 (upW wh ws u k)) = E S (va_up V 57 (upW wh ws u N)) := by
  have hN := hw.1
  intro j
  induction j with
  | zero =>
    intro k f c1 c2
    obtain ⟨f, rfl⟩ : ∃ z, f = z + 1 := ⟨f - 1, by omega⟩
    have : k = N := by omega
    subst this
    rw [fX0_keep_49_L10, hS, if_pos (nI_le (Nat.le_refl _) (by omega))]
  | succ j ih =>
    intro k f c1 c2
    obtain ⟨f, rfl⟩ : ∃ z, f = z + 1 := ⟨f - 1, by omega⟩
    have hwk := hw.2.1 k (by omega)
    have ihn := ih (k + 1) f (by omega) (by omega)
    rw [upW] at ihn
    rw [fX0_keep_49_L10, hS, if_neg (nI_ge (a := k) (b := N) (by omega) (by omega)), gd_n k 4 (by omega) (by decide), gd_n k 4 (by omega) (by decide), nI_cl k (by omega), va_up_ne _ _ (show (56 : Nat) ≠ 57 by decide), h56 k (by omega), half_n (h16 k (by omega)), bd1_s, gd_n k 4 (by omega) (by decide), from_n (h16 k (by omega)), bd1_s]
    simp only [lt_e]
    rw [va_up_ne _ _ (show (50 : Nat) ≠ 57 by decide), h50 k (by omega), gd_n (wh k) 6 (by omega) (by decide), nI_cl (wh k) (by omega), va_up_self, va_up_up, show (24 : Int32) = nI 24 from rfl, nI_mul, nI_add, nI_1]
    exact ihn
theorem st_ws {oil : Nat} (st : Wst) (hst : ¬ st.1 < 1000000) : (nfW h t ru wh N oil N 0 (wsP 0 0) st).1 < 1000000 → ∃ r, (nfW h t ru wh N oil N 0 (wsP 0 0) st).2 = wsP N r := by
  rw [nf_flat, Nat.zero_add]
  have L : ∀ (n i : Nat) (st : Wst), (st.1 < 1000000 → ∃ r, st.2 = wsP N r) → (itF (fun r => stpW h t ru wh N oil (wsP N r)) i n st).1 < 1000000 → ∃ r, (itF (fun r => stpW h t ru wh N oil (wsP N r)) i n st).2 = wsP N r := by
    intro n
    induction n with
    | zero => intro i st a1 a2; exact a1 a2
    | succ n ih =>
      intro i st a1
      rw [itF]
      refine ih (i + 1) _ (fun a3 => ?_)
      by_cases c : vldW h t ru wh N (wsP N i) ∧ (slW h t wh oil (wsP N i) N).natAbs < st.1
      · exact ⟨i, by unfold stpW; rw [@if_pos _ (Classical.propDecidable _) c]⟩
      · unfold stpW at a3 ⊢
        rw [@if_neg _ (Classical.propDecidable _) c] at a3 ⊢
        exact a1 a3
  exact L _ _ st (fun z => absurd z hst)
theorem wsP_lt (N r : Nat) : ∀ i, i < N → wsP N r i < 16 := fun i hi => by
  unfold wsP
  rw [if_pos hi]
  exact Nat.mod_lt _ (by decide)
theorem wsP_0 : wsP 0 0 = fun _ => 0 := by
  funext i
  unfold wsP
  rw [if_neg (by omega)]
end F4
section F5
variable {h : Nat → Nat} {t : Nat → Nat → Nat} {ru : Nat → List Nat} {V : Nat → Nat → Int32} {S : Nat → Int32} {m oil : Nat}
noncomputable abbrev stF (h : Nat → Nat) (t : Nat → Nat → Nat) (ru : Nat → List Nat) (m oil : Nat) : Wst := nfW h t ru (kthB m) (fb_ct m.testBit 6) oil (fb_ct m.testBit 6) 0 (wsP 0 0) (1000000, fun _ => 0)
theorem find4 (hs : MHs h) (hT : MHt h t) (hU : MU (h 6) ru) (e0 : S 300 = nI (h 0)) (e6 : S 306 = nI (h 6)) (hCt : CHt h t (V 4) (V 5) (V 6) (V 7) (V 8)) (hCU : CU (h 6) ru (V 9) (V 10)) (hm : m < 2 ^ h 4) (h4 : fb_ct m.testBit 6 ≤ 4) (ho : oil ≤ 30) : (stF h t ru m oil).1 ≤ 1000000 ∧ ∃ u w f g a b c u2 v2, ((stF h t ru m oil).1 = 1000000 → fX0_find_49 S V (nI m) (nI oil) = some (-1, va_up (va_up S 4903 (nI (fb_ct m.testBit 6))) 4910 1000000, stV (MV (va_up (va_up V 50 u) 54 w) f g a b c) u2 v2)) ∧ ((stF h t ru m oil).1 < 1000000 → ∃ u0, (∀ i, i < 6 → u0 i = -1) ∧ fX0_find_49 S V (nI m) (nI oil) = some (nI (stF h t ru m oil).1, va_up (va_up (va_up S 4903 (nI (fb_ct m.testBit 6))) 4910 (nI (stF h t ru m oil).1)) 4911 1, va_up (stV (MV (va_up (va_up V 50 u) 54 w) f g a b c) u2 v2) 57 (upW (kthB m) (stF h t ru m oil).2 u0 (fb_ct m.testBit 6)))) := by
  have hw := whOK_B hm h4
  have h46 := hs.2.2.2.2.1
  obtain ⟨u, w, g1, g2, g3⟩ := gathC (S := S) (V := V) hs hT hCt hm h4
  have hE : ME0 h t ru (kthB m) (fb_ct m.testBit 6) (va_up S 4903 (nI (fb_ct m.testBit 6))) (va_up (va_up V 50 u) 54 w) := ⟨hs, hT, hCt, e6, hU, hCU, hw, rfl, g2⟩
  obtain ⟨f, g, a, b, c, r1, r2⟩ := fd7 hE (x := nI oil) (E := fun x32 S33 V34 => lt (va_up S33 4910 (1000000 : Int32)) (fun S35 => bd1 (fX2_swingOf_3 S35 V34 (-1 : Int32) (-1 : Int32) (-1 : Int32) x32) (fun r36 => bd2 (fX0_placeFrom_49 DP S35 V34 (0 : Int32) (((12 : Int32) * (r36 - (60 : Int32))))) (fun S38 V39 => (if (S38 4910) = (1000000 : Int32) then some ((-1 : Int32), S38, V39) else bd2 (fX0_keep_49 S38 V39) (fun S42 V43 => some ((S42 4910), S42, V43))))))) (fb_ct m.testBit 6) 0 FU (V 28) (V 29) (V 51) (V 52) (V 53) (by omega) (by unfold FU; omega) (fun k s _ _ hlt => by omega)
  rw [nI_0, show MV (va_up (va_up V 50 u) 54 w) (V 28) (V 29) (V 51) (V 52) (V 53) = va_up (va_up V 50 u) 54 w from by
    show va_up (va_up (va_up (va_up (va_up (va_up (va_up V 50 u) 54 w) 28 ((va_up (va_up V 50 u) 54 w) 28)) 29 ((va_up (va_up V 50 u) 54 w) 29)) 51 ((va_up (va_up V 50 u) 54 w) 51)) 52 ((va_up (va_up V 50 u) 54 w) 52)) 53 ((va_up (va_up V 50 u) 54 w) 53) = _
    rw [va_up_id, va_up_id, va_up_id, va_up_id, va_up_id]] at r1
  have hA : AE h t ru (kthB m) (fb_ct m.testBit 6) (MV (va_up (va_up V 50 u) 54 w) f g a b c) := ⟨g2, fun k s hk hs16 => ⟨(r2 k s hk hs16 (by omega)).1, (r2 k s hk hs16 (by omega)).2.1⟩, fun k s hk hs16 hsp => (r2 k s hk hs16 (by omega)).2.2.1 hsp, fun k s o hk hs16 ho1 ho2 hsp => (r2 k s hk hs16 (by omega)).2.2.2 hsp o ho1 ho2, g3⟩
  generalize hMV : MV (va_up (va_up V 50 u) 54 w) f g a b c = V3 at *
  have hCt3 : CHt h t (V3 4) (V3 5) (V3 6) (V3 7) (V3 8) := by rw [← hMV]; exact hCt
  have h50 : ∀ k, k < fb_ct m.testBit 6 → V3 50 k = nI (kthB m k) := hA.1
  have hd : fb_ct m.testBit 6 < DP := by unfold DP; omega
  obtain ⟨u2, v2, p1, -, p3⟩ := plF (S := va_up S 4903 (nI (fb_ct m.testBit 6))) hs hT hCt3 hw rfl hA ho (fb_ct m.testBit 6) 0 DP (wsP 0 0) (V3 55) (V3 56) (1000000, fun _ => 0) (by omega) hd (fun i hi => by omega) (fun i hi => by omega) (fun i hi => by omega) ⟨Nat.le_refl _, fun z => absurd z (by decide)⟩
  have sw : fX2_swingOf_3 (va_up (va_up S 4903 (nI (fb_ct m.testBit 6))) 4910 1000000) V3 (-1) (-1) (-1) (nI oil) = some (nI (swV h t none none none oil)) := sw3 (S := va_up (va_up S 4903 (nI (fb_ct m.testBit 6))) 4910 1000000) hs hT e0 hCt3 (no_ok _) (no_ok _) (no_ok _) ho
  have sl0 : (12 : Int32) * (nI (swV h t none none none oil) - 60) = zI (slW h t (kthB m) oil (wsP 0 0) 0) := by
    have h0 := hs.1
    rw [show swV h t none none none oil = 2 * h 0 - oil from rfl, show (12 : Int32) = zI 12 from by decide, show (60 : Int32) = zI 60 from by decide, nI_z, zI_sub, zI_mul]
    congr 1
    unfold slW
    rw [sN]
    omega
  have hst : (stF h t ru m oil).1 ≤ 1000000 := p3.1
  refine ⟨hst, u, w, f, g, a, b, c, u2, v2, ?_⟩
  rw [hMV]
  have top : fX0_find_49 S V (nI m) (nI oil) = (if nI (stF h t ru m oil).1 = (1000000 : Int32) then some ((-1 : Int32), stS (va_up S 4903 (nI (fb_ct m.testBit 6))) (stF h t ru m oil), stV V3 u2 v2) else bd2 (fX0_keep_49 (stS (va_up S 4903 (nI (fb_ct m.testBit 6))) (stF h t ru m oil)) (stV V3 u2 v2)) (fun S42 V43 => some ((S42 4910), S42, V43))) := by
    unfold fX0_find_49
    rw [g1, bd2_s]
    simp only [bk_e, lt_e]
    simp only [lt_e] at r1
    rw [r1, sw, bd1_s, sl0]
    rw [nI_0, show stS (va_up S 4903 (nI (fb_ct m.testBit 6))) (1000000, fun _ => 0) = va_up (va_up S 4903 (nI (fb_ct m.testBit 6))) 4910 1000000 from rfl, show stV V3 (V3 55) (V3 56) = V3 from by
      show va_up (va_up V3 55 (V3 55)) 56 ((va_up V3 55 (V3 55)) 56) = V3
      rw [va_up_id, va_up_id]] at p1
    rw [p1, bd2_s]
    rfl
  rw [top]
  constructor
  · intro e
    rw [if_pos (show nI (stF h t ru m oil).1 = 1000000 from by rw [e]; rfl)]
    show some (-1, va_up _ 4910 (nI (stF h t ru m oil).1), _) = _
    rw [e]
    rfl
  · intro e
    obtain ⟨r, hr⟩ := st_ws (h := h) (t := t) (ru := ru) (wh := kthB m) (N := fb_ct m.testBit 6) (oil := oil) (1000000, fun _ => 0) (Nat.lt_irrefl _) e
    have hr' : (stF h t ru m oil).2 = wsP (fb_ct m.testBit 6) r := hr
    obtain ⟨u0, z1, z2⟩ := fill57 (V := stV V3 u2 v2)
    have k10 := keep10 (S := stS (va_up S 4903 (nI (fb_ct m.testBit 6))) (stF h t ru m oil)) (V := stV V3 u2 v2) (ws := (stF h t ru m oil).2) h46 hw rfl h50 (fun k hk => by rw [hr']; exact wsP_lt _ _ k hk) (fun k hk => p3.2 e k hk) u0 (E := fun S22 V23 => lt (va_up S22 4911 (1 : Int32)) (fun S24 => some (S24, V23))) (fb_ct m.testBit 6) 0 FU (by omega) (by unfold FU; omega)
    rw [nI_0] at k10
    refine ⟨u0, z1, ?_⟩
    rw [if_neg (show ¬ nI (stF h t ru m oil).1 = 1000000 from fun z => by
      have := (nI_eq (a := (stF h t ru m oil).1) (b := 1000000) (by omega) (by decide)).mp z
      omega)]
    unfold fX0_keep_49
    rw [z2, bd1_s]
    simp only [bk_e]
    rw [show fX0_keep_49_L10 (fun S22 V23 => lt (va_up S22 4911 1) fun S24 => some (S24, V23)) FU 0 (stS (va_up S 4903 (nI (fb_ct m.testBit 6))) (stF h t ru m oil)) (va_up (stV V3 u2 v2) 57 u0) = _ from k10, lt_e, bd2_s]
    rfl
end F5
