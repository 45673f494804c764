/-! ===== housed anew: one after another (the class) ===== -/
section PL
variable {h : Nat → Nat} {t : Nat → Nat → Nat} {ru : Nat → List Nat} {wh : Nat → Nat} {N : Nat} {V : Nat → Nat → Int32} {S : Nat → Int32} {ws : Nat → Nat}
theorem kp33 (hT : MHt h t) (hw : whOK h wh N) (hS : S 4903 = nI N) (hA : AE h t ru wh N V) (hu : ∀ i, i < N → V 55 i = nI (ws i)) (h16 : ∀ i, i < N → ws i < 16) (hsp : ∀ i, i < N → spOK h t ru wh N i (ws i)) {k : Nat} (hk : k < N) {x a : Int32} {E : Int32 → Int32 → Int32 → Int32 → (Nat → Int32) → (Nat → Nat → Int32) → Option ((Nat → Int32) × (Nat → Nat → Int32))} : ∀ (j o f y : Nat), o + j = N → j < f → ∃ y2 : Nat, y2 ≤ y ∧ fX0_keepIfRulesHold_49_L33 E f x (nI k) a (nI y) (nI o) S V = E x (nI k) a (nI y2) S V ∧ ∀ hr, hr < 32 → (y2.testBit hr = true ↔ (y.testBit hr = true ∧ ∀ q, o ≤ q → q < N → q ≠ k → inS t wh q (ws q) hr = false)) := by
  have hN := hw.1
  intro j
  induction j with
  | zero =>
    intro o f y c1 c2
    obtain ⟨f, rfl⟩ : ∃ z, f = z + 1 := ⟨f - 1, by omega⟩
    refine ⟨y, Nat.le_refl _, ?_, fun hr hh => ⟨fun z => ⟨z, fun q q1 q2 => by omega⟩, fun z => z.1⟩⟩
    rw [fX0_keepIfRulesHold_49_L33, hS, if_pos (nI_le (by omega) (by omega))]
  | succ j ih =>
    intro o f y c1 c2
    obtain ⟨f, rfl⟩ : ∃ z, f = z + 1 := ⟨f - 1, by omega⟩
    have hwo := h16 o (by omega)
    have hso := hsp o (by omega)
    have v2 := (hA.2.1 o (ws o) (by omega) hwo).1 hso
    have t2 := iv_tb hT hw (show o < N by omega) hso.1
    rw [fX0_keepIfRulesHold_49_L33, hS, if_neg (nI_ge (a := o) (b := N) (by omega) (by omega))]
    simp only [lt_e, bk_e]
    rw [gd_n o 4 (by omega) (by decide), nI_cl o (by omega), hu o (by omega)]
    simp only [nI_16, nI_1]
    by_cases e : o = k
    · obtain ⟨y2, l2, e1, e2⟩ := ih (o + 1) f y (by omega) (by omega)
      refine ⟨y2, l2, ?_, fun hr hh => (e2 hr hh).trans ⟨fun z => ⟨z.1, fun q q1 q2 q3 => z.2 q (by omega) q2 q3⟩, fun z => ⟨z.1, fun q q1 q2 q3 => z.2 q (by omega) q2 q3⟩⟩⟩
      rw [if_pos (by rw [e])]
      exact e1
    · obtain ⟨y2, l2, e1, e2⟩ := ih (o + 1) f (andn y (ivW t wh o (ws o))) (by omega) (by omega)
      refine ⟨y2, Nat.le_trans l2 (andn_le _ _), ?_, fun hr hh => (e2 hr hh).trans ?_⟩
      · rw [if_neg (fun z => e ((nI_eq (by omega) (by omega)).mp z)), gd_n (o * 16 + ws o) 64 (by omega) (by decide), nI_cl (o * 16 + ws o) (by omega), v2, andn_i]
        exact e1
      · rw [andn_tb hh, t2, Bool.and_eq_true, Bool.not_eq_true']
        constructor
        · rintro ⟨⟨z1, z2⟩, z3⟩
          refine ⟨z1, fun q q1 q2 q3 => ?_⟩
          by_cases e : q = o
          · subst e; exact z2
          · exact z3 q (by omega) q2 q3
        · rintro ⟨z1, z2⟩
          exact ⟨⟨z1, z2 o (Nat.le_refl _) (by omega) e⟩, fun q q1 q2 q3 => z2 q (by omega) q2 q3⟩
abbrev lf1 (h : Nat → Nat) (t : Nat → Nat → Nat) (ru : Nat → List Nat) (wh : Nat → Nat) (N : Nat) (ws : Nat → Nat) (k : Nat) : Prop := ∀ hr, inS t wh k (ws k) hr = true → (∀ o, o < N → o ≠ k → inS t wh o (ws o) hr = false) → ok1 h t ru wh k (ws k) hr
theorem kp2 (hT : MHt h t) (hw : whOK h wh N) (hS : S 4903 = nI N) (hA : AE h t ru wh N V) (hu : ∀ i, i < N → V 55 i = nI (ws i)) (h16 : ∀ i, i < N → ws i < 16) (hsp : ∀ i, i < N → spOK h t ru wh N i (ws i)) {x : Int32} {E : Int32 → (Nat → Int32) → (Nat → Nat → Int32) → Option ((Nat → Int32) × (Nat → Nat → Int32))} : ∀ (j k f : Nat), k + j = N → j < f → ((∀ q, k ≤ q → q < N → lf1 h t ru wh N ws q) → fX0_keepIfRulesHold_49_L2 E f x (nI k) S V = E x S V) ∧ (¬ (∀ q, k ≤ q → q < N → lf1 h t ru wh N ws q) → fX0_keepIfRulesHold_49_L2 E f x (nI k) S V = some (S, V)) := by
  have hN := hw.1
  intro j
  induction j with
  | zero =>
    intro k f c1 c2
    obtain ⟨f, rfl⟩ : ∃ z, f = z + 1 := ⟨f - 1, by omega⟩
    refine ⟨fun _ => ?_, fun z => absurd (fun q q1 q2 => by omega) z⟩
    rw [fX0_keepIfRulesHold_49_L2, hS, if_pos (nI_le (by omega) (by omega))]
  | succ j ih =>
    intro k f c1 c2
    obtain ⟨f, rfl⟩ : ∃ z, f = z + 1 := ⟨f - 1, by omega⟩
    obtain ⟨i1, i2⟩ := ih (k + 1) f (by omega) (by omega)
    have hk : k < N := by omega
    have hwk := h16 k hk
    have hsk := hsp k hk
    have v1 := (hA.2.1 k (ws k) hk hwk).1 hsk
    have t1 := iv_tb hT hw hk hsk.1
    have l1 := iv_lt hT hw hk hsk.1
    obtain ⟨al, v2, w2⟩ := hA.2.2.1 k (ws k) hk hwk hsk
    have st : fX0_keepIfRulesHold_49_L2 E (f + 1) x (nI k) S V = fX0_keepIfRulesHold_49_L33 (fun x39 x40 x41 x42 S43 V44 => gd (ib x41 64) (if (x42 &&& ((V44 52 (x41).toNatClampNeg) ^^^ (-1 : Int32))) = 0 then fX0_keepIfRulesHold_49_L2 E f x39 (x40 + 1) S43 V44 else some (S43, V44))) FU x (nI k) (nI (k * 16 + ws k)) (nI (ivW t wh k (ws k))) (nI 0) S V := by
      rw [fX0_keepIfRulesHold_49_L2, hS, if_neg (nI_ge (a := k) (b := N) (by omega) (by omega)), gd_n k 4 (by omega) (by decide), nI_cl k (by omega), hu k hk]
      simp only [lt_e, bk_e, nI_16]
      rw [gd_n (k * 16 + ws k) 64 (by omega) (by decide), nI_cl (k * 16 + ws k) (by omega), v1, nI_0]
    obtain ⟨y2, l2, e1, e2⟩ := kp33 hT hw hS hA hu h16 hsp hk (x := x) (a := nI (k * 16 + ws k)) (E := fun x39 x40 x41 x42 S43 V44 => gd (ib x41 64) (if (x42 &&& ((V44 52 (x41).toNatClampNeg) ^^^ (-1 : Int32))) = 0 then fX0_keepIfRulesHold_49_L2 E f x39 (x40 + 1) S43 V44 else some (S43, V44))) N 0 FU (ivW t wh k (ws k)) (by omega) (by unfold FU; omega)
    rw [st, e1]
    simp only [gd_n (k * 16 + ws k) 64 (show k * 16 + ws k < 64 by omega) (by decide), nI_cl (k * 16 + ws k) (show k * 16 + ws k < 2 ^ 31 by omega), v2, andn_i, nI_1]
    have hz : (nI (andn y2 al) = 0) ↔ lf1 h t ru wh N ws k := by
      rw [andn_0 (by omega)]
      constructor
      · intro z hr hi hno
        have h24 := inS_24 hsk.1 hi
        have b1 := (e2 hr (by omega)).mpr ⟨by rw [t1]; exact hi, fun q _ q2 q3 => hno q q2 q3⟩
        exact ((w2 hr h24).mp (z hr (by omega) b1)).2
      · intro z hr hh hb
        obtain ⟨b1, b2⟩ := (e2 hr (by omega)).mp hb
        rw [t1] at b1
        have h24 := inS_24 hsk.1 b1
        exact (w2 hr h24).mpr ⟨b1, z hr b1 (fun o o1 o2 => b2 o (Nat.zero_le _) o1 o2)⟩
    by_cases hl : lf1 h t ru wh N ws k
    · rw [if_pos (hz.mpr hl)]
      refine ⟨fun z => i1 (fun q q1 q2 => z q (by omega) q2), fun z => i2 (fun z2 => z (fun q q1 q2 => ?_))⟩
      by_cases e : q = k
      · subst e; exact hl
      · exact z2 q (by omega) q2
    · rw [if_neg (fun z => hl (hz.mp z))]
      exact ⟨fun z => absurd (z k (Nat.le_refl _) hk) hl, fun _ => rfl⟩
theorem abI_z {z : Int} (h1 : -100000 ≤ z) (h2 : z ≤ 100000) : abI (zI z) = nI z.natAbs := by
  unfold abI
  rw [nI_z, show (0 : Int32) = zI 0 from by decide, zI_neg]
  by_cases c : 0 ≤ z
  · rw [if_pos ((zI_le (by decide) (by decide) (by omega) (by omega)).mpr c)]
    congr 1
    omega
  · rw [if_neg (fun q => c ((zI_le (by decide) (by decide) (by omega) (by omega)).mp q))]
    congr 1
    omega
theorem keepC (hT : MHt h t) (hw : whOK h wh N) (hS : S 4903 = nI N) (hA : AE h t ru wh N V) (hu : ∀ i, i < N → V 55 i = nI (ws i)) (h16 : ∀ i, i < N → ws i < 16) (hsp : ∀ i, i < N → spOK h t ru wh N i (ws i)) {z : Int} (h1 : -100000 ≤ z) (h2 : z ≤ 100000) : (leafW h t ru wh N ws → fX0_keepIfRulesHold_49 S V (zI z) = some (va_up S 4910 (nI z.natAbs), va_up V 56 (va_cpy (V 55) (V 56) 0 0 N))) ∧ (¬ leafW h t ru wh N ws → fX0_keepIfRulesHold_49 S V (zI z) = some (S, V)) := by
  have hN := hw.1
  obtain ⟨a1, a2⟩ := kp2 hT hw hS hA hu h16 hsp (x := zI z) (E := fun x52 S53 V54 => bd1 (fJ9_abs_0f7a4 x52) (fun r55 => lt (va_up S53 4910 r55) (fun S57 => lt ((S57 4903)) (fun x58 => gd (cpr (0 : Int32) (0 : Int32) x58 4 4) (lt (va_up V54 56 (va_cpy (V54 55) (V54 56) ((0 : Int32)).toNatClampNeg ((0 : Int32)).toNatClampNeg (x58).toNatClampNeg)) (fun V60 => some (S57, V60))))))) N 0 FU (by omega) (by unfold FU; omega)
  rw [nI_0] at a1 a2
  constructor
  · intro hl
    unfold fX0_keepIfRulesHold_49
    simp only [bk_e]
    rw [a1 (fun q _ q2 => hl q q2), abs_eq, bd1_s, abI_z h1 h2]
    simp only [lt_e]
    rw [show va_up S 4910 (nI z.natAbs) 4903 = nI N from hS, gd_t (cpr_n (by omega) (by omega) (by decide)), nI_cl N (by omega)]
    rfl
  · intro hl
    unfold fX0_keepIfRulesHold_49
    simp only [bk_e]
    exact a2 (fun z2 => hl (fun k hk => z2 k (Nat.zero_le _) hk))
def Bst (N : Nat) (st : Wst) (v : Nat → Int32) : Prop := st.1 ≤ 1000000 ∧ (st.1 < 1000000 → ∀ i, i < N → v i = nI (st.2 i))
abbrev stS (S : Nat → Int32) (st : Wst) : Nat → Int32 := va_up S 4910 (nI st.1)
abbrev stV (V : Nat → Nat → Int32) (u v : Nat → Int32) : Nat → Nat → Int32 := va_up (va_up V 55 u) 56 v
theorem sl_up {oil k s : Nat} : slW h t wh oil (va_up ws k s) (k + 1) = slW h t wh oil ws k + ((adW t wh 12 ws k s : Nat) : Int) := by
  have e1 : slW h t wh oil (va_up ws k s) k = slW h t wh oil ws k := sl_cong (fun i hi => va_up_ne _ _ (by omega))
  have e2 : adW t wh 12 (va_up ws k s) k (va_up ws k s k) = adW t wh 12 ws k s := by
    rw [va_up_self]
    exact ad_cong (fun i hi => va_up_ne _ _ (by omega))
  rw [← e1, ← e2]
  unfold slW
  rw [sN]
  omega
theorem stV_55 (V : Nat → Nat → Int32) (u v u2 : Nat → Int32) : va_up (stV V u v) 55 u2 = stV V u2 v := by
  funext q
  by_cases e : q = 55
  · subst e; rfl
  · by_cases e2 : q = 56
    · subst e2; rfl
    · show (if q = 55 then _ else (if q = 56 then _ else (if q = 55 then _ else _))) = (if q = 56 then _ else (if q = 55 then _ else _))
      rw [if_neg e, if_neg e2, if_neg e, if_neg e2, if_neg e]
theorem plF (hs : MHs h) (hT : MHt h t) (hCt : CHt h t (V 4) (V 5) (V 6) (V 7) (V 8)) (hw : whOK h wh N) (hS : S 4903 = nI N) (hA : AE h t ru wh N V) {oil : Nat} (ho : oil ≤ 30) : ∀ (j k d : Nat) (ws : Nat → Nat) (u v : Nat → Int32) (st : Wst), k + j = N → j < d → (∀ i, i < k → u i = nI (ws i)) → (∀ i, i < k → ws i < 16) → (∀ i, i < k → fitW h t ru wh N ws i (ws i)) → Bst N st v → ∃ u2 v2, fX0_placeFrom_49 d (stS S st) (stV V u v) (nI k) (zI (slW h t wh oil ws k)) = some (stS S (nfW h t ru wh N oil j k ws st), stV V u2 v2) ∧ (∀ i, i < k → u2 i = u i) ∧ Bst N (nfW h t ru wh N oil j k ws st) v2 := by
  have hN := hw.1
  have h46 := hs.2.2.2.2.1
  intro j
  induction j with
  | zero =>
    intro k d ws u v st c1 c2 c3 c4 c5 c6
    obtain ⟨d, rfl⟩ : ∃ z, d = z + 1 := ⟨d - 1, by omega⟩
    have hk : k = N := by omega
    subst hk
    have sb := sl_b hs hT hw ho ws (Nat.le_refl k)
    have m0 : V 54 k = 0 := by
      rw [hA.2.2.2.2 k (Nat.le_refl _), Nat.sub_self]
      rfl
    have c61 := c6.1
    show ∃ u2 v2, fX0_placeFrom_49_b (fX0_placeFrom_49 d) (stS S st) (stV V u v) (nI k) (zI (slW h t wh oil ws k)) = some (stS S (stpW h t ru wh k oil ws st), stV V u2 v2) ∧ _ ∧ Bst k (stpW h t ru wh k oil ws st) v2
    unfold fX0_placeFrom_49_b
    rw [gd_n k 5 (by omega) (by decide), nI_cl k (by omega), show stV V u v 54 k = 0 from m0, show stS S st 4910 = nI st.1 from rfl, show stS S st 4903 = nI k from hS, if_neg (nI_nlt (Nat.le_refl k) (by omega)), Int32.add_zero, zI_neg, nI_z st.1]
    by_cases d1 : (st.1 : Int) ≤ slW h t wh oil ws k
    · rw [if_pos ((zI_le (by omega) (by omega) (by omega) (by omega)).mpr d1)]
      have e : stpW h t ru wh k oil ws st = st := @if_neg _ (Classical.propDecidable _) (fun z => by have := z.2; omega) _ _ _
      rw [e]
      exact ⟨u, v, rfl, fun _ _ => rfl, c6⟩
    · rw [if_neg (fun z => d1 ((zI_le (by omega) (by omega) (by omega) (by omega)).mp z))]
      by_cases d2 : -slW h t wh oil ws k < (st.1 : Int)
      · rw [if_pos ((zI_lt (by omega) (by omega) (by omega) (by omega)).mpr d2)]
        obtain ⟨k1, k2⟩ := keepC (V := stV V u v) (S := stS S st) (z := slW h t wh oil ws k) hT hw hS hA c3 c4 (fun i hi => (c5 i hi).1) (by omega) (by omega)
        by_cases hl : leafW h t ru wh k ws
        · have hv := (vld_iff (ru := ru) hT hw c4).mpr ⟨c5, hl⟩
          have e : stpW h t ru wh k oil ws st = ((slW h t wh oil ws k).natAbs, ws) := @if_pos _ (Classical.propDecidable _) ⟨hv, by omega⟩ _ _ _
          rw [k1 hl, bd2_s, e]
          refine ⟨u, va_cpy u v 0 0 k, ?_, fun _ _ => rfl, by show (slW h t wh oil ws k).natAbs ≤ 1000000; omega, fun _ i hi => ?_⟩
          · show some (va_up (va_up S 4910 (nI st.1)) 4910 (nI (slW h t wh oil ws k).natAbs), va_up (va_up (va_up V 55 u) 56 v) 56 (va_cpy u v 0 0 k)) = _
            rw [va_up_up, va_up_up]
          · rw [cpy_at hi]
            exact c3 i hi
        · have e : stpW h t ru wh k oil ws st = st := @if_neg _ (Classical.propDecidable _) (fun z => hl ((vld_iff (ru := ru) hT hw c4).mp z.1).2) _ _ _
          rw [k2 hl, bd2_s, e]
          exact ⟨u, v, rfl, fun _ _ => rfl, c6⟩
      · rw [if_neg (fun z => d2 ((zI_lt (by omega) (by omega) (by omega) (by omega)).mp z))]
        have e : stpW h t ru wh k oil ws st = st := @if_neg _ (Classical.propDecidable _) (fun z => by have := z.2; omega) _ _ _
        rw [e]
        exact ⟨u, v, rfl, fun _ _ => rfl, c6⟩
  | succ j ih =>
    intro k d ws u v st c1 c2 c3 c4 c5 c6
    obtain ⟨d, rfl⟩ : ∃ z, d = z + 1 := ⟨d - 1, by omega⟩
    have hk : k < N := by omega
    have sb := sl_b hs hT hw ho ws (show k ≤ N by omega)
    have mb := mb_b hT hw (j + 1) k (by omega)
    have m0 : V 54 k = nI (mbW t wh k (j + 1)) := by
      rw [hA.2.2.2.2 k (by omega), show N - k = j + 1 by omega]
    have c61 := c6.1
    have ext : ∀ ws' : Nat → Nat, (∀ i, i < k → ws' i = ws i) → slW h t wh oil ws k ≤ slW h t wh oil ws' N ∧ slW h t wh oil ws' N ≤ slW h t wh oil ws k + ((mbW t wh k (j + 1) : Nat) : Int) := fun ws' a1 => by
      have := sl_more (h := h) (t := t) (wh := wh) oil ws' (j + 1) k
      rw [show k + (j + 1) = N by omega, sl_cong (fun i hi => a1 i hi)] at this
      exact this
    show ∃ u2 v2, fX0_placeFrom_49_b (fX0_placeFrom_49 d) (stS S st) (stV V u v) (nI k) (zI (slW h t wh oil ws k)) = some (stS S (nfW h t ru wh N oil (j + 1) k ws st), stV V u2 v2) ∧ _ ∧ _
    unfold fX0_placeFrom_49_b
    rw [gd_n k 5 (by omega) (by decide), nI_cl k (by omega), show stV V u v 54 k = nI (mbW t wh k (j + 1)) from m0, show stS S st 4910 = nI st.1 from rfl, show stS S st 4903 = nI N from hS, if_pos (nI_lt hk (by omega)), nI_z (mbW t wh k (j + 1)), zI_add, zI_neg, nI_z st.1]
    by_cases d1 : (st.1 : Int) ≤ slW h t wh oil ws k
    · rw [if_pos ((zI_le (by omega) (by omega) (by omega) (by omega)).mpr d1), nf_id (j + 1) k ws st c4 (fun ws' a1 a2 z => by
        have := (ext ws' a1).1
        have := z.2
        omega)]
      exact ⟨u, v, rfl, fun _ _ => rfl, c6⟩
    · rw [if_neg (fun z => d1 ((zI_le (by omega) (by omega) (by omega) (by omega)).mp z))]
      by_cases d2 : -(slW h t wh oil ws k + ((mbW t wh k (j + 1) : Nat) : Int)) < (st.1 : Int)
      · rw [if_pos ((zI_lt (by omega) (by omega) (by omega) (by omega)).mpr d2)]
        have L : ∀ (m s f : Nat) (u v : Nat → Int32) (st : Wst), s + m = 16 → m < f → (∀ i, i < k → u i = nI (ws i)) → Bst N st v → ∃ u2 v2, fX0_placeFrom_49_L41 (fX0_placeFrom_49 d) f (nI k) (zI (slW h t wh oil ws k)) (nI s) (stS S st) (stV V u v) = some (stS S (itF (fun s st => nfW h t ru wh N oil j (k + 1) (va_up ws k s) st) s m st), stV V u2 v2) ∧ (∀ i, i < k → u2 i = u i) ∧ Bst N (itF (fun s st => nfW h t ru wh N oil j (k + 1) (va_up ws k s) st) s m st) v2 := by
          intro m
          induction m with
          | zero =>
            intro s f u v st e1 e2 e3 e4
            obtain ⟨f, rfl⟩ : ∃ z, f = z + 1 := ⟨f - 1, by omega⟩
            refine ⟨u, v, ?_, fun _ _ => rfl, e4⟩
            rw [fX0_placeFrom_49_L41, if_pos (show 16 ≤ nI s from nI_le (a := 16) (b := s) (by omega) (by omega))]
            rfl
          | succ m ihm =>
            intro s f u v st e1 e2 e3 e4
            obtain ⟨f, rfl⟩ : ∃ z, f = z + 1 := ⟨f - 1, by omega⟩
            have h16u : ∀ q, q < 16 → ∀ i, i < k + 1 → va_up ws k q i < 16 := fun q hq i hi => by
              by_cases e : i = k
              · rw [e, va_up_self]; exact hq
              · rw [va_up_ne _ _ e]; exact c4 i (by omega)
            rw [fX0_placeFrom_49_L41, if_neg (show ¬ 16 ≤ nI s from nI_ge (a := s) (b := 16) (by omega) (by decide)), show stS S st 4910 = nI st.1 from rfl]
            have e41 := e4.1
            by_cases hb : st.1 = 0
            · rw [if_pos (by rw [hb]; decide)]
              refine ⟨u, v, ?_, fun _ _ => rfl, ?_⟩
              · rw [it_id1 (m + 1) s st (fun q q1 q2 => nf_id j (k + 1) _ st (h16u q (by omega)) (fun ws' _ _ z => by have := z.2; omega))]
              · rw [it_id1 (m + 1) s st (fun q q1 q2 => nf_id j (k + 1) _ st (h16u q (by omega)) (fun ws' _ _ z => by have := z.2; omega))]
                exact e4
            · rw [if_neg (fun z => hb ((nI_le0 (by omega)).mp z))]
              obtain ⟨b, f1, f2⟩ := fitsC (V := stV V u v) (ws := ws) (k := k) (s := s) hT hw hA hk (by omega) e3 c4 (fun i hi => (c5 i hi).1)
              rw [f1, bd1_s]
              simp only [bk_e, lt_e]
              cases b with
              | false =>
                have hnf : ¬ fitW h t ru wh N ws k s := fun z => by cases f2.mpr z
                have idn : nfW h t ru wh N oil j (k + 1) (va_up ws k s) st = st := nf_id j (k + 1) _ st (h16u s (by omega)) (fun ws' a1 a2 z => by
                  have hv := (vld_iff (ru := ru) hT hw (fun i hi => a2 i (by omega))).mp z.1
                  have hf := hv.1 k hk
                  rw [a1 k (by omega), va_up_self] at hf
                  exact hnf (fit_cong (fun i hi => by rw [a1 i (by omega), va_up_ne _ _ (by omega)]) hf))
                rw [if_pos (show bI false = 0 from rfl), itF, idn, nI_1]
                exact ihm (s + 1) f u v st (by omega) (by omega) e3 e4
              | true =>
                have hfit := f2.mp rfl
                have hu2 : ∀ i, i < k → upd u k (nI s) i = nI (ws i) := fun i hi => by rw [upd_ne _ _ (by omega)]; exact e3 i hi
                have ad := addsC (V := stV V (upd u k (nI s)) v) (ws := ws) (k := k) (s := s) hT h46 hCt hw hA hk (by omega) hu2 c4 (fun i hi => (c5 i hi).1) hfit.1
                obtain ⟨u3, v3, r1, r2, r3⟩ := ih (k + 1) d (va_up ws k s) (upd u k (nI s)) v st (by omega) (by omega) (fun i hi => by
                  by_cases e : i = k
                  · rw [e, upd_same, va_up_self]
                  · rw [upd_ne _ _ e, va_up_ne _ _ e]; exact e3 i (by omega)) (h16u s (by omega)) (fun i hi => by
                  by_cases e : i = k
                  · rw [e, va_up_self]
                    exact fit_cong (fun q hq => (va_up_ne _ _ (by omega)).symm) hfit
                  · rw [va_up_ne _ _ e]
                    exact fit_cong (fun q hq => (va_up_ne _ _ (by omega)).symm) (c5 i (by omega))) e4
                rw [if_neg (show ¬ bI true = 0 by decide), gd_n k 4 (by omega) (by decide), nI_cl k (by omega), stV_55, show stV V u v 55 = u from rfl, ad, bd1_s, nI_1, nI_z (adW t wh 12 ws k s), zI_add, ← sl_up (h := h) (oil := oil), r1, bd2_s, nI_1]
                obtain ⟨u4, v4, q1, q2, q3⟩ := ihm (s + 1) f u3 v3 (nfW h t ru wh N oil j (k + 1) (va_up ws k s) st) (by omega) (by omega) (fun i hi => by rw [r2 i (by omega)]; exact hu2 i hi) r3
                refine ⟨u4, v4, q1, fun i hi => ?_, q3⟩
                rw [q2 i hi, r2 i (by omega), upd_ne _ _ (by omega)]
        have := L 16 0 FU u v st (by omega) (by unfold FU; omega) c3 c6
        rw [nI_0] at this
        exact this
      · rw [if_neg (fun z => d2 ((zI_lt (by omega) (by omega) (by omega) (by omega)).mp z)), nf_id (j + 1) k ws st c4 (fun ws' a1 a2 z => by
          have := (ext ws' a1).2
          have := z.2
          omega)]
        exact ⟨u, v, rfl, fun _ _ => rfl, c6⟩
end PL
