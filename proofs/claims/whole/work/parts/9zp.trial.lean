/-! ===== the trial row ===== -/
def ML4 (h : Nat → Nat) (n : Nat) (le : Nat → Nat → Nat) : Prop := n ≤ 4 ∧ (∀ i, i < n → le i 0 < h 4 ∧ le i 1 < 3 ∧ le i 2 ≤ le i 3 ∧ le i 3 < 24) ∧
  ∀ i j hr, i < j → j < n → le i 2 ≤ hr → hr ≤ le i 3 → le j 2 ≤ hr → hr ≤ le j 3 → le i 1 ≠ le j 1 ∧ le i 0 ≠ le j 0
theorem inOf14_loop {V : Nat → Nat → Int32} {le : Nat → Nat → Nat} {n x hr : Nat} {E : Int32 → Option Int32} (hn : n ≤ 4) (hR : ∀ i, i < n → V 14 (4 * i) = nI (le i 0) ∧ V 14 (4 * i + 1) = nI (le i 1) ∧ V 14 (4 * i + 2) = nI (le i 2) ∧ V 14 (4 * i + 3) = nI (le i 3)) (hb : ∀ i, i < n → le i 1 < 3 ∧ le i 2 < 24 ∧ le i 3 < 24) (hx : x < 3) (hh : hr < 24) :
    ∀ (k i m : Nat), i + k = n → k < m → fX12_inOf_14_L3 E V m (nI n) (nI x) (nI hr) (nI i) = (match fst1 (covL le x hr) i k with
      | some j => E (nI j)
      | none => some (-1)) := by
  intro k
  induction k with
  | zero =>
    intro i m h1 h2
    obtain ⟨m, rfl⟩ : ∃ m', m = m' + 1 := ⟨m - 1, by omega⟩
    unfold fX12_inOf_14_L3
    rw [if_pos (nI_le (a := n) (b := i) (by omega) (by omega))]
    rfl
  | succ k ih =>
    intro i m h1 h2
    obtain ⟨m, rfl⟩ : ∃ m', m = m' + 1 := ⟨m - 1, by omega⟩
    have hi : i < n := by omega
    obtain ⟨r0, r1, r2, r3⟩ := hR i hi
    obtain ⟨b1, b2, b3⟩ := hb i hi
    have ihn := ih (i + 1) m (by omega) (by omega)
    unfold fX12_inOf_14_L3 fst1
    simp (disch := omega) only [lt_e, bk_e, bd0_s, bd1_s, bd2_s, bd3_s, bd4_s, bdx_l, bdx_r, gd_tt, nI_ltI, nI_leI, nI_eq, nI_lt0, nI_ge0, nI_le0, nI_gt0, nI_eq0, nI_eq1, nI_lt1, nI_le1, nI_gt1, nI_ge1, nI_l1, nI_s1, nI_1, nI_a0, nI_0a, nI_add, nI_mul, nI_sub, nI_cl, gd_n, nI_em1, q_l2, q_l3, q_l4, q_l5, q_l6, q_l7, q_l8, q_l9, q_l10, q_l11, q_l12, q_l13, q_l14, q_l15, q_l16, q_l17, q_l18, q_l19, q_l20, q_l21, q_l22, q_l23, q_l24, q_l30, q_l31, q_l32, q_l40, q_l41, q_l45, q_l48, q_l49, q_l60, q_l63, q_l64, q_l72, q_l84, q_l96, q_l99, q_l100, q_l255, q_l343, q_l400, q_l500, q_l600, q_l800, q_l1000, q_l1440, q_l1600, q_l4095, q_l9999, q_l10000, q_l10001, q_l20000, q_l32767, q_l1000000, r1, r2, r3, ihn]
    rw [if_neg (by omega)]
    by_cases c1 : covL le x hr i = true
    · obtain ⟨q1, q2, q3⟩ : le i 1 = x ∧ le i 2 ≤ hr ∧ hr ≤ le i 3 := of_decide_eq_true c1
      rw [if_pos c1, if_pos q1, if_neg (by omega), if_neg (by omega)]
    · have c2 : ¬ (le i 1 = x ∧ le i 2 ≤ hr ∧ hr ≤ le i 3) := fun h => c1 (decide_eq_true h)
      rw [if_neg c1]
      by_cases d1 : le i 1 = x
      · rw [if_pos d1]
        by_cases d2 : hr < le i 2
        · rw [if_pos d2]
        · rw [if_neg d2, if_pos (by omega)]
      · rw [if_neg d1]
theorem inOf14 {V : Nat → Nat → Int32} {le : Nat → Nat → Nat} {n x hr : Nat} (hn : n ≤ 4) (hR : ∀ i, i < n → V 14 (4 * i) = nI (le i 0) ∧ V 14 (4 * i + 1) = nI (le i 1) ∧ V 14 (4 * i + 2) = nI (le i 2) ∧ V 14 (4 * i + 3) = nI (le i 3)) (hb : ∀ i, i < n → le i 1 < 3 ∧ le i 2 < 24 ∧ le i 3 < 24) (hx : x < 3) (hh : hr < 24) :
    fX12_inOf_14 V (nI n) (nI x) (nI hr) = some (match occL le n x hr with
      | some i => nI (le i 0)
      | none => -1) := by
  unfold fX12_inOf_14
  simp only [bk_e]
  have h := inOf14_loop (E := fun x23 => lt ((4 : Int32) * x23) (fun x24 => gd (ib x24 16) (some (V 14 x24.toNatClampNeg)))) hn hR hb hx hh n 0 FU (by omega) (by unfold FU; omega)
  rw [nI_0] at h
  rw [h]
  unfold occL
  cases ho : fst1 (covL le x hr) 0 n with
  | none => rfl
  | some j =>
    obtain ⟨h1, -⟩ := occ_lt ho
    have e0 := (hR j h1).1
    simp (disch := omega) only [lt_e, bk_e, bd0_s, bd1_s, bd2_s, bd3_s, bd4_s, bdx_l, bdx_r, gd_tt, nI_ltI, nI_leI, nI_eq, nI_lt0, nI_ge0, nI_le0, nI_gt0, nI_eq0, nI_eq1, nI_lt1, nI_le1, nI_gt1, nI_ge1, nI_l1, nI_s1, nI_1, nI_a0, nI_0a, nI_add, nI_mul, nI_sub, nI_cl, gd_n, nI_em1, q_l2, q_l3, q_l4, q_l5, q_l6, q_l7, q_l8, q_l9, q_l10, q_l11, q_l12, q_l13, q_l14, q_l15, q_l16, q_l17, q_l18, q_l19, q_l20, q_l21, q_l22, q_l23, q_l24, q_l30, q_l31, q_l32, q_l40, q_l41, q_l45, q_l48, q_l49, q_l60, q_l63, q_l64, q_l72, q_l84, q_l96, q_l99, q_l100, q_l255, q_l343, q_l400, q_l500, q_l600, q_l800, q_l1000, q_l1440, q_l1600, q_l4095, q_l9999, q_l10000, q_l10001, q_l20000, q_l32767, q_l1000000, e0]
theorem allIn14_of {V : Nat → Nat → Int32} {N H : Int32} {a b c : Option Nat} (ha : okT 6 a) (hb : okT 6 b) (hc : okT 6 c) (e0 : fX12_inOf_14 V N 0 H = some (enc a)) (e1 : fX12_inOf_14 V N 1 H = some (enc b)) (e2 : fX12_inOf_14 V N 2 H = some (enc c)) : fX12_allIn_14 V N H = some (nI (bo a ||| bo b ||| bo c)) := by
  have st : ∀ (m : Nat) (x y : Nat) (acc : Nat) (o : Option Nat), x ≤ 2 → okT 6 o → fX12_inOf_14 V N (nI x) H = some (enc o) → fX12_allIn_14_L5 V (m + 1) N H (nI acc) (nI x) = fX12_allIn_14_L5 V m N H (nI (acc ||| bo o)) (nI (x + 1)) := by
    intro m x y acc o hx ho he
    rw [fX12_allIn_14_L5, if_neg (show ¬ 2 < nI x from nI_nlt (a := 2) (b := x) hx (by decide)), he]
    simp only [lt_e, bk_e, bd0_s, bd1_s, bd2_s, bd3_s, bd4_s, bdx_l, bdx_r, gd_tt]
    cases o with
    | none =>
      rw [if_pos (show enc none = -1 from rfl), show (0 : Int32) = nI 0 from rfl, fa_or, nI_1]
      rfl
    | some i =>
      have hi := ho i rfl
      rw [if_neg (show ¬ enc (some i) = -1 from nI_m1 (by omega)), show ((1 : Int32) <<< (enc (some i) &&& 31)) = nI (2 ^ i) from bit_lt (by omega), fa_or, nI_1]
      rfl
  obtain ⟨m, hm⟩ : ∃ m, FU = m + 1 + 1 + 1 + 1 := ⟨FU - 4, by unfold FU; rfl⟩
  unfold fX12_allIn_14
  rw [hm, show fX12_allIn_14_L5 V (m + 1 + 1 + 1 + 1) N H 0 0 = fX12_allIn_14_L5 V (m + 1 + 1 + 1 + 1) N H (nI 0) (nI 0) from rfl, st _ 0 0 0 a (by decide) ha e0, st _ 1 0 _ b (by decide) hb e1, st _ 2 0 _ c (by decide) hc e2, fX12_allIn_14_L5, if_pos (show 2 < nI (2 + 1) from nI_lt (a := 2) (b := 3) (by decide) (by decide)), Nat.zero_or]
section H14
variable {h : Nat → Nat} {t : Nat → Nat → Nat} {n : Nat} {le : Nat → Nat → Nat}
theorem who_ok4 (hM : ML4 h n le) (x hr : Nat) : okT (h 4) (whoL le n x hr) := fun a e => by
  obtain ⟨p, hp, -, -, -, rfl⟩ := who_spec e
  exact (hM.2.1 p hp).1
theorem who_apt4 (hM : ML4 h n le) {x y : Nat} (hxy : x ≠ y) (hr : Nat) : apt (whoL le n x hr) (whoL le n y hr) := fun i e1 e2 => by
  obtain ⟨p, hp, p1, p2, p3, p4⟩ := who_spec e1
  obtain ⟨q, hq, q1, q2, q3, q4⟩ := who_spec e2
  rcases Nat.lt_trichotomy p q with c | c | c
  · exact (hM.2.2 p q hr c hq p2 p3 q2 q3).2 (p4.trans q4.symm)
  · subst c; omega
  · exact (hM.2.2 q p hr c hp q2 q3 p2 p3).2 (q4.trans p4.symm)
theorem inOf24 {V : Nat → Nat → Int32} {x hr : Nat} (hM : ML4 h n le) (hR : RL2 n le (V 14)) (hx : x < 3) (hh : hr < 24) : fX12_inOf_14 V (nI n) (nI x) (nI hr) = some (enc (whoL le n x hr)) := by
  rw [inOf14 hM.1 hR (fun i hi => by obtain ⟨-, h1, h2, h3⟩ := hM.2.1 i hi; exact ⟨h1, by omega, h3⟩) hx hh]
  unfold whoL
  cases occL le n x hr <;> rfl
theorem allIn14 {V : Nat → Nat → Int32} {hr : Nat} (h46 : h 4 ≤ 6) (hM : ML4 h n le) (hR : RL2 n le (V 14)) (hh : hr < 24) : fX12_allIn_14 V (nI n) (nI hr) = some (nI (bo (whoL le n 0 hr) ||| bo (whoL le n 1 hr) ||| bo (whoL le n 2 hr))) :=
  allIn14_of (fun a e => Nat.lt_of_lt_of_le (who_ok4 hM 0 hr a e) h46) (fun a e => Nat.lt_of_lt_of_le (who_ok4 hM 1 hr a e) h46) (fun a e => Nat.lt_of_lt_of_le (who_ok4 hM 2 hr a e) h46) (inOf24 (x := 0) hM hR (by decide) hh) (inOf24 (x := 1) hM hR (by decide) hh) (inOf24 (x := 2) hM hR (by decide) hh)
theorem swOf14 {S : Nat → Int32} {V : Nat → Nat → Int32} (hs : MHs h) (hT : MHt h t) (hc : CHs h (S 1) (S 2) (S 3) (S 4) (S 5) (S 6) (S 7)) (hRt : RHt h t (V 1) (V 2)) (hM : ML4 h n le) (hR : RL2 n le (V 14)) {hr d : Nat} (hh : hr < 24) (hd : d < 10000) : fX12_swingOf_0_14 S V (nI n) (nI hr) (nI d) = some (nI (swH h t n le none hr (h 1 - d / h 2))) := by
  unfold fX12_swingOf_0_14 swH
  rw [allIn14 hs.2.2.2.2.1 hM hR hh, bd1_s, swBy hs hT hc hRt (who_ok4 hM 0 hr) (who_ok4 hM 1 hr) (who_ok4 hM 2 hr) (who_apt4 hM (by decide) hr) (who_apt4 hM (by decide) hr) (who_apt4 hM (by decide) hr) hd, bd1_s, pres_none, pres_none, pres_none]
theorem slowOf14 {S : Nat → Int32} {V : Nat → Nat → Int32} (hs : MHs h) (hT : MHt h t) (hc : CHs h (S 1) (S 2) (S 3) (S 4) (S 5) (S 6) (S 7)) (hRt : RHt h t (V 1) (V 2)) (hM : ML4 h n le) (hR : RL2 n le (V 14)) {f g d : Nat} (hfg : f ≤ g + 1) (hg : g < 24) (hd : d < 10000) : fX12_slowOf_0_14 S V (nI n) (nI f) (nI g) (nI d) = some (slF (fun hr => nI (swH h t n le none hr (h 1 - d / h 2))) f (g + 1 - f) 0) := by
  have L : ∀ (j i m : Nat) (acc : Int32), i + j = g + 1 → j < m → fX12_slowOf_0_14_L6 S V m (nI n) (nI g) (nI d) acc (nI i) = some (slF (fun hr => nI (swH h t n le none hr (h 1 - d / h 2))) i j acc) := by
    intro j
    induction j with
    | zero =>
      intro i m acc e1 e2
      obtain ⟨m, rfl⟩ : ∃ m', m = m' + 1 := ⟨m - 1, by omega⟩
      unfold fX12_slowOf_0_14_L6
      rw [if_pos (nI_lt (a := g) (b := i) (by omega) (by omega))]
      rfl
    | succ j ih =>
      intro i m acc e1 e2
      obtain ⟨m, rfl⟩ : ∃ m', m = m' + 1 := ⟨m - 1, by omega⟩
      unfold fX12_slowOf_0_14_L6
      rw [if_neg (nI_nlt (a := g) (b := i) (by omega) (by omega)), swOf14 hs hT hc hRt hM hR (by omega) hd]
      simp only [lt_e, bk_e, bd0_s, bd1_s, bd2_s, bd3_s, bd4_s, bdx_l, bdx_r, gd_tt, nI_1]
      exact ih (i + 1) m _ (by omega) (by omega)
  exact L (g + 1 - f) f FU 0 (by omega) (by unfold FU; omega)
theorem evR14 {V : Nat → Nat → Int32} {va : Nat → Nat} {N l hr : Int32} (hva : ∀ q, q < 6 → ∀ f, fX12_valueOf_0_14 (va_up V 15 f) (nI q) N l hr = some (nI (va q))) {E : (Nat → Nat → Int32) → Option (Int32 × (Nat → Nat → Int32))} : ∀ (ps : List Nat) (st : List Int32) (f : Nat → Int32) (i m k2 : Nat), stR f st → st.length ≤ 40 → htL ps st.length = some k2 → (∀ j p, (ps.flatMap trT ++ [0])[j]? = some p → V 4 (i + j) = nI p) → i + (ps.flatMap trT).length + 1 ≤ 1600 → ps.length < m →
    ∃ f2, stR f2 (evL va ps st) ∧ (evL va ps st).length = k2 ∧ fX12_reckons_0_14_L6 E m N l hr (nI st.length) (nI i) (va_up V 15 f) = E (va_up V 15 f2) := by
  intro ps
  induction ps with
  | nil =>
    intro st f i m k2 s1 s2 s3 s4 s5 s6
    obtain ⟨m, rfl⟩ : ∃ z, m = z + 1 := ⟨m - 1, by omega⟩
    refine ⟨f, s1, Option.some.inj s3, ?_⟩
    have e : V 4 i = nI 0 := s4 0 0 rfl
    have s5' : i + 0 + 1 ≤ 1600 := s5
    rw [fX12_reckons_0_14_L6, gd_n i 1600 (by omega) (by decide), nI_cl i (by omega), va_up_ne _ _ (show (4 : Nat) ≠ 15 by decide), e, if_pos nI_0]
  | cons p ps ih =>
    intro st f i m k2 s1 s2 s3 s4 s5 s6
    obtain ⟨m, rfl⟩ : ∃ z, m = z + 1 := ⟨m - 1, by omega⟩
    have hl : (p :: ps).length = ps.length + 1 := rfl
    rw [hl] at s6
    obtain ⟨k1, t1, t2⟩ : ∃ k1, htT p st.length = some k1 ∧ htL ps k1 = some k2 := by
      unfold htL at s3
      cases hh : htT p st.length with
      | none => rw [hh] at s3; cases s3
      | some k1 => rw [hh] at s3; exact ⟨k1, rfl, s3⟩
    have hk1 := htT_le s2 t1
    rw [List.flatMap_cons] at s4 s5
    rw [List.length_append] at s5
    have s4' : ∀ w, (trT p).length = w → ∀ j q, (ps.flatMap trT ++ [0])[j]? = some q → V 4 (i + w + j) = nI q := fun w hw j q hq => by
      have := s4 (w + j) q (by
        rw [List.append_assoc, List.getElem?_append_right (by omega), show w + j - (trT p).length = j by omega]
        exact hq)
      rwa [show i + (w + j) = i + w + j by omega] at this
    have s40 : ∀ j q, (trT p)[j]? = some q → V 4 (i + j) = nI q := fun j q hq => s4 j q (by
      rw [List.append_assoc, List.getElem?_append_left (List.getElem?_eq_some_iff.mp hq).1]
      exact hq)
    have fin : ∀ (w : Nat) (st2 : List Int32) (g : Nat → Int32), (trT p).length = w → st2 = evT va p st → st2.length = k1 → stR g st2 → fX12_reckons_0_14_L6 E (m + 1) N l hr (nI st.length) (nI i) (va_up V 15 f) = fX12_reckons_0_14_L6 E m N l hr (nI st2.length) (nI (i + w)) (va_up V 15 g) → ∃ f2, stR f2 (evL va (p :: ps) st) ∧ (evL va (p :: ps) st).length = k2 ∧ fX12_reckons_0_14_L6 E (m + 1) N l hr (nI st.length) (nI i) (va_up V 15 f) = E (va_up V 15 f2) := by
      intro w st2 g q0 q1 q2 q3 q4
      obtain ⟨f2, r1, r2, r3⟩ := ih st2 g (i + w) m k2 q3 (by omega) (by rw [q2]; exact t2) (s4' w q0) (by omega) (by omega)
      refine ⟨f2, ?_, ?_, q4.trans r3⟩
      · show stR f2 (evL va ps (evT va p st))
        rw [← q1]; exact r1
      · show (evL va ps (evT va p st)).length = k2
        rw [← q1]; exact r2
    rcases htT_cases t1 with ⟨a1, a2, a3⟩ | ⟨a1, a2, a3, a4⟩ | ⟨a1, a2, a3⟩ | ⟨a1, a2, a3, a4, a5⟩
    · rw [trT_1 a1] at s5 s40
      have e0 : V 4 i = nI 1 := s40 0 1 rfl
      have e1 : V 4 (i + 1) = nI p := s40 1 p rfl
      have s5' : i + (2 + (ps.flatMap trT).length) + 1 ≤ 1600 := s5
      refine fin 2 (nI p :: st) (upd f st.length (nI p)) (by rw [trT_1 a1]; rfl) (by unfold evT; rw [if_pos a1]) (by rw [List.length_cons]; omega) ⟨upd_same _ _ _, stR_upd (Nat.le_refl _) s1⟩ ?_
      rw [fX12_reckons_0_14_L6]
      simp (disch := omega) only [lt_e, bk_e, gd_n, nI_cl, va_up_ne _ _ (show (4 : Nat) ≠ 15 by decide), va_up_self, va_up_up, e0, nI_1]
      rw [if_neg (by decide), if_pos (show nI 1 = 1 from rfl), if_pos (show nI 1 = 1 from rfl), e1]
      rfl
    · rw [trT_2 a1 (by omega)] at s5 s40
      have e0 : V 4 i = nI 2 := s40 0 2 rfl
      have e1 : V 4 (i + 1) = nI (p - 10000) := s40 1 (p - 10000) rfl
      have s5' : i + (2 + (ps.flatMap trT).length) + 1 ≤ 1600 := s5
      refine fin 2 (nI (va (p - 10000)) :: st) (upd f st.length (nI (va (p - 10000)))) (by rw [trT_2 a1 (by omega)]; rfl) (by unfold evT; rw [if_neg (show ¬ p < 10000 by omega), if_pos (show p < 20000 by omega)]) (by rw [List.length_cons]; omega) ⟨upd_same _ _ _, stR_upd (Nat.le_refl _) s1⟩ ?_
      rw [fX12_reckons_0_14_L6]
      simp (disch := omega) only [lt_e, bk_e, gd_n, nI_cl, va_up_ne _ _ (show (4 : Nat) ≠ 15 by decide), va_up_self, va_up_up, e0, e1, nI_1]
      rw [if_neg (by decide), if_neg (by decide), if_pos (show nI 2 = 2 from rfl), if_neg (by decide), hva (p - 10000) (by omega), bd1_s]
      rfl
    · rw [trT_3 (by omega)] at s5 s40
      have e0' : V 4 i = nI (opR p) := s40 0 (opR p) rfl
      have e0 : V 4 i = nI 3 := by rw [e0', a1]; rfl
      have s5' : i + (1 + (ps.flatMap trT).length) + 1 ≤ 1600 := s5
      cases st with
      | nil => exact absurd a2 (by decide)
      | cons a r =>
        have hlr : (a :: r).length = r.length + 1 := rfl
        rw [hlr] at s2 a2 fin ⊢
        have s11 := s1.1
        refine fin 1 ((if a = 0 then 1 else 0) :: r) (upd f r.length (if a = 0 then 1 else 0)) (by rw [trT_3 (by omega)]; rfl) (by unfold evT; rw [if_neg (show ¬ p < 10000 by omega), if_neg (show ¬ p < 20000 by omega), if_pos a1]) (by rw [List.length_cons]; omega) ⟨upd_same _ _ _, stR_upd (Nat.le_refl _) s1.2⟩ ?_
        rw [fX12_reckons_0_14_L6]
        simp (disch := omega) only [lt_e, bk_e, nI_dec, gd_n, nI_cl, va_up_ne _ _ (show (4 : Nat) ≠ 15 by decide), va_up_self, va_up_up, e0, nI_1, s11]
        rw [if_neg (by decide), if_neg (by decide), if_neg (by decide), if_pos (show nI 3 = 3 from rfl)]
        split <;> rfl
    · rw [trT_3 (by omega)] at s5 s40
      have e0 : V 4 i = nI (opR p) := s40 0 (opR p) rfl
      obtain ⟨o1, o2⟩ := opR_b a1 a2 a3
      have s5' : i + (1 + (ps.flatMap trT).length) + 1 ≤ 1600 := s5
      cases st with
      | nil => exact absurd a4 (by decide)
      | cons b r0 =>
        cases r0 with
        | nil => exact absurd a4 (by simp)
        | cons a r =>
          have hlr : (b :: a :: r).length = r.length + 1 + 1 := rfl
          rw [hlr] at s2 a4 a5 fin ⊢
          obtain ⟨sb1, sb2, sb3⟩ := s1
          have sb1' : f (r.length + 1) = b := sb1
          refine fin 1 (jnT p a b :: r) (upd f r.length (jnT p a b)) (by rw [trT_3 (by omega)]; rfl) (by unfold evT; rw [if_neg (show ¬ p < 10000 by omega), if_neg (show ¬ p < 20000 by omega), if_neg a3]) (by rw [List.length_cons]; omega) ⟨upd_same _ _ _, stR_upd (Nat.le_refl _) sb3⟩ ?_
          rw [fX12_reckons_0_14_L6]
          simp (disch := omega) only [lt_e, bk_e, show nI (r.length + 1 + 1) + -1 = nI (r.length + 1) by rw [← nI_dec (r.length + 1)]; grind, nI_dec, gd_n, nI_cl, va_up_ne _ _ (show (4 : Nat) ≠ 15 by decide), va_up_self, va_up_up, e0, nI_1, sb1', sb2]
          rw [if_neg (nI_ne0 (by omega) (by omega)), if_neg (show ¬ nI (opR p) = 1 from fun q => by have := (nI_eq (a := opR p) (b := 1) (by omega) (by decide)).mp q; omega), if_neg (show ¬ nI (opR p) = 2 from fun q => by have := (nI_eq (a := opR p) (b := 2) (by omega) (by decide)).mp q; omega), if_neg (show ¬ nI (opR p) = 3 from fun q => by have := (nI_eq (a := opR p) (b := 3) (by omega) (by decide)).mp q; omega), works_eq a1 a2 a3, bd1_s]
          rfl
theorem valR14 {V : Nat → Nat → Int32} (hs : MHs h) (hT : MHt h t) (hRt : RHt h t (V 1) (V 2)) (hM : ML4 h n le) (hR : RL2 n le (V 14)) {k hr : Nat} (hk : k < n) (hh : hr < 24) : ∀ q, q < 6 → fX12_valueOf_0_14 V (nI q) (nI n) (nI k) (nI hr) = some (nI (vaL t n le k hr q)) := by
  have h46 := hs.2.2.2.2.1
  obtain ⟨m0, m1, m2, m3⟩ := hM.2.1 k hk
  obtain ⟨r0, r1, r2, r3⟩ := hR k hk
  have hn := hM.1
  have tt := hRt (le k 0) m0
  intro q hq
  unfold fX12_valueOf_0_14
  simp only [lt_e, nI_41, nI_42, nI_43]
  simp (disch := omega) only [nI_40, gd_n, nI_cl, r0, r1, r2, r3]
  rcases (show q = 0 ∨ q = 1 ∨ q = 2 ∨ q = 3 ∨ q = 4 ∨ q = 5 by omega) with rfl | rfl | rfl | rfl | rfl | rfl
  · rw [if_pos (show nI 0 = 0 from nI_0), tt.1]
    rfl
  · rw [if_neg (by decide), if_pos (show nI 1 = 1 from rfl)]
    rfl
  · rw [if_neg (by decide), if_neg (by decide), if_pos (show nI 2 = 2 from rfl)]
    rfl
  · rw [if_neg (by decide), if_neg (by decide), if_neg (by decide), if_pos (show nI 3 = 3 from rfl), nI_sub m2, nI_1]
    rfl
  · rw [if_neg (by decide), if_neg (by decide), if_neg (by decide), if_neg (by decide), if_pos (show nI 4 = 4 from rfl)]
    have i0 : fX12_inOf_14 V (nI n) 0 (nI hr) = _ := inOf24 (x := 0) hM hR (by decide) hh
    have i1 : fX12_inOf_14 V (nI n) 1 (nI hr) = _ := inOf24 (x := 1) hM hR (by decide) hh
    show _ = some (nI ((if le k 1 = 0 then 0 else wOf t (whoL le n 0 hr)) + (if le k 1 = 1 then 0 else wOf t (whoL le n 1 hr))))
    by_cases c2 : 2 ≤ le k 1
    · rw [if_pos (show 2 ≤ nI (le k 1) from nI_le (a := 2) (b := le k 1) c2 (by omega)), i0, bd1_s, wtR h46 hRt (who_ok4 hM 0 hr), bd1_s, i1, bd1_s, wtR h46 hRt (who_ok4 hM 1 hr), bd1_s, nI_add, if_neg (by omega), if_neg (by omega)]
    · rw [if_neg (show ¬ 2 ≤ nI (le k 1) from nI_ge (a := le k 1) (b := 2) (by omega) (by decide))]
      rcases (show le k 1 = 0 ∨ le k 1 = 1 by omega) with e | e
      · rw [e, show (1 : Int32) - nI 0 = 1 from by decide, i1, bd1_s, wtR h46 hRt (who_ok4 hM 1 hr), bd1_s, if_pos rfl, if_neg (by decide), Nat.zero_add]
      · rw [e, show (1 : Int32) - nI 1 = 0 from by decide, i0, bd1_s, wtR h46 hRt (who_ok4 hM 0 hr), bd1_s, if_neg (by decide), if_pos rfl, Nat.add_zero]
  · rw [if_neg (by decide), if_neg (by decide), if_neg (by decide), if_neg (by decide), if_neg (by decide)]
    have i0 : fX12_inOf_14 V (nI n) 0 (nI hr) = _ := inOf24 (x := 0) hM hR (by decide) hh
    have i1 : fX12_inOf_14 V (nI n) 1 (nI hr) = _ := inOf24 (x := 1) hM hR (by decide) hh
    have i2 : fX12_inOf_14 V (nI n) 2 (nI hr) = _ := inOf24 (x := 2) hM hR (by decide) hh
    have k6 : ∀ o, okT (h 4) o → okT 6 o := fun o ho x e => by have := ho x e; omega
    have k8 : ∀ o, okT (h 4) o → okT 8 o := fun o ho x e => by have := ho x e; omega
    rw [allIn14_of (k6 _ (who_ok4 hM 0 hr)) (k6 _ (who_ok4 hM 1 hr)) (k6 _ (who_ok4 hM 2 hr)) i0 i1 i2, bd1_s, tt.2.2.2.2, fa_and, bits_eq, bd1_s, ct_and, smF_set (k8 _ (who_ok4 hM 0 hr)) (k8 _ (who_ok4 hM 1 hr)) (k8 _ (who_ok4 hM 2 hr)) (who_apt4 hM (by decide) hr) (who_apt4 hM (by decide) hr) (who_apt4 hM (by decide) hr)]
    show _ = some (nI (qOf t (le k 0) (whoL le n 0 hr) + qOf t (le k 0) (whoL le n 1 hr) + qOf t (le k 0) (whoL le n 2 hr)))
    have g : ∀ o : Option Nat, gO (fun j => if (t (le k 0) 4).testBit j = true then 1 else 0) o = qOf t (le k 0) o := fun o => by cases o <;> rfl
    rw [g, g, g]
theorem reckR14 {V : Nat → Nat → Int32} {ru : Nat → List Nat} (hs : MHs h) (hT : MHt h t) (hRt : RHt h t (V 1) (V 2)) (hM : ML4 h n le) (hR : RL2 n le (V 14)) (hU : MU (h 6) ru) (hRU : RU (h 6) ru (V 4) (V 3)) {k hr r : Nat} (hk : k < n) (hh : hr < 24) (hr6 : r < h 6) (f : Nat → Int32) : ∃ f2, fX12_reckons_0_14 (va_up V 15 f) (V 3 r) (nI n) (nI k) (nI hr) = some (topR (vaL t n le k hr) ru r, va_up V 15 f2) := by
  obtain ⟨a, a1, a2, a3⟩ := hRU r hr6
  have hpl : (ru r).length ≤ ((ru r).flatMap trT).length := by
    generalize ru r = ps
    induction ps with
    | nil => exact Nat.le_refl _
    | cons p ps ih =>
      rw [List.flatMap_cons, List.length_append, List.length_cons]
      have : 1 ≤ (trT p).length := by
        unfold trT
        split
        · simp
        · split
          · simp
          · simp
      omega
  obtain ⟨f2, r1, r2, r3⟩ := evR14 (V := V) (va := vaL t n le k hr) (N := nI n) (l := nI k) (hr := nI hr) (fun q hq f => valR14 (V := va_up V 15 f) hs hT hRt hM hR hk hh q hq) (E := fun V73 => gd (ib (0 : Int32) 800) (some (V73 15 ((0 : Int32)).toNatClampNeg, V73))) (ru r) [] f a FU 1 trivial (by decide) (hU r hr6) a3 a2 (by unfold FU; omega)
  refine ⟨f2, ?_⟩
  unfold fX12_reckons_0_14
  simp only [bk_e]
  rw [show nI ([] : List Int32).length = 0 from nI_0] at r3
  rw [a1, r3, gd_t (by decide), va_up_self, show ((0 : Int32)).toNatClampNeg = 0 from by decide, stR_top r1 r2]
end H14
section H14b
variable {h : Nat → Nat} {t : Nat → Nat → Nat} {n : Nat} {le : Nat → Nat → Nat} {ru : Nat → List Nat} {S : Nat → Int32} {V : Nat → Nat → Int32}
theorem hv31 (hs : MHs h) (hT : MHt h t) (e7 : S 7 = nI (h 6)) (hRt : RHt h t (V 1) (V 2)) (hM : ML4 h n le) (hR : RL2 n le (V 14)) (hU : MU (h 6) ru) (hRU : RU (h 6) ru (V 4) (V 3)) {E : Int32 → Int32 → Int32 → (Nat → Nat → Int32) → Option (Int32 × (Nat → Nat → Int32))} {k hr : Nat} (hk : k < n) (hh : hr < 24) : ∀ (j r m : Nat) (f : Nat → Int32), r + j = h 6 → j < m → (∃ f2, fX12_holds_0_14_L31 E S m (nI n) (nI k) (nI hr) (nI r) (va_up V 15 f) = E (nI n) (nI k) (nI hr) (va_up V 15 f2) ∧ ∀ q, r ≤ q → q < h 6 → topR (vaL t n le k hr) ru q ≠ 0) ∨ (∃ f2, fX12_holds_0_14_L31 E S m (nI n) (nI k) (nI hr) (nI r) (va_up V 15 f) = some (0, va_up V 15 f2) ∧ ∃ q, q < h 6 ∧ topR (vaL t n le k hr) ru q = 0) := by
  have h6 := hs.2.2.2.2.2.2
  intro j
  induction j with
  | zero =>
    intro r m f c1 c2
    obtain ⟨m, rfl⟩ : ∃ z, m = z + 1 := ⟨m - 1, by omega⟩
    refine Or.inl ⟨f, ?_, fun q h1 h2 => by omega⟩
    rw [fX12_holds_0_14_L31, e7, if_pos (nI_le (by omega) (by omega))]
  | succ j ih =>
    intro r m f c1 c2
    obtain ⟨m, rfl⟩ : ∃ z, m = z + 1 := ⟨m - 1, by omega⟩
    obtain ⟨f2, v⟩ := reckR14 hs hT hRt hM hR hU hRU hk hh (show r < h 6 by omega) f
    have st : fX12_holds_0_14_L31 E S (m + 1) (nI n) (nI k) (nI hr) (nI r) (va_up V 15 f) = if topR (vaL t n le k hr) ru r = 0 then some (0, va_up V 15 f2) else fX12_holds_0_14_L31 E S m (nI n) (nI k) (nI hr) (nI (r + 1)) (va_up V 15 f2) := by
      rw [fX12_holds_0_14_L31, e7, if_neg (nI_ge (a := r) (b := h 6) (by omega) (by omega)), gd_n r 4 (by omega) (by decide), nI_cl r (by omega), va_up_ne _ _ (show (3 : Nat) ≠ 15 by decide), v, bd2_s]
      simp only [lt_e, nI_1]
    rw [st]
    by_cases p : topR (vaL t n le k hr) ru r = 0
    · rw [if_pos p]
      exact Or.inr ⟨f2, rfl, r, by omega, p⟩
    · rw [if_neg p]
      rcases ih (r + 1) m f2 (by omega) (by omega) with ⟨f3, e1, e2⟩ | e
      · refine Or.inl ⟨f3, e1, fun q h1 h2 => ?_⟩
        by_cases e : q = r
        · subst e; exact p
        · exact e2 q (by omega) h2
      · exact Or.inr e
theorem hv16 (hs : MHs h) (hT : MHt h t) (e7 : S 7 = nI (h 6)) (hRt : RHt h t (V 1) (V 2)) (hM : ML4 h n le) (hR : RL2 n le (V 14)) (hU : MU (h 6) ru) (hRU : RU (h 6) ru (V 4) (V 3)) {E : Int32 → Int32 → (Nat → Nat → Int32) → Option (Int32 × (Nat → Nat → Int32))} {k : Nat} (hk : k < n) : ∀ (j hr m : Nat) (f : Nat → Int32), hr + j = le k 3 + 1 → j < m → (∃ f2, fX12_holds_0_14_L16 E S m (nI n) (nI k) (nI hr) (va_up V 15 f) = E (nI n) (nI k) (va_up V 15 f2) ∧ ∀ q, hr ≤ q → q ≤ le k 3 → okR (vaL t n le k q) (h 6) ru) ∨ (∃ f2, fX12_holds_0_14_L16 E S m (nI n) (nI k) (nI hr) (va_up V 15 f) = some (0, va_up V 15 f2) ∧ ∃ q, hr ≤ q ∧ q ≤ le k 3 ∧ ¬ okR (vaL t n le k q) (h 6) ru) := by
  have h6 := hs.2.2.2.2.2.2
  have hn := hM.1
  obtain ⟨m0, m1, m2, m3⟩ := hM.2.1 k hk
  obtain ⟨r0, r1, r2, r3⟩ := hR k hk
  intro j
  induction j with
  | zero =>
    intro hr m f c1 c2
    obtain ⟨m, rfl⟩ : ∃ z, m = z + 1 := ⟨m - 1, by omega⟩
    refine Or.inl ⟨f, ?_, fun q h1 h2 => by omega⟩
    rw [fX12_holds_0_14_L16]
    simp only [lt_e]
    rw [nI_43, gd_n (4 * k + 3) 16 (by omega) (by decide), nI_cl (4 * k + 3) (by omega), va_up_ne _ _ (show (14 : Nat) ≠ 15 by decide), r3, if_pos (nI_lt (by omega) (by omega))]
  | succ j ih =>
    intro hr m f c1 c2
    obtain ⟨m, rfl⟩ : ∃ z, m = z + 1 := ⟨m - 1, by omega⟩
    rw [fX12_holds_0_14_L16]
    simp only [lt_e, bk_e]
    rw [nI_43, gd_n (4 * k + 3) 16 (by omega) (by decide), nI_cl (4 * k + 3) (by omega), va_up_ne _ _ (show (14 : Nat) ≠ 15 by decide), r3, if_neg (nI_nlt (by omega) (by omega))]
    have L := hv31 (E := fun x32 x33 x34 V35 => fX12_holds_0_14_L16 E S m x32 x33 (x34 + 1) V35) (S := S) hs hT e7 hRt hM hR hU hRU hk (hr := hr) (by omega) (h 6) 0 FU f (by omega) (by unfold FU; omega)
    rw [nI_0] at L
    rcases L with ⟨f2, e1, e2⟩ | ⟨f2, e1, q, e2, e3⟩
    · rw [e1, nI_1]
      have okh : okR (vaL t n le k hr) (h 6) ru := fun q hq => e2 q (Nat.zero_le _) hq
      rcases ih (hr + 1) m f2 (by omega) (by omega) with ⟨f3, d1, d2⟩ | ⟨f3, d1, q, d2, d3, d4⟩
      · refine Or.inl ⟨f3, d1, fun q h1 h2 => ?_⟩
        by_cases e : q = hr
        · subst e; exact okh
        · exact d2 q (by omega) h2
      · exact Or.inr ⟨f3, d1, q, by omega, d3, d4⟩
    · rw [e1]
      exact Or.inr ⟨f2, rfl, hr, Nat.le_refl _, by omega, fun ok => ok q e2 e3⟩
theorem hv2 (hs : MHs h) (hT : MHt h t) (e7 : S 7 = nI (h 6)) (hRt : RHt h t (V 1) (V 2)) (hM : ML4 h n le) (hR : RL2 n le (V 14)) (hU : MU (h 6) ru) (hRU : RU (h 6) ru (V 4) (V 3)) : ∀ (j k m : Nat) (f : Nat → Int32), k + j = n → j < m → (∃ f2, fX12_holds_0_14_L2 S m (nI n) (nI k) (va_up V 15 f) = some (1, va_up V 15 f2) ∧ ∀ q hr, k ≤ q → q < n → le q 2 ≤ hr → hr ≤ le q 3 → okR (vaL t n le q hr) (h 6) ru) ∨ (∃ f2, fX12_holds_0_14_L2 S m (nI n) (nI k) (va_up V 15 f) = some (0, va_up V 15 f2) ∧ ∃ q hr, q < n ∧ le q 2 ≤ hr ∧ hr ≤ le q 3 ∧ ¬ okR (vaL t n le q hr) (h 6) ru) := by
  have hn := hM.1
  intro j
  induction j with
  | zero =>
    intro k m f c1 c2
    obtain ⟨m, rfl⟩ : ∃ z, m = z + 1 := ⟨m - 1, by omega⟩
    refine Or.inl ⟨f, ?_, fun q hr h1 h2 => by omega⟩
    rw [fX12_holds_0_14_L2, if_pos (nI_le (by omega) (by omega))]
  | succ j ih =>
    intro k m f c1 c2
    obtain ⟨m, rfl⟩ : ∃ z, m = z + 1 := ⟨m - 1, by omega⟩
    obtain ⟨m0, m1, m2, m3⟩ := hM.2.1 k (by omega)
    obtain ⟨r0, r1, r2, r3⟩ := hR k (by omega)
    rw [fX12_holds_0_14_L2, if_neg (nI_ge (a := k) (b := n) (by omega) (by omega))]
    simp only [lt_e, bk_e]
    rw [nI_42, gd_n (4 * k + 2) 16 (by omega) (by decide), nI_cl (4 * k + 2) (by omega), va_up_ne _ _ (show (14 : Nat) ≠ 15 by decide), r2]
    rcases hv16 (E := fun x41 x42 V43 => fX12_holds_0_14_L2 S m x41 (x42 + 1) V43) (S := S) hs hT e7 hRt hM hR hU hRU (show k < n by omega) (le k 3 + 1 - le k 2) (le k 2) FU f (by omega) (by unfold FU; omega) with ⟨f2, e1, e2⟩ | ⟨f2, e1, q, e2, e3, e4⟩
    · rw [e1, nI_1]
      rcases ih (k + 1) m f2 (by omega) (by omega) with ⟨f3, d1, d2⟩ | e
      · refine Or.inl ⟨f3, d1, fun q hr h1 h2 h3 h4 => ?_⟩
        by_cases e : q = k
        · subst e; exact e2 hr h3 h4
        · exact d2 q hr (by omega) h2 h3 h4
      · exact Or.inr e
    · rw [e1]
      exact Or.inr ⟨f2, rfl, k, q, by omega, e2, e3, e4⟩
theorem holdsR14 (hs : MHs h) (hT : MHt h t) (e7 : S 7 = nI (h 6)) (hRt : RHt h t (V 1) (V 2)) (hM : ML4 h n le) (hR : RL2 n le (V 14)) (hU : MU (h 6) ru) (hRU : RU (h 6) ru (V 4) (V 3)) : (∃ f2, fX12_holds_0_14 S V (nI n) = some (1, va_up V 15 f2) ∧ okL t (h 6) ru n le) ∨ (∃ f2, fX12_holds_0_14 S V (nI n) = some (0, va_up V 15 f2) ∧ ¬ okL t (h 6) ru n le) := by
  have hn := hM.1
  have L := hv2 (S := S) (V := V) hs hT e7 hRt hM hR hU hRU n 0 FU (V 15) (by omega) (by unfold FU; omega)
  rw [nI_0, va_up_id] at L
  unfold fX12_holds_0_14
  rcases L with ⟨f2, e1, e2⟩ | ⟨f2, e1, q, hr, e2, e3, e4, e5⟩
  · exact Or.inl ⟨f2, e1, fun k hr h1 h2 h3 => e2 k hr (Nat.zero_le _) h1 h2 h3⟩
  · exact Or.inr ⟨f2, e1, fun ok => e5 (ok q hr e2 e3 e4)⟩
end H14b
