/-! ===== how slow ===== -/
def swH (h : Nat → Nat) (t : Nat → Nat → Nat) (n : Nat) (le : Nat → Nat → Nat) (ab : Option Nat) (hr oil : Nat) : Nat := swV h t (pres ab (whoL le n 0 hr)) (pres ab (whoL le n 1 hr)) (pres ab (whoL le n 2 hr)) oil
def slF (f : Nat → Int32) : Nat → Nat → Int32 → Int32
  | _, 0, acc => acc
  | i, k + 1, acc => slF f (i + 1) k (acc + (f i - 60))
theorem pres_none (o : Option Nat) : pres none o = o := by
  unfold pres
  split
  · rename_i e; exact e.symm
  · rfl
theorem pres_ok {k : Nat} {ab o : Option Nat} (h : okT k o) : okT k (pres ab o) := by
  unfold pres
  split
  · intro a e; cases e
  · exact h
theorem pres_apt {ab a b : Option Nat} (h : apt a b) : apt (pres ab a) (pres ab b) := by
  intro i e1 e2
  have f : ∀ o : Option Nat, pres ab o = some i → o = some i := fun o e => by
    unfold pres at e
    split at e
    · cases e
    · exact e
  exact h i (f a e1) (f b e2)
theorem L_2h (x : Nat) : (2 : Int32) * nI x = nI (2 * x) := nI_mul 2 x
section SL
variable {h : Nat → Nat} {t : Nat → Nat → Nat} {n : Nat} {le : Nat → Nat → Nat}
theorem who_spec {x hr a : Nat} (e : whoL le n x hr = some a) : ∃ p, p < n ∧ le p 1 = x ∧ le p 2 ≤ hr ∧ hr ≤ le p 3 ∧ le p 0 = a := by
  unfold whoL at e
  cases ho : occL le n x hr with
  | none => rw [ho] at e; cases e
  | some p =>
    rw [ho] at e
    obtain ⟨h1, h2, h3, h4⟩ := occ_lt ho
    exact ⟨p, h1, h2, h3, h4, Option.some.inj e⟩
theorem who_ok (hM : MLs h t n le) (x hr : Nat) : okT (h 4) (whoL le n x hr) := fun a e => by
  obtain ⟨p, hp, -, -, -, rfl⟩ := who_spec e
  exact (hM.2.1 p hp).1
theorem who_apt (hM : MLs h t n le) {x y : Nat} (hxy : x ≠ y) (hr : Nat) : apt (whoL le n x hr) (whoL le n y hr) := fun i e1 e2 => by
  obtain ⟨p, hp, p1, p2, p3, p4⟩ := who_spec e1
  obtain ⟨q, hq, q1, q2, q3, q4⟩ := who_spec e2
  rcases Nat.lt_trichotomy p q with c | c | c
  · exact (hM.2.2 p q hr c hq p2 p3 q2 q3).2 (p4.trans q4.symm)
  · subst c; omega
  · exact (hM.2.2 q p hr c hp q2 q3 p2 p3).2 (q4.trans p4.symm)
theorem who30' {V : Nat → Nat → Int32} {x hr : Nat} {sz : Int32} (hM : MLs h t n le) (hC : CLs n le sz (V 31) (V 32) (V 33) (V 34) (V 35)) (hx : x < 3) (hh : hr < 24) : fX4_who_30 V (nI x) (nI hr) = some (enc (whoL le n x hr)) := by
  rw [who30 hM.1 hC hx hh]
  unfold whoL
  cases occL le n x hr <;> rfl
theorem inOf13' {V : Nat → Nat → Int32} {x hr : Nat} {sz : Int32} (hM : MLs h t n le) (hR : RLs n le sz (V 13)) (hx : x < 3) (hh : hr < 24) : fX12_inOf_13 V (nI n) (nI x) (nI hr) = some (enc (whoL le n x hr)) := by
  rw [inOf13 (by have := hM.1; omega) hR.2 (ML_b hM) hx hh]
  unfold whoL
  cases occL le n x hr <;> rfl
theorem pres48 {V : Nat → Nat → Int32} {x hr : Nat} {sz : Int32} (h46 : h 4 ≤ 6) (hM : MLs h t n le) (hC : CLs n le sz (V 31) (V 32) (V 33) (V 34) (V 35)) (hx : x < 3) (hh : hr < 24) {ab : Option Nat} (ha : okT (h 4) ab) : fX6_present_48 V (nI x) (nI hr) (enc ab) = some (enc (pres ab (whoL le n x hr))) := by
  unfold fX6_present_48 pres
  rw [who30' hM hC hx hh, bd1_s]
  by_cases e : whoL le n x hr = ab
  · rw [if_pos e, if_pos (by rw [e])]; rfl
  · rw [if_neg e, if_neg (fun z => e ((enc_inj h46 (who_ok hM x hr) ha).mp z))]
theorem swIn48 {S : Nat → Int32} {V : Nat → Nat → Int32} {hr oil : Nat} {sz : Int32} (hs : MHs h) (hT : MHt h t) (e0 : S 300 = nI (h 0)) (hCt : CHt h t (V 4) (V 5) (V 6) (V 7) (V 8)) (hM : MLs h t n le) (hC : CLs n le sz (V 31) (V 32) (V 33) (V 34) (V 35)) (hh : hr < 24) (ho : oil ≤ 30) {ab : Option Nat} (ha : okT (h 4) ab) : fX6_swingIn_48 S V (nI hr) (nI oil) (enc ab) = some (nI (swH h t n le ab hr oil)) := by
  have h46 := hs.2.2.2.2.1
  have p0 : fX6_present_48 V 0 (nI hr) (enc ab) = _ := pres48 (x := 0) h46 hM hC (by decide) hh ha
  have p1 : fX6_present_48 V 1 (nI hr) (enc ab) = _ := pres48 (x := 1) h46 hM hC (by decide) hh ha
  have p2 : fX6_present_48 V 2 (nI hr) (enc ab) = _ := pres48 (x := 2) h46 hM hC (by decide) hh ha
  unfold fX6_swingIn_48
  rw [p0, p1, p2]
  simp only [bd1_s]
  rw [sw3 hs hT e0 hCt (pres_ok (who_ok hM 0 hr)) (pres_ok (who_ok hM 1 hr)) (pres_ok (who_ok hM 2 hr)) ho]
  rfl
theorem slow48 {S : Nat → Int32} {V : Nat → Nat → Int32} {oil : Nat} {sz : Int32} (hs : MHs h) (hT : MHt h t) (e0 : S 300 = nI (h 0)) (hCt : CHt h t (V 4) (V 5) (V 6) (V 7) (V 8)) (hM : MLs h t n le) (hC : CLs n le sz (V 31) (V 32) (V 33) (V 34) (V 35)) (ho : oil ≤ 30) {ab : Option Nat} (ha : okT (h 4) ab) {f g : Nat} (hfg : f ≤ g + 1) (hg : g < 24) : fX6_slowness_48 S V (nI f) (nI g) (nI oil) (enc ab) = some (slF (fun hr => nI (swH h t n le ab hr oil)) f (g + 1 - f) 0) := by
  have L : ∀ (j i m : Nat) (acc : Int32), i + j = g + 1 → j < m → fX6_slowness_48_L6 S V m (nI g) (nI oil) (enc ab) acc (nI i) = some (slF (fun hr => nI (swH h t n le ab hr oil)) i j acc) := by
    intro j
    induction j with
    | zero =>
      intro i m acc e1 e2
      obtain ⟨m, rfl⟩ : ∃ m', m = m' + 1 := ⟨m - 1, by omega⟩
      unfold fX6_slowness_48_L6
      rw [if_pos (nI_lt (a := g) (b := i) (by omega) (by omega))]
      rfl
    | succ j ih =>
      intro i m acc e1 e2
      obtain ⟨m, rfl⟩ : ∃ m', m = m' + 1 := ⟨m - 1, by omega⟩
      unfold fX6_slowness_48_L6
      rw [if_neg (nI_nlt (a := g) (b := i) (by omega) (by omega)), swIn48 hs hT e0 hCt hM hC (by omega) ho ha]
      simp only [lt_e, bk_e, bd0_s, bd1_s, bd2_s, bd3_s, bd4_s, bdx_l, bdx_r, gd_tt, nI_1]
      exact ih (i + 1) m _ (by omega) (by omega)
  exact L (g + 1 - f) f FU 0 (by omega) (by unfold FU; omega)
theorem allIn13_of {V : Nat → Nat → Int32} {N H : Int32} {a b c : Option Nat} (ha : okT 6 a) (hb : okT 6 b) (hc : okT 6 c) (e0 : fX12_inOf_13 V N 0 H = some (enc a)) (e1 : fX12_inOf_13 V N 1 H = some (enc b)) (e2 : fX12_inOf_13 V N 2 H = some (enc c)) : fX12_allIn_13 V N H = some (nI (bo a ||| bo b ||| bo c)) := by
  have st : ∀ (m : Nat) (x y : Nat) (acc : Nat) (o : Option Nat), x ≤ 2 → okT 6 o → fX12_inOf_13 V N (nI x) H = some (enc o) → fX12_allIn_13_L5 V (m + 1) N H (nI acc) (nI x) = fX12_allIn_13_L5 V m N H (nI (acc ||| bo o)) (nI (x + 1)) := by
    intro m x y acc o hx ho he
    rw [fX12_allIn_13_L5, if_neg (show ¬ 2 < nI x from nI_nlt (a := 2) (b := x) hx (by decide)), he]
    simp only [lt_e, bk_e, bd0_s, bd1_s, bd2_s, bd3_s, bd4_s, bdx_l, bdx_r, gd_tt]
    cases o with
    | none =>
      rw [if_pos (show enc none = -1 from rfl), show (0 : Int32) = nI 0 from rfl, fa_or, nI_1]
      rfl
    | some i =>
      have hi := ho i rfl
      rw [if_neg (show ¬ enc (some i) = -1 from nI_m1 (by omega)), show ((1 : Int32) <<< (enc (some i) &&& 31)) = nI (2 ^ i) from bit_lt (by omega), fa_or, nI_1]
      rfl
  obtain ⟨m, hm⟩ : ∃ m, FU = m + 1 + 1 + 1 + 1 := ⟨FU - 4, by unfold FU; rfl⟩
  unfold fX12_allIn_13
  rw [hm, show fX12_allIn_13_L5 V (m + 1 + 1 + 1 + 1) N H 0 0 = fX12_allIn_13_L5 V (m + 1 + 1 + 1 + 1) N H (nI 0) (nI 0) from rfl, st _ 0 0 0 a (by decide) ha e0, st _ 1 0 _ b (by decide) hb e1, st _ 2 0 _ c (by decide) hc e2, fX12_allIn_13_L5, if_pos (show 2 < nI (2 + 1) from nI_lt (a := 2) (b := 3) (by decide) (by decide)), Nat.zero_or]
theorem allIn13 {V : Nat → Nat → Int32} {hr : Nat} {sz : Int32} (h46 : h 4 ≤ 6) (hM : MLs h t n le) (hR : RLs n le sz (V 13)) (hh : hr < 24) : fX12_allIn_13 V (nI n) (nI hr) = some (nI (bo (whoL le n 0 hr) ||| bo (whoL le n 1 hr) ||| bo (whoL le n 2 hr))) :=
  allIn13_of (fun a e => Nat.lt_of_lt_of_le (who_ok hM 0 hr a e) h46) (fun a e => Nat.lt_of_lt_of_le (who_ok hM 1 hr a e) h46) (fun a e => Nat.lt_of_lt_of_le (who_ok hM 2 hr a e) h46) (inOf13' (x := 0) hM hR (by decide) hh) (inOf13' (x := 1) hM hR (by decide) hh) (inOf13' (x := 2) hM hR (by decide) hh)
theorem oilR {S : Nat → Int32} (hs : MHs h) (e1 : S 2 = nI (h 1)) (e2 : S 3 = nI (h 2)) {d : Nat} (hd : d < 10000) : fX12_oilOn_0 S (nI d) = some (nI (h 1 - d / h 2)) := by
  have h1 := hs.2.1
  have h2 := hs.2.2.1
  have hq : d / h 2 < 10000 := Nat.lt_of_le_of_lt (Nat.div_le_self _ _) hd
  unfold fX12_oilOn_0
  rw [e1, e2]
  simp (disch := omega) only [lt_e, bk_e, bd0_s, bd1_s, bd2_s, bd3_s, bd4_s, bdx_l, bdx_r, gd_tt, nI_ltI, nI_leI, nI_eq, nI_lt0, nI_ge0, nI_le0, nI_gt0, nI_eq0, nI_eq1, nI_lt1, nI_le1, nI_gt1, nI_ge1, nI_l1, nI_s1, nI_1, nI_a0, nI_0a, nI_add, nI_mul, nI_sub, nI_cl, gd_n, nI_em1, q_l2, q_l3, q_l4, q_l5, q_l6, q_l7, q_l8, q_l9, q_l10, q_l11, q_l12, q_l13, q_l14, q_l15, q_l16, q_l17, q_l18, q_l19, q_l20, q_l21, q_l22, q_l23, q_l24, q_l30, q_l31, q_l32, q_l40, q_l41, q_l45, q_l48, q_l49, q_l60, q_l63, q_l64, q_l72, q_l84, q_l96, q_l99, q_l100, q_l255, q_l343, q_l400, q_l500, q_l600, q_l800, q_l1000, q_l1440, q_l1600, q_l4095, q_l9999, q_l10000, q_l10001, q_l20000, q_l32767, q_l1000000, nI_divI]
  rw [gd_t (show nz (nI (h 2)) = true from decide_eq_true (fun e => by
    have := (nI_eq0 (n := h 2) (by omega)).mp e
    omega))]
  generalize d / h 2 = q at hq
  by_cases c : q < h 1
  · rw [nI_sub (by omega), if_neg (fun e => by have := (nI_le0 (n := h 1 - q) (by omega)).mp e; omega)]
  · rw [if_pos (i_le.mpr (by rw [nI_subT (by omega) (by omega), show (0 : Int32).toInt = 0 from by decide]; omega)), show h 1 - q = 0 by omega, nI_0]
theorem swBy {S : Nat → Int32} {V : Nat → Nat → Int32} (hs : MHs h) (hT : MHt h t) (hc : CHs h (S 1) (S 2) (S 3) (S 4) (S 5) (S 6) (S 7)) (hRt : RHt h t (V 1) (V 2)) {a b c : Option Nat} (ha : okT (h 4) a) (hb : okT (h 4) b) (hcc : okT (h 4) c) (hab : apt a b) (hac : apt a c) (hbc : apt b c) {d : Nat} (hd : d < 10000) : fX12_swingBy_0 S V (nI (bo a ||| bo b ||| bo c)) (nI d) = some (nI (swV h t a b c (h 1 - d / h 2))) := by
  obtain ⟨c0, c1, c2, c3, c4, -⟩ := hc
  have h46 := hs.2.2.2.2.1
  have h0 := hs.1
  have h1 := hs.2.1
  have k8 : ∀ o, okT (h 4) o → okT 8 o := fun o ho x e => by have := ho x e; omega
  generalize hm : bo a ||| bo b ||| bo c = m
  have hw : smF (fun i => t i 0) m.testBit (h 4) = wOf t a + wOf t b + wOf t c := by
    rw [← hm, smF_set ha hb hcc hab hac hbc]
    cases a <;> cases b <;> cases c <;> rfl
  have hq : ∀ i, i < h 4 → fb_ct (t i 4 &&& m).testBit 8 = qq t (some i) a + qq t (some i) b + qq t (some i) c := by
    intro i _
    rw [ct_and, ← hm, smF_set (k8 a ha) (k8 b hb) (k8 c hcc) hab hac hbc]
    cases a <;> cases b <;> cases c <;> rfl
  have hcp : smF (fun i => fb_ct (t i 4 &&& m).testBit 8) m.testBit (h 4) = 2 * (qq t a b + qq t a c + qq t b c) := by
    rw [smF_cong (g2 := fun i => qq t (some i) a + qq t (some i) b + qq t (some i) c) (q := m.testBit) (fun j hj => ⟨rfl, fun _ => hq j hj⟩), ← hm, smF_set ha hb hcc hab hac hbc]
    have g : ∀ o : Option Nat, gO (fun i => qq t (some i) a + qq t (some i) b + qq t (some i) c) o = qq t o a + qq t o b + qq t o c := fun o => by cases o <;> rfl
    rw [g, g, g, qq_self hT ha, qq_self hT hb, qq_self hT hcc, qq_sym hT hb ha, qq_sym hT hcc ha, qq_sym hT hcc hb]
    omega
  have L : ∀ (E : Int32 → Int32 → Option Int32) (v0 : Nat) (j i f : Nat), i + j = h 4 → j < f → fX12_swingBy_0_L19 E S V f (nI m) (nI (v0 + smF (fun i => t i 0) m.testBit i)) (nI (smF (fun i => fb_ct (t i 4 &&& m).testBit 8) m.testBit i)) (nI i) = E (nI (v0 + smF (fun i => t i 0) m.testBit (h 4))) (nI (smF (fun i => fb_ct (t i 4 &&& m).testBit 8) m.testBit (h 4))) := by
    intro E v0 j
    induction j with
    | zero =>
      intro i f e1 e2
      obtain ⟨f, rfl⟩ : ∃ f', f = f' + 1 := ⟨f - 1, by omega⟩
      rw [fX12_swingBy_0_L19, c4, if_pos (nI_le (a := h 4) (b := i) (by omega) (by omega)), show i = h 4 by omega]
    | succ j ih =>
      intro i f e1 e2
      obtain ⟨f, rfl⟩ : ∃ f', f = f' + 1 := ⟨f - 1, by omega⟩
      have ihn := ih (i + 1) f (by omega) (by omega)
      obtain ⟨r0, r1, r2, r3, r4⟩ := hRt i (by omega)
      rw [fX12_swingBy_0_L19, c4, if_neg (nI_ge (a := i) (b := h 4) (by omega) (by omega))]
      simp (disch := omega) only [lt_e, bk_e, bd0_s, bd1_s, bd2_s, bd3_s, bd4_s, bdx_l, bdx_r, gd_tt, sh1_0]
      simp (disch := omega) only [lt_e, bk_e, bd0_s, bd1_s, bd2_s, bd3_s, bd4_s, bdx_l, bdx_r, gd_tt, nI_ltI, nI_leI, nI_eq, nI_lt0, nI_ge0, nI_le0, nI_gt0, nI_eq0, nI_eq1, nI_lt1, nI_le1, nI_gt1, nI_ge1, nI_l1, nI_s1, nI_1, nI_a0, nI_0a, nI_add, nI_mul, nI_sub, nI_cl, gd_n, nI_em1, q_l2, q_l3, q_l4, q_l5, q_l6, q_l7, q_l8, q_l9, q_l10, q_l11, q_l12, q_l13, q_l14, q_l15, q_l16, q_l17, q_l18, q_l19, q_l20, q_l21, q_l22, q_l23, q_l24, q_l30, q_l31, q_l32, q_l40, q_l41, q_l45, q_l48, q_l49, q_l60, q_l63, q_l64, q_l72, q_l84, q_l96, q_l99, q_l100, q_l255, q_l343, q_l400, q_l500, q_l600, q_l800, q_l1000, q_l1440, q_l1600, q_l4095, q_l9999, q_l10000, q_l10001, q_l20000, q_l32767, q_l1000000, r0, r4, fa_and, bits_eq]
      rw [show smF (fun i => t i 0) m.testBit (i + 1) = smF (fun i => t i 0) m.testBit i + (if m.testBit i = true then t i 0 else 0) from rfl, show smF (fun i => fb_ct (t i 4 &&& m).testBit 8) m.testBit (i + 1) = smF (fun i => fb_ct (t i 4 &&& m).testBit 8) m.testBit i + (if m.testBit i = true then fb_ct (t i 4 &&& m).testBit 8 else 0) from rfl] at ihn
      cases hb : m.testBit i with
      | true =>
        rw [hb, if_pos rfl, if_pos rfl] at ihn
        rw [if_neg (by decide), Nat.add_assoc]
        exact ihn
      | false =>
        rw [hb, if_neg (by decide), if_neg (by decide), Nat.add_zero, Nat.add_zero] at ihn
        rw [if_pos rfl]
        exact ihn
  have q1 := qq_le t a b
  have q2 := qq_le t a c
  have q3 := qq_le t b c
  have w1 := wOf_le hT ha
  have w2 := wOf_le hT hb
  have w3 := wOf_le hT hcc
  unfold fX12_swingBy_0
  rw [oilR hs c1 c2 hd, c0]
  have hol : h 1 - d / h 2 ≤ 30 := Nat.le_trans (Nat.sub_le _ _) h1
  generalize h 1 - d / h 2 = ol at hol
  simp (disch := omega) only [lt_e, bk_e, bd0_s, bd1_s, bd2_s, bd3_s, bd4_s, bdx_l, bdx_r, gd_tt, L_2h, nI_sub]
  have LL := fun E => L E (2 * h 0 - ol) (h 4) 0 FU (by omega) (by unfold FU; omega)
  have z1 : ∀ g p, smF g p 0 = 0 := fun _ _ => rfl
  simp only [z1, Nat.add_zero, nI_0] at LL
  rw [LL, hw, hcp]
  simp (disch := omega) only [nI_ltI, nI_leI, nI_eq, nI_lt0, nI_ge0, nI_le0, nI_gt0, nI_eq0, nI_eq1, nI_lt1, nI_le1, nI_gt1, nI_ge1, nI_l1, nI_s1, nI_1, nI_a0, nI_0a, nI_add, nI_mul, nI_sub, nI_cl, gd_n, nI_em1, q_l2, q_l3, q_l4, q_l5, q_l6, q_l7, q_l8, q_l9, q_l10, q_l11, q_l12, q_l13, q_l14, q_l15, q_l16, q_l17, q_l18, q_l19, q_l20, q_l21, q_l22, q_l23, q_l24, q_l30, q_l31, q_l32, q_l40, q_l41, q_l45, q_l48, q_l49, q_l60, q_l63, q_l64, q_l72, q_l84, q_l96, q_l99, q_l100, q_l255, q_l343, q_l400, q_l500, q_l600, q_l800, q_l1000, q_l1440, q_l1600, q_l4095, q_l9999, q_l10000, q_l10001, q_l20000, q_l32767, q_l1000000, nI_divI]
  rw [if_pos (by omega)]
  unfold swV
  refine congrArg some (congrArg nI ?_)
  omega
end SL
