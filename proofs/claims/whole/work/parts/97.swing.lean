/-! ===== swings ===== -/
def enc (o : Option Nat) : Int32 := match o with
  | some a => nI a
  | none => -1
def bo (o : Option Nat) : Nat := match o with
  | some a => 2 ^ a
  | none => 0
def pres (ab o : Option Nat) : Option Nat := if o = ab then none else o
def qq (t : Nat → Nat → Nat) (a b : Option Nat) : Nat := match a, b with
  | some i, some j => if (t i 4).testBit j = true then 1 else 0
  | _, _ => 0
def swV (h : Nat → Nat) (t : Nat → Nat → Nat) (a b c : Option Nat) (oil : Nat) : Nat := 2 * h 0 + (wOf t a + wOf t b + wOf t c) + 3 * (qq t a b + qq t a c + qq t b c) - oil
def okT (k : Nat) (o : Option Nat) : Prop := ∀ a, o = some a → a < k
def apt (a b : Option Nat) : Prop := ∀ i, a = some i → b ≠ some i
theorem bt_1 : ∀ i, i < 32 → bt 1 i = decide (i = 0) := by decide +kernel
theorem bt_0 : ∀ i, i < 32 → bt 0 i = false := by decide +kernel
theorem nbt {x i : Nat} (hi : i < 32) : bt (nI x) i = x.testBit i := by
  show (BitVec.ofNat 32 x).getLsbD i = _
  rw [BitVec.getLsbD_ofNat]
  simp [hi]
theorem sh1 {x j : Nat} (hj : j < 32) : (nI x >>> (nI j &&& 31)) &&& 1 = (if x.testBit j = true then 1 else 0) := by
  apply b_ext
  intro i hi
  rw [b_and, b_sshr j hj _ hi, bt_1 i hi]
  by_cases h0 : i = 0
  · subst h0
    rw [if_pos (by omega), nbt (by omega), Nat.add_zero]
    cases hx : x.testBit j with
    | true => rw [if_pos rfl, bt_1 0 (by decide)]; rfl
    | false => rw [if_neg (by decide), bt_0 0 (by decide)]; rfl
  · rw [decide_eq_false h0, Bool.and_false]
    split
    · rw [bt_1 i hi, decide_eq_false h0]
    · rw [bt_0 i hi]
theorem sh1_0 {x j : Nat} (hj : j < 32) : ((nI x >>> (nI j &&& 31)) &&& 1 = 0) ↔ x.testBit j = false := by
  rw [sh1 hj]
  cases x.testBit j with
  | true => simp
  | false => simp
theorem sh1_n {x j : Nat} (hj : j < 32) : (nI x >>> (nI j &&& 31)) &&& 1 = nI (if x.testBit j = true then 1 else 0) := by
  rw [sh1 hj]
  split <;> rfl
/-- sums over places -/
def smF (g : Nat → Nat) (p : Nat → Bool) : Nat → Nat
  | 0 => 0
  | k + 1 => smF g p k + (if p k = true then g k else 0)
theorem smF_cong {g g2 : Nat → Nat} {p q : Nat → Bool} : ∀ {k : Nat}, (∀ j, j < k → p j = q j ∧ (p j = true → g j = g2 j)) → smF g p k = smF g2 q k
  | 0, _ => rfl
  | k + 1, h => by
    obtain ⟨h1, h2⟩ := h k (by omega)
    show smF g p k + _ = smF g2 q k + _
    rw [smF_cong (fun j hj => h j (by omega)), ← h1]
    by_cases hp : p k = true
    · rw [if_pos hp, if_pos hp, h2 hp]
    · rw [if_neg hp, if_neg hp]
theorem smF_or {g : Nat → Nat} {p q : Nat → Bool} : ∀ {k : Nat}, (∀ j, j < k → ¬ (p j = true ∧ q j = true)) → smF g (fun j => p j || q j) k = smF g p k + smF g q k
  | 0, _ => rfl
  | k + 1, h => by
    have h1 := smF_or (g := g) (p := p) (q := q) (k := k) (fun j hj => h j (by omega))
    have h2 := h k (by omega)
    show smF g (fun j => p j || q j) k + (if (p k || q k) = true then g k else 0) = (smF g p k + (if p k = true then g k else 0)) + (smF g q k + (if q k = true then g k else 0))
    rw [h1]
    cases hp : p k <;> cases hq : q k <;> simp_all <;> omega
theorem smF_z {g : Nat → Nat} {p : Nat → Bool} : ∀ {k : Nat}, (∀ j, j < k → p j = false) → smF g p k = 0
  | 0, _ => rfl
  | k + 1, h => by
    show smF g p k + _ = 0
    rw [smF_z (fun j hj => h j (by omega)), h k (by omega)]
    rfl
theorem smF_1 {g : Nat → Nat} {p : Nat → Bool} {i : Nat} : ∀ {k : Nat}, i < k → (∀ j, j < k → p j = decide (j = i)) → smF g p k = g i
  | 0, hi, _ => absurd hi (Nat.not_lt_zero _)
  | k + 1, hi, h => by
    show smF g p k + _ = _
    by_cases e : i = k
    · subst e
      rw [smF_z (fun j hj => by rw [h j (by omega)]; exact decide_eq_false (by omega)), if_pos (by rw [h i (by omega)]; exact decide_eq_true rfl), Nat.zero_add]
    · rw [smF_1 (by omega) (fun j hj => h j (by omega)), if_neg (by rw [h k (by omega)]; simp; omega), Nat.add_zero]
def gO (g : Nat → Nat) (o : Option Nat) : Nat := match o with
  | some i => g i
  | none => 0
theorem bo_tb (o : Option Nat) (j : Nat) : (bo o).testBit j = decide (o = some j) := by
  cases o with
  | none => simp [bo]
  | some a => simp [bo, Nat.testBit_two_pow]
theorem smF_o {g : Nat → Nat} {k : Nat} {o : Option Nat} (h : okT k o) : smF g (bo o).testBit k = gO g o := by
  cases o with
  | none => exact smF_z (fun j _ => by rw [bo_tb]; rfl)
  | some a => exact smF_1 (h a rfl) (fun j _ => by rw [bo_tb]; simp [eq_comm])
theorem smF_set {g : Nat → Nat} {k : Nat} {a b c : Option Nat} (ha : okT k a) (hb : okT k b) (hc : okT k c) (hab : apt a b) (hac : apt a c) (hbc : apt b c) : smF g (bo a ||| bo b ||| bo c).testBit k = gO g a + gO g b + gO g c := by
  have e : smF g (bo a ||| bo b ||| bo c).testBit k = smF g (fun j => ((bo a).testBit j || (bo b).testBit j) || (bo c).testBit j) k := smF_cong (fun j _ => ⟨by rw [Nat.testBit_or, Nat.testBit_or], fun _ => rfl⟩)
  rw [e, smF_or (p := fun j => (bo a).testBit j || (bo b).testBit j) (q := (bo c).testBit), smF_or (p := (bo a).testBit) (q := (bo b).testBit), smF_o ha, smF_o hb, smF_o hc]
  · rintro j _ ⟨h1, h2⟩
    rw [bo_tb] at h1 h2
    exact hab j (of_decide_eq_true h1) (of_decide_eq_true h2)
  · rintro j _ ⟨h1, h2⟩
    rw [bo_tb] at h2
    rw [Bool.or_eq_true, bo_tb, bo_tb] at h1
    rcases h1 with h1 | h1
    · exact hac j (of_decide_eq_true h1) (of_decide_eq_true h2)
    · exact hbc j (of_decide_eq_true h1) (of_decide_eq_true h2)
theorem ct_and (f m : Nat) : ∀ k, fb_ct (f &&& m).testBit k = smF (fun j => if f.testBit j = true then 1 else 0) m.testBit k
  | 0 => rfl
  | k + 1 => by
    rw [fb_ct_succ, ct_and f m k]
    show _ = smF _ _ k + (if m.testBit k = true then (if f.testBit k = true then 1 else 0) else 0)
    rw [Nat.testBit_and]
    cases f.testBit k <;> cases m.testBit k <;> simp
theorem bits_eq {x : Nat} : fX12_bits (nI x) = some (nI (fb_ct x.testBit 8)) := by
  have L : ∀ (j i m : Nat), i + j = 8 → j < m → fX12_bits_L4 m (nI x) (nI (fb_ct x.testBit i)) (nI i) = some (nI (fb_ct x.testBit 8)) := by
    intro j
    induction j with
    | zero =>
      intro i m e1 e2
      obtain ⟨m, rfl⟩ : ∃ m', m = m' + 1 := ⟨m - 1, by omega⟩
      unfold fX12_bits_L4
      simp (disch := omega) only [lt_e, bk_e, bd0_s, bd1_s, bd2_s, bd3_s, bd4_s, bdx_l, bdx_r, gd_tt, nI_ltI, nI_leI, nI_eq, nI_lt0, nI_ge0, nI_le0, nI_gt0, nI_eq0, nI_eq1, nI_lt1, nI_le1, nI_gt1, nI_ge1, nI_l1, nI_s1, nI_1, nI_a0, nI_0a, nI_add, nI_mul, nI_sub, nI_cl, gd_n, nI_em1, q_l2, q_l3, q_l4, q_l5, q_l6, q_l7, q_l8, q_l9, q_l10, q_l11, q_l12, q_l13, q_l14, q_l15, q_l16, q_l17, q_l18, q_l19, q_l20, q_l21, q_l22, q_l23, q_l24, q_l30, q_l31, q_l32, q_l40, q_l41, q_l45, q_l48, q_l49, q_l60, q_l63, q_l64, q_l72, q_l84, q_l96, q_l99, q_l100, q_l255, q_l343, q_l400, q_l500, q_l600, q_l800, q_l1000, q_l1440, q_l1600, q_l4095, q_l9999, q_l10000, q_l10001, q_l20000, q_l32767, q_l1000000]
      rw [if_pos (by omega), show i = 8 by omega]
    | succ j ih =>
      intro i m e1 e2
      obtain ⟨m, rfl⟩ : ∃ m', m = m' + 1 := ⟨m - 1, by omega⟩
      have ihn := ih (i + 1) m (by omega) (by omega)
      unfold fX12_bits_L4
      rw [sh1_n (by omega)]
      simp (disch := omega) only [lt_e, bk_e, bd0_s, bd1_s, bd2_s, bd3_s, bd4_s, bdx_l, bdx_r, gd_tt, nI_ltI, nI_leI, nI_eq, nI_lt0, nI_ge0, nI_le0, nI_gt0, nI_eq0, nI_eq1, nI_lt1, nI_le1, nI_gt1, nI_ge1, nI_l1, nI_s1, nI_1, nI_a0, nI_0a, nI_add, nI_mul, nI_sub, nI_cl, gd_n, nI_em1, q_l2, q_l3, q_l4, q_l5, q_l6, q_l7, q_l8, q_l9, q_l10, q_l11, q_l12, q_l13, q_l14, q_l15, q_l16, q_l17, q_l18, q_l19, q_l20, q_l21, q_l22, q_l23, q_l24, q_l30, q_l31, q_l32, q_l40, q_l41, q_l45, q_l48, q_l49, q_l60, q_l63, q_l64, q_l72, q_l84, q_l96, q_l99, q_l100, q_l255, q_l343, q_l400, q_l500, q_l600, q_l800, q_l1000, q_l1440, q_l1600, q_l4095, q_l9999, q_l10000, q_l10001, q_l20000, q_l32767, q_l1000000]
      rw [if_neg (by omega)]
      exact ihn
  have := L 8 0 FU (by omega) (by unfold FU; omega)
  rw [show nI (fb_ct x.testBit 0) = 0 from nI_0, nI_0] at this
  exact this
theorem nI_subT {a b : Nat} (ha : a < 2 ^ 30) (hb : b < 2 ^ 30) : (nI a - nI b).toInt = (a : Int) - (b : Int) := by
  rw [Int32.toInt_sub, nI_toInt (by omega), nI_toInt (by omega)]
  apply Int.bmod_eq_of_le <;> omega
section SW
variable {h : Nat → Nat} {t : Nat → Nat → Nat} {n : Nat} {le : Nat → Nat → Nat}
theorem wOf_le (hT : MHt h t) {o : Option Nat} (ho : okT (h 4) o) : wOf t o ≤ 20 := by
  cases o with
  | none => exact Nat.zero_le _
  | some a => exact (hT a (ho a rfl)).1.1
theorem qq_le (t : Nat → Nat → Nat) (a b : Option Nat) : qq t a b ≤ 1 := by
  unfold qq
  split
  · split <;> omega
  · omega
theorem qq_sym (hT : MHt h t) {a b : Option Nat} (ha : okT (h 4) a) (hb : okT (h 4) b) : qq t a b = qq t b a := by
  cases a with
  | none => cases b <;> rfl
  | some i =>
    cases b with
    | none => rfl
    | some j =>
      show (if (t i 4).testBit j = true then 1 else 0) = (if (t j 4).testBit i = true then 1 else 0)
      rw [(hT i (ha i rfl)).2.2 j (hb j rfl)]
theorem qq_self (hT : MHt h t) {a : Option Nat} (ha : okT (h 4) a) : qq t a a = 0 := by
  cases a with
  | none => rfl
  | some i =>
    show (if (t i 4).testBit i = true then 1 else 0) = 0
    rw [(hT i (ha i rfl)).2.1]
    rfl
theorem enc_m1 {k : Nat} {o : Option Nat} (hk : k ≤ 6) (h : okT k o) : enc o = -1 ↔ o = none := by
  cases o with
  | none => exact ⟨fun _ => rfl, fun _ => rfl⟩
  | some a =>
    have := h a rfl
    exact ⟨fun e => absurd e (nI_m1 (by omega)), fun e => by cases e⟩
theorem enc_inj {k : Nat} {a b : Option Nat} (hk : k ≤ 6) (ha : okT k a) (hb : okT k b) : enc a = enc b ↔ a = b := by
  cases a with
  | none =>
    cases b with
    | none => exact ⟨fun _ => rfl, fun _ => rfl⟩
    | some j =>
      have := hb j rfl
      exact ⟨fun e => absurd e.symm (nI_m1 (by omega)), fun e => by cases e⟩
  | some i =>
    have := ha i rfl
    cases b with
    | none => exact ⟨fun e => absurd e (nI_m1 (by omega)), fun e => by cases e⟩
    | some j =>
      have := hb j rfl
      exact ⟨fun e => congrArg some ((nI_eq (a := i) (b := j) (by omega) (by omega)).mp e), fun e => by cases e; rfl⟩
theorem wt3 {V : Nat → Nat → Int32} (h46 : h 4 ≤ 6) (hCt : CHt h t (V 4) (V 5) (V 6) (V 7) (V 8)) {o : Option Nat} (ho : okT (h 4) o) : fX2_weightOf_3 V (enc o) = some (nI (wOf t o)) := by
  unfold fX2_weightOf_3
  cases o with
  | none => rw [if_pos (show enc none = -1 from rfl)]; rfl
  | some a =>
    have ha := ho a rfl
    have e := (hCt a ha).1
    show (if nI a = -1 then some 0 else gd (ib (nI a) 6) (some (V 4 (nI a).toNatClampNeg))) = some (nI (t a 0))
    rw [if_neg (nI_m1 (by omega)), gd_n a 6 (by omega) (by decide), nI_cl a (by omega), e]
theorem qr3 {V : Nat → Nat → Int32} (h46 : h 4 ≤ 6) (hCt : CHt h t (V 4) (V 5) (V 6) (V 7) (V 8)) {a b : Option Nat} (ha : okT (h 4) a) (hb : okT (h 4) b) : fX2_quarrelsOf_3 V (enc a) (enc b) = some (nI (qq t a b)) := by
  unfold fX2_quarrelsOf_3
  cases a with
  | none => rw [if_pos (show enc none = -1 from rfl)]; rfl
  | some i =>
    have hi := ha i rfl
    rw [if_neg (show ¬ enc (some i) = -1 from nI_m1 (by omega))]
    cases b with
    | none => rw [if_pos (show enc none = -1 from rfl)]; rfl
    | some j =>
      have hj := hb j rfl
      have e := (hCt i hi).2.2.2.2
      rw [if_neg (show ¬ enc (some j) = -1 from nI_m1 (by omega))]
      show gd (ib (nI i) 6) (some ((V 8 (nI i).toNatClampNeg >>> (nI j &&& 31)) &&& 1)) = some (nI (if (t i 4).testBit j = true then 1 else 0))
      rw [gd_n i 6 (by omega) (by decide), nI_cl i (by omega), e, sh1_n (by omega)]
theorem sw3 {S : Nat → Int32} {V : Nat → Nat → Int32} (hs : MHs h) (hT : MHt h t) (e0 : S 300 = nI (h 0)) (hCt : CHt h t (V 4) (V 5) (V 6) (V 7) (V 8)) {a b c : Option Nat} (ha : okT (h 4) a) (hb : okT (h 4) b) (hc : okT (h 4) c) {oil : Nat} (ho : oil ≤ 30) : fX2_swingOf_3 S V (enc a) (enc b) (enc c) (nI oil) = some (nI (swV h t a b c oil)) := by
  have h46 := hs.2.2.2.2.1
  have h0 := hs.1
  have w1 := wOf_le hT ha
  have w2 := wOf_le hT hb
  have w3 := wOf_le hT hc
  have q1 := qq_le t a b
  have q2 := qq_le t a c
  have q3 := qq_le t b c
  unfold fX2_swingOf_3 fJ9_max_7cf53 swV
  rw [wt3 h46 hCt ha, wt3 h46 hCt hb, wt3 h46 hCt hc, qr3 h46 hCt ha hb, qr3 h46 hCt ha hc, qr3 h46 hCt hb hc, e0]
  simp (disch := omega) only [lt_e, bk_e, bd0_s, bd1_s, bd2_s, bd3_s, bd4_s, bdx_l, bdx_r, gd_tt, nI_ltI, nI_leI, nI_eq, nI_lt0, nI_ge0, nI_le0, nI_gt0, nI_eq0, nI_eq1, nI_lt1, nI_le1, nI_gt1, nI_ge1, nI_l1, nI_s1, nI_1, nI_a0, nI_0a, nI_add, nI_mul, nI_sub, nI_cl, gd_n, nI_em1, q_l2, q_l3, q_l4, q_l5, q_l6, q_l7, q_l8, q_l9, q_l10, q_l11, q_l12, q_l13, q_l14, q_l15, q_l16, q_l17, q_l18, q_l19, q_l20, q_l21, q_l22, q_l23, q_l24, q_l30, q_l31, q_l32, q_l40, q_l41, q_l45, q_l48, q_l49, q_l60, q_l63, q_l64, q_l72, q_l84, q_l96, q_l99, q_l100, q_l255, q_l343, q_l400, q_l500, q_l600, q_l800, q_l1000, q_l1440, q_l1600, q_l4095, q_l9999, q_l10000, q_l10001, q_l20000, q_l32767, q_l1000000]
  rw [if_pos (by omega), bd1_s]
theorem oilC {S : Nat → Int32} (hs : MHs h) (e1 : S 301 = nI (h 1)) (e2 : S 302 = nI (h 2)) {d : Nat} (hd : d < 10000) : fX2_oilLeft_3 S (nI d) = some (nI (h 1 - d / h 2)) := by
  have h1 := hs.2.1
  have h2 := hs.2.2.1
  have hq : d / h 2 < 10000 := Nat.lt_of_le_of_lt (Nat.div_le_self _ _) hd
  unfold fX2_oilLeft_3 fJ9_max_7cf53
  rw [e1, e2]
  simp (disch := omega) only [lt_e, bk_e, bd0_s, bd1_s, bd2_s, bd3_s, bd4_s, bdx_l, bdx_r, gd_tt, nI_ltI, nI_leI, nI_eq, nI_lt0, nI_ge0, nI_le0, nI_gt0, nI_eq0, nI_eq1, nI_lt1, nI_le1, nI_gt1, nI_ge1, nI_l1, nI_s1, nI_1, nI_a0, nI_0a, nI_add, nI_mul, nI_sub, nI_cl, gd_n, nI_em1, q_l2, q_l3, q_l4, q_l5, q_l6, q_l7, q_l8, q_l9, q_l10, q_l11, q_l12, q_l13, q_l14, q_l15, q_l16, q_l17, q_l18, q_l19, q_l20, q_l21, q_l22, q_l23, q_l24, q_l30, q_l31, q_l32, q_l40, q_l41, q_l45, q_l48, q_l49, q_l60, q_l63, q_l64, q_l72, q_l84, q_l96, q_l99, q_l100, q_l255, q_l343, q_l400, q_l500, q_l600, q_l800, q_l1000, q_l1440, q_l1600, q_l4095, q_l9999, q_l10000, q_l10001, q_l20000, q_l32767, q_l1000000, nI_divI]
  rw [if_neg (by omega), gd_t (show nz (nI (h 2)) = true from decide_eq_true (fun e => by
    have := (nI_eq0 (n := h 2) (by omega)).mp e
    omega))]
  generalize d / h 2 = q at hq
  by_cases c : q < h 1
  · rw [nI_sub (by omega), if_pos ((nI_gt0 (by omega)).mpr (by omega)), bd1_s]
  · rw [if_neg (fun e => ?_), bd1_s, show h 1 - q = 0 by omega, nI_0]
    have e4 := i_lt.mp e
    rw [nI_subT (by omega) (by omega), show (0 : Int32).toInt = 0 from by decide] at e4
    omega
end SW
