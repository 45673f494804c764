/-! ===== housed anew: who, both sides ===== -/
def kthB (m k : Nat) : Nat := (fst1 (fun i => m.testBit i && decide (fb_ct m.testBit i = k)) 0 6).getD 0
theorem kthB_at {m i : Nat} (hi : i < 6) (hb : m.testBit i = true) : kthB m (fb_ct m.testBit i) = i := by
  unfold kthB
  rw [fst1_some.mpr ⟨Nat.zero_le _, (by omega : i < 0 + 6), (by rw [hb]; simp), fun j _ hj => ?_⟩]
  · rfl
  · cases hc : m.testBit j with
    | false => rfl
    | true =>
      rw [Bool.true_and, decide_eq_false_iff_not]
      intro e
      have := fb_ct_kth_one hc hb e
      omega
theorem kthB_spec {m k : Nat} (hk : k < fb_ct m.testBit 6) : kthB m k < 6 ∧ m.testBit (kthB m k) = true ∧ fb_ct m.testBit (kthB m k) = k := by
  obtain ⟨i, h1, h2, h3⟩ := fb_ct_kth hk
  have := kthB_at h1 h2
  rw [h3] at this
  rw [this]
  exact ⟨h1, h2, h3⟩
theorem whOK_B {h : Nat → Nat} {m : Nat} (hm : m < 2 ^ h 4) (h4 : fb_ct m.testBit 6 ≤ 4) : whOK h (kthB m) (fb_ct m.testBit 6) := by
  refine ⟨h4, fun k hk => ?_, fun i j hij hj e => ?_⟩
  · obtain ⟨-, b, -⟩ := kthB_spec hk
    refine Nat.lt_of_not_le (fun hge => ?_)
    rw [Nat.testBit_lt_two_pow (Nat.lt_of_lt_of_le hm (Nat.pow_le_pow_right (by decide) hge))] at b
    cases b
  · have a1 := (kthB_spec (show i < fb_ct m.testBit 6 by omega)).2.2
    have a2 := (kthB_spec hj).2.2
    rw [e] at a1
    omega
theorem ct_lt {p : Nat → Bool} {i n : Nat} (hi : i < n) (hp : p i = true) : fb_ct p i < fb_ct p n := by
  have h := fb_ct_mono p (show i + 1 ≤ n from hi)
  rw [fb_ct_succ, hp] at h
  simp at h
  omega
section GA
variable {h : Nat → Nat} {t : Nat → Nat → Nat} {S : Nat → Int32} {V : Nat → Nat → Int32} {m : Nat}
theorem ga7 (h4 : fb_ct m.testBit 6 ≤ 4) {E : (Nat → Int32) → (Nat → Nat → Int32) → Option ((Nat → Int32) × (Nat → Nat → Int32))} : ∀ (j i f : Nat) (u : Nat → Int32), i + j = 6 → j < f → (∀ q, q < fb_ct m.testBit i → u q = nI (kthB m q)) → ∃ u2, fX0_gather_49_L7 E f (nI m) (nI i) (va_up S 4903 (nI (fb_ct m.testBit i))) (va_up V 50 u) = E (va_up S 4903 (nI (fb_ct m.testBit 6))) (va_up V 50 u2) ∧ ∀ q, q < fb_ct m.testBit 6 → u2 q = nI (kthB m q) := by
  intro j
  induction j with
  | zero =>
    intro i f u c1 c2 c3
    obtain ⟨f, rfl⟩ : ∃ z, f = z + 1 := ⟨f - 1, by omega⟩
    have : i = 6 := by omega
    subst this
    refine ⟨u, ?_, c3⟩
    rw [fX0_gather_49_L7, if_pos (show 6 ≤ nI 6 from nI_le (a := 6) (b := 6) (by decide) (by decide))]
  | succ j ih =>
    intro i f u c1 c2 c3
    obtain ⟨f, rfl⟩ : ∃ z, f = z + 1 := ⟨f - 1, by omega⟩
    rw [fX0_gather_49_L7, if_neg (show ¬ 6 ≤ nI i from nI_ge (a := i) (b := 6) (by omega) (by decide))]
    simp only [bk_e, lt_e, sh1_0 (show i < 32 by omega), va_up_self, va_up_up, nI_1]
    have sc := fb_ct_succ m.testBit i
    cases hb : m.testBit i with
    | false =>
      rw [hb] at sc
      obtain ⟨u2, e1, e2⟩ := ih (i + 1) f u (by omega) (by omega) (by rw [sc]; exact c3)
      refine ⟨u2, ?_, e2⟩
      rw [if_pos rfl, ← e1, sc]
      rfl
    | true =>
      have lt4 := ct_lt (show i < 6 by omega) hb
      rw [hb, if_pos rfl] at sc
      obtain ⟨u2, e1, e2⟩ := ih (i + 1) f (upd u (fb_ct m.testBit i) (nI i)) (by omega) (by omega) (fun q hq => by
        by_cases e : q = fb_ct m.testBit i
        · rw [e, upd_same, kthB_at (by omega) hb]
        · rw [upd_ne _ _ e]; exact c3 q (by omega))
      refine ⟨u2, ?_, e2⟩
      rw [if_neg (by decide), if_neg (show ¬ 4 ≤ nI (fb_ct m.testBit i) from nI_ge (a := fb_ct m.testBit i) (b := 4) (by omega) (by decide)), gd_n (fb_ct m.testBit i) 4 (by omega) (by decide), nI_cl (fb_ct m.testBit i) (by omega), ← e1, sc]
theorem min12 {y : Nat} (hy : y ≤ 12) : fJ9_min_7cf53 12 (nI y) = some (nI y) := by
  unfold fJ9_min_7cf53
  by_cases c : y < 12
  · rw [if_pos (show nI y < 12 from nI_lt (a := y) (b := 12) c (by decide))]
  · rw [if_neg (show ¬ nI y < 12 from nI_nlt (a := y) (b := 12) (by omega) (by omega)), show y = 12 by omega]
    rfl
theorem ga94 (h46 : h 4 ≤ 6) (hCt : CHt h t (V 4) (V 5) (V 6) (V 7) (V 8)) {wh : Nat → Nat} {N : Nat} (hw : whOK h wh N) (h50 : ∀ k, k < N → V 50 k = nI (wh k)) {k : Nat} (hk : k < N) {E : Int32 → Int32 → (Nat → Int32) → (Nat → Nat → Int32) → Option ((Nat → Int32) × (Nat → Nat → Int32))} : ∀ (j o f a : Nat), o + j = k → j < f → fX0_gather_49_L94 E f (nI k) (nI (a + sN (fun o => 3 * qW t wh k o) o)) (nI o) S V = E (nI k) (nI (a + sN (fun o => 3 * qW t wh k o) k)) S V := by
  have hN := hw.1
  intro j
  induction j with
  | zero =>
    intro o f a c1 c2
    obtain ⟨f, rfl⟩ : ∃ z, f = z + 1 := ⟨f - 1, by omega⟩
    have : o = k := by omega
    subst this
    rw [fX0_gather_49_L94, if_pos (nI_le (by omega) (by omega))]
  | succ j ih =>
    intro o f a c1 c2
    obtain ⟨f, rfl⟩ : ∃ z, f = z + 1 := ⟨f - 1, by omega⟩
    have qr : fX2_quarrelsOf_3 V (nI (wh k)) (nI (wh o)) = some (nI (qW t wh k o)) := qr3 h46 hCt (a := some (wh k)) (b := some (wh o)) (ab_ok (hw.2.1 k hk)) (ab_ok (hw.2.1 o (by omega)))
    have ihn := ih (o + 1) f a (by omega) (by omega)
    rw [sN, ← Nat.add_assoc] at ihn
    rw [fX0_gather_49_L94, if_neg (nI_ge (a := o) (b := k) (by omega) (by omega)), gd_n k 4 (by omega) (by decide), gd_n o 4 (by omega) (by decide), nI_cl k (by omega), nI_cl o (by omega), h50 k hk, h50 o (by omega), qr, bd1_s]
    simp only [lt_e]
    rw [show (3 : Int32) = nI 3 from rfl, nI_mul, nI_add, nI_1]
    exact ihn
theorem ga72 (hs : MHs h) (hT : MHt h t) (hCt : CHt h t (V 4) (V 5) (V 6) (V 7) (V 8)) {wh : Nat → Nat} {N : Nat} (hw : whOK h wh N) (h50 : ∀ k, k < N → V 50 k = nI (wh k)) : ∀ (j f : Nat) (u : Nat → Int32), j ≤ N → j < f → (∀ k, j ≤ k → k ≤ N → u k = nI (mbW t wh k (N - k))) → ∃ u2, fX0_gather_49_L72 f (nI j - 1) S (va_up V 54 u) = some (S, va_up V 54 u2) ∧ ∀ k, k ≤ N → u2 k = nI (mbW t wh k (N - k)) := by
  have h46 := hs.2.2.2.2.1
  have hN := hw.1
  intro j
  induction j with
  | zero =>
    intro f u c1 c2 c3
    obtain ⟨f, rfl⟩ : ∃ z, f = z + 1 := ⟨f - 1, by omega⟩
    refine ⟨u, ?_, fun k hk => c3 k (Nat.zero_le _) hk⟩
    rw [fX0_gather_49_L72, if_pos (by decide)]
  | succ j ih =>
    intro f u c1 c2 c3
    obtain ⟨f, rfl⟩ : ∃ z, f = z + 1 := ⟨f - 1, by omega⟩
    have hwj := hw.2.1 j (by omega)
    have hst := stay_b hT hw (show j < N by omega)
    obtain ⟨t0, -, t2, -⟩ := hCt (wh j) hwj
    obtain ⟨u2, e1, e2⟩ := ih f (upd u j (nI (mbW t wh j (N - j)))) (by omega) (by omega) (fun k k1 k2 => by
      by_cases e : k = j
      · rw [e, upd_same]
      · rw [upd_ne _ _ e]; exact c3 k (by omega) k2)
    refine ⟨u2, ?_, e2⟩
    have L := fun E => ga94 (S := S) (V := va_up V 54 u) (E := E) h46 hCt hw h50 (show j < N by omega) j 0 FU (t (wh j) 0) (by omega) (by unfold FU; omega)
    rw [sN, Nat.add_zero, nI_0] at L
    rw [nI_dec, fX0_gather_49_L72, if_neg (nI_pos (by omega)), gd_n j 4 (by omega) (by decide), nI_cl j (by omega)]
    simp only [lt_e, bk_e]
    rw [va_up_ne _ _ (show (50 : Nat) ≠ 54 by decide), h50 j (by omega), gd_n (wh j) 6 (by omega) (by decide), nI_cl (wh j) (by omega), va_up_ne _ _ (show (4 : Nat) ≠ 54 by decide), t0, L]
    simp only [nI_1, nI_cl j (show j < 2 ^ 31 by omega), va_up_self, va_up_up]
    rw [gd_n (j + 1) 5 (by omega) (by decide), gd_n j 4 (by omega) (by decide), va_up_ne _ _ (show (50 : Nat) ≠ 54 by decide), h50 j (by omega), gd_n (wh j) 6 (by omega) (by decide), nI_cl (wh j) (by omega), va_up_ne _ _ (show (6 : Nat) ≠ 54 by decide), t2, min12 hst.2, bd1_s, gd_n j 5 (by omega) (by decide), nI_cl (j + 1) (by omega), c3 (j + 1) (by omega) (by omega), nI_mul, nI_add, show N - j = N - (j + 1) + 1 by omega, ← Int32.sub_eq_add_neg] at *
    rw [mbW] at e1
    exact e1
theorem gathC (hs : MHs h) (hT : MHt h t) (hCt : CHt h t (V 4) (V 5) (V 6) (V 7) (V 8)) (hm : m < 2 ^ h 4) (h4 : fb_ct m.testBit 6 ≤ 4) : ∃ u w, fX0_gather_49 S V (nI m) = some (va_up S 4903 (nI (fb_ct m.testBit 6)), va_up (va_up V 50 u) 54 w) ∧ (∀ k, k < fb_ct m.testBit 6 → u k = nI (kthB m k)) ∧ ∀ k, k ≤ fb_ct m.testBit 6 → w k = nI (mbW t (kthB m) k (fb_ct m.testBit 6 - k)) := by
  have hw := whOK_B hm h4
  obtain ⟨u, g1, g2⟩ := ga7 (S := S) (V := V) (m := m) h4 (E := fun S23 V24 => lt ((S23 4903)) (fun x25 => gd (ib x25 5) (lt (va_up V24 54 (upd (V24 54) (x25).toNatClampNeg (0 : Int32))) (fun V27 => lt (((S23 4903) - (1 : Int32))) (fun x28 => fX0_gather_49_L72 FU x28 S23 V27))))) 6 0 FU (V 50) (by omega) (by unfold FU; omega) (fun q hq => by simp [fb_ct] at hq)
  rw [nI_0, show fb_ct m.testBit 0 = 0 from rfl, nI_0, va_up_id] at g1
  obtain ⟨w, e1, e2⟩ := ga72 (S := va_up S 4903 (nI (fb_ct m.testBit 6))) (V := va_up V 50 u) hs hT hCt hw g2 (fb_ct m.testBit 6) FU (upd (V 54) (fb_ct m.testBit 6) 0) (Nat.le_refl _) (by unfold FU; omega) (fun k k1 k2 => by
    have : k = fb_ct m.testBit 6 := by omega
    rw [this, upd_same, Nat.sub_self]
    rfl)
  refine ⟨u, w, ?_, g2, e2⟩
  unfold fX0_gather_49
  simp only [lt_e, bk_e]
  simp only [lt_e] at g1
  rw [g1, va_up_self, gd_n (fb_ct m.testBit 6) 5 (by omega) (by decide), nI_cl (fb_ct m.testBit 6) (by omega)]
  exact e1
/-- the reference's row of them -/
theorem ga56 (h46 : h 4 ≤ 6) (e5 : S 5 = nI (h 4)) (h4 : fb_ct m.testBit 6 ≤ 4) {x : Int32} {E : Int32 → Int32 → (Nat → Int32) → (Nat → Nat → Int32) → Option (Int32 × (Nat → Int32) × (Nat → Nat → Int32))} : ∀ (j i f : Nat) (u : Nat → Int32), i + j = h 4 → j < f → (∀ q, q < fb_ct m.testBit i → u q = nI (kthB m q)) → ∃ u2, fX12_house4_0_L56 E f (nI m) x (nI (fb_ct m.testBit i)) (nI i) S (va_up V 16 u) = E x (nI (fb_ct m.testBit (h 4))) S (va_up V 16 u2) ∧ ∀ q, q < fb_ct m.testBit (h 4) → u2 q = nI (kthB m q) := by
  intro j
  induction j with
  | zero =>
    intro i f u c1 c2 c3
    obtain ⟨f, rfl⟩ : ∃ z, f = z + 1 := ⟨f - 1, by omega⟩
    have : i = h 4 := by omega
    subst this
    refine ⟨u, ?_, c3⟩
    rw [fX12_house4_0_L56, e5, if_pos (nI_le (Nat.le_refl _) (by omega))]
  | succ j ih =>
    intro i f u c1 c2 c3
    obtain ⟨f, rfl⟩ : ∃ z, f = z + 1 := ⟨f - 1, by omega⟩
    rw [fX12_house4_0_L56, e5, if_neg (nI_ge (a := i) (b := h 4) (by omega) (by omega))]
    simp only [bk_e, lt_e, sh1_0 (show i < 32 by omega), va_up_self, va_up_up, nI_1]
    have sc := fb_ct_succ m.testBit i
    cases hb : m.testBit i with
    | false =>
      rw [hb] at sc
      obtain ⟨u2, e1, e2⟩ := ih (i + 1) f u (by omega) (by omega) (by rw [sc]; exact c3)
      refine ⟨u2, ?_, e2⟩
      rw [if_pos rfl, ← e1, sc]
      rfl
    | true =>
      have lt4 := ct_lt (show i < 6 by omega) hb
      rw [hb, if_pos rfl] at sc
      obtain ⟨u2, e1, e2⟩ := ih (i + 1) f (upd u (fb_ct m.testBit i) (nI i)) (by omega) (by omega) (fun q hq => by
        by_cases e : q = fb_ct m.testBit i
        · rw [e, upd_same, kthB_at (by omega) hb]
        · rw [upd_ne _ _ e]; exact c3 q (by omega))
      refine ⟨u2, ?_, e2⟩
      rw [if_neg (by decide), gd_n (fb_ct m.testBit i) 4 (by omega) (by decide), nI_cl (fb_ct m.testBit i) (by omega), ← e1, sc]
theorem ct_h4 (h46 : h 4 ≤ 6) (hm : m < 2 ^ h 4) : fb_ct m.testBit (h 4) = fb_ct m.testBit 6 := by
  obtain ⟨d, hd⟩ : ∃ d, 6 = h 4 + d := ⟨6 - h 4, by omega⟩
  rw [hd, fb_ct_split, (fb_ct_zero (p := fun k => m.testBit (h 4 + k)) (n := d)).mpr (fun k _ => Nat.testBit_lt_two_pow (Nat.lt_of_lt_of_le hm (Nat.pow_le_pow_right (by decide) (by omega)))), Nat.add_zero]
end GA
