/-! ===== wedding ===== -/
theorem fm_c : ∀ q, q < 100 → ∀ r, r < 100 → fJ9_floorMod_7cf53 (6 - nI (100 * q + r)) 7 = some (nI ((10009 - (100 * q + r)) % 7)) := by decide +kernel
theorem fm_d {d : Nat} (hd : d < 10000) : fJ9_floorMod_7cf53 (6 - nI d) 7 = some (nI ((10009 - d) % 7)) := by
  have := fm_c (d / 100) (by omega) (d % 100) (by omega)
  rwa [show 100 * (d / 100) + d % 100 = d by omega] at this
def fwd (P : Nat → Prop) [DecidablePred P] : Nat → Nat → Option Nat
  | _, 0 => none
  | d, k + 1 => if d % 7 = 6 ∧ P d then some d else fwd P (d + 1) k
theorem fwd_none {P : Nat → Prop} [DecidablePred P] : ∀ (k d : Nat), (∀ i, d ≤ i → i < d + k → ¬ (i % 7 = 6 ∧ P i)) → fwd P d k = none
  | 0, _, _ => rfl
  | k + 1, d, h => by
    rw [fwd, if_neg (h d (Nat.le_refl _) (by omega))]
    exact fwd_none k (d + 1) (fun i h1 h2 => h i (by omega) (by omega))
theorem fwd_skip {P : Nat → Prop} [DecidablePred P] : ∀ (j k d : Nat), (∀ i, d ≤ i → i < d + j → ¬ (i % 7 = 6 ∧ P i)) → fwd P d k = fwd P (d + j) (k - j)
  | 0, k, d, _ => rfl
  | j + 1, 0, d, h => by rw [Nat.zero_sub]; rfl
  | j + 1, k + 1, d, h => by
    rw [fwd, if_neg (h d (Nat.le_refl _) (by omega)), fwd_skip j k (d + 1) (fun i h1 h2 => h i (by omega) (by omega)), show d + 1 + j = d + (j + 1) by omega, show k + 1 - (j + 1) = k - j by omega]
def mxS (A : Nat → Nat) : Nat → Nat → Nat → Nat
  | _, 0, acc => acc
  | i, j + 1, acc => mxS A (i + 1) j (if acc < A i then A i else acc)
theorem mxS_lt (A : Nat → Nat) (s : Nat) : ∀ (j i acc : Nat), s < mxS A i j acc ↔ (s < acc ∨ ∃ q, i ≤ q ∧ q < i + j ∧ s < A q)
  | 0, i, acc => by
    show s < acc ↔ _
    constructor
    · exact Or.inl
    · rintro (h | ⟨q, h1, h2, -⟩)
      · exact h
      · omega
  | j + 1, i, acc => by
    rw [mxS, mxS_lt A s j (i + 1)]
    constructor
    · rintro (h | ⟨q, h1, h2, h3⟩)
      · by_cases c : acc < A i
        · rw [if_pos c] at h
          exact Or.inr ⟨i, Nat.le_refl _, by omega, h⟩
        · rw [if_neg c] at h
          exact Or.inl h
      · exact Or.inr ⟨q, by omega, by omega, h3⟩
    · rintro (h | ⟨q, h1, h2, h3⟩)
      · left
        by_cases c : acc < A i
        · rw [if_pos c]; omega
        · rw [if_neg c]; exact h
      · by_cases e : q = i
        · subst e
          left
          by_cases c : acc < A q
          · rw [if_pos c]; exact h3
          · rw [if_neg c]; omega
        · exact Or.inr ⟨q, by omega, by omega, h3⟩
section WE
variable {h : Nat → Nat} {t : Nat → Nat → Nat} {n : Nat} {le : Nat → Nat → Nat}
theorem swH_b (hs : MHs h) (hT : MHt h t) (hM : MLs h t n le) (ab : Option Nat) (hr oil : Nat) (ho : oil ≤ 30) : swH h t n le ab hr oil = swH h t n le ab hr 0 - oil ∧ 40 ≤ swH h t n le ab hr 0 ∧ swH h t n le ab hr 0 ≤ 200 := by
  have h0 := hs.1
  have w1 := wOf_le hT (pres_ok (ab := ab) (who_ok hM 0 hr))
  have w2 := wOf_le hT (pres_ok (ab := ab) (who_ok hM 1 hr))
  have w3 := wOf_le hT (pres_ok (ab := ab) (who_ok hM 2 hr))
  have q1 := qq_le t (pres ab (whoL le n 0 hr)) (pres ab (whoL le n 1 hr))
  have q2 := qq_le t (pres ab (whoL le n 0 hr)) (pres ab (whoL le n 2 hr))
  have q3 := qq_le t (pres ab (whoL le n 1 hr)) (pres ab (whoL le n 2 hr))
  unfold swH swV
  omega
theorem mxS_le {A : Nat → Nat} {B : Nat} (hA : ∀ i, A i ≤ B) : ∀ (j i acc : Nat), acc ≤ B → mxS A i j acc ≤ B
  | 0, _, _, h => h
  | j + 1, i, acc, h => by
    rw [mxS]
    refine mxS_le hA j (i + 1) _ ?_
    split
    · exact hA i
    · exact h
theorem wedL4 {S : Nat → Int32} {V : Nat → Nat → Int32} {sz : Int32} (hs : MHs h) (hT : MHt h t) (e0 : S 300 = nI (h 0)) (hCt : CHt h t (V 4) (V 5) (V 6) (V 7) (V 8)) (hM : MLs h t n le) (hC : CLs n le sz (V 31) (V 32) (V 33) (V 34) (V 35)) {E : Int32 → Int32 → Option Int32} {x : Int32} : ∀ (j i m acc : Nat), i + j = 24 → j < m → acc ≤ 200 → fX6_firstWedding_48_L4 E S V m x (nI acc) (nI i) = E x (nI (mxS (fun hr => swH h t n le none hr 0) i j acc)) := by
  intro j
  induction j with
  | zero =>
    intro i m acc c1 c2 c3
    obtain ⟨m, rfl⟩ : ∃ z, m = z + 1 := ⟨m - 1, by omega⟩
    rw [fX6_firstWedding_48_L4, if_pos (show 24 ≤ nI i from nI_le (a := 24) (b := i) (by omega) (by omega))]
    rfl
  | succ j ih =>
    intro i m acc c1 c2 c3
    obtain ⟨m, rfl⟩ : ∃ z, m = z + 1 := ⟨m - 1, by omega⟩
    obtain ⟨-, b1, b2⟩ := swH_b hs hT hM none i 0 (by decide)
    rw [fX6_firstWedding_48_L4, if_neg (show ¬ 24 ≤ nI i from nI_ge (a := i) (b := 24) (by omega) (by omega)), show fX6_swingIn_48 S V (nI i) 0 (-1) = _ from swIn48 (oil := 0) (ab := none) hs hT e0 hCt hM hC (by omega) (by decide) (no_ok (h 4)), bd1_s, max_eq, bd1_s]
    simp only [lt_e, nI_1]
    rw [mxS]
    unfold mxI
    by_cases c : acc < swH h t n le none i 0
    · rw [if_pos (nI_lt c (by omega)), if_pos c]
      exact ih (i + 1) m _ (by omega) (by omega) b2
    · rw [if_neg (nI_nlt (by omega) (by omega)), if_neg c]
      exact ih (i + 1) m _ (by omega) (by omega) c3
theorem wedL39 {S : Nat → Int32} {V : Nat → Nat → Int32} (hs : MHs h) (hT : MHt h t) (hc : CHs h (S 1) (S 2) (S 3) (S 4) (S 5) (S 6) (S 7)) (hRt : RHt h t (V 1) (V 2)) (hM : MLs h t n le) (hR : RLs n le (S 42) (V 13)) {d : Nat} (hd : d < 10000) {E : Int32 → (Nat → Int32) → Option (Int32 × (Nat → Int32))} : ∀ (j i m : Nat), i + j = 24 → j < m → ((∃ q, i ≤ q ∧ q < i + j ∧ h 3 < swH h t n le none q (h 1 - d / h 2)) → fX12_wedding_0_L39 E V m (nI d) (nI i) S = some (nI d, S)) ∧ ((¬ ∃ q, i ≤ q ∧ q < i + j ∧ h 3 < swH h t n le none q (h 1 - d / h 2)) → fX12_wedding_0_L39 E V m (nI d) (nI i) S = E (nI d) S) := by
  have h3 := hs.2.2.2.1
  intro j
  induction j with
  | zero =>
    intro i m c1 c2
    obtain ⟨m, rfl⟩ : ∃ z, m = z + 1 := ⟨m - 1, by omega⟩
    refine ⟨fun ⟨q, p1, p2, _⟩ => by omega, fun _ => ?_⟩
    rw [fX12_wedding_0_L39, if_pos (show 24 ≤ nI i from nI_le (a := 24) (b := i) (by omega) (by omega))]
  | succ j ih =>
    intro i m c1 c2
    obtain ⟨m, rfl⟩ : ∃ z, m = z + 1 := ⟨m - 1, by omega⟩
    obtain ⟨b0, b1, b2⟩ := swH_b hs hT hM none i (h 1 - d / h 2) (oil30 hs d)
    have st : fX12_wedding_0_L39 E V (m + 1) (nI d) (nI i) S = if h 3 < swH h t n le none i (h 1 - d / h 2) then some (nI d, S) else fX12_wedding_0_L39 E V m (nI d) (nI (i + 1)) S := by
      rw [fX12_wedding_0_L39, if_neg (show ¬ 24 ≤ nI i from nI_ge (a := i) (b := 24) (by omega) (by omega)), hR.1, swOf13 hs hT hc hRt hM hR (by omega) hd, bd1_s, hc.2.2.2.1]
      simp only [lt_e, nI_1]
      by_cases c : h 3 < swH h t n le none i (h 1 - d / h 2)
      · rw [if_pos c, if_neg (nI_ge c (by omega))]
      · rw [if_neg c, if_pos (nI_le (by omega) (by omega))]
    rw [st]
    obtain ⟨i1, i2⟩ := ih (i + 1) m (by omega) (by omega)
    by_cases c : h 3 < swH h t n le none i (h 1 - d / h 2)
    · rw [if_pos c]
      exact ⟨fun _ => rfl, fun hn => absurd ⟨i, Nat.le_refl _, by omega, c⟩ hn⟩
    · rw [if_neg c]
      refine ⟨fun ⟨q, p1, p2, p3⟩ => i1 ⟨q, ?_, by omega, p3⟩, fun hn => i2 (fun ⟨q, p1, p2, p3⟩ => hn ⟨q, by omega, by omega, p3⟩)⟩
      by_cases e : q = i
      · subst e; exact absurd p3 c
      · omega
/-- a stopped hour on a day -/
abbrev stP (h : Nat → Nat) (M : Nat) : Nat → Prop := fun d => h 3 < M - (h 1 - d / h 2)
theorem wedL18 {S : Nat → Int32} {V : Nat → Nat → Int32} (hs : MHs h) (hT : MHt h t) (hc : CHs h (S 1) (S 2) (S 3) (S 4) (S 5) (S 6) (S 7)) (hRt : RHt h t (V 1) (V 2)) (hM : MLs h t n le) (hR : RLs n le (S 42) (V 13)) : ∀ (j d m : Nat), d + j = 10000 → j < m → fX12_wedding_0_L18 V m (nI d) S = some (enc (fwd (stP h (mxS (fun hr => swH h t n le none hr 0) 0 24 0)) d j), S) := by
  intro j
  induction j with
  | zero =>
    intro d m c1 c2
    obtain ⟨m, rfl⟩ : ∃ z, m = z + 1 := ⟨m - 1, by omega⟩
    rw [fX12_wedding_0_L18, if_pos (show 10000 ≤ nI d from nI_le (a := 10000) (b := d) (by omega) (by omega))]
    rfl
  | succ j ih =>
    intro d m c1 c2
    obtain ⟨m, rfl⟩ : ∃ z, m = z + 1 := ⟨m - 1, by omega⟩
    have ihn := ih (d + 1) m (by omega) (by omega)
    have hi := oil30 hs d
    have hP : (∃ q, 0 ≤ q ∧ q < 0 + 24 ∧ h 3 < swH h t n le none q (h 1 - d / h 2)) ↔ stP h (mxS (fun hr => swH h t n le none hr 0) 0 24 0) d := by
      show _ ↔ h 3 < _ - (h 1 - d / h 2)
      rw [show (h 3 < mxS (fun hr => swH h t n le none hr 0) 0 24 0 - (h 1 - d / h 2)) ↔ (h 3 + (h 1 - d / h 2) < mxS (fun hr => swH h t n le none hr 0) 0 24 0) from by omega, mxS_lt]
      constructor
      · rintro ⟨q, p1, p2, p3⟩
        obtain ⟨b0, b1, b2⟩ := swH_b hs hT hM none q (h 1 - d / h 2) hi
        exact Or.inr ⟨q, p1, p2, by show _ < swH h t n le none q 0; omega⟩
      · rintro (p | ⟨q, p1, p2, p3⟩)
        · omega
        · obtain ⟨b0, b1, b2⟩ := swH_b hs hT hM none q (h 1 - d / h 2) hi
          have p4 : h 3 + (h 1 - d / h 2) < swH h t n le none q 0 := p3
          exact ⟨q, p1, p2, by omega⟩
    have hm : nI d - nI d / 7 * 7 = nI (d % 7) := by
      rw [show (7 : Int32) = nI 7 from rfl, nI_divI (by omega) (by omega), nI_mul, nI_sub (by omega)]
      congr 1
      omega
    rw [fX12_wedding_0_L18, if_neg (show ¬ 10000 ≤ nI d from nI_ge (a := d) (b := 10000) (by omega) (by omega)), hm]
    simp only [lt_e, bk_e, nI_1]
    rw [fwd]
    by_cases c : d % 7 = 6
    · rw [if_pos (show nI (d % 7) = 6 by rw [c]; rfl)]
      have LL := fun E => wedL39 (E := E) hs hT hc hRt hM hR (d := d) (by omega) 24 0 FU (by omega) (by unfold FU; omega)
      rw [nI_0] at LL
      by_cases p : stP h (mxS (fun hr => swH h t n le none hr 0) 0 24 0) d
      · rw [(LL _).1 (hP.mpr p), if_pos ⟨c, p⟩]
        rfl
      · rw [(LL _).2 (fun z => p (hP.mp z)), if_neg (fun z => p z.2), nI_1]
        exact ihn
    · rw [if_neg (show ¬ nI (d % 7) = 6 from fun z => c ((nI_eq (a := d % 7) (b := 6) (by omega) (by decide)).mp z)), if_neg (fun z => c z.1)]
      exact ihn
theorem wedL40 {S : Nat → Int32} {V : Nat → Nat → Int32} (hs : MHs h) (e1 : S 301 = nI (h 1)) (e2 : S 302 = nI (h 2)) (e3 : S 303 = nI (h 3)) {M : Nat} (hM1 : 40 ≤ M) (hM2 : M ≤ 200) : ∀ (j s m : Nat), 10000 ≤ s + 7 * j → s ≤ 10007 → j < m → s % 7 = 6 → fX6_firstWedding_48_L40 S V m (nI M) (nI s) = some (enc (fwd (stP h M) s (10000 - s))) := by
  have h3 := hs.2.2.2.1
  have h1 := hs.2.1
  have h2 := hs.2.2.1
  intro j
  induction j with
  | zero =>
    intro s m c1 c2 c3 c4
    obtain ⟨m, rfl⟩ : ∃ z, m = z + 1 := ⟨m - 1, by omega⟩
    rw [fX6_firstWedding_48_L40, if_pos (show 9999 < nI s from nI_lt (a := 9999) (b := s) (by omega) (by omega)), show 10000 - s = 0 by omega]
    rfl
  | succ j ih =>
    intro s m c1 c2 c3 c4
    obtain ⟨m, rfl⟩ : ∃ z, m = z + 1 := ⟨m - 1, by omega⟩
    by_cases cs : 10000 ≤ s
    · rw [fX6_firstWedding_48_L40, if_pos (show 9999 < nI s from nI_lt (a := 9999) (b := s) (by omega) (by omega)), show 10000 - s = 0 by omega]
      rfl
    · have hi := oil30 hs s
      rw [fX6_firstWedding_48_L40, if_neg (show ¬ 9999 < nI s from nI_nlt (a := 9999) (b := s) (by omega) (by omega)), oilC hs e1 e2 (by omega), bd1_s, e3, nI_sub (by omega)]
      simp only [lt_e]
      by_cases p : stP h M s
      · have p2 : h 3 < M - (h 1 - s / h 2) := p
        rw [if_neg (nI_ge p2 (by omega)), show 10000 - s = (10000 - s - 1) + 1 by omega, fwd, if_pos ⟨c4, p⟩]
        rfl
      · have p2 : ¬ h 3 < M - (h 1 - s / h 2) := p
        rw [if_pos (nI_le (by omega) (by omega))]
        by_cases z : h 1 - s / h 2 = 0
        · rw [if_pos (by rw [z]; exact nI_0), fwd_none]
          · rfl
          · rintro i i1 i2 ⟨-, i3⟩
            have i4 : h 3 < M - (h 1 - i / h 2) := i3
            have i5 : s / h 2 ≤ i / h 2 := Nat.div_le_div_right i1
            generalize s / h 2 = A at z p2 i5
            generalize i / h 2 = B at i4 i5
            omega
        · rw [if_neg (nI_ne0 (by omega) (by omega)), show nI s + 7 = nI (s + 7) from nI_add s 7, ih (s + 7) m (by omega) (by omega) (by omega) (by omega), fwd_skip 7 (10000 - s) s, show 10000 - (s + 7) = 10000 - s - 7 by omega]
          rintro i i1 i2 ⟨i3, i4⟩
          have : i = s := by omega
          subst this
          exact p i4
end WE
theorem sm_wedding : St_wedding Rel := fun S V S' V' L' a1 hrel => by
  obtain ⟨-, -, -, ⟨h, t, ru, ⟨hs, hT, -, ⟨c0, c1, c2, c3, c4, -⟩, hCt, -, hc', hRt, -⟩, ⟨n, le, hM, -, hC, hR⟩, -⟩, -⟩ := id hrel
  rcases rng (a := a1) (N := 9999) (by decide) with x1 | ⟨d, hd, rfl⟩
  · refine Or.inr ⟨0, va_up (va_up S' 0 0) 0 1, ?_, ?_, rfl, R_thr (R_thr hrel)⟩
    · unfold fX11_wedding_0
      rw [nDay_f x1, bdx_r]
    · unfold fX12_wedding_0
      simp only [lt_e]
      rw [isDay_f rfl (by decide) x1, bd2_s, if_pos rfl]
  refine Or.inl ⟨enc (fwd (stP h (mxS (fun hr => swH h t n le none hr 0) 0 24 0)) d (10000 - d)), va_up S' 0 0, ?_, ?_, rfl, R_thr hrel⟩
  · unfold fX11_wedding_0 fX6_firstWedding_48
    have LL := fun E => wedL4 (E := E) (x := nI d) hs hT c0 hCt hM hC 24 0 FU 0 (by omega) (by unfold FU; omega) (by decide)
    rw [nI_0] at LL
    simp only [lt_e, bk_e]
    have m1 : 39 < mxS (fun hr => swH h t n le none hr 0) 0 24 0 := (mxS_lt _ _ _ _ _).mpr (Or.inr ⟨0, by omega, by omega, by have := (swH_b hs hT hM none 0 0 (by decide)).2.1; exact this⟩)
    have m2 : mxS (fun hr => swH h t n le none hr 0) 0 24 0 ≤ 200 := mxS_le (fun i => (swH_b hs hT hM none i 0 (by decide)).2.2) 24 0 0 (by decide)
    rw [nDay_t (by omega), bdx_l, LL, fm_d (by omega), bd1_s, nI_add, wedL40 hs c1 c2 c3 m1 m2 1500 (d + (10009 - d) % 7) FU (by omega) (by omega) (by unfold FU; omega) (by omega), bd1_s, fwd_skip ((10009 - d) % 7) (10000 - d) d, show 10000 - d - (10009 - d) % 7 = 10000 - (d + (10009 - d) % 7) by omega]
    rintro i i1 i2 ⟨i3, -⟩
    omega
  · unfold fX12_wedding_0
    simp only [lt_e]
    rw [isDay_t rfl (by omega), bd2_s, if_neg (by decide), wedL18 (S := va_up S' 0 0) hs hT hc' hRt hM hR (10000 - d) d FU (by omega) (by unfold FU; omega)]
