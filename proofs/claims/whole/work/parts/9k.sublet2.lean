section SC
variable {h : Nat → Nat} {t : Nat → Nat → Nat} {n : Nat} {le : Nat → Nat → Nat} {N : Nat} {of : Nat → Nat → Nat}
theorem nI_eq2 {a b : Nat} (h : ∀ i, i < 32 → a.testBit i = b.testBit i) : nI a = nI b := b_ext (fun i hi => by rw [nbt hi, nbt hi, h i hi])
theorem e32 (k : Nat) : (3 : Int32) * nI k + 2 = nI (3 * k + 2) := by rw [show (3 : Int32) = nI 3 from rfl, nI_mul, show (2 : Int32) = nI 2 from rfl, nI_add]
theorem e10 : ((1 : Int32) = 0) = False := eq_false (by decide)
theorem subBad {S' : Nat → Int32} {V' : Nat → Nat → Int32} (h46 : h 4 ≤ 6) (hM : MLs h t n le) (hR : RLs n le (S' 42) (V' 13)) (hO : MOf N of) (hOR : ROf N of (S' 53) (V' 21)) {E : Int32 → Int32 → Int32 → Int32 → Int32 → Int32 → (Nat → Int32) → Option (Int32 × (Nat → Int32))} {a b d : Int32} {s : Nat} : ∀ (j k m : Nat) (hrs c : Int32), k + j = N → j < m → ∃ co, fX12_sublet_0_L59 E V' m a b d (nI s) hrs c 0 (nI k) S' = E a b d (nI s) co 0 S' := by
  have hN := hO.1
  intro j
  induction j with
  | zero =>
    intro k m hrs c c1 c2
    obtain ⟨m, rfl⟩ : ∃ z, m = z + 1 := ⟨m - 1, by omega⟩
    exact ⟨c, by rw [fX12_sublet_0_L59, hOR.1, if_pos (nI_le (by omega) (by omega))]⟩
  | succ j ih =>
    intro k m hrs c c1 c2
    obtain ⟨m, rfl⟩ : ∃ z, m = z + 1 := ⟨m - 1, by omega⟩
    obtain ⟨r0, r1, r2⟩ := hOR.2 k (by omega)
    obtain ⟨f1, f2, f3⟩ := hO.2 k (by omega)
    rw [fX12_sublet_0_L59, hOR.1, if_neg (nI_ge (a := k) (b := N) (by omega) (by omega))]
    simp only [lt_e, bk_e, nI_1]
    by_cases p : (nI s >>> (nI k &&& 31)) &&& 1 = 0
    · rw [if_pos p]
      exact ih (k + 1) m _ _ (by omega) (by omega)
    · rw [if_neg p, offR h46 hM hR (by omega) r0 r1 f1 f2, bd1_s]
      simp (disch := omega) only [if_true, e32, gd_n]
      exact ih (k + 1) m _ _ (by omega) (by omega)
theorem subSet {S S' : Nat → Int32} {V V' : Nat → Nat → Int32} (h46 : h 4 ≤ 6) (hM : MLs h t n le) (hR : RLs n le (S' 42) (V' 13)) (hO : MOf N of) (hOC : COf N of (S 4200) (V 43) (V 44)) (hOR : ROf N of (S' 53) (V' 21)) {E : Int32 → Int32 → Int32 → Int32 → Int32 → Int32 → (Nat → Int32) → Option (Int32 × (Nat → Int32))} {a b d : Int32} {s : Nat} :
    ∀ (j k m m' hrs c : Nat), k + j = N → j < m → j < m' → hrs < 2 ^ 24 → c ≤ 99 * k → ∃ co is r, fX5_coinsOf_42_L8 S V m (nI s) (nI (andn (opN le n) hrs)) (nI c) (nI k) = some r ∧ fX12_sublet_0_L59 E V' m' a b d (nI s) (nI hrs) (nI c) 1 (nI k) S' = E a b d (nI s) co is S' ∧ ((is = 1 ∧ co = r ∧ ∃ c2, c2 ≤ 792 ∧ r = nI c2) ∨ (is = 0 ∧ r = -1)) := by
  have hN := hO.1
  intro j
  induction j with
  | zero =>
    intro k m m' hrs c c1 c2 c3 c4 c5
    obtain ⟨m, rfl⟩ : ∃ z, m = z + 1 := ⟨m - 1, by omega⟩
    obtain ⟨m', rfl⟩ : ∃ z, m' = z + 1 := ⟨m' - 1, by omega⟩
    refine ⟨nI c, 1, nI c, ?_, ?_, Or.inl ⟨rfl, rfl, c, by omega, rfl⟩⟩
    · rw [fX5_coinsOf_42_L8, hOC.1, if_pos (nI_le (by omega) (by omega))]
    · rw [fX12_sublet_0_L59, hOR.1, if_pos (nI_le (by omega) (by omega))]
  | succ j ih =>
    intro k m m' hrs c c1 c2 c3 c4 c5
    obtain ⟨m, rfl⟩ : ∃ z, m = z + 1 := ⟨m - 1, by omega⟩
    obtain ⟨m', rfl⟩ : ∃ z, m' = z + 1 := ⟨m' - 1, by omega⟩
    obtain ⟨r0, r1, r2⟩ := hOR.2 k (by omega)
    obtain ⟨q0, q1⟩ := hOC.2 k (by omega)
    obtain ⟨f1, f2, f3⟩ := hO.2 k (by omega)
    have hil := ivl_lt (of k 0) (by omega) (of k 1) f2
    have q0' : V 43 k = nI (ivl (of k 0) (of k 1)) := q0
    rw [fX5_coinsOf_42_L8, hOC.1, if_neg (nI_ge (a := k) (b := N) (by omega) (by omega)), fX12_sublet_0_L59, hOR.1, if_neg (nI_ge (a := k) (b := N) (by omega) (by omega))]
    simp only [lt_e, bk_e, nI_1]
    by_cases p : (nI s >>> (nI k &&& 31)) &&& 1 = 0
    · rw [if_pos p, if_pos p]
      exact ih (k + 1) m m' hrs c (by omega) (by omega) (by omega) c4 (by omega)
    · have h25 := hv_lt (opN le n) (of k 1 + 1 - of k 0) (of k 0) 0 (by omega) (by decide)
      rw [if_neg p, if_neg p, offR h46 hM hR (by omega) r0 r1 f1 f2, bd1_s]
      simp (disch := omega) only [e10, if_false, e32, gd_n, nI_cl, q0', q1, r2, andn_i, nI_add, fa_or]
      by_cases g1 : ∀ q, of k 0 ≤ q → q ≤ of k 1 → (opN le n).testBit q = true
      · rw [hv_ivl f1 f2 g1, if_pos ((shr24 (by omega)).mpr (Nat.testBit_lt_two_pow hil))]
        by_cases g2 : ∀ q, q < 31 → ¬ ((ivl (of k 0) (of k 1)).testBit q = true ∧ hrs.testBit q = true)
        · rw [if_pos ((nI_and0 (by omega)).mpr g2), if_pos ((andn_0 (by omega)).mpr (fun q hq hb => by
            rw [andn_tb (a := opN le n) (b := hrs) (by omega)]
            rw [ivl_tb' f1 f2, decide_eq_true_iff] at hb
            have n1 := g2 q hq
            rw [ivl_tb' f1 f2, decide_eq_true_iff] at n1
            rw [g1 q hb.1 hb.2]
            cases hh : hrs.testBit q with
            | true => exact absurd ⟨hb, hh⟩ n1
            | false => rfl)), show nI (andn (andn (opN le n) hrs) (ivl (of k 0) (of k 1))) = nI (andn (opN le n) (hrs ||| ivl (of k 0) (of k 1))) from nI_eq2 (fun i hi => by
              rw [andn_tb (a := andn (opN le n) hrs) hi, andn_tb (a := opN le n) (b := hrs) hi, andn_tb (a := opN le n) (b := hrs ||| ivl (of k 0) (of k 1)) hi, Nat.testBit_or]
              cases (opN le n).testBit i <;> cases hrs.testBit i <;> cases (ivl (of k 0) (of k 1)).testBit i <;> rfl)]
          exact ih (k + 1) m m' _ _ (by omega) (by omega) (by omega) (or_lt c4 hil) (by omega)
        · rw [if_neg (fun z => g2 ((nI_and0 (by omega)).mp z)), if_neg (fun z => g2 (fun q hq ⟨b1, b2⟩ => by
            have := (andn_0 (by omega)).mp z q hq b1
            rw [andn_tb (a := opN le n) (b := hrs) (by omega), b2] at this
            simp at this))]
          obtain ⟨co, e⟩ := subBad (E := E) (a := a) (b := b) (d := d) (s := s) h46 hM hR hO hOR j (k + 1) m' (nI (hrs ||| ivl (of k 0) (of k 1))) (nI (c + of k 2)) (by omega) (by omega)
          exact ⟨co, 0, -1, rfl, e, Or.inr ⟨rfl, rfl⟩⟩
      · rw [if_neg (fun z => g1 ((hv_24 f1 f2).mp ((shr24 h25).mp z))), if_neg (fun z => g1 (fun q b1 b2 => by
          have := (andn_0 (by omega)).mp z q (by omega) (by rw [ivl_tb' f1 f2]; exact decide_eq_true ⟨b1, b2⟩)
          rw [andn_tb (a := opN le n) (b := hrs) (by omega)] at this
          cases hh : (opN le n).testBit q with
          | true => rfl
          | false => rw [hh] at this; simp at this))]
        obtain ⟨co, e⟩ := subBad (E := E) (a := a) (b := b) (d := d) (s := s) h46 hM hR hO hOR j (k + 1) m' (nI (hrs ||| hvF (opN le n) (of k 0) (of k 1 + 1 - of k 0) 0)) (nI (c + of k 2)) (by omega) (by omega)
        exact ⟨co, 0, -1, rfl, e, Or.inr ⟨rfl, rfl⟩⟩
abbrev s2 (S : Nat → Int32) (x y : Nat) : Nat → Int32 := va_up (va_up S 4203 (nI x)) 4204 (nI y)
theorem s2_up (S : Nat → Int32) (x y : Nat) (u v : Int32) : va_up (va_up (s2 S x y) 4203 u) 4204 v = va_up (va_up S 4203 u) 4204 v := by
  funext j
  unfold s2
  simp only [va_up_at]
  by_cases h1 : j = 4204
  · simp [h1]
  · by_cases h2 : j = 4203
    · simp [h2]
    · simp [h1, h2]
theorem subOut {S S' : Nat → Int32} {V V' : Nat → Nat → Int32} (h46 : h 4 ≤ 6) (hM : MLs h t n le) (hR : RLs n le (S' 42) (V' 13)) (hO : MOf N of) (hOC : COf N of (S 4200) (V 43) (V 44)) (hOR : ROf N of (S' 53) (V' 21)) {E : Int32 → Int32 → Int32 → (Nat → Int32) → Option (Int32 × (Nat → Int32))} {a : Int32} :
    ∀ (j s m m' bc bs : Nat), s + j = 2 ^ N → j < m → j < m' → bc ≤ 792 → ∃ bc2 bs2, fX5_choose_42_L12 V m (nI (opN le n)) (nI s) (s2 S bc bs) = some (s2 S bc2 bs2) ∧ fX12_sublet_0_L36 E V' m' a (nI bs) (nI bc) (nI s) S' = E a (nI bs2) (nI bc2) S' := by
  have hN := hO.1
  have h2N : 2 ^ N ≤ 2 ^ 8 := Nat.pow_le_pow_right (by decide) hN
  have e256 : (2 : Nat) ^ 8 = 256 := by decide
  intro j
  induction j with
  | zero =>
    intro s m m' bc bs c1 c2 c3 c4
    obtain ⟨m, rfl⟩ : ∃ z, m = z + 1 := ⟨m - 1, by omega⟩
    obtain ⟨m', rfl⟩ : ∃ z, m' = z + 1 := ⟨m' - 1, by omega⟩
    refine ⟨bc, bs, ?_, ?_⟩
    · rw [fX5_choose_42_L12, show s2 S bc bs 4200 = nI N from hOC.1, bit_lt (by omega), if_pos (nI_le (by omega) (by omega))]
    · rw [fX12_sublet_0_L36, hOR.1, bit_lt (by omega), if_pos (nI_le (by omega) (by omega))]
  | succ j ih =>
    intro s m m' bc bs c1 c2 c3 c4
    obtain ⟨m, rfl⟩ : ∃ z, m = z + 1 := ⟨m - 1, by omega⟩
    obtain ⟨m', rfl⟩ : ∃ z, m' = z + 1 := ⟨m' - 1, by omega⟩
    have hset := fun E => subSet (S := s2 S bc bs) (V := V) (E := E) (a := a) (b := nI bs) (d := nI bc) (s := s) h46 hM hR hO hOC hOR N 0 FU FU 0 0 (by omega) (by unfold FU; omega) (by unfold FU; omega) (by decide) (by decide)
    rw [fX5_choose_42_L12, show s2 S bc bs 4200 = nI N from hOC.1, bit_lt (by omega), if_neg (nI_ge (a := s) (b := 2 ^ N) (by omega) (by omega)), fX12_sublet_0_L36, hOR.1, bit_lt (by omega), if_neg (nI_ge (a := s) (b := 2 ^ N) (by omega) (by omega))]
    simp only [lt_e, bk_e, nI_1]
    obtain ⟨co, is, r, e1, e2, e3⟩ := hset (fun x76 x77 x78 x79 x80 x81 S82 => if x81 = 0 then fX12_sublet_0_L36 E V' m' x76 x77 x78 (x79 + 1) S82 else if x78 < x80 then fX12_sublet_0_L36 E V' m' x76 x79 x80 (x79 + 1) S82 else fX12_sublet_0_L36 E V' m' x76 x77 x78 (x79 + 1) S82)
    rw [nI_0] at e1 e2
    have e1' : fX5_coinsOf_42 (s2 S bc bs) V (nI s) (nI (opN le n)) = some r := by
      unfold fX5_coinsOf_42
      rw [show nI (opN le n) = nI (andn (opN le n) 0) from nI_eq2 (fun i hi => by rw [andn_tb (a := opN le n) (b := 0) hi, Nat.zero_testBit]; simp)]
      exact e1
    rw [e1', bd1_s, e2, show s2 S bc bs 4203 = nI bc from rfl, s2_up]
    rcases e3 with ⟨rfl, rfl, c, hc, rfl⟩ | ⟨rfl, rfl⟩
    · simp only [e10, if_false, nI_1]
      by_cases g : c ≤ bc
      · rw [if_pos (nI_le g (by omega)), if_neg (nI_nlt g (by omega))]
        exact ih (s + 1) m m' bc bs (by omega) (by omega) (by omega) c4
      · rw [if_neg (nI_ge (by omega) (by omega)), if_pos (nI_lt (by omega) (by omega))]
        exact ih (s + 1) m m' c s (by omega) (by omega) (by omega) hc
    · simp only [if_true, nI_1]
      rw [if_pos (show -1 ≤ nI bc from i_le.mpr (by rw [nI_toInt (by omega), show (-1 : Int32).toInt = -1 from by decide]; omega))]
      exact ih (s + 1) m m' bc bs (by omega) (by omega) (by omega) c4
end SC
theorem sm_sublet : St_sublet Rel := fun S V S' V' L' a1 hrel => by
  obtain ⟨h1, h2, h3, ⟨h, t, ru, hH, ⟨n, le, hM, hr, hC, hR⟩, hI⟩, ⟨N, of, hO, hOC, hOR⟩, h6⟩ := id hrel
  have h46 := hH.1.2.2.2.2.1
  rcases rng (a := a1) (N := 1) (by decide) with x4 | ⟨w, hw, rfl⟩
  · have y0 : ¬ a1 = 0 := fun e => by
      rcases x4 with x4 | x4
      · rw [e] at x4; exact absurd x4 (by decide)
      · rw [e] at x4; exact absurd x4 (by decide)
    have y1 : ¬ a1 = 1 := fun e => by
      rcases x4 with x4 | x4
      · rw [e] at x4; exact absurd x4 (by decide)
      · rw [e] at x4; exact absurd x4 (by decide)
    refine Or.inr ⟨0, va_up (va_up S' 0 0) 0 1, ?_, ?_, rfl, R_thr (R_thr hrel)⟩
    · unfold fX11_sublet_0
      by_cases z : a1 < 0
      · rw [if_pos z]
      · rw [if_neg z, if_neg (show ¬ a1 ≤ 1 from nle_of (x4.resolve_left z))]
    · unfold fX12_sublet_0
      simp only [lt_e, bk_e]
      rw [if_neg y0, if_neg y1, right_f rfl (by decide), bd2_s, if_pos rfl]
  have z1 : ¬ nI w < 0 := nI_pos (by omega)
  have z2 : nI w ≤ 1 := nI_le (a := w) (b := 1) hw (by decide)
  have z3 : ∀ {β : Type} (A B : β), (if nI w = 0 then A else (if nI w = 1 then A else B)) = A := fun A B => by
    rcases (show w = 0 ∨ w = 1 by omega) with rfl | rfl
    · rw [if_pos nI_0]
    · rw [if_neg (by decide), if_pos (show nI 1 = 1 from rfl)]
  have hp : 1 ≤ 2 ^ N := Nat.one_le_two_pow
  have h2N : 2 ^ N ≤ 2 ^ 8 := Nat.pow_le_pow_right (by decide) hO.1
  have e256 : (2 : Nat) ^ 8 = 256 := by decide
  obtain ⟨bc, bs, e1, e2⟩ := subOut (S := S) (S' := va_up S' 0 0) (V := V) (V' := V') (a := nI w) (E := fun x97 x98 x99 S100 => if x97 = 0 then some (x99, S100) else some (x98, S100)) h46 hM hR hO hOC hOR (2 ^ N - 1) 1 FU FU 0 0 (by omega) (by unfold FU; omega) (by unfold FU; omega) (by decide)
  rw [nI_0] at e2
  refine Or.inl ⟨if nI w = 0 then nI bc else nI bs, s2 S bc bs, va_up S' 0 0, ?_, ?_, rfl, h1, h2, h3, ⟨h, t, ru, hH, ⟨n, le, hM, hr, hC, hR⟩, hI⟩, ⟨N, of, hO, hOC, hOR⟩, h6⟩
  · unfold fX11_sublet_0 fX5_choose_42
    simp only [lt_e]
    rw [if_neg z1, if_pos z2, openC hM hC, bd1_s, show va_up (va_up S 4203 0) 4204 0 = s2 S 0 0 from rfl, show (1 : Int32) = nI 1 from rfl, e1, bd1_s]
    split <;> rfl
  · unfold fX12_sublet_0
    simp only [lt_e, bk_e]
    rw [z3, right_t rfl, bd2_s, if_neg (by decide), show fX12_sublet_0_L36 (fun x97 x98 x99 S100 => if x97 = 0 then some (x99, S100) else some (x98, S100)) V' FU (nI w) 0 0 1 (va_up S' 0 0) = _ from e2]
    split <;> rfl
