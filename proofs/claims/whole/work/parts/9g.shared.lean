/-! ===== shared ===== -/
def sN (f : Nat → Nat) : Nat → Nat
  | 0 => 0
  | k + 1 => sN f k + f k
theorem sN_le {f : Nat → Nat} {B : Nat} : ∀ {k : Nat}, (∀ i, i < k → f i ≤ B) → sN f k ≤ k * B
  | 0, _ => Nat.zero_le _
  | k + 1, h => by
    have h1 := sN_le (f := f) (B := B) (k := k) (fun i hi => h i (by omega))
    have h2 := h k (by omega)
    rw [sN, Nat.add_mul, Nat.one_mul]
    omega
theorem lN_div {a b : Nat} (ha : a < 2 ^ 31) (hb : b < 2 ^ 31) : lN a / lN b = lN (a / b) := by
  apply Int64.toInt_inj.mp
  rw [Int64.toInt_div_of_ne_right _ _ (fun e => by
    have := congrArg Int64.toInt e
    rw [lN_toInt hb, show (-1 : Int64).toInt = -1 from by decide] at this
    omega), lN_toInt ha, lN_toInt hb, lN_toInt (Nat.lt_of_le_of_lt (Nat.div_le_self a b) ha), Int.natCast_ediv, ← Int.tdiv_eq_ediv_of_nonneg (by omega)]
theorem nI_mod {a b : Nat} (ha : a < 2 ^ 31) (hb : b < 2 ^ 31) : nI a - nI a / nI b * nI b = nI (a % b) := by
  have e := Nat.div_add_mod a b
  rw [nI_divI ha hb, nI_mul, nI_sub (by rw [Nat.mul_comm]; omega), Nat.mul_comm]
  congr 1
  omega
theorem lN_mod {a b : Nat} (ha : a < 2 ^ 31) (hb : b < 2 ^ 31) : lN a - lN a / lN b * lN b = lN (a % b) := by
  have e := Nat.div_add_mod a b
  rw [lN_div ha hb, lN_mul, lN_sub (by rw [Nat.mul_comm]; omega), Nat.mul_comm]
  congr 1
  omega
def zL (z : Int) : Int64 := Int64.ofInt z
theorem lN_z (n : Nat) : lN n = zL (n : Int) := Int64.ofInt_eq_ofNat.symm
theorem zL_sub (a b : Int) : zL a - zL b = zL (a - b) := (Int64.ofInt_sub a b).symm
theorem zL_t {a : Int} (h1 : -2147483648 ≤ a) (h2 : a < 2147483648) : (zL a).toInt = a := Int64.toInt_ofInt_of_le (by omega) (by omega)
section SH
variable {h : Nat → Nat} {t : Nat → Nat → Nat} {n : Nat} {le : Nat → Nat → Nat}
/-- the rent of one -/
abbrev RR (t : Nat → Nat → Nat) (n : Nat) (le : Nat → Nat → Nat) (k : Nat) : Nat := t k 3 * sumL le k false n + (t k 3 * sumL le k true n + 1) / 2
theorem RR_b (hT : MHt h t) (hM : MLs h t n le) {k : Nat} (hk : k < h 4) : t k 3 * sumL le k false n ≤ 28512 ∧ t k 3 * sumL le k true n ≤ 28512 ∧ RR t n le k ≤ 50000 := by
  have hn := hM.1
  have h1 := sumL_le hM k false n (Nat.le_refl _)
  have h2 := sumL_le hM k true n (Nat.le_refl _)
  have h3 := (hT k hk).1.2.2.2.2.1
  have q1 : t k 3 * sumL le k false n ≤ 99 * 288 := Nat.mul_le_mul h3 (by omega)
  have q2 : t k 3 * sumL le k true n ≤ 99 * 288 := Nat.mul_le_mul h3 (by omega)
  unfold RR
  omega
theorem RR_i (hT : MHt h t) (hM : MLs h t n le) {k : Nat} (hk : k < h 4) : nI (t k 3) * nI (sumL le k false n) + (nI (t k 3) * nI (sumL le k true n) + 1) / 2 = nI (RR t n le k) := by
  obtain ⟨q1, q2, -⟩ := RR_b hT hM hk
  rw [nI_mul, nI_mul, nI_1, show (2 : Int32) = nI 2 from rfl, nI_divI (by omega) (by omega), nI_add]
abbrev shA (s A r0 w : Nat) (R : Nat → Nat) (k : Nat) : Nat := if r0 < s * R k % A ∨ (s * R k % A = r0 ∧ k < w) then 1 else 0
theorem shC1 {S : Nat → Int32} {V : Nat → Nat → Int32} (e4 : S 304 = nI (h 4)) (h46 : h 4 ≤ 6) {R : Nat → Nat} (hR : ∀ k, k < h 4 → fX4_rentOf_30 S V (nI k) = some (nI (R k))) {E : Int32 → Int32 → Int32 → Option Int32} {x y : Int32} : ∀ (j i m : Nat), i + j = h 4 → j < m → fX4_shareOf_30_L5 E S V m x y (nI (sN R i)) (nI i) = E x y (nI (sN R (h 4))) := by
  intro j
  induction j with
  | zero =>
    intro i m c1 c2
    obtain ⟨m, rfl⟩ : ∃ z, m = z + 1 := ⟨m - 1, by omega⟩
    rw [fX4_shareOf_30_L5, e4, if_pos (nI_le (by omega) (by omega)), show i = h 4 by omega]
  | succ j ih =>
    intro i m c1 c2
    obtain ⟨m, rfl⟩ : ∃ z, m = z + 1 := ⟨m - 1, by omega⟩
    rw [fX4_shareOf_30_L5, e4, if_neg (nI_ge (a := i) (b := h 4) (by omega) (by omega)), hR i (by omega), bd1_s]
    simp only [lt_e, nI_add, nI_1]
    exact ih (i + 1) m (by omega) (by omega)
theorem shR1 {S : Nat → Int32} {V : Nat → Nat → Int32} (e4 : S 5 = nI (h 4)) (h46 : h 4 ≤ 6) {R : Nat → Nat} (hb : ∀ k, k < h 4 → R k ≤ 50000) (hR : ∀ k, k < h 4 → fX12_rentOf_0 S V (nI k) = some (nI (R k))) {E : Int32 → Int32 → Int64 → (Nat → Int32) → Option (Int32 × (Nat → Int32))} {x y : Int32} : ∀ (j i m : Nat), i + j = h 4 → j < m → fX12_shared_0_L36 E V m x y (lN (sN R i)) (nI i) S = E x y (lN (sN R (h 4))) S := by
  intro j
  induction j with
  | zero =>
    intro i m c1 c2
    obtain ⟨m, rfl⟩ : ∃ z, m = z + 1 := ⟨m - 1, by omega⟩
    rw [fX12_shared_0_L36, e4, if_pos (nI_le (by omega) (by omega)), show i = h 4 by omega]
  | succ j ih =>
    intro i m c1 c2
    obtain ⟨m, rfl⟩ : ∃ z, m = z + 1 := ⟨m - 1, by omega⟩
    have := hb i (by omega)
    rw [fX12_shared_0_L36, e4, if_neg (nI_ge (a := i) (b := h 4) (by omega) (by omega)), hR i (by omega), bd1_s, nI_l (by omega)]
    simp only [lt_e, lN_add, nI_1]
    exact ih (i + 1) m (by omega) (by omega)
theorem shB {s r : Nat} (hs : s ≤ 9999) (hr : r ≤ 50000) : s * r < 2 ^ 31 := Nat.lt_of_le_of_lt (Nat.mul_le_mul hs hr) (by decide)
theorem shC2 {S : Nat → Int32} {V : Nat → Nat → Int32} (e4 : S 304 = nI (h 4)) (h46 : h 4 ≤ 6) {R : Nat → Nat} (hb : ∀ k, k < h 4 → R k ≤ 50000) (hR : ∀ k, k < h 4 → fX4_rentOf_30 S V (nI k) = some (nI (R k))) {E : Int32 → Int32 → Int32 → Int32 → Int32 → Option Int32} {w s A r0 : Nat} (hw : w < 6) (hs : s ≤ 9999) (hA : 0 < A) (hA2 : A < 2 ^ 31) (hr0 : r0 < 2 ^ 31) : ∀ (j i m : Nat), i + j = h 4 → j < m → fX4_shareOf_30_L58 E S V m (nI w) (nI s) (nI A) (nI (sN (fun k => s * R k / A) i)) (nI (sN (shA s A r0 w R) i)) (nI r0) (nI i) = E (nI w) (nI s) (nI A) (nI (sN (fun k => s * R k / A) (h 4))) (nI (sN (shA s A r0 w R) (h 4))) := by
  intro j
  induction j with
  | zero =>
    intro i m c1 c2
    obtain ⟨m, rfl⟩ : ∃ z, m = z + 1 := ⟨m - 1, by omega⟩
    rw [fX4_shareOf_30_L58, e4, if_pos (nI_le (by omega) (by omega)), show i = h 4 by omega]
  | succ j ih =>
    intro i m c1 c2
    obtain ⟨m, rfl⟩ : ∃ z, m = z + 1 := ⟨m - 1, by omega⟩
    have hp := shB hs (hb i (by omega))
    have hl : s * R i % A < 2 ^ 31 := Nat.lt_trans (Nat.mod_lt _ hA) hA2
    have ihn := ih (i + 1) m (by omega) (by omega)
    have z : nz (nI A) = true := decide_eq_true (nI_ne0 hA hA2)
    rw [fX4_shareOf_30_L58, e4, if_neg (nI_ge (a := i) (b := h 4) (by omega) (by omega)), hR i (by omega), bd1_s]
    simp only [lt_e, bk_e, gd_t z, nI_mul]
    rw [nI_mod hp hA2, nI_divI hp hA2, nI_add]
    simp only [nI_1]
    rw [show sN (shA s A r0 w R) (i + 1) = sN (shA s A r0 w R) i + (if r0 < s * R i % A ∨ (s * R i % A = r0 ∧ i < w) then 1 else 0) from rfl] at ihn
    by_cases c : r0 < s * R i % A
    · rw [if_pos (nI_lt c hl)]
      rw [if_pos (Or.inl c)] at ihn
      exact ihn
    · rw [if_neg (nI_nlt (by omega) (by omega))]
      by_cases d : s * R i % A = r0
      · rw [if_pos (by rw [d])]
        by_cases f : i < w
        · rw [if_neg (nI_ge (a := i) (b := w) f (by omega))]
          rw [if_pos (Or.inr ⟨d, f⟩)] at ihn
          exact ihn
        · rw [if_pos (nI_le (by omega) (by omega))]
          rw [if_neg (fun zz => zz.elim c (fun q => f q.2)), Nat.add_zero] at ihn
          exact ihn
      · rw [if_neg (fun zz => d ((nI_eq hl hr0).mp zz))]
        rw [if_neg (fun zz => zz.elim c (fun q => d q.1)), Nat.add_zero] at ihn
        exact ihn
theorem shR2 {S : Nat → Int32} {V : Nat → Nat → Int32} (e4 : S 5 = nI (h 4)) (h46 : h 4 ≤ 6) {R : Nat → Nat} (hb : ∀ k, k < h 4 → R k ≤ 50000) (hR : ∀ k, k < h 4 → fX12_rentOf_0 S V (nI k) = some (nI (R k))) {E : Int32 → Int32 → Int64 → Int64 → (Nat → Int32) → Option (Int32 × (Nat → Int32))} {x : Int32} {s A : Nat} (hs : s ≤ 9999) (hA : 0 < A) (hA2 : A < 2 ^ 31) : ∀ (j i m : Nat), i + j = h 4 → j < m → fX12_shared_0_L76 E V m x (nI s) (lN A) (zL ((s : Int) - ((sN (fun k => s * R k / A) i : Nat) : Int))) (nI i) S = E x (nI s) (lN A) (zL ((s : Int) - ((sN (fun k => s * R k / A) (h 4) : Nat) : Int))) S := by
  intro j
  induction j with
  | zero =>
    intro i m c1 c2
    obtain ⟨m, rfl⟩ : ∃ z, m = z + 1 := ⟨m - 1, by omega⟩
    rw [fX12_shared_0_L76, e4, if_pos (nI_le (by omega) (by omega)), show i = h 4 by omega]
  | succ j ih =>
    intro i m c1 c2
    obtain ⟨m, rfl⟩ : ∃ z, m = z + 1 := ⟨m - 1, by omega⟩
    have hp := shB hs (hb i (by omega))
    have h5 := hb i (by omega)
    have z : nzl (lN A) = true := decide_eq_true (fun e => by have := (lN_eq (a := A) (b := 0) hA2 (by decide)).mp e; omega)
    rw [fX12_shared_0_L76, e4, if_neg (nI_ge (a := i) (b := h 4) (by omega) (by omega)), hR i (by omega), bd1_s, gd_t z, nI_l (n := s) (by omega), nI_l (n := R i) (by omega), lN_mul, lN_div hp hA2, lN_z (s * R i / A), zL_sub]
    simp only [lt_e, nI_1]
    have ihn := ih (i + 1) m (by omega) (by omega)
    rw [show sN (fun k => s * R k / A) (i + 1) = sN (fun k => s * R k / A) i + s * R i / A from rfl, Int.natCast_add, ← Int.sub_sub] at ihn
    exact ihn
theorem shR3 {S : Nat → Int32} {V : Nat → Nat → Int32} (e4 : S 5 = nI (h 4)) (h46 : h 4 ≤ 6) {R : Nat → Nat} (hb : ∀ k, k < h 4 → R k ≤ 50000) (hR : ∀ k, k < h 4 → fX12_rentOf_0 S V (nI k) = some (nI (R k))) {E : Int32 → Int32 → Int64 → Int64 → Int32 → (Nat → Int32) → Option (Int32 × (Nat → Int32))} {y : Int64} {w s A r0 : Nat} (hw : w < 6) (hs : s ≤ 9999) (hA : 0 < A) (hA2 : A < 2 ^ 31) (hr0 : r0 < 2 ^ 31) : ∀ (j i m : Nat), i + j = h 4 → j < m → fX12_shared_0_L127 E V m (nI w) (nI s) (lN A) y (lN r0) (nI (sN (shA s A r0 w R) i)) (nI i) S = E (nI w) (nI s) (lN A) y (nI (sN (shA s A r0 w R) (h 4))) S := by
  intro j
  induction j with
  | zero =>
    intro i m c1 c2
    obtain ⟨m, rfl⟩ : ∃ z, m = z + 1 := ⟨m - 1, by omega⟩
    rw [fX12_shared_0_L127, e4, if_pos (nI_le (by omega) (by omega)), show i = h 4 by omega]
  | succ j ih =>
    intro i m c1 c2
    obtain ⟨m, rfl⟩ : ∃ z, m = z + 1 := ⟨m - 1, by omega⟩
    have hp := shB hs (hb i (by omega))
    have h5 := hb i (by omega)
    have hl : s * R i % A < 2 ^ 31 := Nat.lt_trans (Nat.mod_lt _ hA) hA2
    have ihn := ih (i + 1) m (by omega) (by omega)
    have z : nzl (lN A) = true := decide_eq_true (fun e => by have := (lN_eq (a := A) (b := 0) hA2 (by decide)).mp e; omega)
    rw [fX12_shared_0_L127, e4, if_neg (nI_ge (a := i) (b := h 4) (by omega) (by omega)), hR i (by omega), bd1_s, gd_t z, nI_l (n := s) (by omega), nI_l (n := R i) (by omega), lN_mul, lN_mod hp hA2]
    simp only [lt_e, bk_e, lg_cmp_gt, lg_cmp_eq]
    rw [show sN (shA s A r0 w R) (i + 1) = sN (shA s A r0 w R) i + (if r0 < s * R i % A ∨ (s * R i % A = r0 ∧ i < w) then 1 else 0) from rfl] at ihn
    simp only [nI_1]
    by_cases c : r0 < s * R i % A
    · rw [if_pos ((lN_lt hr0 hl).mpr c)]
      rw [if_pos (Or.inl c)] at ihn
      exact ihn
    · rw [if_neg (fun zz => c ((lN_lt hr0 hl).mp zz))]
      by_cases d : s * R i % A = r0
      · rw [if_pos (by rw [d])]
        by_cases f : i < w
        · rw [if_neg (nI_ge (a := i) (b := w) f (by omega))]
          rw [if_pos (Or.inr ⟨d, f⟩)] at ihn
          exact ihn
        · rw [if_pos (nI_le (by omega) (by omega)), Int32.add_zero]
          rw [if_neg (fun zz => zz.elim c (fun q => f q.2)), Nat.add_zero] at ihn
          exact ihn
      · rw [if_neg (fun zz => d ((lN_eq hl hr0).mp zz)), Int32.add_zero]
        rw [if_neg (fun zz => zz.elim c (fun q => d q.1)), Nat.add_zero] at ihn
        exact ihn
end SH
