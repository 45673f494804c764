/-! ===== birthday ===== -/
def zI (z : Int) : Int32 := Int32.ofInt z
theorem nI_z (n : Nat) : nI n = zI (n : Int) := Int32.ofInt_eq_ofNat.symm
theorem zI_add (a b : Int) : zI a + zI b = zI (a + b) := (Int32.ofInt_add a b).symm
theorem zI_sub (a b : Int) : zI a - zI b = zI (a - b) := (Int32.ofInt_sub a b).symm
theorem zI_mul (a b : Int) : zI a * zI b = zI (a * b) := (Int32.ofInt_mul a b).symm
theorem zI_neg (a : Int) : -zI a = zI (-a) := (Int32.ofInt_neg a).symm
theorem zI_t {a : Int} (h1 : -2147483648 ≤ a) (h2 : a < 2147483648) : (zI a).toInt = a := Int32.toInt_ofInt_of_le (by omega) (by omega)
theorem zI_le {a b : Int} (h1 : -2147483648 ≤ a) (h2 : a < 2147483648) (h3 : -2147483648 ≤ b) (h4 : b < 2147483648) : zI a ≤ zI b ↔ a ≤ b := by rw [i_le, zI_t h1 h2, zI_t h3 h4]
theorem zI_lt {a b : Int} (h1 : -2147483648 ≤ a) (h2 : a < 2147483648) (h3 : -2147483648 ≤ b) (h4 : b < 2147483648) : zI a < zI b ↔ a < b := by rw [i_lt, zI_t h1 h2, zI_t h3 h4]
theorem zI_div {a b : Int} (h1 : 0 ≤ a) (h2 : a < 2147483648) (h3 : 0 < b) (h4 : b < 2147483648) : zI a / zI b = zI (a / b) := by
  have hq1 : 0 ≤ a / b := Int.ediv_nonneg h1 (by omega)
  have hq2 : a / b ≤ a := Int.ediv_le_self b h1
  apply i_eq
  rw [Int32.toInt_div_of_ne_right _ _ (fun e => by
    have := congrArg Int32.toInt e
    rw [zI_t (by omega) h4, show (-1 : Int32).toInt = -1 from by decide] at this
    omega), zI_t (by omega) h2, zI_t (by omega) h4, zI_t (by omega) (by omega), Int.tdiv_eq_ediv_of_nonneg h1]
def sgI (A : Nat → Nat) : Nat → Nat → Int
  | _, 0 => 0
  | i, k + 1 => ((A i : Int) - 60) + sgI A (i + 1) k
theorem sgI_b {A : Nat → Nat} (h : ∀ i, 40 ≤ A i ∧ A i ≤ 200) : ∀ (k i : Nat), -20 * (k : Int) ≤ sgI A i k ∧ sgI A i k ≤ 140 * (k : Int)
  | 0, i => by constructor <;> exact Int.le_refl _
  | k + 1, i => by
    have h1 := sgI_b h k (i + 1)
    have h2 := h i
    rw [sgI]
    omega
theorem slF_z {A : Nat → Nat} {o : Nat} (ho : ∀ i, o ≤ A i) : ∀ (k i : Nat) (v : Int), slF (fun i => nI (A i - o)) i k (zI v) = zI (v + (sgI A i k - (o : Int) * (k : Int)))
  | 0, i, v => by
    show zI v = _
    rw [sgI]
    congr 1
    omega
  | k + 1, i, v => by
    show slF (fun i => nI (A i - o)) (i + 1) k (zI v + (nI (A i - o) - 60)) = _
    have := ho i
    rw [nI_z, show (60 : Int32) = zI 60 from rfl, zI_sub, zI_add, slF_z ho k (i + 1), sgI]
    congr 1
    have e : (o : Int) * ((k + 1 : Nat) : Int) = (o : Int) * (k : Int) + (o : Int) := by rw [Int.natCast_add, Int.mul_add]; omega
    omega
def bdS (c : Nat → Int) (day : Nat) : Nat → Nat → Int → Int
  | _, 0, _ => 0
  | d, k + 1, v => if v + c d < 1440 then (if -1440 < v + c d then bdS c day (d + 1) k (v + c d) else (day : Int) - (d : Int) - 1) else (d : Int) - (day : Int) + 1
theorem bd_run {c : Nat → Int} {day : Nat} {C : Int} : ∀ (l k s : Nat) (v : Int), l ≤ k → (∀ i, s ≤ i → i < s + l → c i = C) → (∀ i : Nat, 1 ≤ i → i ≤ l → -1440 < v + C * (i : Int) ∧ v + C * (i : Int) < 1440) → bdS c day s k v = bdS c day (s + l) (k - l) (v + C * (l : Int))
  | 0, k, s, v, _, _, _ => by
    show _ = bdS c day s k (v + C * 0)
    rw [Int.mul_zero, Int.add_zero]
  | l + 1, 0, s, v, h, _, _ => absurd h (by omega)
  | l + 1, k + 1, s, v, h, hc, hb => by
    have b1 := hb 1 (Nat.le_refl _) (by omega)
    rw [show ((1 : Nat) : Int) = 1 from rfl, Int.mul_one] at b1
    rw [bdS, hc s (Nat.le_refl _) (by omega), if_pos b1.2, if_pos b1.1, bd_run l k (s + 1) (v + C) (by omega) (fun i h1 h2 => hc i (by omega) (by omega)) (fun i h1 h2 => by
      have b2 := hb (i + 1) (by omega) (by omega)
      rw [Int.natCast_add, Int.mul_add, show ((1 : Nat) : Int) = 1 from rfl, Int.mul_one] at b2
      omega), show s + 1 + l = s + (l + 1) by omega, show k + 1 - (l + 1) = k - l by omega, Int.natCast_add, Int.mul_add, show ((1 : Nat) : Int) = 1 from rfl, Int.mul_one, show v + C + C * (l : Int) = v + (C * (l : Int) + C) by omega]
theorem bd_pos {c : Nat → Int} {day : Nat} {C v : Int} {s k l N : Nat} (hC : 0 < C) (hv : -1440 < v) (hl : l ≤ k) (hc : ∀ i, s ≤ i → i < s + l → c i = C) (n1 : 1 ≤ N) (n2 : C * ((N : Int) - 1) < 1440 - v) (n3 : 1440 - v ≤ C * (N : Int)) : (N ≤ l → bdS c day s k v = (s : Int) - (day : Int) + (N : Int)) ∧ (l < N → bdS c day s k v = bdS c day (s + l) (k - l) (v + C * (l : Int)) ∧ -1440 < v + C * (l : Int) ∧ v + C * (l : Int) < 1440) := by
  have up : ∀ i : Nat, i < N → v + C * (i : Int) < 1440 := fun i hi => by
    have := Int.mul_le_mul_of_nonneg_left (show (i : Int) ≤ (N : Int) - 1 by omega) (Int.le_of_lt hC)
    omega
  have lo : ∀ i : Nat, -1440 < v + C * (i : Int) := fun i => by
    have := Int.mul_nonneg (Int.le_of_lt hC) (Int.natCast_nonneg i)
    omega
  constructor
  · intro hN
    rw [bd_run (N - 1) k s v (by omega) (fun i h1 h2 => hc i h1 (by omega)) (fun i h1 h2 => ⟨lo i, up i (by omega)⟩), show k - (N - 1) = (k - N) + 1 by omega, bdS, hc (s + (N - 1)) (by omega) (by omega)]
    have e : v + C * ((N - 1 : Nat) : Int) + C = v + C * (N : Int) := by
      rw [show ((N - 1 : Nat) : Int) = (N : Int) - 1 by omega, Int.mul_sub, Int.mul_one]
      omega
    rw [e, if_neg (by omega)]
    omega
  · intro hN
    exact ⟨bd_run l k s v hl hc (fun i h1 h2 => ⟨lo i, up i (by omega)⟩), lo l, up l hN⟩
theorem bd_neg {c : Nat → Int} {day : Nat} {C v : Int} {s k l N : Nat} (hC : C < 0) (hv : v < 1440) (hl : l ≤ k) (hc : ∀ i, s ≤ i → i < s + l → c i = C) (n1 : 1 ≤ N) (n2 : -C * ((N : Int) - 1) < 1440 + v) (n3 : 1440 + v ≤ -C * (N : Int)) : (N ≤ l → bdS c day s k v = -((s : Int) - (day : Int) + (N : Int))) ∧ (l < N → bdS c day s k v = bdS c day (s + l) (k - l) (v + C * (l : Int)) ∧ -1440 < v + C * (l : Int) ∧ v + C * (l : Int) < 1440) := by
  have lo : ∀ i : Nat, i < N → -1440 < v + C * (i : Int) := fun i hi => by
    have := Int.mul_le_mul_of_nonneg_left (show (i : Int) ≤ (N : Int) - 1 by omega) (show (0 : Int) ≤ -C by omega)
    rw [Int.neg_mul, Int.neg_mul] at this
    rw [Int.neg_mul] at n2
    omega
  have up : ∀ i : Nat, v + C * (i : Int) < 1440 := fun i => by
    have := Int.mul_nonneg (show (0 : Int) ≤ -C by omega) (Int.natCast_nonneg i)
    rw [Int.neg_mul] at this
    omega
  constructor
  · intro hN
    rw [bd_run (N - 1) k s v (by omega) (fun i h1 h2 => hc i h1 (by omega)) (fun i h1 h2 => ⟨lo i (by omega), up i⟩), show k - (N - 1) = (k - N) + 1 by omega, bdS, hc (s + (N - 1)) (by omega) (by omega)]
    have e : v + C * ((N - 1 : Nat) : Int) + C = v + C * (N : Int) := by
      rw [show ((N - 1 : Nat) : Int) = (N : Int) - 1 by omega, Int.mul_sub, Int.mul_one]
      omega
    have u := up N
    rw [Int.neg_mul] at n3
    rw [e, if_pos u, if_neg (by omega)]
    omega
  · intro hN
    exact ⟨bd_run l k s v hl hc (fun i h1 h2 => ⟨lo i (by omega), up i⟩), lo l hN, up l⟩
/-- how many days to a whole one -/
theorem ceilN {C w : Int} (hC : 0 < C) (hw : 0 < w) : ∃ N : Nat, (w + C - 1) / C = (N : Int) ∧ 1 ≤ N ∧ C * ((N : Int) - 1) < w ∧ w ≤ C * (N : Int) := by
  have h1 : 0 ≤ (w + C - 1) / C := Int.ediv_nonneg (by omega) (by omega)
  have h2 := Int.mul_ediv_add_emod (w + C - 1) C
  have h3 := Int.emod_nonneg (w + C - 1) (show C ≠ 0 by omega)
  have h4 := Int.emod_lt_of_pos (w + C - 1) hC
  refine ⟨((w + C - 1) / C).toNat, by omega, ?_, ?_, ?_⟩
  · rcases Int.lt_or_le 0 ((w + C - 1) / C) with h | h
    · omega
    · have h0 : (w + C - 1) / C = 0 := by omega
      rw [h0, Int.mul_zero] at h2
      omega
  · rw [show (((w + C - 1) / C).toNat : Int) = (w + C - 1) / C by omega, Int.mul_sub, Int.mul_one]
    omega
  · rw [show (((w + C - 1) / C).toNat : Int) = (w + C - 1) / C by omega]
    omega
theorem dtd_pos {v C : Int} (hC : 0 < C) (hC2 : C < 100000) (hv : v < 1440) (hv2 : -1440 < v) : fX6_daysToADay (zI v) (zI C) = some (zI ((1440 - v + C - 1) / C)) := by
  unfold fX6_daysToADay
  rw [if_pos (show 0 < zI C from (zI_lt (a := 0) (b := C) (by decide) (by decide) (by omega) (by omega)).mpr hC), gd_t (show nz (zI C) = true from decide_eq_true (fun e => by
    have := congrArg Int32.toInt e
    rw [zI_t (by omega) (by omega), show (0 : Int32).toInt = 0 from by decide] at this
    omega)), show (1440 : Int32) = zI 1440 from rfl, show (1 : Int32) = zI 1 from rfl, zI_sub, zI_add, zI_sub, zI_div (by omega) (by omega) hC (by omega)]
