/-! ===== small numbers ===== -/
theorem i_eq {a b : Int32} (h : a.toInt = b.toInt) : a = b := Int32.toInt_inj.mp h
theorem i_lt {a b : Int32} : a < b ↔ a.toInt < b.toInt := Int32.lt_iff_toInt_lt
theorem i_le {a b : Int32} : a ≤ b ↔ a.toInt ≤ b.toInt := Int32.le_iff_toInt_le
theorem nI_mul (a b : Nat) : nI a * nI b = nI (a * b) := (Int32.ofNat_mul a b).symm
theorem ib_n {i N : Nat} (h : i < N) (hN : N < 2 ^ 31) : ib (nI i) N = true := decide_eq_true (nI_in h hN)
theorem nI_4 (i c : Nat) : (4 : Int32) * nI i + nI c = nI (4 * i + c) := by rw [show (4 : Int32) = nI 4 from rfl, nI_mul, nI_add]
theorem nI_40 (i : Nat) : (4 : Int32) * nI i = nI (4 * i) := by rw [show (4 : Int32) = nI 4 from rfl, nI_mul]
theorem nI_41 (i : Nat) : (4 : Int32) * nI i + 1 = nI (4 * i + 1) := nI_4 i 1
theorem nI_42 (i : Nat) : (4 : Int32) * nI i + 2 = nI (4 * i + 2) := nI_4 i 2
theorem nI_43 (i : Nat) : (4 : Int32) * nI i + 3 = nI (4 * i + 3) := nI_4 i 3
theorem nI_cl (n : Nat) (h : n < 2 ^ 31) : (nI n).toNatClampNeg = n := nI_clamp h
theorem gd_n {β : Type} (i N : Nat) {k : Option β} (h : i < N) (hN : N < 2 ^ 31) : gd (ib (nI i) N) k = k := gd_t (ib_n h hN)
theorem nI_m1 {i : Nat} (h : i < 2 ^ 31) : ¬ nI i = -1 := fun e => by
  have := congrArg Int32.toInt e
  rw [nI_toInt h, show (-1 : Int32).toInt = -1 from by decide] at this
  omega
theorem nI_toInt' {i : Nat} (h : i < 2 ^ 31) : (nI i).toInt = (i : Int) := nI_toInt h
theorem bit_lt {n : Nat} (h : n < 31) : ((1 : Int32) <<< (nI n &&& 31)) = nI (2 ^ n) := by
  rcases (show n = 0 ∨ n = 1 ∨ n = 2 ∨ n = 3 ∨ n = 4 ∨ n = 5 ∨ n = 6 ∨ n = 7 ∨ n = 8 ∨ n = 9 ∨ n = 10 ∨ n = 11 ∨ n = 12 ∨ n = 13 ∨ n = 14 ∨ n = 15 ∨ n = 16 ∨ n = 17 ∨ n = 18 ∨ n = 19 ∨ n = 20 ∨ n = 21 ∨ n = 22 ∨ n = 23 ∨ n = 24 ∨ n = 25 ∨ n = 26 ∨ n = 27 ∨ n = 28 ∨ n = 29 ∨ n = 30 by omega) with rfl | rfl | rfl | rfl | rfl | rfl | rfl | rfl | rfl | rfl | rfl | rfl | rfl | rfl | rfl | rfl | rfl | rfl | rfl | rfl | rfl | rfl | rfl | rfl | rfl | rfl | rfl | rfl | rfl | rfl | rfl <;> decide
theorem nI_sub {a b : Nat} (h : b ≤ a) : nI a - nI b = nI (a - b) := by
  have e : nI a = nI (a - b) + nI b := by rw [nI_add]; congr 1; omega
  rw [e, Int32.add_sub_cancel]
theorem upd_same (f : Nat → Int32) (k : Nat) (x : Int32) : upd f k x k = x := by simp [upd]
theorem upd_ne (f : Nat → Int32) {k j : Nat} (x : Int32) (h : j ≠ k) : upd f k x j = f j := by simp [upd, h]
theorem bd0_s {β : Type} {k : Option β} : bd0 (some ()) k = k := (rfl : _ = _).trans rfl
theorem bd1_s {α β : Type} {a : α} {k : α → Option β} : bd1 (some a) k = k a := (rfl : _ = _).trans rfl
theorem bd2_s {α γ β : Type} {a : α} {b : γ} {k : α → γ → Option β} : bd2 (some (a, b)) k = k a b := (rfl : _ = _).trans rfl
theorem bd3_s {α γ δ β : Type} {a : α} {b : γ} {c : δ} {k : α → γ → δ → Option β} : bd3 (some (a, b, c)) k = k a b c := (rfl : _ = _).trans rfl
theorem bd4_s {α γ δ ε β : Type} {a : α} {b : γ} {c : δ} {d : ε} {k : α → γ → δ → ε → Option β} : bd4 (some (a, b, c, d)) k = k a b c d := (rfl : _ = _).trans rfl
theorem bdx_l {β : Type} {k : Option (β ⊕ Nat)} : bdx (some (.inl ())) k = k := (rfl : _ = _).trans rfl
theorem bdx_r {β : Type} {k : Option (β ⊕ Nat)} {i : Nat} : bdx (some (.inr i)) k = some (.inr i) := (rfl : _ = _).trans rfl
theorem lt_e {α β : Type} (e : α) (k : α → Option β) : lt e k = k e := (rfl : lt e k = lt e k).trans rfl
theorem bk_e {α β : Type} (rest : α) (body : α → β) : bk rest body = body rest := (rfl : bk rest body = bk rest body).trans rfl
theorem gd_tt {β : Type} {k : Option β} : gd true k = k := (rfl : _ = _).trans rfl
/-! rows for simp: numbers that are none of the negative ones -/
theorem q_l2 : (2 : Int32) = nI 2 := rfl
theorem q_l3 : (3 : Int32) = nI 3 := rfl
theorem q_l4 : (4 : Int32) = nI 4 := rfl
theorem q_l5 : (5 : Int32) = nI 5 := rfl
theorem q_l6 : (6 : Int32) = nI 6 := rfl
theorem q_l7 : (7 : Int32) = nI 7 := rfl
theorem q_l8 : (8 : Int32) = nI 8 := rfl
theorem q_l9 : (9 : Int32) = nI 9 := rfl
theorem q_l10 : (10 : Int32) = nI 10 := rfl
theorem q_l11 : (11 : Int32) = nI 11 := rfl
theorem q_l12 : (12 : Int32) = nI 12 := rfl
theorem q_l13 : (13 : Int32) = nI 13 := rfl
theorem q_l14 : (14 : Int32) = nI 14 := rfl
theorem q_l15 : (15 : Int32) = nI 15 := rfl
theorem q_l16 : (16 : Int32) = nI 16 := rfl
theorem q_l17 : (17 : Int32) = nI 17 := rfl
theorem q_l18 : (18 : Int32) = nI 18 := rfl
theorem q_l19 : (19 : Int32) = nI 19 := rfl
theorem q_l20 : (20 : Int32) = nI 20 := rfl
theorem q_l21 : (21 : Int32) = nI 21 := rfl
theorem q_l22 : (22 : Int32) = nI 22 := rfl
theorem q_l23 : (23 : Int32) = nI 23 := rfl
theorem q_l24 : (24 : Int32) = nI 24 := rfl
theorem q_l30 : (30 : Int32) = nI 30 := rfl
theorem q_l31 : (31 : Int32) = nI 31 := rfl
theorem q_l32 : (32 : Int32) = nI 32 := rfl
theorem q_l40 : (40 : Int32) = nI 40 := rfl
theorem q_l41 : (41 : Int32) = nI 41 := rfl
theorem q_l45 : (45 : Int32) = nI 45 := rfl
theorem q_l48 : (48 : Int32) = nI 48 := rfl
theorem q_l49 : (49 : Int32) = nI 49 := rfl
theorem q_l60 : (60 : Int32) = nI 60 := rfl
theorem q_l63 : (63 : Int32) = nI 63 := rfl
theorem q_l64 : (64 : Int32) = nI 64 := rfl
theorem q_l72 : (72 : Int32) = nI 72 := rfl
theorem q_l84 : (84 : Int32) = nI 84 := rfl
theorem q_l96 : (96 : Int32) = nI 96 := rfl
theorem q_l99 : (99 : Int32) = nI 99 := rfl
theorem q_l100 : (100 : Int32) = nI 100 := rfl
theorem q_l255 : (255 : Int32) = nI 255 := rfl
theorem q_l343 : (343 : Int32) = nI 343 := rfl
theorem q_l400 : (400 : Int32) = nI 400 := rfl
theorem q_l500 : (500 : Int32) = nI 500 := rfl
theorem q_l600 : (600 : Int32) = nI 600 := rfl
theorem q_l800 : (800 : Int32) = nI 800 := rfl
theorem q_l1000 : (1000 : Int32) = nI 1000 := rfl
theorem q_l1440 : (1440 : Int32) = nI 1440 := rfl
theorem q_l1600 : (1600 : Int32) = nI 1600 := rfl
theorem q_l4095 : (4095 : Int32) = nI 4095 := rfl
theorem q_l9999 : (9999 : Int32) = nI 9999 := rfl
theorem q_l10000 : (10000 : Int32) = nI 10000 := rfl
theorem q_l10001 : (10001 : Int32) = nI 10001 := rfl
theorem q_l20000 : (20000 : Int32) = nI 20000 := rfl
theorem q_l32767 : (32767 : Int32) = nI 32767 := rfl
theorem q_l1000000 : (1000000 : Int32) = nI 1000000 := rfl
theorem nI_lt0 {n : Nat} (hn : n < 2 ^ 31) : nI n < 0 ↔ False := ⟨fun h => nI_pos hn h, fun h => h.elim⟩
theorem nI_ge0 {n : Nat} (hn : n < 2 ^ 31) : 0 ≤ nI n ↔ True := ⟨fun _ => trivial, fun _ => nI_pos' hn⟩
theorem nI_le0 {n : Nat} (hn : n < 2 ^ 31) : nI n ≤ 0 ↔ n = 0 := by
  have := nI_leI (a := n) (b := 0) hn (by decide)
  rw [nI_0] at this
  rw [this]; omega
theorem nI_gt0 {n : Nat} (hn : n < 2 ^ 31) : 0 < nI n ↔ 0 < n := by
  have := nI_ltI (a := 0) (b := n) (by decide) hn
  rwa [nI_0] at this
theorem nI_eq0 {n : Nat} (hn : n < 2 ^ 31) : nI n = 0 ↔ n = 0 := by
  have := nI_eq (a := n) (b := 0) hn (by decide)
  rwa [nI_0] at this
theorem nI_eq1 {n : Nat} (hn : n < 2 ^ 31) : nI n = 1 ↔ n = 1 := nI_eq (a := n) (b := 1) hn (by decide)
theorem nI_lt1 {n : Nat} (hn : n < 2 ^ 31) : nI n < 1 ↔ n < 1 := nI_ltI (a := n) (b := 1) hn (by decide)
theorem nI_le1 {n : Nat} (hn : n < 2 ^ 31) : nI n ≤ 1 ↔ n ≤ 1 := nI_leI (a := n) (b := 1) hn (by decide)
theorem nI_gt1 {n : Nat} (hn : n < 2 ^ 31) : 1 < nI n ↔ 1 < n := nI_ltI (a := 1) (b := n) (by decide) hn
theorem nI_ge1 {n : Nat} (hn : n < 2 ^ 31) : 1 ≤ nI n ↔ 1 ≤ n := nI_leI (a := 1) (b := n) (by decide) hn
theorem nI_l1 (n : Nat) : 1 + nI n = nI (1 + n) := nI_add 1 n
theorem nI_s1 {n : Nat} (h : 1 ≤ n) : nI n - 1 = nI (n - 1) := nI_sub (b := 1) h
theorem nI_a0 (n : Nat) : nI n + 0 = nI n := nI_add n 0
theorem nI_0a (n : Nat) : 0 + nI n = nI n := by rw [← nI_0, nI_add, Nat.zero_add]
theorem nI_m0 (n : Nat) : nI n * 0 = 0 := by rw [← nI_0, nI_mul, Nat.mul_zero]
theorem nI_0m (n : Nat) : 0 * nI n = 0 := by rw [← nI_0, nI_mul, Nat.zero_mul]
theorem nI_em1 {n : Nat} (h : n < 2 ^ 31) : nI n = -1 ↔ False := ⟨fun e => nI_m1 h e, fun e => e.elim⟩
theorem nI_divI {a b : Nat} (ha : a < 2 ^ 31) (hb : b < 2 ^ 31) : nI a / nI b = nI (a / b) := by
  apply i_eq
  rw [Int32.toInt_div_of_ne_right (a := nI a) (b := nI b) (by
    intro e
    have := congrArg Int32.toInt e
    rw [nI_toInt hb] at this
    have e2 : (-1 : Int32).toInt = -1 := by decide
    omega), nI_toInt ha, nI_toInt hb, nI_toInt (Nat.lt_of_le_of_lt (Nat.div_le_self a b) ha), Int.natCast_ediv, ← Int.tdiv_eq_ediv_of_nonneg (by omega)]
theorem va_up_at {α : Type} (f : Nat → α) (k : Nat) (v : α) (j : Nat) : va_up f k v j = if j = k then v else f j := rfl
theorem va_up_up {α : Type} (f : Nat → α) (k : Nat) (u v : α) : va_up (va_up f k u) k v = va_up f k v := by
  funext j
  by_cases h : j = k
  · simp [va_up, h]
  · simp [va_up, h]
