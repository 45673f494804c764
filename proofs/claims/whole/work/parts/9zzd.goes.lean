/-! ===== the next token (the reference) ===== -/
section GO
variable (tx : Nat → Nat) (n : Nat)
def nxA (q : Nat) : Nat := if q < n then tkE tx n q else q
def soA (k : Nat) : Nat := if k = 0 then 0 else if k = 1 then 2 else if k = 2 then 4 else if k < 100 then 3 else 1
def RT (s17 s18 s19 s20 s21 s22 s23 : Int32) (l24 : Int64) (q : Nat) : Prop := q ≤ n ∧ s17 = nI n ∧ s18 = nI (nxA tx n q) ∧ s19 = nI (soA (kdA tx n q)) ∧ s20 = nI q ∧ s21 = nI (nxA tx n q - q) ∧ (kdA tx n q = 1 → s22 = nI (dgV tx q (min (tkE tx n q - q) 4))) ∧ (soA (kdA tx n q) = 3 → s23 = nI (kdA tx n q)) ∧ (100 ≤ kdA tx n q → tkE tx n q - q ≤ 8 → l24 = lN (pkF (fun i => tx (q + i)) (tkE tx n q - q)))
def bA (p : Nat) : Nat := if p < n then tx p else 0
end GO
/-- six cells of the reference -/
abbrev gS (S : Nat → Int32) (a b c d e f : Int32) : Nat → Int32 := va_up (va_up (va_up (va_up (va_up (va_up S 18 a) 19 b) 20 c) 21 d) 22 e) 23 f
theorem gS_ext {S S2 : Nat → Int32} (h : ∀ k, k < 18 ∨ 23 < k → S2 k = S k) : S2 = gS S (S2 18) (S2 19) (S2 20) (S2 21) (S2 22) (S2 23) := by
  funext k
  by_cases h1 : k < 18 ∨ 23 < k
  · rw [h k h1]
    simp only [gS, va_up]
    rw [if_neg (by omega), if_neg (by omega), if_neg (by omega), if_neg (by omega), if_neg (by omega), if_neg (by omega)]
  · rcases (show k = 18 ∨ k = 19 ∨ k = 20 ∨ k = 21 ∨ k = 22 ∨ k = 23 by omega) with rfl | rfl | rfl | rfl | rfl | rfl <;> rfl
theorem sh5 {a d : Nat} (ha : a < 2 ^ 50) (hd : d < 32) : (lN a <<< ((5 : Int32).toInt64 &&& 63)) ||| lN d = lN (a * 32 + d) := by
  apply Int64.toBitVec_inj.mp
  rw [Int64.toBitVec_or, Int64.toBitVec_shiftLeft, lN_bv, lN_bv, lN_bv]
  have e : (((5 : Int32).toInt64 &&& 63).toBitVec.smod 64) = 5#64 := by decide
  rw [e]
  apply BitVec.eq_of_toNat_eq
  show (BitVec.ofNat 64 a <<< 5 ||| BitVec.ofNat 64 d).toNat = (BitVec.ofNat 64 (a * 32 + d)).toNat
  rw [BitVec.toNat_or, BitVec.toNat_shiftLeft, BitVec.toNat_ofNat, BitVec.toNat_ofNat, BitVec.toNat_ofNat, Nat.mod_eq_of_lt (show a < 2 ^ 64 by omega), Nat.mod_eq_of_lt (show d < 2 ^ 64 by omega), Nat.mod_eq_of_lt (show a * 32 + d < 2 ^ 64 by omega), Nat.shiftLeft_eq, Nat.mod_eq_of_lt (show a * 2 ^ 5 < 2 ^ 64 by omega), Nat.mul_comm a (2 ^ 5), ← Nat.two_pow_add_eq_or_of_lt (show d < 2 ^ 5 from hd) a, Nat.mul_comm]
theorem lt_bA {x : Nat} (hx : x < 256) : fX12_isLetter (nI x) = some (bI (isLt x)) := by
  unfold fX12_isLetter
  by_cases c1 : x < 97
  · rw [if_pos (show nI x < 97 from nI_lt (a := x) (b := 97) c1 (by decide)), show isLt x = false from decide_eq_false (by omega)]; rfl
  · rw [if_neg (show ¬ nI x < 97 from nI_nlt (a := x) (b := 97) (by omega) (by omega))]
    by_cases c2 : 122 < x
    · rw [if_pos (show 122 < nI x from nI_lt (a := 122) (b := x) c2 (by omega)), show isLt x = false from decide_eq_false (by omega)]; rfl
    · rw [if_neg (show ¬ 122 < nI x from nI_nlt (a := 122) (b := x) (by omega) (by decide)), show isLt x = true from decide_eq_true (by omega)]; rfl
theorem dg_bA {x : Nat} (hx : x < 256) : fX12_isDigit (nI x) = some (bI (isDg x)) := by
  unfold fX12_isDigit
  by_cases c1 : x < 48
  · rw [if_pos (show nI x < 48 from nI_lt (a := x) (b := 48) c1 (by decide)), show isDg x = false from decide_eq_false (by omega)]; rfl
  · rw [if_neg (show ¬ nI x < 48 from nI_nlt (a := x) (b := 48) (by omega) (by omega))]
    by_cases c2 : 57 < x
    · rw [if_pos (show 57 < nI x from nI_lt (a := 57) (b := x) c2 (by omega)), show isDg x = false from decide_eq_false (by omega)]; rfl
    · rw [if_neg (show ¬ 57 < nI x from nI_nlt (a := 57) (b := x) (by omega) (by decide)), show isDg x = true from decide_eq_true (by omega)]; rfl
section GP
variable {tx : Nat → Nat} {n : Nat} {S : Nat → Int32} {V : Nat → Nat → Int32} {L : Nat → Int64}
/-- the reference's tape -/
def TxR (tx : Nat → Nat) (n : Nat) (v : Nat → Int32) : Prop := n ≤ 600 ∧ ∀ i, i < n → tx i < 256 ∧ v i = nI (tx i)
theorem bA_b (hx : TxR tx n (V 5)) (p : Nat) : bA tx n p < 256 := by
  unfold bA
  split
  · rename_i h; exact (hx.2 p h).1
  · decide
theorem byC (hx : TxR tx n (V 5)) (h17 : S 17 = nI n) {p : Nat} (hp : p < 2 ^ 31) : fX12_byteAt_0 S V (nI p) = some (nI (bA tx n p)) := by
  have h6 := hx.1
  unfold fX12_byteAt_0 bA
  rw [h17]
  by_cases c : p < n
  · rw [if_neg (nI_ge c (by omega)), if_pos c, gd_n p 600 (by omega) (by decide), nI_cl p hp, (hx.2 p c).2]
  · rw [if_pos (nI_le (by omega) hp), if_neg c, nI_0]
theorem go0 (hx : TxR tx n (V 5)) (h17 : S 17 = nI n) {E : (Nat → Int32) → (Nat → Int64) → Option ((Nat → Int32) × (Nat → Int64))} : ∀ (j p f : Nat), p + j = n → j < f → fX12_goes_0_L0 E V f (va_up S 18 (nI p)) L = E (va_up S 18 (nI (fsE tx n isBl p))) L := by
  have h6 := hx.1
  intro j
  induction j with
  | zero =>
    intro p f c1 c2
    obtain ⟨f, rfl⟩ : ∃ z, f = z + 1 := ⟨f - 1, by omega⟩
    have : p = n := by omega
    subst this
    rw [fX12_goes_0_L0, va_up_self, show (va_up S 18 (nI p)) 17 = nI p from h17, if_pos (nI_le (Nat.le_refl _) (by omega)), fsE_n]
  | succ j ih =>
    intro p f c1 c2
    obtain ⟨f, rfl⟩ : ∃ z, f = z + 1 := ⟨f - 1, by omega⟩
    have hb : bA tx n p = tx p := if_pos (by omega)
    have ht := (hx.2 p (by omega)).1
    have ihn := ih (p + 1) f (by omega) (by omega)
    rw [fX12_goes_0_L0, va_up_self, show (va_up S 18 (nI p)) 17 = nI n from h17, if_neg (nI_ge (a := p) (b := n) (by omega) (by omega)), byC (S := va_up S 18 (nI p)) hx h17 (by omega), bd1_s, hb]
    simp only [bk_e, lt_e, bd1_s, va_up_self, va_up_up, nI_1]
    by_cases c : isBl (tx p) = true
    · rw [fsE_t (by omega) c]
      unfold isBl at c
      rw [decide_eq_true_iff] at c
      by_cases d1 : tx p = 32
      · rw [if_pos (show nI (tx p) = 32 from by rw [d1]; rfl)]
        exact ihn
      · rw [if_neg (show ¬ nI (tx p) = 32 from fun z => d1 ((nI_eq (a := tx p) (b := 32) (by omega) (by decide)).mp z)), if_pos (show nI (tx p) = 10 from by rw [c.resolve_left d1]; rfl)]
        exact ihn
    · have c' : isBl (tx p) = false := by
        cases hq : isBl (tx p) with
        | false => rfl
        | true => exact absurd hq c
      rw [fsE_f (by omega) c']
      unfold isBl at c
      rw [decide_eq_true_iff] at c
      rw [if_neg (show ¬ nI (tx p) = 32 from fun z => c (Or.inl ((nI_eq (a := tx p) (b := 32) (by omega) (by decide)).mp z))), if_neg (show ¬ nI (tx p) = 10 from fun z => c (Or.inr ((nI_eq (a := tx p) (b := 10) (by omega) (by decide)).mp z)))]
theorem go108 (hx : TxR tx n (V 5)) (h17 : S 17 = nI n) {q : Nat} (h20 : S 20 = nI q) {E : (Nat → Int32) → (Nat → Int64) → Option ((Nat → Int32) × (Nat → Int64))} : ∀ (j k f : Nat), q + k + j = n → j < f → (∀ i, i < k → isLt (tx (q + i)) = true) → fX12_goes_0_L108 E V f (va_up S 18 (nI (q + k))) (va_up L 24 (lN (pkF (fun i => tx (q + i)) (min k 8)))) = E (va_up S 18 (nI (fsE tx n isLt (q + k)))) (va_up L 24 (lN (pkF (fun i => tx (q + i)) (min (fsE tx n isLt (q + k) - q) 8)))) := by
  have h6 := hx.1
  intro j
  induction j with
  | zero =>
    intro k f c1 c2 c3
    obtain ⟨f, rfl⟩ : ∃ z, f = z + 1 := ⟨f - 1, by omega⟩
    have e : q + k = n := by omega
    rw [fX12_goes_0_L108, va_up_self, byC (S := va_up S 18 (nI (q + k))) hx h17 (by omega), bd1_s, show bA tx n (q + k) = 0 from if_neg (by omega), lt_bA (by decide), bd1_s, if_pos (show bI (isLt 0) = 0 by decide), e, fsE_n, show n - q = k by omega]
  | succ j ih =>
    intro k f c1 c2 c3
    obtain ⟨f, rfl⟩ : ∃ z, f = z + 1 := ⟨f - 1, by omega⟩
    have hb : bA tx n (q + k) = tx (q + k) := if_pos (by omega)
    have ht := (hx.2 (q + k) (by omega)).1
    rw [fX12_goes_0_L108, va_up_self, byC (S := va_up S 18 (nI (q + k))) hx h17 (by omega), bd1_s, hb, lt_bA ht, bd1_s]
    simp only [bk_e, lt_e, bd1_s, va_up_self, va_up_up, nI_1]
    cases hl : isLt (tx (q + k)) with
    | false =>
      rw [if_pos (show bI false = 0 from rfl), fsE_f (by omega) hl, show q + k - q = k by omega]
    | true =>
      have ihn := ih (k + 1) f (by omega) (by omega) (fun i hi => by
        by_cases e : i = k
        · rw [e]; exact hl
        · exact c3 i (by omega))
      rw [if_neg (show ¬ bI true = 0 by decide), show (va_up S 18 (nI (q + k))) 20 = nI q from h20, nI_sub (by omega), show q + k - q = k by omega, fsE_t (by omega) hl]
      by_cases c8 : 8 ≤ k
      · rw [if_pos (show 8 ≤ nI k from nI_le (a := 8) (b := k) c8 (by omega)), show min k 8 = 8 by omega]
        rw [show min (k + 1) 8 = 8 by omega, show q + (k + 1) = q + k + 1 by omega] at ihn
        exact ihn
      · have hlr : 97 ≤ tx (q + k) ∧ tx (q + k) ≤ 122 := by
          unfold isLt at hl
          exact of_decide_eq_true hl
        have pl : pkF (fun i => tx (q + i)) k < 2 ^ 50 := Nat.lt_of_lt_of_le (pkF_lt k (fun i hi => by
          have := c3 i hi
          unfold isLt at this
          exact of_decide_eq_true this)) ((by decide : ∀ k, k < 8 → 32 ^ k ≤ 2 ^ 50) k (by omega))
        rw [if_neg (show ¬ 8 ≤ nI k from nI_ge (a := k) (b := 8) (by omega) (by decide)), show min k 8 = k by omega, show (96 : Int32) = nI 96 from rfl, nI_sub (by omega), nI_l (by omega), sh5 pl (by omega)]
        rw [show min (k + 1) 8 = k + 1 by omega, pkF, show q + (k + 1) = q + k + 1 by omega] at ihn
        exact ihn
theorem go187 (hx : TxR tx n (V 5)) (h17 : S 17 = nI n) {q : Nat} (h20 : S 20 = nI q) {E : (Nat → Int32) → (Nat → Int64) → Option ((Nat → Int32) × (Nat → Int64))} : ∀ (j k f : Nat), q + k + j = n → j < f → (∀ i, i < k → isDg (tx (q + i)) = true) → fX12_goes_0_L187 E V f (va_up (va_up S 18 (nI (q + k))) 22 (nI (dgV tx q (min k 4)))) L = E (va_up (va_up S 18 (nI (fsE tx n isDg (q + k)))) 22 (nI (dgV tx q (min (fsE tx n isDg (q + k) - q) 4)))) L := by
  have h6 := hx.1
  have sw : ∀ (x y z : Int32), va_up (va_up (va_up S 18 x) 22 y) 18 z = va_up (va_up S 18 z) 22 y := fun x y z => by
    funext r
    simp only [va_up]
    by_cases e : r = 18
    · subst e; rfl
    · simp only [if_neg e]
  intro j
  induction j with
  | zero =>
    intro k f c1 c2 c3
    obtain ⟨f, rfl⟩ : ∃ z, f = z + 1 := ⟨f - 1, by omega⟩
    have e : q + k = n := by omega
    rw [fX12_goes_0_L187, show (va_up (va_up S 18 (nI (q + k))) 22 (nI (dgV tx q (min k 4)))) 18 = nI (q + k) from rfl, byC (S := va_up (va_up S 18 (nI (q + k))) 22 (nI (dgV tx q (min k 4)))) hx h17 (by omega), bd1_s, show bA tx n (q + k) = 0 from if_neg (by omega), dg_bA (by decide), bd1_s, if_pos (show bI (isDg 0) = 0 by decide), e, fsE_n, show n - q = k by omega]
  | succ j ih =>
    intro k f c1 c2 c3
    obtain ⟨f, rfl⟩ : ∃ z, f = z + 1 := ⟨f - 1, by omega⟩
    have hb : bA tx n (q + k) = tx (q + k) := if_pos (by omega)
    have ht := (hx.2 (q + k) (by omega)).1
    rw [fX12_goes_0_L187, show (va_up (va_up S 18 (nI (q + k))) 22 (nI (dgV tx q (min k 4)))) 18 = nI (q + k) from rfl, byC (S := va_up (va_up S 18 (nI (q + k))) 22 (nI (dgV tx q (min k 4)))) hx h17 (by omega), bd1_s, hb, dg_bA ht, bd1_s]
    simp only [bk_e, lt_e, bd1_s, va_up_self, va_up_up]
    cases hl : isDg (tx (q + k)) with
    | false =>
      rw [if_pos (show bI false = 0 from rfl), fsE_f (by omega) hl, show q + k - q = k by omega]
    | true =>
      have ihn := ih (k + 1) f (by omega) (by omega) (fun i hi => by
        by_cases e : i = k
        · rw [e]; exact hl
        · exact c3 i (by omega))
      rw [if_neg (show ¬ bI true = 0 by decide), show (va_up (va_up S 18 (nI (q + k))) 22 (nI (dgV tx q (min k 4)))) 20 = nI q from h20, nI_sub (by omega), show q + k - q = k by omega, fsE_t (by omega) hl]
      simp only [show ∀ (x y : Int32), (va_up (va_up S 18 x) 22 y) 18 = x from fun _ _ => rfl, sw, nI_1]
      by_cases c8 : 4 ≤ k
      · rw [if_pos (show 4 ≤ nI k from nI_le (a := 4) (b := k) c8 (by omega)), show min k 4 = 4 by omega]
        rw [show min (k + 1) 4 = 4 by omega, show q + (k + 1) = q + k + 1 by omega] at ihn
        exact ihn
      · have hlr : 48 ≤ tx (q + k) ∧ tx (q + k) ≤ 57 := by
          unfold isDg at hl
          exact of_decide_eq_true hl
        rw [if_neg (show ¬ 4 ≤ nI k from nI_ge (a := k) (b := 4) (by omega) (by decide)), show min k 4 = k by omega, show (10 : Int32) = nI 10 from rfl, show (48 : Int32) = nI 48 from rfl, nI_mul, nI_add, nI_sub (by omega), show 10 * dgV tx q k + tx (q + k) - 48 = 10 * dgV tx q k + (tx (q + k) - 48) by omega]
        rw [show min (k + 1) 4 = k + 1 by omega, dgV, show q + (k + 1) = q + k + 1 by omega] at ihn
        exact ihn
end GP
