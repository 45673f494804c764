/-! ===== cuckoo ===== -/
def itF {σ : Type} (f : Nat → σ → σ) : Nat → Nat → σ → σ
  | _, 0, s => s
  | i, n + 1, s => itF f (i + 1) n (f i s)
theorem it_split {σ : Type} (f : Nat → σ → σ) : ∀ (a b i : Nat) (s : σ), itF f i (a + b) s = itF f (i + a) b (itF f i a s)
  | 0, b, i, s => by rw [Nat.zero_add]; rfl
  | a + 1, b, i, s => by
    rw [show a + 1 + b = (a + b) + 1 by omega]
    show itF f (i + 1) (a + b) (f i s) = _
    rw [it_split f a b (i + 1), show i + 1 + a = i + (a + 1) by omega]
    rfl
theorem it_id {σ : Type} {f : Nat → σ → σ} : ∀ (n i : Nat) (s : σ), (∀ j s, i ≤ j → j < i + n → f j s = s) → itF f i n s = s
  | 0, _, _, _ => rfl
  | n + 1, i, s, h => by
    show itF f (i + 1) n (f i s) = s
    rw [h i s (Nat.le_refl _) (by omega)]
    exact it_id n (i + 1) s (fun j s h1 h2 => h j s (by omega) (by omega))
theorem it_cong {σ : Type} {f g : Nat → σ → σ} : ∀ (n i : Nat) (s : σ), (∀ j s, i ≤ j → j < i + n → f j s = g j s) → itF f i n s = itF g i n s
  | 0, _, _, _ => rfl
  | n + 1, i, s, h => by
    show itF f (i + 1) n (f i s) = itF g (i + 1) n (g i s)
    rw [h i s (Nat.le_refl _) (by omega)]
    exact it_cong n (i + 1) _ (fun j s h1 h2 => h j s (by omega) (by omega))
theorem it_7 {σ : Type} (G : Nat → Nat → σ → σ) : ∀ (n i : Nat) (s : σ), itF (fun c => G (c / 7) (c % 7)) (7 * i) (7 * n) s = itF (fun q s => itF (G q) 0 7 s) i n s
  | 0, _, _ => rfl
  | n + 1, i, s => by
    rw [show 7 * (n + 1) = 7 + 7 * n by omega, it_split, show 7 * i + 7 = 7 * (i + 1) by omega, it_7 G n (i + 1)]
    show itF _ (i + 1) n _ = itF _ (i + 1) n (itF (G i) 0 7 s)
    congr 1
    show (fun c => G (c / 7) (c % 7)) (7 * i + 1 + 1 + 1 + 1 + 1 + 1) ((fun c => G (c / 7) (c % 7)) (7 * i + 1 + 1 + 1 + 1 + 1) ((fun c => G (c / 7) (c % 7)) (7 * i + 1 + 1 + 1 + 1) ((fun c => G (c / 7) (c % 7)) (7 * i + 1 + 1 + 1) ((fun c => G (c / 7) (c % 7)) (7 * i + 1 + 1) ((fun c => G (c / 7) (c % 7)) (7 * i + 1) ((fun c => G (c / 7) (c % 7)) (7 * i) s)))))) = G i 6 (G i 5 (G i 4 (G i 3 (G i 2 (G i 1 (G i 0 s))))))
    simp only [show (7 * i) / 7 = i by omega, show (7 * i) % 7 = 0 by omega, show (7 * i + 1) / 7 = i by omega, show (7 * i + 1) % 7 = 1 by omega, show (7 * i + 1 + 1) / 7 = i by omega, show (7 * i + 1 + 1) % 7 = 2 by omega, show (7 * i + 1 + 1 + 1) / 7 = i by omega, show (7 * i + 1 + 1 + 1) % 7 = 3 by omega, show (7 * i + 1 + 1 + 1 + 1) / 7 = i by omega, show (7 * i + 1 + 1 + 1 + 1) % 7 = 4 by omega, show (7 * i + 1 + 1 + 1 + 1 + 1) / 7 = i by omega, show (7 * i + 1 + 1 + 1 + 1 + 1) % 7 = 5 by omega, show (7 * i + 1 + 1 + 1 + 1 + 1 + 1) / 7 = i by omega, show (7 * i + 1 + 1 + 1 + 1 + 1 + 1) % 7 = 6 by omega]
def dO (x : Nat) : Option Nat := if x = 0 then none else some (x - 1)
theorem dO_ok {k x : Nat} (h : x ≤ k) : okT k (dO x) := fun a e => by
  unfold dO at e
  split at e
  · cases e
  · cases e; omega
theorem enc_dO (x : Nat) : enc (dO x) = nI x - 1 := by
  unfold dO
  by_cases h : x = 0
  · subst h; rfl
  · rw [if_neg h, show nI x - 1 = nI (x - 1) from nI_s1 (by omega)]
    rfl
theorem dO_none {x : Nat} : dO x = none ↔ x = 0 := by
  unfold dO
  split <;> simp_all
theorem dO_inj {x y : Nat} : dO x = dO y ↔ x = y := by
  unfold dO
  by_cases h1 : x = 0 <;> by_cases h2 : y = 0 <;> simp [h1, h2] <;> omega
theorem dO_apt {x y : Nat} (h : x = 0 ∨ x ≠ y) : apt (dO x) (dO y) := fun i e1 e2 => by
  have := dO_inj.mp (e1.trans e2.symm)
  rcases h with h | h
  · subst h; cases e1
  · exact h this
/-- what is known of the cases: how many, who is in all, who in some, the first -/
abbrev Cst : Type := Nat × Nat × Nat × Nat
section CU0
variable (h : Nat → Nat) (t : Nat → Nat → Nat) (sw : Int32)
def caseOK (x y z : Nat) : Prop := x ≤ h 4 ∧ y ≤ h 4 ∧ z ≤ h 4 ∧ (x = 0 ∨ letsT t (x - 1) 0) ∧ (y = 0 ∨ letsT t (y - 1) 1) ∧ (z = 0 ∨ (x ≠ 0 ∧ y ≠ 0)) ∧ (x = 0 ∨ x ≠ y) ∧ (z = 0 ∨ (z ≠ x ∧ z ≠ y))
abbrev bx (x y z : Nat) : Nat := bo (dO x) ||| bo (dO y) ||| bo (dO z)
def upC (x y z : Nat) (s : Cst) : Cst := if nI (swV h t (dO x) (dO y) (dO z) (h 1)) = sw then (s.1 + 1, (if s.1 = 0 then bx x y z else s.2.1 &&& bx x y z), s.2.2.1 ||| bx x y z, (if s.1 = 0 then 100 * x + 10 * y + z else s.2.2.2)) else s
noncomputable def gC (x y z : Nat) (s : Cst) : Cst := @ite Cst (caseOK h t x y z) (Classical.propDecidable _) (upC h t sw x y z s) s
end CU0
/-- the class's cells -/
def cS (S : Nat → Int32) (a : Int32) (s : Cst) : Nat → Int32 := va_up (va_up (va_up (va_up (va_up S 5801 a) 5802 (nI s.1)) 5803 (if s.1 = 0 then 0 else nI s.2.1)) 5804 (nI s.2.2.1)) 5805 (if s.1 = 0 then -1 else nI s.2.2.2)
section CU1
variable {h : Nat → Nat} {t : Nat → Nat → Nat} {sw : Int32}
theorem bit58 {x : Nat} (hx : x ≤ 6) : fX1_bitOf (nI x - 1) = some (nI (bo (dO x))) := by
  unfold fX1_bitOf dO
  by_cases h0 : x = 0
  · subst h0
    rw [if_pos (by decide)]
    rfl
  · rw [if_neg h0, nI_s1 (by omega), if_neg (nI_m1 (by omega)), bit_lt (by omega)]
    rfl
theorem cS_up (S : Nat → Int32) (a : Int32) (s : Cst) (n al so fi al0 : Int32) : va_up (va_up (va_up (va_up (va_up (cS S a s) 5805 fi) 5803 al0) 5803 al) 5804 so) 5802 n = va_up (va_up (va_up (va_up (va_up S 5801 a) 5802 n) 5803 al) 5804 so) 5805 fi := by
  funext j
  unfold cS
  simp only [va_up_at]
  by_cases h5 : j = 5805
  · simp [h5]
  · by_cases h4 : j = 5804
    · simp [h4]
    · by_cases h3 : j = 5803
      · simp [h3]
      · by_cases h2 : j = 5802
        · simp [h2]
        · simp [h2, h3, h4, h5]
theorem cS_up2 (S : Nat → Int32) (a : Int32) (s : Cst) (n al so : Int32) : va_up (va_up (va_up (cS S a s) 5803 al) 5804 so) 5802 n = va_up (va_up (va_up (va_up (va_up S 5801 a) 5802 n) 5803 al) 5804 so) 5805 (if s.1 = 0 then -1 else nI s.2.2.2) := by
  funext j
  unfold cS
  simp only [va_up_at]
  by_cases h5 : j = 5805
  · simp [h5]
  · by_cases h4 : j = 5804
    · simp [h4]
    · by_cases h3 : j = 5803
      · simp [h3]
      · by_cases h2 : j = 5802
        · simp [h2]
        · simp [h2, h3, h4, h5]
theorem mk5 {S : Nat → Int32} {a n n' al al' so so' fi fi' : Int32} (h1 : n = n') (h2 : al = al') (h3 : so = so') (h4 : fi = fi') : va_up (va_up (va_up (va_up (va_up S 5801 a) 5802 n) 5803 al) 5804 so) 5805 fi = va_up (va_up (va_up (va_up (va_up S 5801 a) 5802 n') 5803 al') 5804 so') 5805 fi' := by rw [h1, h2, h3, h4]
theorem look58 {S : Nat → Int32} {V : Nat → Nat → Int32} (hs : MHs h) (hT : MHt h t) (e0 : S 300 = nI (h 0)) (e1 : S 301 = nI (h 1)) (e2 : S 302 = nI (h 2)) (hCt : CHt h t (V 4) (V 5) (V 6) (V 7) (V 8)) {x y z : Nat} (hx : x ≤ h 4) (hy : y ≤ h 4) (hz : z ≤ h 4) (s : Cst) (hk : s.1 < 1000) : fX1_lookAt_58 (cS S sw s) V (nI x - 1) (nI y - 1) (nI z - 1) = some (cS S sw (upC h t sw x y z s)) := by
  have h46 := hs.2.2.2.2.1
  have o0 : fX2_oilLeft_3 (cS S sw s) 0 = some (nI (h 1)) := by
    have := oilC (S := cS S sw s) hs e1 e2 (d := 0) (by decide)
    rw [Nat.zero_div, Nat.sub_zero, nI_0] at this
    exact this
  unfold fX1_lookAt_58
  rw [o0, bd1_s, ← enc_dO x, ← enc_dO y, ← enc_dO z, sw3 (S := cS S sw s) hs hT e0 hCt (dO_ok hx) (dO_ok hy) (dO_ok hz) hs.2.1, bd1_s, enc_dO, enc_dO, enc_dO, show cS S sw s 5801 = sw from rfl, bit58 (by omega), bit58 (by omega), bit58 (by omega)]
  unfold upC
  by_cases c : nI (swV h t (dO x) (dO y) (dO z) (h 1)) = sw
  · rw [if_pos c, if_pos c]
    simp only [bd1_s, lt_e, bk_e, fa_or]
    rw [show cS S sw s 5802 = nI s.1 from rfl]
    have e100 : (100 : Int32) * (nI x - 1 + 1) + (10 : Int32) * (nI y - 1 + 1) + (nI z - 1) + 1 = nI (100 * x + 10 * y + z) := by
      rw [show (100 : Int32) = nI 100 from rfl, show (10 : Int32) = nI 10 from rfl, show ∀ q : Int32, q - 1 + 1 = q from fun q => by grind, show ∀ q : Int32, q - 1 + 1 = q from fun q => by grind, nI_mul, nI_mul, nI_add, show ∀ p q : Int32, p + (q - 1) + 1 = p + q from fun p q => by grind, nI_add]
    by_cases k0 : s.1 = 0
    · rw [if_pos (by rw [k0]; exact nI_0), e100, cS_up]
      refine congrArg some (mk5 (n' := nI (s.1 + 1)) ?_ ?_ ?_ ?_)
      · show nI s.1 + 1 = nI (s.1 + 1)
        exact nI_1 _
      · show nI (bx x y z) &&& nI (bx x y z) = (if s.1 + 1 = 0 then 0 else nI (if s.1 = 0 then bx x y z else s.2.1 &&& bx x y z))
        rw [if_neg (by omega), if_pos k0, fa_and, Nat.and_self]
      · show nI s.2.2.1 ||| nI (bx x y z) = nI (s.2.2.1 ||| bx x y z)
        exact fa_or _ _
      · show nI (100 * x + 10 * y + z) = (if s.1 + 1 = 0 then -1 else nI (if s.1 = 0 then 100 * x + 10 * y + z else s.2.2.2))
        rw [if_neg (by omega), if_pos k0]
    · rw [if_neg (fun q => k0 ((nI_eq0 (by omega)).mp q)), cS_up2]
      refine congrArg some (mk5 (n' := nI (s.1 + 1)) ?_ ?_ ?_ ?_)
      · show nI s.1 + 1 = nI (s.1 + 1)
        exact nI_1 _
      · show (if s.1 = 0 then 0 else nI s.2.1) &&& nI (bx x y z) = (if s.1 + 1 = 0 then 0 else nI (if s.1 = 0 then bx x y z else s.2.1 &&& bx x y z))
        rw [if_neg k0, if_neg (by omega), if_neg k0, fa_and]
      · show nI s.2.2.1 ||| nI (bx x y z) = nI (s.2.2.1 ||| bx x y z)
        exact fa_or _ _
      · show (if s.1 = 0 then -1 else nI s.2.2.2) = (if s.1 + 1 = 0 then -1 else nI (if s.1 = 0 then 100 * x + 10 * y + z else s.2.2.2))
        rw [if_neg k0, if_neg (by omega), if_neg k0]
  · rw [if_neg c, if_neg c]
end CU1
