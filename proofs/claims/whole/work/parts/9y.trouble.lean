/-! ===== what stands against a lease ===== -/
def bI (b : Bool) : Int32 := if b = true then 1 else 0
def anF (p : Nat → Bool) : Nat → Nat → Bool
  | _, 0 => false
  | i, k + 1 => p i || anF p (i + 1) k
theorem anF_iff (p : Nat → Bool) : ∀ (k i : Nat), anF p i k = true ↔ ∃ q, i ≤ q ∧ q < i + k ∧ p q = true
  | 0, i => by
    constructor
    · intro h; cases h
    · rintro ⟨q, h1, h2, -⟩; omega
  | k + 1, i => by
    rw [anF, Bool.or_eq_true, anF_iff p k (i + 1)]
    constructor
    · rintro (h | ⟨q, h1, h2, h3⟩)
      · exact ⟨i, Nat.le_refl _, by omega, h⟩
      · exact ⟨q, by omega, by omega, h3⟩
    · rintro ⟨q, h1, h2, h3⟩
      by_cases e : q = i
      · subst e; exact Or.inl h3
      · exact Or.inr ⟨q, by omega, by omega, h3⟩
section TR
variable {h : Nat → Nat} {t : Nat → Nat → Nat} {n : Nat} {le : Nat → Nat → Nat} {S : Nat → Int32} {V : Nat → Nat → Int32}
abbrev pA (le : Nat → Nat → Nat) (n x : Nat) (q : Nat) : Bool := (whoL le n x q).isSome
abbrev pB (le : Nat → Nat → Nat) (n w : Nat) (q : Nat) : Bool := (bo (whoL le n 0 q) ||| bo (whoL le n 1 q) ||| bo (whoL le n 2 q)).testBit w
abbrev pC (le : Nat → Nat → Nat) (n x : Nat) (q : Nat) : Bool := decide (x = 2) && ((whoL le n 0 q).isNone || (whoL le n 1 q).isNone)
theorem tr67 (h46 : h 4 ≤ 6) (hM : MLs h t n le) (hR : RLs n le (S 42) (V 13)) {E : Int32 → Int32 → Int32 → Int32 → Int32 → Int32 → Int32 → (Nat → Nat → Int32) → Option (Int32 × (Nat → Nat → Int32))} {w x g : Nat} {a3 : Int32} (hw : w < h 4) (hx : x < 3) (hg : g < 24) : ∀ (j hr m : Nat) (A B C : Bool), hr + j = g + 1 → j < m → fX12_trouble_0_L67 E S m (nI w) (nI x) a3 (nI g) (bI A) (bI B) (bI C) (nI hr) V = E (nI w) (nI x) a3 (nI g) (bI (A || anF (pA le n x) hr j)) (bI (B || anF (pB le n w) hr j)) (bI (C || anF (pC le n x) hr j)) V := by
  intro j
  induction j with
  | zero =>
    intro hr m A B C c1 c2
    obtain ⟨m, rfl⟩ : ∃ z, m = z + 1 := ⟨m - 1, by omega⟩
    rw [fX12_trouble_0_L67, if_pos (nI_lt (by omega) (by omega)), anF, anF, anF, Bool.or_false, Bool.or_false, Bool.or_false]
  | succ j ih =>
    intro hr m A B C c1 c2
    obtain ⟨m, rfl⟩ : ∃ z, m = z + 1 := ⟨m - 1, by omega⟩
    have st : fX12_trouble_0_L67 E S (m + 1) (nI w) (nI x) a3 (nI g) (bI A) (bI B) (bI C) (nI hr) V = fX12_trouble_0_L67 E S m (nI w) (nI x) a3 (nI g) (bI (A || pA le n x hr)) (bI (B || pB le n w hr)) (bI (C || pC le n x hr)) (nI (hr + 1)) V := by
      have i0 : fX12_inOf_13 V (nI n) 0 (nI hr) = _ := inOf13' (x := 0) hM hR (by decide) (by omega)
      have i1 : fX12_inOf_13 V (nI n) 1 (nI hr) = _ := inOf13' (x := 1) hM hR (by decide) (by omega)
      have ix : fX12_inOf_13 V (nI n) (nI x) (nI hr) = _ := inOf13' hM hR hx (by omega)
      have al := allIn13 h46 hM hR (show hr < 24 by omega)
      have o0 : (enc (whoL le n 0 hr) = -1) ↔ _ := enc_m1 h46 (who_ok hM 0 hr)
      have o1 : (enc (whoL le n 1 hr) = -1) ↔ _ := enc_m1 h46 (who_ok hM 1 hr)
      have ox : (enc (whoL le n x hr) = -1) ↔ _ := enc_m1 h46 (who_ok hM x hr)
      have s1 : ((nI (bo (whoL le n 0 hr) ||| bo (whoL le n 1 hr) ||| bo (whoL le n 2 hr)) >>> (nI w &&& 31)) &&& 1 = 1) ↔ pB le n w hr = true := by
        rw [sh1 (by omega)]
        cases hb : pB le n w hr <;> simp [pB] at hb <;> simp [hb]
      have x2 : (nI x = 2) ↔ x = 2 := nI_eq (a := x) (b := 2) (by omega) (by decide)
      rw [fX12_trouble_0_L67, if_neg (nI_nlt (by omega) (by omega)), hR.1]
      simp only [lt_e, bk_e]
      simp only [ix, al, i0, i1, bd1_s, o0, o1, ox, s1, x2, nI_1]
      have zf : (bI false = 0) = True := eq_true rfl
      have zt : (bI true = 0) = False := eq_false (by decide)
      have eA : pA le n x hr = (whoL le n x hr).isSome := rfl
      have eC : pC le n x hr = (decide (x = 2) && ((whoL le n 0 hr).isNone || (whoL le n 1 hr).isNone)) := rfl
      rw [eA, eC]
      generalize pB le n w hr = PB
      generalize whoL le n x hr = WX
      generalize whoL le n 0 hr = W0
      generalize whoL le n 1 hr = W1
      have b1 : bI true = 1 := rfl
      have b0 : bI false = 0 := rfl
      cases A <;> cases B <;> cases C <;> cases WX <;> cases PB <;> by_cases c1 : x = 2 <;> cases W0 <;> cases W1 <;> simp [zf, zt, c1, b1, b0]
    rw [st, ih (hr + 1) m _ _ _ (by omega) (by omega), anF, anF, anF, Bool.or_assoc, Bool.or_assoc, Bool.or_assoc]
end TR
