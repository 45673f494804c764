/-! ===== the reference goes forth and back ===== -/
def pvA (m : Nat) : Nat → Int32
  | 0 => -1
  | t + 1 => if m.testBit t = true then nI t else pvA m t
theorem sh1_1 {x j : Nat} (hj : j < 32) : ((nI x >>> (nI j &&& 31)) &&& 1 = 1) ↔ x.testBit j = true := by
  rw [sh1 hj]
  cases x.testBit j with
  | true => simp
  | false => simp
theorem pv130 {S : Nat → Int32} {V : Nat → Nat → Int32} {m : Nat} {x y : Int32} {E : Int32 → Int32 → Int32 → Int32 → (Nat → Nat → Int32) → Option (Int32 × (Nat → Nat → Int32))} : ∀ (t f : Nat), t ≤ 6 → t < f → fX12_visitsBy_0_L130 E S f (nI m) x y (nI t + -1) V = E (nI m) x y (pvA m t) V
  | 0, f, _, hf => by
    obtain ⟨f, rfl⟩ : ∃ z, f = z + 1 := ⟨f - 1, by omega⟩
    rw [fX12_visitsBy_0_L130, if_pos (by decide)]
    rfl
  | t + 1, f, ht, hf => by
    obtain ⟨f, rfl⟩ : ∃ z, f = z + 1 := ⟨f - 1, by omega⟩
    have e : nI (t + 1) + -1 = nI t := by
      rw [← nI_add, Int32.add_assoc]
      show nI t + (nI 1 + -1) = nI t
      rw [show nI 1 + -1 = (0 : Int32) by decide, Int32.add_zero]
    rw [e, fX12_visitsBy_0_L130, if_neg (nI_pos (by omega)), pvA]
    simp only [lt_e, sh1_0 (show t < 32 by omega)]
    cases hm : m.testBit t with
    | true => rw [if_neg (by decide), if_pos rfl]
    | false =>
      rw [if_pos rfl, if_neg (by decide)]
      exact pv130 t f (by omega) (by omega)
/-- the hours from fr to l that nobody ahead of t has -/
def frW (fr l t : Nat) (w : Nat → Int32) (k : Nat) : Bool := decide (fr ≤ k ∧ k ≤ l) && !anF (fun a => decide (w a = nI k)) 0 t
def cB : Nat → Nat
  | 0 => 1
  | j + 1 => 30 * (cB j + 3)
theorem anF_snoc (p : Nat → Bool) : ∀ (k i : Nat), anF p i (k + 1) = (anF p i k || p (i + k)) := by
  intro k i
  rw [Bool.eq_iff_iff, Bool.or_eq_true, anF_iff, anF_iff]
  constructor
  · rintro ⟨q, h1, h2, h3⟩
    by_cases e : q = i + k
    · subst e; exact Or.inr h3
    · exact Or.inl ⟨q, h1, by omega, h3⟩
  · rintro (⟨q, h1, h2, h3⟩ | h)
    · exact ⟨q, h1, by omega, h3⟩
    · exact ⟨i + k, by omega, by omega, h⟩
theorem anF_cong {p q : Nat → Bool} {i k : Nat} (h : ∀ a, i ≤ a → a < i + k → p a = q a) : anF p i k = anF q i k := by
  rw [Bool.eq_iff_iff, anF_iff, anF_iff]
  constructor
  · rintro ⟨a, h1, h2, h3⟩; exact ⟨a, h1, h2, by rw [← h a h1 h2]; exact h3⟩
  · rintro ⟨a, h1, h2, h3⟩; exact ⟨a, h1, h2, by rw [h a h1 h2]; exact h3⟩
theorem frW_step {fr l t q : Nat} {w : Nat → Int32} (hq : q < 24) : ∀ k, k < 24 → frW fr l (t + 1) (upd w t (nI q)) k = wo (frW fr l t w) q k := by
  intro k hk
  unfold frW
  show _ = (if k = q then false else (decide (fr ≤ k ∧ k ≤ l) && !anF (fun a => decide (w a = nI k)) 0 t))
  rw [anF_snoc, anF_cong (q := fun a => decide (w a = nI k)) (fun a _ ha => by rw [upd_ne _ _ (show a ≠ t by omega)]), Nat.zero_add, upd_same]
  by_cases e : k = q
  · subst e; simp
  · have : ¬ nI q = nI k := fun z => e (((nI_eq (by omega) (by omega)).mp z).symm)
    rw [if_neg e, decide_eq_false this, Bool.or_false]
theorem frW_no {fr l t : Nat} {w : Nat → Int32} (hw : w t = -1) : ∀ k, k < 24 → frW fr l (t + 1) w k = frW fr l t w k := by
  intro k hk
  unfold frW
  rw [anF_snoc, Nat.zero_add, hw, decide_eq_false (show ¬ (-1 : Int32) = nI k from fun z => nI_m1 (by omega) z.symm), Bool.or_false]
theorem upd_id {w : Nat → Int32} {t : Nat} {x : Int32} (h : w t = x) : upd w t x = w := by
  funext j
  by_cases e : j = t
  · rw [e, upd_same, h]
  · rw [upd_ne _ _ e]
theorem fst1_in {P : Nat → Bool} {fr l : Nat} (hfl : fr ≤ l) (hl : l < 24) (hP : ∀ k, k < 24 → P k = true → fr ≤ k ∧ k ≤ l) : fst1 P 0 24 = fst1 P fr (l + 1 - fr) := by
  cases h : fst1 P fr (l + 1 - fr) with
  | none =>
    have := fst1_none.mp h
    refine fst1_none.mpr (fun j _ hj => ?_)
    cases hp : P j with
    | false => rfl
    | true =>
      obtain ⟨q1, q2⟩ := hP j (by omega) hp
      rw [this j q1 (by omega)] at hp
      cases hp
  | some k =>
    obtain ⟨q1, q2, q3, q4⟩ := fst1_some.mp h
    refine fst1_some.mpr ⟨by omega, by omega, q3, fun m _ hm => ?_⟩
    cases hp : P m with
    | false => rfl
    | true =>
      obtain ⟨r1, r2⟩ := hP m (by omega) hp
      rw [q4 m r1 hm] at hp
      cases hp
theorem lxF_end {Hs : Nat → Nat → Bool} {m : Nat → Bool} : ∀ (j t : Nat) (fr : Nat → Bool) (w : Nat → Int32), (∀ a, t ≤ a → a < t + j → m a = false ∧ w a = -1) → lxF Hs m j t fr w = w
  | 0, _, _, _, _ => rfl
  | j + 1, t, fr, w, h => by
    obtain ⟨h1, h2⟩ := h t (Nat.le_refl _) (by omega)
    rw [lxF, if_neg (by rw [h1]; decide), upd_id h2]
    exact lxF_end j (t + 1) fr w (fun a h3 h4 => h a (by omega) (by omega))
section BT
variable {h : Nat → Nat} {t : Nat → Nat → Nat} {n : Nat} {le : Nat → Nat → Nat} {S : Nat → Int32} {V : Nat → Nat → Int32} {m fr l : Nat} {E : Int32 → (Nat → Nat → Int32) → Option (Int32 × (Nat → Nat → Int32))}
/-- one step, asked -/
theorem bt_ask (h46 : h 4 ≤ 6) (hS5 : S 5 = nI (h 4)) (hM : MLs h t n le) (hR : RLs n le (S 42) (V 13)) (hl : l < 24) {k s f : Nat} (hk : k < h 4) (hmk : m.testBit k = true) {w : Nat → Int32} (hw : (w k = -1 ∧ s = fr) ∨ (∃ z, w k = nI z ∧ z < 24 ∧ s = z + 1)) (hsl : s ≤ l + 1) : fX12_visitsBy_0_L27 E S (f + 1) (nI m) (nI fr) (nI l) (nI k) (va_up V 19 w) = (match fst1 (fun q => (bitsT le k n).testBit q && !anF (fun a => decide (w a = nI q)) 0 k) s (l + 1 - s) with
    | some q => fX12_visitsBy_0_L27 E S f (nI m) (nI fr) (nI l) (nI (k + 1)) (va_up V 19 (upd w k (nI q)))
    | none => fX12_visitsBy_0_L27 E S f (nI m) (nI fr) (nI l) (pvA m k) (va_up V 19 (upd w k (-1)))) := by
  have hv : ∀ a2 : Int32, a2 + 1 = nI s → fX12_visitOf_0 S (va_up V 19 w) (nI k) a2 (nI l) = some (enc (fst1 (fun q => (bitsT le k n).testBit q && !anF (fun a => decide (w a = nI q)) 0 k) s (l + 1 - s))) := fun a2 e => visitR (V := va_up V 19 w) h46 hM hR hk e hsl hl
  have hs1 : ((nI m >>> (nI k &&& 31)) &&& 1 = 1) ↔ m.testBit k = true := sh1_1 (show k < 32 by omega)
  rw [fX12_visitsBy_0_L27, if_neg (nI_pos (by omega)), hS5, if_neg (nI_ge (a := k) (b := h 4) (by omega) (by omega))]
  simp only [bk_e]
  rw [if_pos (hs1.mpr hmk), if_neg (by decide)]
  simp only [gd_n k 6 (show k < 6 by omega) (by decide), nI_cl k (show k < 2 ^ 31 by omega), va_up_self]
  have fin : ∀ a2 : Int32, a2 + 1 = nI s → (bd1 (fX12_visitOf_0 S (va_up V 19 w) (nI k) a2 (nI l)) (fun r83 =>
    lt (va_up (va_up V 19 w) 19 (upd w k r83)) (fun V86 =>
    (if (1 : Int32) = 0 then lt (nI k + 1) (fun x49 => fX12_visitsBy_0_L27 E S f (nI m) (nI fr) (nI l) x49 V86) else
    (if V86 19 k = -1 then lt (nI k + -1) (fun x53 => fX12_visitsBy_0_L130 (fun x68 x69 x70 x71 V72 => fX12_visitsBy_0_L27 E S f x68 x69 x70 x71 V72) S FB (nI m) (nI fr) (nI l) x53 V86) else lt (nI k + 1) (fun x49 => fX12_visitsBy_0_L27 E S f (nI m) (nI fr) (nI l) x49 V86)))))) = (match fst1 (fun q => (bitsT le k n).testBit q && !anF (fun a => decide (w a = nI q)) 0 k) s (l + 1 - s) with
    | some q => fX12_visitsBy_0_L27 E S f (nI m) (nI fr) (nI l) (nI (k + 1)) (va_up V 19 (upd w k (nI q)))
    | none => fX12_visitsBy_0_L27 E S f (nI m) (nI fr) (nI l) (pvA m k) (va_up V 19 (upd w k (-1)))) := by
    intro a2 e
    rw [hv a2 e, bd1_s, lt_e, if_neg (by decide), va_up_up, va_up_self, upd_same]
    cases hq : fst1 (fun q => (bitsT le k n).testBit q && !anF (fun a => decide (w a = nI q)) 0 k) s (l + 1 - s) with
    | none =>
      rw [if_pos (show enc none = -1 from rfl), lt_e, pv130 k FB (by omega) (by unfold FB; omega)]
      rfl
    | some q =>
      obtain ⟨q1, q2, -⟩ := fst1_some.mp hq
      rw [if_neg (show ¬ enc (some q) = -1 from nI_m1 (by omega)), lt_e, nI_1]
      rfl
  rcases hw with ⟨w1, w2⟩ | ⟨z, w1, w2, w3⟩
  · rw [if_pos w1]
    refine fin (nI fr - 1) ?_
    subst w2
    rw [Int32.sub_add_cancel]
  · rw [if_neg (by rw [w1]; exact nI_m1 (by omega)), w1]
    refine fin (nI z) ?_
    subst w3
    exact nI_1 z
theorem bt_not (h46 : h 4 ≤ 6) (hS5 : S 5 = nI (h 4)) {k f : Nat} (hk : k < h 4) (hmk : m.testBit k = false) {w : Nat → Int32} : fX12_visitsBy_0_L27 E S (f + 1) (nI m) (nI fr) (nI l) (nI k) (va_up V 19 w) = fX12_visitsBy_0_L27 E S f (nI m) (nI fr) (nI l) (nI (k + 1)) (va_up V 19 w) := by
  have hs1 : ((nI m >>> (nI k &&& 31)) &&& 1 = 1) ↔ m.testBit k = true := sh1_1 (show k < 32 by omega)
  rw [fX12_visitsBy_0_L27, if_neg (nI_pos (by omega)), hS5, if_neg (nI_ge (a := k) (b := h 4) (by omega) (by omega))]
  simp only [bk_e]
  rw [if_neg (fun e => by rw [hs1.mp e] at hmk; cases hmk), if_pos trivial, if_pos trivial, lt_e, nI_1]
end BT
