/-! ===== housed anew: the first of the nearest ===== -/
abbrev Wst : Type := Nat × (Nat → Nat)
theorem it_id1 {σ : Type} {f : Nat → σ → σ} : ∀ (n i : Nat) (s : σ), (∀ j, i ≤ j → j < i + n → f j s = s) → itF f i n s = s
  | 0, _, _, _ => rfl
  | n + 1, i, s, h => by
    rw [itF, h i (Nat.le_refl _) (by omega)]
    exact it_id1 n (i + 1) s (fun j h1 h2 => h j (by omega) (by omega))
theorem it_blk {σ : Type} (f : Nat → σ → σ) (B a : Nat) : ∀ (n q : Nat) (s : σ), itF f (a + q * B) (n * B) s = itF (fun q s => itF f (a + q * B) B s) q n s
  | 0, q, s => by rw [Nat.zero_mul]; rfl
  | n + 1, q, s => by
    rw [show (n + 1) * B = B + n * B by rw [Nat.add_mul]; omega, it_split, itF, show a + q * B + B = a + (q + 1) * B by rw [Nat.add_mul]; omega]
    exact it_blk f B a n (q + 1) _
section FW
variable (h : Nat → Nat) (t : Nat → Nat → Nat) (ru : Nat → List Nat) (wh : Nat → Nat) (N oil : Nat)
noncomputable def stpW (ws : Nat → Nat) (st : Wst) : Wst := @ite _ (vldW h t ru wh N ws ∧ (slW h t wh oil ws N).natAbs < st.1) (Classical.propDecidable _) ((slW h t wh oil ws N).natAbs, ws) st
noncomputable def nfW : Nat → Nat → (Nat → Nat) → Wst → Wst
  | 0, _, ws, st => stpW h t ru wh N oil ws st
  | j + 1, k, ws, st => itF (fun s st => nfW j (k + 1) (va_up ws k s) st) 0 16 st
end FW
section FX
variable {h : Nat → Nat} {t : Nat → Nat → Nat} {ru : Nat → List Nat} {wh : Nat → Nat} {N oil : Nat}
theorem nf_id : ∀ (j k : Nat) (ws : Nat → Nat) (st : Wst), (∀ i, i < k → ws i < 16) → (∀ ws' : Nat → Nat, (∀ i, i < k → ws' i = ws i) → (∀ i, i < k + j → ws' i < 16) → ¬ (vldW h t ru wh N ws' ∧ (slW h t wh oil ws' N).natAbs < st.1)) → nfW h t ru wh N oil j k ws st = st
  | 0, k, ws, st, h1, h2 => @if_neg _ (Classical.propDecidable _) (h2 ws (fun _ _ => rfl) h1) _ _ _
  | j + 1, k, ws, st, h1, h2 => by
    rw [nfW]
    refine it_id1 16 0 st (fun s _ hs => nf_id j (k + 1) _ st (fun i hi => ?_) (fun ws' a1 a2 => h2 ws' (fun i hi => ?_) (fun i hi => a2 i (by omega))))
    · by_cases e : i = k
      · rw [e, va_up_self]; omega
      · rw [va_up_ne _ _ e]; exact h1 i (by omega)
    · rw [a1 i (by omega), va_up_ne _ _ (by omega)]
/-- the slots of a row -/
def wsP (k p i : Nat) : Nat := if i < k then p / 16 ^ (k - 1 - i) % 16 else 0
theorem wsP_up {k p s : Nat} (hs : s < 16) : va_up (wsP k p) k s = wsP (k + 1) (16 * p + s) := by
  funext i
  by_cases e : i = k
  · subst e
    rw [va_up_self]
    unfold wsP
    rw [if_pos (by omega), show i + 1 - 1 - i = 0 by omega]
    omega
  · rw [va_up_ne _ _ e]
    unfold wsP
    by_cases c : i < k
    · rw [if_pos c, if_pos (by omega), show k + 1 - 1 - i = (k - 1 - i) + 1 by omega, Nat.pow_succ, Nat.mul_comm _ 16, ← Nat.div_div_eq_div_mul, show (16 * p + s) / 16 = p by omega]
    · rw [if_neg c, if_neg (by omega)]
theorem nf_flat : ∀ (j k p : Nat) (st : Wst), nfW h t ru wh N oil j k (wsP k p) st = itF (fun r => stpW h t ru wh N oil (wsP (k + j) r)) (p * 16 ^ j) (16 ^ j) st
  | 0, k, p, st => by
    rw [nfW, Nat.pow_zero, Nat.mul_one]
    rfl
  | j + 1, k, p, st => by
    have e1 : p * 16 ^ (j + 1) = p * 16 ^ (j + 1) + 0 * 16 ^ j := by omega
    rw [nfW, e1, show (16 : Nat) ^ (j + 1) = 16 * 16 ^ j by rw [Nat.pow_succ, Nat.mul_comm], it_blk]
    refine it_cong 16 0 st (fun s st _ hs => ?_)
    rw [wsP_up (by omega), nf_flat j (k + 1) (16 * p + s) st, show k + 1 + j = k + (j + 1) by omega]
    congr 1
    rw [Nat.add_mul, Nat.mul_comm 16 p, Nat.mul_assoc]
end FX
