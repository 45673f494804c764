section FD
variable {h : Nat → Nat} {t : Nat → Nat → Nat} {n : Nat} {le : Nat → Nat → Nat} {S : Nat → Int32} {V : Nat → Nat → Int32}
/-- the first last hour by which they can -/
noncomputable abbrev lastF (Hs : Nat → Nat → Bool) (m fr : Nat) : Option Nat := fst1 (fun l => eb Hs m.testBit (ivl fr l).testBit) fr (24 - fr)
theorem findL {hS : Nat → Nat} {Hs : Nat → Nat → Bool} {m fr : Nat} (hm : m < 64) (hfr : fr < 24) (h60 : ∀ s, s < 64 → V 60 s = nI (hS s) ∧ hS s < 2 ^ 24) (hHs : ∀ s hr, s < 64 → hr < 24 → (hS s).testBit hr = nbF Hs s.testBit hr) {E : Int32 → Int32 → Int32 → (Nat → Int32) → (Nat → Nat → Int32) → Option (Int32 × (Nat → Int32) × (Nat → Nat → Int32))} : ∀ (j l f : Nat), l + j = 24 → fr ≤ l → j < f → fX7_find_59_L6 E f (nI m) (nI fr) (nI l) S V = (match fst1 (fun l => eb Hs m.testBit (ivl fr l).testBit) l j with
    | some l2 => E (nI m) (nI l2) (nI (ivl fr l2)) S V
    | none => some (-1, S, V)) := by
  intro j
  induction j with
  | zero =>
    intro l f c1 c2 c3
    obtain ⟨f, rfl⟩ : ∃ z, f = z + 1 := ⟨f - 1, by omega⟩
    rw [fX7_find_59_L6, if_pos (show 23 < nI l from nI_lt (a := 23) (b := l) (by omega) (by omega))]
    rfl
  | succ j ih =>
    intro l f c1 c2 c3
    obtain ⟨f, rfl⟩ : ∃ z, f = z + 1 := ⟨f - 1, by omega⟩
    obtain ⟨b, e1, e2⟩ := can_iff (V := V) (Hs := Hs) (m := m) (hb := ivl fr l) hm (ivl_lt fr hfr l (by omega)) h60 hHs
    have eb' : eb Hs m.testBit (ivl fr l).testBit = b := by
      rw [Bool.eq_iff_iff, e2, eb_iff]
    rw [fX7_find_59_L6, if_neg (show ¬ 23 < nI l from nI_nlt (a := 23) (b := l) (by omega) (by omega)), show fX11_hourBits (nI fr) (nI l) = some (nI (ivl fr l)) from hourBits_eq c2 (by omega), bd1_s, e1, bd1_s, fst1]
    simp only [lt_e, nI_1]
    rw [eb']
    cases b with
    | true =>
      rw [if_neg (by decide), if_pos rfl]
    | false =>
      rw [if_pos (show bI false = 0 from rfl), if_neg (by decide), ih (l + 1) f (by omega) (by omega) (by omega)]
theorem findC (h46 : h 4 ≤ 6) (hM : MLs h t n le) (hC : CLs n le (S 3002) (V 31) (V 32) (V 33) (V 34) (V 35)) {m fr : Nat} (hm : m < 64) (hfr : fr < 24) : ∃ u, fX7_find_59 S V (nI m) (nI fr) = some (match lastF (fun a hr => (bitsT le a n).testBit hr) m fr with
    | some l => (nI l, va_up S 5903 1, va_up (va_up (va_up V 60 u) 61 (lxF (fun a hr => (bitsT le a n).testBit hr) m.testBit 6 0 (ivl fr l).testBit (V 61))) 62 (va_cpy (lxF (fun a hr => (bitsT le a n).testBit hr) m.testBit 6 0 (ivl fr l).testBit (V 61)) (V 62) 0 0 6))
    | none => (-1, S, va_up V 60 u)) := by
  obtain ⟨u, g1, g2, g3⟩ := gathH (S := S) (V := V) h46 hM hC
  refine ⟨u, ?_⟩
  unfold fX7_find_59
  rw [g1, bd1_s]
  simp only [bk_e]
  have h60 : ∀ s, s < 64 → (va_up V 60 u) 60 s = nI (hO (fun a => bitsT le a n) s 6) ∧ hO (fun a => bitsT le a n) s 6 < 2 ^ 24 := fun s hs => g2 s hs
  have LL := fun E => findL (S := S) (V := va_up V 60 u) (E := E) hm hfr h60 g3 (24 - fr) fr FU (by omega) (Nat.le_refl _) (by unfold FU; omega)
  rw [LL]
  unfold lastF
  cases hl : fst1 (fun l => eb (fun a hr => (bitsT le a n).testBit hr) m.testBit (ivl fr l).testBit) fr (24 - fr) with
  | none => rfl
  | some l =>
    obtain ⟨l1, l2, l3, -⟩ := fst1_some.mp hl
    have hsd := eb_iff.mp l3
    have ch := chooseL (V := va_up V 60 u) (Hs := fun a hr => (bitsT le a n).testBit hr) hm h60 g3 6 0 FU m (ivl fr l) (V 61) (by omega) (by unfold FU; omega) hm (ivl_lt fr hfr l (by omega)) (fun a _ => by simp) ((sdr_cong (fun a _ => by simp) (fun _ _ => rfl)).mp hsd)
    rw [nI_0, show va_up (va_up V 60 u) 61 (V 61) = va_up V 60 u from va_same rfl] at ch
    show bd1 (fX7_choose_59 (va_up V 60 u) (nI m) (nI (ivl fr l))) _ = _
    unfold fX7_choose_59
    rw [ch, bd1_s, gd_t (by decide)]
    rfl
end FD
