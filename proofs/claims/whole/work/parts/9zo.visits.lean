/-! ===== visits ===== -/
theorem lx_agree {Hs : Nat → Nat → Bool} {m : Nat → Bool} : ∀ (j t : Nat) (fr : Nat → Bool) (w w2 : Nat → Int32), t + j = 6 → sdr Hs (fun a => decide (t ≤ a) && m a) fr → (∀ a, a < t → w a = w2 a) → ∀ a, a < 6 → lxF Hs m j t fr w a = lxF Hs m j t fr w2 a
  | 0, t, fr, w, w2, c1, _, c3, a, ha => c3 a (by omega)
  | j + 1, t, fr, w, w2, c1, c2, c3, a, ha => by
    have c4 : ∀ x : Int32, ∀ a, a < t + 1 → upd w t x a = upd w2 t x a := fun x a ha => by
      by_cases e : a = t
      · rw [e, upd_same, upd_same]
      · rw [upd_ne _ _ e, upd_ne _ _ e]
        exact c3 a (by omega)
    rw [lxF, lxF]
    cases hm : m t with
    | true =>
      obtain ⟨hr, n1, n2, n3⟩ := nx_some (show t < 6 by omega) hm c2
      rw [if_pos rfl, if_pos rfl, n1]
      exact lx_agree j (t + 1) _ _ _ (by omega) n3 (c4 _) a ha
    | false =>
      rw [if_neg (by decide), if_neg (by decide)]
      refine lx_agree j (t + 1) _ _ _ (by omega) ((sdr_cong (fun b _ => ?_) (fun _ _ => rfl)).mp c2) (c4 _) a ha
      by_cases e : b = t
      · subst e; simp [hm]
      · have : (t ≤ b) ↔ (t + 1 ≤ b) := by omega
        simp [this]
section VS
variable {h : Nat → Nat} {t : Nat → Nat → Nat} {n : Nat} {le : Nat → Nat → Nat} {S : Nat → Int32} {V : Nat → Nat → Int32} {m fr : Nat} {E : Int32 → (Nat → Int32) → (Nat → Nat → Int32) → Option (Int32 × (Nat → Int32) × (Nat → Nat → Int32))}
theorem vis44 (h46 : h 4 ≤ 6) (hS5 : S 5 = nI (h 4)) (hM : MLs h t n le) (hR : RLs n le (S 42) (V 13)) (hm : ∀ a, h 4 ≤ a → m.testBit a = false) : ∀ (j l f : Nat) (u : Nat → Int32), l + j = 24 → fr ≤ l → j < f → ∃ w : Nat → Int32, fX12_visits_0_L44 E f (nI m) (nI fr) (nI l) S (va_up V 19 u) = (match fst1 (fun l => eb (fun a hr => (bitsT le a n).testBit hr) m.testBit (ivl fr l).testBit) l j with
    | some l2 => E (nI l2) S (va_up V 19 (lxF (fun a hr => (bitsT le a n).testBit hr) m.testBit 6 0 (ivl fr l2).testBit w))
    | none => some (-1, S, va_up V 19 w)) := by
  intro j
  induction j with
  | zero =>
    intro l f u c1 c2 c3
    obtain ⟨f, rfl⟩ : ∃ z, f = z + 1 := ⟨f - 1, by omega⟩
    refine ⟨u, ?_⟩
    rw [fX12_visits_0_L44, if_pos (show 24 ≤ nI l from nI_le (a := 24) (b := l) (by omega) (by omega))]
    rfl
  | succ j ih =>
    intro l f u c1 c2 c3
    obtain ⟨f, rfl⟩ : ∃ z, f = z + 1 := ⟨f - 1, by omega⟩
    obtain ⟨w, w1, w2⟩ := visB (V := va_up V 19 u) (fr := fr) h46 hS5 hM hR (show l < 24 by omega) c2 hm
    rw [fX12_visits_0_L44, if_neg (show ¬ 24 ≤ nI l from nI_ge (a := l) (b := 24) (by omega) (by omega)), w2, fst1]
    cases he : eb (fun a hr => (bitsT le a n).testBit hr) m.testBit (ivl fr l).testBit with
    | true =>
      refine ⟨w, ?_⟩
      rw [if_pos rfl, if_pos rfl, bd2_s, if_neg (by decide), va_up_up]
    | false =>
      obtain ⟨w3, e3⟩ := ih (l + 1) f w (by omega) (by omega) (by omega)
      refine ⟨w3, ?_⟩
      rw [if_neg (by decide), if_neg (by decide), bd2_s, if_pos rfl, va_up_up, lt_e, nI_1]
      exact e3
end VS
/-- some tenants, as bits -/
theorem bits_rng {a : Int32} {k : Nat} (hk : k ≤ 6) : (a ≤ 0 ∨ ((1 : Int32) <<< (nI k &&& 31)) ≤ a) ∨ ∃ m : Nat, 0 < m ∧ m < 2 ^ k ∧ a = nI m := by
  have h64 : 2 ^ k ≤ 2 ^ 6 := Nat.pow_le_pow_right (by decide) hk
  have e64 : (2 : Nat) ^ 6 = 64 := by decide
  have hp := Nat.two_pow_pos k
  rw [bit_lt (by omega)]
  rcases rng (a := a) (N := 2 ^ k - 1) (by omega) with h | ⟨m, h1, rfl⟩
  · refine Or.inl (h.elim (fun z => Or.inl ?_) (fun z => Or.inr ?_))
    · have := i_lt.mp z
      exact i_le.mpr (by omega)
    · have := i_lt.mp z
      rw [nI_toInt (by omega)] at this
      refine i_le.mpr ?_
      rw [nI_toInt (by omega)]
      omega
  · by_cases e : m = 0
    · subst e
      exact Or.inl (Or.inl (by decide))
    · exact Or.inr ⟨m, by omega, by omega, rfl⟩
theorem nBits_f {S : Nat → Int32} {a : Int32} (h : a ≤ 0 ∨ ((1 : Int32) <<< (S 304 &&& 31)) ≤ a) : fX11_needTenantBits_0 S a = some (.inr 0) := by
  unfold fX11_needTenantBits_0
  by_cases c : a ≤ 0
  · rw [if_pos c]
  · rw [if_neg c, if_neg (fun z => ?_)]
    have h2 := i_le.mp (h.resolve_left c)
    have h3 := i_lt.mp z
    omega
theorem nBits_t {S : Nat → Int32} {m k : Nat} (e : S 304 = nI k) (hk : k ≤ 6) (h0 : 0 < m) (hm : m < 2 ^ k) : fX11_needTenantBits_0 S (nI m) = some (.inl ()) := by
  have h64 : 2 ^ k ≤ 2 ^ 6 := Nat.pow_le_pow_right (by decide) hk
  have e64 : (2 : Nat) ^ 6 = 64 := by decide
  unfold fX11_needTenantBits_0
  rw [if_neg (fun z => by have := (nI_le0 (n := m) (by omega)).mp z; omega), e, bit_lt (by omega), if_pos (nI_lt hm (by omega))]
theorem sm_visits : St_visits Rel := fun S V S' V' L' a1 a2 hrel => by
  obtain ⟨h1, h2, h3, ⟨h, t, ru, hH, ⟨n, le, hM, hr, hC, hR⟩, hI⟩, h5, h6, h7⟩ := id hrel
  obtain ⟨hs, hT, hU, hCs, hCt, hCU, hRs, hRt, hRU⟩ := id hH
  have h46 : h 4 ≤ 6 := hs.2.2.2.2.1
  have c4 : S 304 = nI (h 4) := hCs.2.2.2.2.1
  have d4 : S' 5 = nI (h 4) := hRs.2.2.2.2.1
  rcases rng (a := a2) (N := 23) (by decide) with x2 | ⟨fr, hfr, rfl⟩
  · refine Or.inr (Or.inl ⟨0, va_up (va_up S' 0 0) 0 1, V', ?_, ?_, rfl, R_thr (R_thr hrel)⟩)
    · unfold fX11_visits_0
      rw [nHour_f x2, bdx_r]
    · unfold fX12_visits_0
      simp only [lt_e]
      rw [isHour_f rfl x2, bd2_s, if_pos rfl]
  have i1 : fX12_isHour_0 (va_up S' 0 0) (nI fr) = some (1, va_up S' 0 0) := isHour_t rfl (by omega)
  rcases bits_rng (a := a1) h46 with x1 | ⟨m, m0, m1, rfl⟩
  · refine Or.inr (Or.inr ⟨0, va_up (va_up S' 0 0) 0 2, V', ?_, ?_, rfl, R_thr (R_thr hrel)⟩)
    · unfold fX11_visits_0
      rw [nHour_t (by omega), bdx_l, nBits_f (by rw [c4]; exact x1), bdx_r]
    · have zz : ∀ {β : Type} (A B : β), (if a1 ≤ 0 then A else (if ((1 : Int32) <<< ((va_up S' 0 0) 5 &&& 31)) ≤ a1 then A else B)) = A := fun A B => by
        by_cases c : a1 ≤ 0
        · rw [if_pos c]
        · rw [if_neg c, if_pos (show ((1 : Int32) <<< ((va_up S' 0 0) 5 &&& 31)) ≤ a1 from by rw [show (va_up S' 0 0) 5 = nI (h 4) from d4]; exact x1.resolve_left c)]
      unfold fX12_visits_0
      simp only [lt_e, bk_e]
      rw [i1, bd2_s, if_neg (by decide), zz, right_f rfl (by decide), bd2_s, if_pos rfl]
  have h64 : 2 ^ h 4 ≤ 2 ^ 6 := Nat.pow_le_pow_right (by decide) h46
  have e64 : (2 : Nat) ^ 6 = 64 := by decide
  have hmb : ∀ a, h 4 ≤ a → m.testBit a = false := fun a ha => Nat.testBit_lt_two_pow (Nat.lt_of_lt_of_le m1 (Nat.pow_le_pow_right (by decide) ha))
  have zz : ∀ {β : Type} (A B : β), (if nI m ≤ 0 then A else (if ((1 : Int32) <<< ((va_up S' 0 0) 5 &&& 31)) ≤ nI m then A else B)) = B := fun A B => by
    rw [if_neg (fun z => by have := (nI_le0 (n := m) (by omega)).mp z; omega), if_neg (show ¬ ((1 : Int32) <<< ((va_up S' 0 0) 5 &&& 31)) ≤ nI m from by rw [show (va_up S' 0 0) 5 = nI (h 4) from d4, bit_lt (by omega)]; exact nI_ge m1 (by omega))]
  obtain ⟨u, fC⟩ := findC (V := V) (m := m) (fr := fr) h46 hM hC (by omega) (by omega)
  obtain ⟨w, fR⟩ := vis44 (S := va_up S' 0 0) (V := V') (m := m) (fr := fr) (E := fun x31 S32 V33 => bd1 (fX12_copies_0_19_20 V33) (fun V34 => lt (va_up S32 52 (1 : Int32)) (fun S36 => some (x31, S36, V34)))) h46 d4 hM hR hmb (24 - fr) fr FU (V' 19) (by omega) (Nat.le_refl _) (by unfold FU; omega)
  rw [show va_up V' 19 (V' 19) = V' from va_same rfl] at fR
  have eC : fX11_visits_0 S V (nI m) (nI fr) = bd3 (fX7_find_59 S V (nI m) (nI fr)) (fun r5 S6 V7 => some (.inl (r5, S6, V7))) := by
    unfold fX11_visits_0
    rw [nHour_t (by omega), bdx_l, nBits_t c4 h46 m0 m1, bdx_l]
  have eR : fX12_visits_0 S' V' (nI m) (nI fr) = fX12_visits_0_L44 (fun x31 S32 V33 => bd1 (fX12_copies_0_19_20 V33) (fun V34 => lt (va_up S32 52 (1 : Int32)) (fun S36 => some (x31, S36, V34)))) FU (nI m) (nI fr) (nI fr) (va_up S' 0 0) V' := by
    unfold fX12_visits_0
    simp only [lt_e, bk_e]
    rw [i1, bd2_s, if_neg (by decide), zz, right_t rfl, bd2_s, if_neg (by decide)]
  rw [eC, fC, eR, fR]
  unfold lastF
  cases hl : fst1 (fun l => eb (fun a hr => (bitsT le a n).testBit hr) m.testBit (ivl fr l).testBit) fr (24 - fr) with
  | none =>
    refine Or.inl ⟨-1, S, va_up V 60 u, va_up S' 0 0, va_up V' 19 w, rfl, rfl, rfl, ?_⟩
    exact ⟨h1, h2, h3, ⟨h, t, ru, hH, ⟨n, le, hM, hr, hC, hR⟩, hI⟩, h5, h6, h7⟩
  | some l =>
    obtain ⟨l1, l2, l3, -⟩ := fst1_some.mp hl
    have hsd := (sdr_cong (p2 := fun a => decide (0 ≤ a) && m.testBit a) (fun a _ => by simp) (fun _ _ => rfl)).mp (eb_iff.mp l3)
    have cp := cp_19_20 (va_up V' 19 (lxF (fun a hr => (bitsT le a n).testBit hr) m.testBit 6 0 (ivl fr l).testBit w))
    refine Or.inl ⟨nI l, va_up S 5903 1, va_up (va_up (va_up V 60 u) 61 (lxF (fun a hr => (bitsT le a n).testBit hr) m.testBit 6 0 (ivl fr l).testBit (V 61))) 62 (va_cpy (lxF (fun a hr => (bitsT le a n).testBit hr) m.testBit 6 0 (ivl fr l).testBit (V 61)) (V 62) 0 0 6), va_up (va_up S' 0 0) 52 1, va_up (va_up V' 19 (lxF (fun a hr => (bitsT le a n).testBit hr) m.testBit 6 0 (ivl fr l).testBit w)) 20 (fun j => if j < 6 then (va_up V' 19 (lxF (fun a hr => (bitsT le a n).testBit hr) m.testBit 6 0 (ivl fr l).testBit w)) 19 j else (va_up V' 19 (lxF (fun a hr => (bitsT le a n).testBit hr) m.testBit 6 0 (ivl fr l).testBit w)) 20 j), rfl, ?_, rfl, ?_⟩
    · show bd1 (fX12_copies_0_19_20 _) _ = _
      rw [cp, bd1_s, lt_e]
    · refine ⟨h1, h2, h3, ⟨h, t, ru, hH, ⟨n, le, hM, hr, hC, hR⟩, hI⟩, h5, h6, Or.inr ⟨rfl, rfl, fun i hi => ?_⟩⟩
      show va_cpy (lxF (fun a hr => (bitsT le a n).testBit hr) m.testBit 6 0 (ivl fr l).testBit (V 61)) (V 62) 0 0 6 i = (if i < 6 then lxF (fun a hr => (bitsT le a n).testBit hr) m.testBit 6 0 (ivl fr l).testBit w i else V' 20 i)
      rw [if_pos hi, ← lx_agree 6 0 (ivl fr l).testBit (V 61) w (by omega) hsd (fun a ha => by omega) i hi]
      simp [va_cpy, hi]
