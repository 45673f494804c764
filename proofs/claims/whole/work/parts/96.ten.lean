/-! ===== hours of a tenant, tenant, rent ===== -/
def ivl (f g : Nat) : Nat := 2 ^ (g + 1) - 2 ^ f
theorem ivl_ct : ∀ f, f < 24 → ∀ g, g < 24 → f ≤ g → fb_ct (ivl f g).testBit 32 = g - f + 1 := by decide +kernel
theorem ivl_tb : ∀ f, f < 24 → ∀ g, g < 24 → f ≤ g → ∀ k, k < 32 → (ivl f g).testBit k = decide (f ≤ k ∧ k ≤ g) := by decide +kernel
theorem ivl_lt : ∀ f, f < 24 → ∀ g, g < 24 → ivl f g < 2 ^ 24 := by decide +kernel
def bitsT (le : Nat → Nat → Nat) (tt : Nat) : Nat → Nat
  | 0 => 0
  | n + 1 => bitsT le tt n ||| (if le n 0 = tt then ivl (le n 2) (le n 3) else 0)
def sumL (le : Nat → Nat → Nat) (tt : Nat) (b : Bool) : Nat → Nat
  | 0 => 0
  | n + 1 => sumL le tt b n + (if le n 0 = tt ∧ decide (le n 1 = 2) = b then le n 3 - le n 2 + 1 else 0)
theorem or_lt {a b k : Nat} (h1 : a < 2 ^ k) (h2 : b < 2 ^ k) : a ||| b < 2 ^ k := Nat.or_lt_two_pow h1 h2
section TH
variable {h : Nat → Nat} {t : Nat → Nat → Nat} {n : Nat} {le : Nat → Nat → Nat}
theorem bitsT_lt (hM : MLs h t n le) (tt : Nat) : ∀ m, m ≤ n → bitsT le tt m < 2 ^ 24 := by
  intro m
  induction m with
  | zero => intro _; exact (by decide : 0 < 2 ^ 24)
  | succ m ih =>
    intro hm
    obtain ⟨-, -, q1, q2, -⟩ := hM.2.1 m (by omega)
    show bitsT le tt m ||| _ < _
    refine or_lt (ih (by omega)) ?_
    by_cases e : le m 0 = tt
    · rw [if_pos e]; exact ivl_lt _ (by omega) _ q2
    · rw [if_neg e]; decide
theorem bitsT_tb (hM : MLs h t n le) (tt : Nat) : ∀ m, m ≤ n → ∀ k, k < 32 → ((bitsT le tt m).testBit k = true ↔ ∃ i, i < m ∧ le i 0 = tt ∧ le i 2 ≤ k ∧ k ≤ le i 3) := by
  intro m
  induction m with
  | zero =>
    intro _ k _
    constructor
    · intro h
      rw [show bitsT le tt 0 = 0 from rfl, Nat.zero_testBit] at h
      cases h
    · rintro ⟨i, hi, _⟩
      exact absurd hi (Nat.not_lt_zero _)
  | succ m ih =>
    intro hm k hk
    obtain ⟨-, -, q1, q2, -⟩ := hM.2.1 m (by omega)
    rw [show bitsT le tt (m + 1) = bitsT le tt m ||| (if le m 0 = tt then ivl (le m 2) (le m 3) else 0) from rfl, Nat.testBit_or, Bool.or_eq_true, ih (by omega) k hk]
    constructor
    · rintro (⟨i, hi, h2⟩ | h2)
      · exact ⟨i, by omega, h2⟩
      · by_cases e : le m 0 = tt
        · rw [if_pos e, ivl_tb _ (by omega) _ q2 q1 k hk] at h2
          exact ⟨m, by omega, e, of_decide_eq_true h2⟩
        · rw [if_neg e, Nat.zero_testBit] at h2
          cases h2
    · rintro ⟨i, hi, h1, h2, h3⟩
      by_cases e : i = m
      · subst e
        right
        rw [if_pos h1, ivl_tb _ (by omega) _ q2 q1 k hk]
        exact decide_eq_true ⟨h2, h3⟩
      · exact Or.inl ⟨i, by omega, h1, h2, h3⟩
theorem bitsT_ct (hM : MLs h t n le) (tt : Nat) : ∀ m, m ≤ n → fb_ct (bitsT le tt m).testBit 32 = sumL le tt false m + sumL le tt true m := by
  intro m
  induction m with
  | zero => intro _; exact fb_ct_zero.mpr (fun k _ => Nat.zero_testBit k)
  | succ m ih =>
    intro hm
    obtain ⟨-, -, q1, q2, -⟩ := hM.2.1 m (by omega)
    have ihm := ih (by omega)
    have e0 : fb_ct (bitsT le tt (m + 1)).testBit 32 = fb_ct (fun k => (bitsT le tt m).testBit k || (if le m 0 = tt then ivl (le m 2) (le m 3) else 0).testBit k) 32 := fb_ct_cong (fun k _ => Nat.testBit_or _ _ _)
    rw [e0, fb_ct_or, ihm]
    · show _ = sumL le tt false m + _ + (sumL le tt true m + _)
      by_cases e : le m 0 = tt
      · rw [if_pos e, ivl_ct _ (by omega) _ q2 q1]
        by_cases e2 : le m 1 = 2
        · rw [if_neg (by rw [decide_eq_true e2]; exact fun h => by cases h.2), if_pos ⟨e, decide_eq_true e2⟩]
          omega
        · rw [if_pos ⟨e, decide_eq_false e2⟩, if_neg (by rw [decide_eq_false e2]; exact fun h => by cases h.2)]
          omega
      · rw [if_neg e, if_neg (fun h => e h.1), if_neg (fun h => e h.1), fb_ct_zero.mpr (fun k _ => Nat.zero_testBit k)]
        omega
    · rintro k hk ⟨h1, h2⟩
      obtain ⟨i, hi, j1, j2, j3⟩ := (bitsT_tb hM tt m (by omega) k hk).mp h1
      by_cases e : le m 0 = tt
      · rw [if_pos e, ivl_tb _ (by omega) _ q2 q1 k hk] at h2
        obtain ⟨j4, j5⟩ := of_decide_eq_true h2
        exact (hM.2.2 i m k hi (by omega) j2 j3 j4 j5).2 (j1.trans e.symm)
      · rw [if_neg e, Nat.zero_testBit] at h2
        cases h2
theorem sumL_le (hM : MLs h t n le) (tt : Nat) (b : Bool) : ∀ m, m ≤ n → sumL le tt b m ≤ 24 * m := by
  intro m
  induction m with
  | zero => intro _; exact Nat.le_refl _
  | succ m ih =>
    intro hm
    obtain ⟨-, -, q1, q2, -⟩ := hM.2.1 m (by omega)
    have := ih (by omega)
    show sumL le tt b m + _ ≤ _
    by_cases e : le m 0 = tt ∧ decide (le m 1 = 2) = b
    · rw [if_pos e]; omega
    · rw [if_neg e]; omega
theorem hoursOf30 {S : Nat → Int32} {V : Nat → Nat → Int32} {h2 : Nat → Nat} (hM : MLs h t n le) (hC : CLs n le (S 3002) (V 31) (V 32) (V 33) (V 34) (V 35)) {k : Nat} (hk : k < 6) (hh4 : h 4 ≤ 6) : fX4_hoursOf_30 S V (nI k) = some (nI (bitsT le k n)) := by
  have hn := hM.1
  have L : ∀ (j i m : Nat), i + j = n → j < m → fX4_hoursOf_30_L4 S V m (nI k) (nI (bitsT le k i)) (nI i) = some (nI (bitsT le k n)) := by
    intro j
    induction j with
    | zero =>
      intro i m e1 e2
      obtain ⟨m, rfl⟩ : ∃ m', m = m' + 1 := ⟨m - 1, by omega⟩
      unfold fX4_hoursOf_30_L4
      rw [hC.1, if_pos (nI_le (a := n) (b := i) (by omega) (by omega)), show i = n by omega]
    | succ j ih =>
      intro i m e1 e2
      obtain ⟨m, rfl⟩ : ∃ m', m = m' + 1 := ⟨m - 1, by omega⟩
      obtain ⟨q0, -, q1, q2, -⟩ := hM.2.1 i (by omega)
      obtain ⟨c0, c1, c2, c3⟩ := hC.2.1 i (by omega)
      have ihn := ih (i + 1) m (by omega) (by omega)
      unfold fX4_hoursOf_30_L4
      rw [hC.1, if_neg (nI_ge (a := i) (b := n) (by omega) (by omega))]
      simp only [lt_e, bk_e]
      rw [gd_n i 13 (by omega) (by decide), gd_n i 13 (by omega) (by decide), gd_n i 13 (by omega) (by decide), nI_cl i (by omega), c0, c2, c3, hourBits_eq q1 q2]
      simp only [bd1]
      rw [nI_1]
      rw [show bitsT le k (i + 1) = bitsT le k i ||| (if le i 0 = k then ivl (le i 2) (le i 3) else 0) from rfl] at ihn
      by_cases e : le i 0 = k
      · rw [if_pos (by rw [e]), fa_or]
        rw [if_pos e] at ihn
        exact ihn
      · rw [if_neg (fun z => e ((nI_eq (a := le i 0) (b := k) (by omega) (by omega)).mp z))]
        rw [if_neg e, Nat.or_zero] at ihn
        exact ihn
  have := L n 0 FU (by omega) (by unfold FU; omega)
  rw [nI_0] at this
  exact this
theorem inPauses30 {S : Nat → Int32} {V : Nat → Nat → Int32} (hM : MLs h t n le) (hC : CLs n le (S 3002) (V 31) (V 32) (V 33) (V 34) (V 35)) {k : Nat} (hk : k < 6) (hh4 : h 4 ≤ 6) : fX4_hoursInPauses_30 S V (nI k) = some (nI (sumL le k true n)) := by
  have hn := hM.1
  have L : ∀ (j i m : Nat), i + j = n → j < m → fX4_hoursInPauses_30_L4 S V m (nI k) (nI (sumL le k true i)) (nI i) = some (nI (sumL le k true n)) := by
    intro j
    induction j with
    | zero =>
      intro i m e1 e2
      obtain ⟨m, rfl⟩ : ∃ m', m = m' + 1 := ⟨m - 1, by omega⟩
      unfold fX4_hoursInPauses_30_L4
      rw [hC.1, if_pos (nI_le (a := n) (b := i) (by omega) (by omega)), show i = n by omega]
    | succ j ih =>
      intro i m e1 e2
      obtain ⟨m, rfl⟩ : ∃ m', m = m' + 1 := ⟨m - 1, by omega⟩
      obtain ⟨q0, q3, q1, q2, -⟩ := hM.2.1 i (by omega)
      obtain ⟨c0, c1, c2, c3⟩ := hC.2.1 i (by omega)
      have ihn := ih (i + 1) m (by omega) (by omega)
      unfold fX4_hoursInPauses_30_L4
      rw [hC.1, if_neg (nI_ge (a := i) (b := n) (by omega) (by omega))]
      simp only [lt_e, bk_e]
      rw [gd_n i 13 (by omega) (by decide), gd_n i 13 (by omega) (by decide), gd_n i 13 (by omega) (by decide), gd_n i 13 (by omega) (by decide), nI_cl i (by omega), c0, c1, c2, c3, nI_sub q1, nI_1, nI_1, nI_add]
      rw [show sumL le k true (i + 1) = sumL le k true i + (if le i 0 = k ∧ decide (le i 1 = 2) = true then le i 3 - le i 2 + 1 else 0) from rfl] at ihn
      by_cases e : le i 0 = k
      · rw [if_pos (by rw [e])]
        by_cases e2 : le i 1 = 2
        · rw [if_pos (by rw [e2]; rfl)]
          rw [if_pos ⟨e, decide_eq_true e2⟩] at ihn
          exact ihn
        · rw [if_neg (show ¬ nI (le i 1) = 2 from fun z => e2 ((nI_eq (a := le i 1) (b := 2) (by omega) (by decide)).mp z))]
          rw [if_neg (fun z => e2 (of_decide_eq_true z.2))] at ihn
          exact ihn
      · rw [if_neg (fun z => e ((nI_eq (a := le i 0) (b := k) (by omega) (by omega)).mp z))]
        rw [if_neg (fun z => e z.1)] at ihn
        exact ihn
  have := L n 0 FU (by omega) (by unfold FU; omega)
  rw [show nI (sumL le k true 0) = 0 from nI_0, nI_0] at this
  exact this
theorem inHalves30 {S : Nat → Int32} {V : Nat → Nat → Int32} (hM : MLs h t n le) (hC : CLs n le (S 3002) (V 31) (V 32) (V 33) (V 34) (V 35)) {k : Nat} (hk : k < 6) (hh4 : h 4 ≤ 6) : fX4_hoursInHalves_30 S V (nI k) = some (nI (sumL le k false n)) := by
  unfold fX4_hoursInHalves_30
  rw [hoursOf30 (h2 := h) hM hC hk hh4]
  simp only [bd1]
  rw [bitCount_eq (by have := bitsT_lt hM k n (Nat.le_refl _); omega), inPauses30 hM hC hk hh4]
  simp only [bd1]
  rw [bitsT_ct hM k n (Nat.le_refl _), nI_sub (by omega), show sumL le k false n + sumL le k true n - sumL le k true n = sumL le k false n by omega]
theorem refHours {S : Nat → Int32} {V : Nat → Nat → Int32} (hM : MLs h t n le) (hR : RLs n le (S 42) (V 13)) {k : Nat} (hk : k < 6) (hh4 : h 4 ≤ 6) (b : Bool) {w : Int32} (hw : w = if b = true then 1 else 0) : fX12_hoursOf_0 S V (nI k) w = some (nI (sumL le k b n)) := by
  have hn := hM.1
  have L : ∀ (j i m : Nat), i + j = n → j < m → fX12_hoursOf_0_L5 S V m (nI k) w (nI (sumL le k b i)) (nI i) = some (nI (sumL le k b n)) := by
    intro j
    induction j with
    | zero =>
      intro i m e1 e2
      obtain ⟨m, rfl⟩ : ∃ m', m = m' + 1 := ⟨m - 1, by omega⟩
      unfold fX12_hoursOf_0_L5
      rw [hR.1, if_pos (nI_le (a := n) (b := i) (by omega) (by omega)), show i = n by omega]
    | succ j ih =>
      intro i m e1 e2
      obtain ⟨m, rfl⟩ : ∃ m', m = m' + 1 := ⟨m - 1, by omega⟩
      obtain ⟨q0, q3, q1, q2, -⟩ := hM.2.1 i (by omega)
      obtain ⟨c0, c1, c2, c3⟩ := hR.2 i (by omega)
      have ihn := ih (i + 1) m (by omega) (by omega)
      unfold fX12_hoursOf_0_L5
      rw [hR.1]
      simp (disch := omega) only [lt_e, bk_e, bd0_s, bd1_s, bd2_s, bd3_s, bd4_s, bdx_l, bdx_r, gd_tt, nI_ltI, nI_leI, nI_eq, nI_lt0, nI_ge0, nI_le0, nI_gt0, nI_eq0, nI_eq1, nI_lt1, nI_le1, nI_gt1, nI_ge1, nI_l1, nI_s1, nI_1, nI_a0, nI_0a, nI_add, nI_mul, nI_sub, nI_cl, gd_n, nI_em1, q_l2, q_l3, q_l4, q_l5, q_l6, q_l7, q_l8, q_l9, q_l10, q_l11, q_l12, q_l13, q_l14, q_l15, q_l16, q_l17, q_l18, q_l19, q_l20, q_l21, q_l22, q_l23, q_l24, q_l30, q_l31, q_l32, q_l40, q_l41, q_l45, q_l48, q_l49, q_l60, q_l63, q_l64, q_l72, q_l84, q_l96, q_l99, q_l100, q_l255, q_l343, q_l400, q_l500, q_l600, q_l800, q_l1000, q_l1440, q_l1600, q_l4095, q_l9999, q_l10000, q_l10001, q_l20000, q_l32767, q_l1000000, c0, c1, c2, c3]
      rw [if_neg (by omega)]
      rw [show sumL le k b (i + 1) = sumL le k b i + (if le i 0 = k ∧ decide (le i 1 = 2) = b then le i 3 - le i 2 + 1 else 0) from rfl] at ihn
      by_cases e : le i 0 = k
      · rw [if_pos e]
        by_cases e2 : le i 1 = 2
        · rw [if_pos e2]
          cases b with
          | true =>
            have hw1 : w = 1 := hw
            rw [show (if le i 0 = k ∧ decide (le i 1 = 2) = true then le i 3 - le i 2 + 1 else 0) = le i 3 - le i 2 + 1 from if_pos ⟨e, decide_eq_true e2⟩] at ihn
            rw [if_pos hw1.symm]
            exact ihn
          | false =>
            have hw1 : w = 0 := hw
            rw [show (if le i 0 = k ∧ decide (le i 1 = 2) = false then le i 3 - le i 2 + 1 else 0) = 0 from if_neg (fun z => Bool.noConfusion ((decide_eq_true e2).symm.trans z.2)), Nat.add_zero] at ihn
            rw [if_neg (by rw [hw1]; decide)]
            exact ihn
        · rw [if_neg e2]
          cases b with
          | true =>
            have hw1 : w = 1 := hw
            rw [show (if le i 0 = k ∧ decide (le i 1 = 2) = true then le i 3 - le i 2 + 1 else 0) = 0 from if_neg (fun z => e2 (of_decide_eq_true z.2)), Nat.add_zero] at ihn
            rw [if_neg (by rw [hw1]; decide)]
            exact ihn
          | false =>
            have hw1 : w = 0 := hw
            rw [show (if le i 0 = k ∧ decide (le i 1 = 2) = false then le i 3 - le i 2 + 1 else 0) = le i 3 - le i 2 + 1 from if_pos ⟨e, decide_eq_false e2⟩] at ihn
            rw [if_pos hw1.symm]
            exact ihn
      · rw [if_neg e]
        rw [show (if le i 0 = k ∧ decide (le i 1 = 2) = b then le i 3 - le i 2 + 1 else 0) = 0 from if_neg (fun z => e z.1), Nat.add_zero] at ihn
        exact ihn
  have := L n 0 FU (by omega) (by unfold FU; omega)
  rw [show nI (sumL le k b 0) = 0 from nI_0, nI_0] at this
  exact this
end TH

theorem sm_tenant : St_tenant Rel := fun S V S' V' L' a a2 h => by
  obtain ⟨h1, h2, h3, ⟨hh, t, ru, ⟨hs, -, -, ⟨-, -, -, -, c4, -⟩, hCt, -, ⟨-, -, -, -, d4, -⟩, hRt, -⟩, ⟨n, le, hM, hr, hC, hR⟩, hI⟩, h5⟩ := id h
  have h46 := hs.2.2.2.2.1
  rcases ten (S := S) (S' := va_up S' 0 0) (a := a) h46 c4 d4 rfl with ⟨e1, e2⟩ | ⟨k, hk, rfl, e1, e2⟩
  · refine Or.inr ⟨0, va_up (va_up S' 0 0) 0 1, ?_, ?_, rfl, R_thr (R_thr h)⟩
    · unfold fX11_tenant_0
      rw [e1]
      rfl
    · unfold fX12_tenant_0
      simp only [lt_e]
      rw [e2]
      rfl
  · have hk6 : k < 6 := by omega
    obtain ⟨w0, w1, w2, w3, w4⟩ := hCt k hk
    obtain ⟨z0, z1, z2, z3, z4⟩ := hRt k hk
    rcases rng (a := a2) (N := 6) (by decide) with hx | ⟨w, hw, rfl⟩
    · have hn : ∀ j : Int32, 0 ≤ j.toInt → j.toInt ≤ 6 → ¬ a2 = j := fun j q1 q2 e => by
        subst e
        rcases hx with hx | hx
        · have := i_lt.mp hx
          have e0 : (0 : Int32).toInt = 0 := by decide
          omega
        · have := i_lt.mp hx
          rw [nI_toInt (n := 6) (by decide)] at this
          omega
      refine Or.inr ⟨0, va_up (va_up S' 0 0) 0 1, ?_, ?_, rfl, R_thr (R_thr h)⟩
      · unfold fX11_tenant_0
        rw [e1]
        show (if a2 = 0 then _ else _) = _
        rw [if_neg (hn 0 (by decide) (by decide)), if_neg (hn 1 (by decide) (by decide)), if_neg (hn 2 (by decide) (by decide)), if_neg (hn 3 (by decide) (by decide)), if_neg (hn 4 (by decide) (by decide)), if_neg (hn 5 (by decide) (by decide)), if_neg (hn 6 (by decide) (by decide))]
      · unfold fX12_tenant_0
        simp only [lt_e]
        rw [e2]
        show bd1 (fX12_within a2 0 6) _ = _
        rw [within_eq, if_pos (show a2 < 0 ∨ 6 < a2 from hx), bd1_s, right_f rfl (by decide)]
        rfl
    · have wi : fX12_within (nI w) 0 6 = some 1 := wi_t (k := w) (a := 0) (b := 6) (by omega) hw (by decide)
      have ref0 : fX12_tenant_0 S' V' (nI k) (nI w) = (if (4 : Int32) ≤ nI w then (if nI w = 6 then gd (ib (nI k) 6) (some (V' 2 (nI k).toNatClampNeg, va_up S' 0 0)) else (if nI w = 5 then bd1 (fX12_hoursOf_0 (va_up S' 0 0) V' (nI k) 1) (fun r18 => some (r18, va_up S' 0 0)) else bd1 (fX12_hoursOf_0 (va_up S' 0 0) V' (nI k) 0) (fun r18 => some (r18, va_up S' 0 0)))) else gd (ib ((4 : Int32) * nI k + nI w) 24) (some (V' 1 ((4 : Int32) * nI k + nI w).toNatClampNeg, va_up S' 0 0))) := by
        unfold fX12_tenant_0
        simp only [lt_e, bk_e]
        rw [e2]
        show bd1 (fX12_within (nI w) 0 6) _ = _
        rw [wi, bd1_s, right_t rfl, bd2_s, if_neg (by decide)]
      have cls0 : fX11_tenant_0 S V (nI k) (nI w) = (if nI w = 0 then gd (ib (nI k) 6) (some (.inl (V 4 (nI k).toNatClampNeg))) else (if nI w = 1 then gd (ib (nI k) 6) (some (.inl (V 5 (nI k).toNatClampNeg))) else (if nI w = 2 then gd (ib (nI k) 6) (some (.inl (V 6 (nI k).toNatClampNeg))) else (if nI w = 3 then gd (ib (nI k) 6) (some (.inl (V 7 (nI k).toNatClampNeg))) else (if nI w = 4 then bd1 (fX4_hoursInHalves_30 S V (nI k)) (fun r12 => some (.inl r12)) else (if nI w = 5 then bd1 (fX4_hoursInPauses_30 S V (nI k)) (fun r15 => some (.inl r15)) else (if nI w = 6 then gd (ib (nI k) 6) (some (.inl (V 8 (nI k).toNatClampNeg))) else some (.inr 1)))))))) := by
        unfold fX11_tenant_0
        rw [e1]
        rfl
      rw [gd_n k 6 hk6 (by decide), gd_n k 6 hk6 (by decide), gd_n k 6 hk6 (by decide), gd_n k 6 hk6 (by decide), gd_n k 6 hk6 (by decide), nI_cl k (by omega), inHalves30 hM hC hk6 h46, inPauses30 hM hC hk6 h46] at cls0
      have rh := fun (b : Bool) {w : Int32} (hw : w = if b = true then 1 else 0) => refHours (S := va_up S' 0 0) hM hR hk6 h46 b hw
      have rh0 : fX12_hoursOf_0 (va_up S' 0 0) V' (nI k) 0 = some (nI (sumL le k false n)) := rh false rfl
      have rh1 : fX12_hoursOf_0 (va_up S' 0 0) V' (nI k) 1 = some (nI (sumL le k true n)) := rh true rfl
      rw [nI_4, rh0, rh1, gd_n k 6 hk6 (by decide), nI_cl k (by omega)] at ref0
      rcases (show w = 0 ∨ w = 1 ∨ w = 2 ∨ w = 3 ∨ w = 4 ∨ w = 5 ∨ w = 6 by omega) with rfl | rfl | rfl | rfl | rfl | rfl | rfl

      · exact Or.inl ⟨nI (t k 0), va_up S' 0 0, cls0.trans (congrArg (fun z => some (Sum.inl z)) w0), ref0.trans (by rw [gd_n (4 * k + 0) 24 (by omega) (by decide), nI_cl (4 * k + 0) (by omega)]; exact congrArg (fun z => some (z, va_up S' 0 0)) z0), rfl, R_thr h⟩
      · exact Or.inl ⟨nI (t k 1), va_up S' 0 0, cls0.trans (congrArg (fun z => some (Sum.inl z)) w1), ref0.trans (by rw [gd_n (4 * k + 1) 24 (by omega) (by decide), nI_cl (4 * k + 1) (by omega)]; exact congrArg (fun z => some (z, va_up S' 0 0)) z1), rfl, R_thr h⟩
      · exact Or.inl ⟨nI (t k 2), va_up S' 0 0, cls0.trans (congrArg (fun z => some (Sum.inl z)) w2), ref0.trans (by rw [gd_n (4 * k + 2) 24 (by omega) (by decide), nI_cl (4 * k + 2) (by omega)]; exact congrArg (fun z => some (z, va_up S' 0 0)) z2), rfl, R_thr h⟩
      · exact Or.inl ⟨nI (t k 3), va_up S' 0 0, cls0.trans (congrArg (fun z => some (Sum.inl z)) w3), ref0.trans (by rw [gd_n (4 * k + 3) 24 (by omega) (by decide), nI_cl (4 * k + 3) (by omega)]; exact congrArg (fun z => some (z, va_up S' 0 0)) z3), rfl, R_thr h⟩
      · exact Or.inl ⟨nI (sumL le k false n), va_up S' 0 0, cls0.trans (rfl), ref0.trans (rfl), rfl, R_thr h⟩
      · exact Or.inl ⟨nI (sumL le k true n), va_up S' 0 0, cls0.trans (rfl), ref0.trans (rfl), rfl, R_thr h⟩
      · exact Or.inl ⟨nI (t k 4), va_up S' 0 0, cls0.trans (congrArg (fun z => some (Sum.inl z)) w4), ref0.trans (congrArg (fun z => some (z, va_up S' 0 0)) z4), rfl, R_thr h⟩
theorem rentEq {S : Nat → Int32} {V : Nat → Nat → Int32} {S' : Nat → Int32} {V' : Nat → Nat → Int32} {h : Nat → Nat} {t : Nat → Nat → Nat} {n : Nat} {le : Nat → Nat → Nat} (hM : MLs h t n le) (hC : CLs n le (S 3002) (V 31) (V 32) (V 33) (V 34) (V 35)) (hR : RLs n le (S' 42) (V' 13)) (hCt : CHt h t (V 4) (V 5) (V 6) (V 7) (V 8)) (hRt : RHt h t (V' 1) (V' 2)) (h46 : h 4 ≤ 6) {k : Nat} (hk : k < h 4) :
    fX4_rentOf_30 S V (nI k) = some (nI (t k 3) * nI (sumL le k false n) + (nI (t k 3) * nI (sumL le k true n) + 1) / 2) ∧ fX12_rentOf_0 S' V' (nI k) = some (nI (t k 3) * nI (sumL le k false n) + (nI (t k 3) * nI (sumL le k true n) + 1) / 2) := by
  have hk6 : k < 6 := by omega
  have rh0 : fX12_hoursOf_0 S' V' (nI k) 0 = some (nI (sumL le k false n)) := refHours hM hR hk6 h46 false rfl
  have rh1 : fX12_hoursOf_0 S' V' (nI k) 1 = some (nI (sumL le k true n)) := refHours hM hR hk6 h46 true rfl
  constructor
  · have e3 := (hCt k hk).2.2.2.1
    unfold fX4_rentOf_30
    simp (disch := omega) only [lt_e, bd1_s, gd_n, nI_cl, e3, inHalves30 hM hC hk6 h46, inPauses30 hM hC hk6 h46]
  · have e3 := (hRt k hk).2.2.2.1
    unfold fX12_rentOf_0
    simp (disch := omega) only [lt_e, bd1_s, nI_43, gd_n, nI_cl, e3, rh0, rh1]
theorem sm_rent : St_rent Rel := fun S V S' V' L' a h => by
  obtain ⟨h1, h2, h3, ⟨hh, t, ru, ⟨hs, -, -, ⟨-, -, -, -, c4, -⟩, hCt, -, ⟨-, -, -, -, d4, -⟩, hRt, -⟩, ⟨n, le, hM, hr, hC, hR⟩, hI⟩, h5⟩ := id h
  have h46 := hs.2.2.2.2.1
  rcases ten (S := S) (S' := va_up S' 0 0) (a := a) h46 c4 d4 rfl with ⟨e1, e2⟩ | ⟨k, hk, rfl, e1, e2⟩
  · refine Or.inr ⟨0, va_up (va_up S' 0 0) 0 1, ?_, ?_, rfl, R_thr (R_thr h)⟩
    · unfold fX11_rent_0
      rw [e1]
      rfl
    · unfold fX12_rent_0
      simp only [lt_e]
      rw [e2]
      rfl
  · obtain ⟨p, q⟩ := rentEq (S' := va_up S' 0 0) hM hC hR hCt hRt h46 hk
    refine Or.inl ⟨?_, va_up S' 0 0, ?_, ?_, rfl, R_thr h⟩
    rotate_left 1
    · unfold fX11_rent_0
      rw [e1]
      show bd1 (fX4_rentOf_30 S V (nI k)) _ = _
      rw [p]
      rfl
    · unfold fX12_rent_0
      simp only [lt_e]
      rw [e2]
      show bd1 (fX12_rentOf_0 (va_up S' 0 0) V' (nI k)) _ = _
      rw [q]
      rfl
