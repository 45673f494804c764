section TZ
variable {h : Nat → Nat} {t : Nat → Nat → Nat} {n : Nat} {le : Nat → Nat → Nat} {ru : Nat → List Nat} {S S' : Nat → Int32} {V V' : Nat → Nat → Int32}
def trOK (h : Nat → Nat) (t : Nat → Nat → Nat) (ru : Nat → List Nat) (n : Nat) (le : Nat → Nat → Nat) (V V' : Nat → Nat → Int32) (a1 a2 a3 a4 r : Int32) (V2 V3 : Nat → Nat → Int32) : Prop := (V2 = V ∨ ∃ v f g, V2 = mvB V n v f g) ∧ (V3 = V' ∨ ∃ v f, V3 = va_up (rowR V' n v) 15 f) ∧ (r = 0 → n < 12 ∧ ∃ v f, a1 = nI (v 0) ∧ a2 = nI (v 1) ∧ a3 = nI (v 2) ∧ a4 = nI (v 3) ∧ ML2 h (n + 1) (snoc le n v) ∧ letsT t (v 0) (v 1) ∧ okL t (h 6) ru (n + 1) (snoc le n v) ∧ V3 = va_up (rowR V' n v) 15 f)
theorem troubles (hs : MHs h) (hT : MHt h t) (e4 : S 304 = nI (h 4)) (e6 : S 306 = nI (h 6)) (hCt : CHt h t (V 4) (V 5) (V 6) (V 7) (V 8)) (hU : MU (h 6) ru) (hCU : CU (h 6) ru (V 9) (V 10)) (d4 : S' 5 = nI (h 4)) (d6 : S' 7 = nI (h 6)) (hRt : RHt h t (V' 1) (V' 2)) (hRU : RU (h 6) ru (V' 4) (V' 3)) (hM : MLs h t n le) (hok : okL t (h 6) ru n le) (hC : CLs n le (S 3002) (V 31) (V 32) (V 33) (V 34) (V 35)) (hR : RLs n le (S' 42) (V' 13)) (a1 a2 a3 a4 : Int32) : ∃ r V2 V3, fX4_troubleOf_30 S V a1 a2 a3 a4 = some (r, V2) ∧ fX12_trouble_0 S' V' a1 a2 a3 a4 = some (r, V3) ∧ trOK h t ru n le V V' a1 a2 a3 a4 r V2 V3 := by
  have h46 := hs.2.2.2.2.1
  have hn := hM.1
  by_cases hb : badA (nI (h 4)) a1 a2 a3 a4
  · exact ⟨1, V, V', tr1C (by rw [e4]; exact hb), tr1R (by rw [d4]; exact hb), Or.inl rfl, Or.inl rfl, fun q => absurd q (by decide)⟩
  have b1 : ¬ a1 < 0 := fun q => hb (Or.inl q)
  have b2 : ¬ nI (h 4) ≤ a1 := fun q => hb (Or.inr (Or.inl q))
  have b3 : ¬ a2 < 0 := fun q => hb (Or.inr (Or.inr (Or.inl q)))
  have b4 : ¬ 3 ≤ a2 := fun q => hb (Or.inr (Or.inr (Or.inr (Or.inl q))))
  have b5 : ¬ a3 < 0 := fun q => hb (Or.inr (Or.inr (Or.inr (Or.inr (Or.inl q)))))
  have b6 : ¬ a4 < a3 := fun q => hb (Or.inr (Or.inr (Or.inr (Or.inr (Or.inr (Or.inl q))))))
  have b7 : a4 ≤ 23 := Classical.byContradiction (fun q => hb (Or.inr (Or.inr (Or.inr (Or.inr (Or.inr (Or.inr q)))))))
  obtain ⟨w, w1, rfl⟩ := nI_of b1
  obtain ⟨x, x1, rfl⟩ := nI_of b3
  obtain ⟨f, f1, rfl⟩ := nI_of b5
  have b8 : ¬ a4 < 0 := fun q => b6 (i_lt.mpr (by have := i_lt.mp q; rw [nI_toInt f1]; rw [show (0 : Int32).toInt = 0 from by decide] at this; omega))
  obtain ⟨g, g1, rfl⟩ := nI_of b8
  have hw : w < h 4 := Nat.not_le.mp (fun q => b2 (nI_le q w1))
  have hx : x < 3 := Nat.not_le.mp (fun q => b4 (nI_le (a := 3) (b := x) q x1))
  have hf : f ≤ g := Nat.not_lt.mp (fun q => b6 (nI_lt q f1))
  have hg : g < 24 := by have := (nI_leI (a := g) (b := 23) g1 (by decide)).mp b7; omega
  have w2 : fX12_within (nI x) 0 2 = some 1 := within_t (a := 0) (b := 2) (by omega) (by omega) (by decide)
  have w3 : fX12_within (nI f) 0 23 = some 1 := within_t (a := 0) (b := 23) (by omega) (by omega) (by decide)
  have w4 : fX12_within (nI g) (nI f) 23 = some 1 := within_t (a := f) (b := 23) hf (by omega) (by decide)
  have tn : fX2_hasTenant_3 S (nI w) = some 1 := by
    unfold fX2_hasTenant_3
    rw [if_neg b1, e4, if_neg b2]
  obtain ⟨l1, l2⟩ := brL hs hT hCt hw hx
  obtain ⟨m1, m2⟩ := ltR hs hT hRt hw hx
  by_cases hl : letsT t w x
  case neg =>
    refine ⟨2, V, V', ?_, ?_, Or.inl rfl, Or.inl rfl, fun q => absurd q (by decide)⟩
    · unfold fX4_troubleOf_30
      simp only [bk_e]
      rw [if_neg b3, if_neg b4, tn, bd1_s, if_neg (by decide), if_neg (by decide), if_neg b5, if_neg b6, if_pos b7, l2 hl, bd1_s, if_pos rfl]
    · unfold fX12_trouble_0
      rw [if_neg b1, d4, if_neg b2, w2, bd1_s, if_neg (by decide), w3, bd1_s, if_neg (by decide), w4, bd1_s, if_neg (by decide), m2 hl, bd1_s, if_pos rfl]
  have hX := letH30 hM hC hx
  have hX0 : fX4_letHours_30 S V 0 = _ := letH30 (x := 0) hM hC (by decide)
  have hX1 : fX4_letHours_30 S V 1 = _ := letH30 (x := 1) hM hC (by decide)
  have hTT := hoursOf30 (h2 := h) hM hC (show w < 6 by omega) h46
  have hB : fX11_hourBits (nI f) (nI g) = some (nI (ivl f g)) := hourBits_eq hf hg
  have iA := isLet_iff hM (x := x) hf hg
  have iB := else_iff hM (w := w) hf hg
  have iC := alone_iff hM hf hg
  have hcls : fX4_troubleOf_30 S V (nI w) (nI x) (nI f) (nI g) = if anF (pA le n x) f (g + 1 - f) = false then (if anF (pB le n w) f (g + 1 - f) = false then (if anF (pC le n x) f (g + 1 - f) = false then bd2 (fX4_rulesWouldHold_30 S V (nI w) (nI x) (nI f) (nI g)) (fun r32 V33 => (if r32 = 0 then some (6, V33) else (if S 3002 < 12 then some (0, V33) else some (7, V33)))) else some (5, V)) else some (4, V)) else some (3, V) := by
    unfold fX4_troubleOf_30
    simp only [bk_e]
    rw [if_neg b3, if_neg b4, tn, bd1_s, if_neg (by decide), if_neg (by decide), if_neg b5, if_neg b6, if_pos b7, l1 hl, bd1_s, if_neg (by decide), hB, bd1_s, hX, bd1_s, hTT, bd1_s, hX0, bd1_s, hX1, bd1_s]
    simp only [iA, iB, iC]
    by_cases c : x = 2
    · subst c
      rw [if_pos (show nI 2 = 2 from rfl)]
    · rw [if_neg (show ¬ nI x = 2 from fun q => c ((nI_eq (a := x) (b := 2) x1 (by decide)).mp q))]
      have : anF (pC le n x) f (g + 1 - f) = false := by
        rw [← Bool.not_eq_true, anF_iff]
        rintro ⟨q, -, -, q3⟩
        simp [pC, c] at q3
      rw [if_pos this]
  have LL := fun E => tr67 (S := S') (V := V') (E := E) (a3 := nI f) h46 hM hR hw hx hg (g + 1 - f) f FU false false false (by omega) (by unfold FU; omega)
  simp only [Bool.false_or, show bI false = 0 from rfl] at LL
  have href : fX12_trouble_0 S' V' (nI w) (nI x) (nI f) (nI g) = if anF (pA le n x) f (g + 1 - f) = false then (if anF (pB le n w) f (g + 1 - f) = false then (if anF (pC le n x) f (g + 1 - f) = false then bd2 (fX12_holds_0_13 S' (rowR V' n (v4 w x f g)) (nI (n + 1))) (fun r146 V147 => (if r146 = 0 then some (6, V147) else (if nI n = 12 then some (7, V147) else some (0, V147)))) else some (5, V')) else some (4, V')) else some (3, V') := by
    unfold fX12_trouble_0
    simp only [bk_e, lt_e]
    rw [if_neg b1, d4, if_neg b2, w2, bd1_s, if_neg (by decide), w3, bd1_s, if_neg (by decide), w4, bd1_s, if_neg (by decide), m1 hl, bd1_s, if_neg (by decide), LL]
    have zf : (bI false = 0) = True := eq_true rfl
    have zt : (bI true = 0) = False := eq_false (by decide)
    rw [hR.1]
    simp only [nI_41, nI_42, nI_43]
    simp (disch := omega) only [nI_40, gd_n, nI_cl, va_up_self, va_up_up, nI_1]
    cases anF (pA le n x) f (g + 1 - f) <;> cases anF (pB le n w) f (g + 1 - f) <;> cases anF (pC le n x) f (g + 1 - f) <;> simp only [zf, zt, if_true, if_false, Bool.true_eq_false] <;> rfl
  by_cases pa : anF (pA le n x) f (g + 1 - f) = false
  case neg => exact ⟨3, V, V', by rw [hcls, if_neg pa], by rw [href, if_neg pa], Or.inl rfl, Or.inl rfl, fun q => absurd q (by decide)⟩
  by_cases pb : anF (pB le n w) f (g + 1 - f) = false
  case neg => exact ⟨4, V, V', by rw [hcls, if_pos pa, if_neg pb], by rw [href, if_pos pa, if_neg pb], Or.inl rfl, Or.inl rfl, fun q => absurd q (by decide)⟩
  by_cases pc : anF (pC le n x) f (g + 1 - f) = false
  case neg => exact ⟨5, V, V', by rw [hcls, if_pos pa, if_pos pb, if_neg pc], by rw [href, if_pos pa, if_pos pb, if_neg pc], Or.inl rfl, Or.inl rfl, fun q => absurd q (by decide)⟩
  rw [if_pos pa, if_pos pb, if_pos pc] at hcls href
  have hM2 : ML2 h (n + 1) (snoc le n (v4 w x f g)) := ML2_snoc (v := v4 w x f g) hM hw hx hf hg (fun i q i1 i2 i3 i4 i5 => by
    have i4' : f ≤ q := i4
    have i5' : q ≤ g := i5
    refine ⟨fun e => ?_, fun e => ?_⟩
    · have e' : le i 1 = x := e
      rw [← Bool.not_eq_true, anF_iff] at pa
      refine pa ⟨q, i4', by omega, ?_⟩
      show (whoL le n x q).isSome = true
      cases hw2 : whoL le n x q with
      | some a => rfl
      | none => exact absurd ⟨i, i1, e', i2, i3⟩ (who_none.mp hw2)
    · have e' : le i 0 = w := e
      rw [← Bool.not_eq_true, anF_iff] at pb
      exact pb ⟨q, i4', by omega, (who_iff hM).mpr ⟨i, i1, e', i2, i3⟩⟩)
  obtain ⟨V2, b, c1, c2, c3⟩ := wouldC (S := S) (V := V) (v := v4 w x f g) hs hT e6 hCt hU hCU hM hok hC hM2
  have c1' : fX4_rulesWouldHold_30 S V (nI w) (nI x) (nI f) (nI g) = some (b, V2) := c1
  have c2' : V2 = V ∨ ∃ v f g, V2 = mvB V n v f g := c2.imp id (fun ⟨f', g', e⟩ => ⟨v4 w x f g, f', g', e⟩)
  have hh := holdsR (S := S') (V := rowR V' n (v4 w x f g)) (n := n + 1) (le := snoc le n (v4 w x f g)) (ru := ru) hs hT d6 hRt hM2 (upd4 (v := v4 w x f g) hR.2) hU hRU
  rw [c1', bd2_s, hC.1] at hcls
  rcases hh with ⟨f2, k1, k2⟩ | ⟨f2, k1, k2⟩
  · rw [k1, bd2_s, if_neg (by decide)] at href
    rcases c3 with ⟨rfl, c3⟩ | ⟨rfl, c3⟩
    · rw [if_neg (by decide)] at hcls
      by_cases z : n < 12
      · rw [if_pos (show nI n < 12 from nI_lt (a := n) (b := 12) z (by decide))] at hcls
        rw [if_neg (show ¬ nI n = 12 from fun q => by have := (nI_eq (a := n) (b := 12) (by omega) (by decide)).mp q; omega)] at href
        exact ⟨0, V2, va_up (rowR V' n (v4 w x f g)) 15 f2, hcls, href, c2', Or.inr ⟨_, _, rfl⟩, fun _ => ⟨z, v4 w x f g, f2, rfl, rfl, rfl, rfl, hM2, hl, k2, rfl⟩⟩
      · rw [if_neg (show ¬ nI n < 12 from nI_nlt (a := n) (b := 12) (by omega) (by omega))] at hcls
        rw [if_pos (show nI n = 12 by rw [show n = 12 by omega]; rfl)] at href
        exact ⟨7, V2, va_up (rowR V' n (v4 w x f g)) 15 f2, hcls, href, c2', Or.inr ⟨_, _, rfl⟩, fun q => absurd q (by decide)⟩
    · exact absurd k2 c3
  · rw [k1, bd2_s, if_pos rfl] at href
    rcases c3 with ⟨rfl, c3⟩ | ⟨rfl, c3⟩
    · exact absurd c3 k2
    · rw [if_pos rfl] at hcls
      exact ⟨6, V2, va_up (rowR V' n (v4 w x f g)) 15 f2, hcls, href, c2', Or.inr ⟨_, _, rfl⟩, fun q => absurd q (by decide)⟩
end TZ
