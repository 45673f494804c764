/-! ===== all lines ===== -/
section LP
variable {tx : Nat → Nat} {n M : Nat}
theorem km_n : ∀ k, k ≤ 118 → ¬ (101 ≤ k ∧ k ≤ 106) → (kmI k ≠ 9 ∧ kmI k ≠ 10 ∧ kmI k ≠ 11 ∧ kmI k ≠ 12 ∧ kmI k ≠ 13 ∧ kmI k ≠ 14) := by decide +kernel
theorem lineAll {i : Nat} {h : Nat → Nat} {t : Nat → Nat → Nat} {ru : Nat → List Nat} {st : Nat → Nat} {tp : Nat} {S S' : Nat → Int32} {V V' : Nat → Nat → Int32} {L' : Nat → Int64} (hq : QQ tx n M i h t ru st tp S V S' V' L') (hi : i < M) : LINE tx n M i S V S' V' L' (fX3_readLine_11 S V) := by
  obtain ⟨hc, ha, hto, hd⟩ := id hq
  obtain ⟨hi1, h05, hr, h14⟩ := id ha
  have kb := kdA_b hc.2.1 (tS tx n i)
  unfold fX3_readLine_11
  rw [kindC hc hi1 h05, bd1_s]
  have q : ∀ c, c ≤ 200 → ((nI (kdA tx n (tS tx n i)) = nI c) ↔ kdA tx n (tS tx n i) = c) := fun c hc => kd_is kb hc
  have q1 : (nI (kdA tx n (tS tx n i)) = 101) ↔ kdA tx n (tS tx n i) = 101 := q 101 (by decide)
  have q2 : (nI (kdA tx n (tS tx n i)) = 102) ↔ kdA tx n (tS tx n i) = 102 := q 102 (by decide)
  have q3 : (nI (kdA tx n (tS tx n i)) = 103) ↔ kdA tx n (tS tx n i) = 103 := q 103 (by decide)
  have q4 : (nI (kdA tx n (tS tx n i)) = 104) ↔ kdA tx n (tS tx n i) = 104 := q 104 (by decide)
  have q5 : (nI (kdA tx n (tS tx n i)) = 105) ↔ kdA tx n (tS tx n i) = 105 := q 105 (by decide)
  have q6 : (nI (kdA tx n (tS tx n i)) = 106) ↔ kdA tx n (tS tx n i) = 106 := q 106 (by decide)
  by_cases c1 : kdA tx n (tS tx n i) = 101
  · rw [if_pos (q1.mpr c1)]; exact lineBase hq hi c1
  rw [if_neg (fun z => c1 (q1.mp z))]
  by_cases c2 : kdA tx n (tS tx n i) = 102
  · rw [if_pos (q2.mpr c2)]; exact lineOil hq hi c2
  rw [if_neg (fun z => c2 (q2.mp z))]
  by_cases c3 : kdA tx n (tS tx n i) = 103
  · rw [if_pos (q3.mpr c3)]; exact lineStop hq hi c3
  rw [if_neg (fun z => c3 (q3.mp z))]
  by_cases c4 : kdA tx n (tS tx n i) = 104
  · rw [if_pos (q4.mpr c4)]; exact lineTenant hq hi c4
  rw [if_neg (fun z => c4 (q4.mp z))]
  by_cases c5 : kdA tx n (tS tx n i) = 105
  · rw [if_pos (q5.mpr c5)]; exact lineQuarrel hq hi c5
  rw [if_neg (fun z => c5 (q5.mp z))]
  by_cases c6 : kdA tx n (tS tx n i) = 106
  · rw [if_pos (q6.mpr c6)]; exact lineRule hq hi c6
  rw [if_neg (fun z => c6 (q6.mp z))]
  obtain ⟨k1, k2, k3, k4, k5, k6⟩ := km_n _ kb (fun z => by omega)
  refine ⟨S, V, wrS S' 1 (tS tx n i), V', L', ?_, ⟨fun _ _ => rfl, fun _ _ => rfl⟩, FR_w, Or.inr (Or.inl ⟨1, rfl, by decide, by decide, rfl, i, hi1, h05, rfl⟩)⟩
  unfold fX12_line_0
  rw [knR hc.2.1 hc.1 hr, bd1_s]
  simp only [bk_e]
  rw [if_neg k1, if_neg k2, if_neg k3, if_neg k4, if_neg k5, if_neg k6, wrong1 h14 hr.2.2.2.2.1, bd1_s]
  rfl
/-- a line and its end -/
theorem lineEnd {i : Nat} {h : Nat → Nat} {t : Nat → Nat → Nat} {ru : Nat → List Nat} {st : Nat → Nat} {tp : Nat} {S S' : Nat → Int32} {V V' : Nat → Nat → Int32} {L' : Nat → Int64} (hq : QQ tx n M i h t ru st tp S V S' V' L') (hi : i < M) : (∃ S2 V2 S4 S3 V3 L3 i2 h t ru st tp, fX3_readLine_11 S V = some (0, S2, V2) ∧ fX3_readEndOfLine_11 S2 V2 = some (0, S4) ∧ fX12_line_0 S' V' L' = some (S3, V3, L3) ∧ i < i2 ∧ QQ tx n M i2 h t ru st tp S4 V2 S3 V3 L3 ∧ FC S V S4 V2 ∧ FR S' V' S3 V3 ∧ S3 15 = S' 15) ∨ (∃ fl S2 V2 S3 V3 L3, (fX3_readLine_11 S V = some (nI fl, S2, V2) ∨ (fX3_readLine_11 S V = some (0, S2, V2) ∧ fX3_readEndOfLine_11 S2 V2 = some (nI fl, S2))) ∧ fX12_line_0 S' V' L' = some (S3, V3, L3) ∧ BADF tx n M S2 S3 fl ∧ FC S V S2 V2 ∧ FR S' V' S3 V3) := by
  obtain ⟨S2, V2, S3, V3, L3, h1, h2, h3, h4⟩ := lineAll hq hi
  have semi : ∀ i2, i2 ≤ M → S2 2005 = nI i2 → CX tx n M V2 V3 → RN tx n S3 L3 (tS tx n i2) → S3 14 = 0 → kdA tx n (tS tx n i2) ≠ 59 → K5 S3 V3 L3 = some (wrS S3 1 (tS tx n i2), V3, L3) := fun i2 a1 a2 a3 a4 a5 a6 => by
    unfold K5 fX12_need_0
    rw [show fX12_isSign_0 S3 59 = _ from sgnR a3.2.1 a4 (c := 59) (by decide) (by decide), decide_eq_false a6, bd1_s, good_1 a5, bd1_s, if_neg (show ¬ (1 : Int32) = 0 by decide), if_pos (show bI false = 0 from rfl), wrong1 a5 a4.2.2.2.2.1, bd1_s, bd2_s]
  rcases h4 with ⟨e1, e15, i2, h', t', ru', st', tp', e2, e3⟩ | ⟨fl, e1, e2⟩ | ⟨e1, e2, i2, e3, e4, e5, e6⟩
  · obtain ⟨hc, ⟨hi1, h05, hr, h14⟩, hto, hd⟩ := id e3
    have kb := kdA_b hc.2.1 (tS tx n i2)
    by_cases k9 : kdA tx n (tS tx n i2) = 59
    · have hlt := lt_M hc hi1 (by omega)
      obtain ⟨a, b, c, d, e, f, y, g1, g2⟩ := stepR hc hlt hr
      refine Or.inl ⟨S2, V2, va_up S2 2005 (nI (i2 + 1)), gS S3 a b c d e f, V3, va_up L3 24 y, i2 + 1, h', t', ru', st', tp', e1, ?_, ?_, by omega, ⟨hc, ⟨hlt, rfl, g2, h14⟩, hto, DQ_mono (Nat.le_succ _) hd⟩, FC_t h2 ⟨(fun k hk => by simp only [va_up]; (repeat rw [if_neg (by omega)])), fun _ _ => rfl⟩, FR_t h3 FR_g, e15⟩
      · unfold fX3_readEndOfLine_11
        rw [kindC hc hi1 h05, bd1_s, if_pos (show nI (kdA tx n (tS tx n i2)) = 59 from by rw [k9]; rfl), advC hc hlt h05, bd1_s]
      · rw [h1]
        unfold K5 fX12_need_0
        rw [show fX12_isSign_0 S3 59 = _ from sgnR hc.2.1 hr (c := 59) (by decide) (by decide), decide_eq_true k9, bd1_s, good_1 h14, bd1_s, if_neg (show ¬ (1 : Int32) = 0 by decide), if_neg (show ¬ bI true = 0 by decide), g1, bd2_s, bd2_s]
    · refine Or.inr ⟨1, S2, V2, wrS S3 1 (tS tx n i2), V3, L3, Or.inr ⟨e1, ?_⟩, ?_, ⟨by decide, by decide, rfl, i2, hi1, h05, rfl⟩, h2, FR_t h3 FR_w⟩
      · unfold fX3_readEndOfLine_11
        rw [kindC hc hi1 h05, bd1_s, if_neg (show ¬ nI (kdA tx n (tS tx n i2)) = 59 from fun z => k9 ((kd_is kb (c := 59) (by decide)).mp z))]
        rfl
      · rw [h1, semi i2 hi1 h05 hc hr h14 k9]
  · have hn : ¬ S3 14 = 0 := fun z => by
      rw [e2.2.2.1] at z
      have := (nI_eq0 (n := fl) (by have := e2.2.1; omega)).mp z
      have := e2.1
      omega
    exact Or.inr ⟨fl, S2, V2, S3, V3, L3, Or.inl e1, by rw [h1, K5_b hn], e2, h2, h3⟩
  · have hc : CX tx n M V2 V3 := by
      obtain ⟨z1, z2, z3, z4⟩ := hq.1
      refine ⟨z1, z2, ?_, fun j hj => ?_⟩
      · rw [h2.2 22 (by decide), h2.2 23 (by decide), h2.2 24 (by decide)]
        exact z3
      · rw [h3.2 5 (by decide)]
        exact z4 j hj
    exact Or.inr ⟨1, S2, V2, wrS S3 1 (tS tx n i2), V3, L3, Or.inl e1, by rw [h1, semi i2 e3 e4 hc e5 e2 e6], ⟨by decide, by decide, rfl, i2, e3, e4, rfl⟩, h2, FR_t h3 FR_w⟩
theorem loopX {E : (Nat → Int32) → (Nat → Nat → Int32) → (Nat → Int64) → Option (Int32 × (Nat → Int32) × (Nat → Nat → Int32) × (Nat → Int64))} : ∀ (k i cnt f m : Nat) (h : Nat → Nat) (t : Nat → Nat → Nat) (ru : Nat → List Nat) (st : Nat → Nat) (tp : Nat) (S : Nat → Int32) (V : Nat → Nat → Int32) (S' : Nat → Int32) (V' : Nat → Nat → Int32) (L' : Nat → Int64), i + k = M → cnt ≤ i → k + 3 < f → k + 3 < m → QQ tx n M i h t ru st tp S V S' V' L' →
  (∃ S2 V2 S3 V3 L3 h t ru st tp, fX3_read_11_1_L36 f 0 (nI cnt) S V = some (0, S2, V2) ∧ fX12_house_0_L110 E m S' V' L' = E S3 V3 L3 ∧ QQ tx n M M h t ru st tp S2 V2 S3 V3 L3 ∧ FC S V S2 V2 ∧ FR S' V' S3 V3 ∧ S3 15 = S' 15) ∨
  (∃ fl S2 V2 S3 V3 L3, fX3_read_11_1_L36 f 0 (nI cnt) S V = some (nI fl, S2, V2) ∧ fX12_house_0_L110 E m S' V' L' = E S3 V3 L3 ∧ BADF tx n M S2 S3 fl ∧ FC S V S2 V2 ∧ FR S' V' S3 V3) := by
  intro k
  induction k using Nat.strongRecOn with
  | _ k ih =>
    intro i cnt f m h t ru st tp S V S' V' L' e0 hcnt f1 f2 hq
    obtain ⟨hc, ⟨hi1, h05, hr, h14⟩, hto, hd⟩ := id hq
    have hM := M600 hc
    have kb := kdA_b hc.2.1 (tS tx n i)
    have w0 := s19 hc.2.1 hr 0 (by decide)
    obtain ⟨f, rfl⟩ : ∃ z, f = z + 1 + 1 := ⟨f - 2, by omega⟩
    obtain ⟨m, rfl⟩ : ∃ z, m = z + 1 + 1 := ⟨m - 2, by omega⟩
    rw [fX12_house_0_L110, good_1 h14, bd1_s, if_neg (show ¬ (1 : Int32) = 0 by decide)]
    by_cases hiM : i = M
    · subst hiM
      have k0 : kdA tx n (tS tx n i) = 0 := (kd_M hc hi1).mpr rfl
      rw [if_pos (show S' 19 = 0 from w0.mpr ((so_0 _ kb).mpr k0)), fX3_read_11_1_L36, if_pos rfl, kindC hc hi1 h05, bd1_s, if_pos (show nI (kdA tx n (tS tx n i)) = 0 from by rw [k0]; rfl)]
      refine Or.inl ⟨S, V, S', V', L', h, t, ru, st, tp, ?_, rfl, hq, ⟨fun _ _ => rfl, fun _ _ => rfl⟩, ⟨fun _ _ => rfl, fun _ _ => rfl⟩, rfl⟩
      split <;> rfl
    · have hlt : i < M := by omega
      have k0 : kdA tx n (tS tx n i) ≠ 0 := fun z => hiM ((kd_M hc hi1).mp z)
      rw [if_neg (show ¬ S' 19 = 0 from fun z => k0 ((so_0 _ kb).mp (w0.mp z))), fX3_read_11_1_L36, if_neg (show ¬ 600 ≤ nI cnt from nI_ge (a := cnt) (b := 600) (by omega) (by decide)), if_pos rfl, kindC hc hi1 h05, bd1_s, if_neg (fun z => k0 ((nI_eq0 (by omega)).mp z))]
      have bd : ∀ (fl : Nat) (x : Int32) (S2 : Nat → Int32) (V2 : Nat → Nat → Int32), 1 ≤ fl → fl ≤ 5 → fX3_read_11_1_L36 (f + 1) (nI fl) x S2 V2 = some (nI fl, S2, V2) := fun fl x S2 V2 a1 a2 => by
        rw [fX3_read_11_1_L36, if_neg (show ¬ nI fl = 0 from fun z => by have := (nI_eq0 (n := fl) (by omega)).mp z; omega)]
        split <;> rfl
      have br : ∀ (S3 : Nat → Int32) (V3 : Nat → Nat → Int32) (L3 : Nat → Int64), ¬ S3 14 = 0 → fX12_house_0_L110 E (m + 1) S3 V3 L3 = E S3 V3 L3 := fun S3 V3 L3 hn => by
        rw [fX12_house_0_L110, good_0 hn, bd1_s, if_pos rfl]
      rcases lineEnd hq hlt with ⟨S2, V2, S4, S3, V3, L3, i2, h', t', ru', st', tp', g1, g2, g3, g4, g5, g6, g7, g8⟩ | ⟨fl, S2, V2, S3, V3, L3, g1, g2, g3, g4, g5⟩
      · have hi2 := g5.2.1.1
        rw [g1, bd3_s, g3, bd3_s]
        simp only [bk_e, lt_e, nI_1]
        rw [if_pos trivial, g2, bd2_s]
        rcases ih (M - i2) (by omega) i2 (cnt + 1) (f + 1) (m + 1) h' t' ru' st' tp' S4 V2 S3 V3 L3 (by omega) (by omega) (by omega) (by omega) g5 with ⟨S5, V5, S6, V6, L6, h2, t2, ru2, st2, tp2, r1, r2, r3, r4, r5, r6⟩ | ⟨fl, S5, V5, S6, V6, L6, r1, r2, r3, r4, r5⟩
        · exact Or.inl ⟨S5, V5, S6, V6, L6, h2, t2, ru2, st2, tp2, r1, r2, r3, FC_t g6 r4, FR_t g7 r5, r6.trans g8⟩
        · exact Or.inr ⟨fl, S5, V5, S6, V6, L6, r1, r2, r3, FC_t g6 r4, FR_t g7 r5⟩
      · have hn : ¬ S3 14 = 0 := fun z => by
          rw [g3.2.2.1] at z
          have := (nI_eq0 (n := fl) (by have := g3.2.1; omega)).mp z
          have := g3.1
          omega
        have fl0 : ¬ nI fl = 0 := fun z => by
          have := (nI_eq0 (n := fl) (by have := g3.2.1; omega)).mp z
          have := g3.1
          omega
        rw [g2, bd3_s, br _ _ _ hn]
        simp only [bk_e, lt_e, nI_1]
        rcases g1 with g1 | ⟨g1, g1'⟩
        · rw [g1, bd3_s, if_neg fl0, bd fl _ _ _ g3.1 g3.2.1]
          exact Or.inr ⟨fl, S2, V2, S3, V3, L3, rfl, rfl, g3, g4, g5⟩
        · rw [g1, bd3_s, if_pos rfl, g1', bd2_s, bd fl _ _ _ g3.1 g3.2.1]
          exact Or.inr ⟨fl, S2, V2, S3, V3, L3, rfl, rfl, g3, g4, g5⟩
end LP
