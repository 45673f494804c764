/-! ===== a rule: until a part stands ===== -/
section WW
variable {tx : Nat → Nat} {n M s0 a0 : Nat} {S0 : Nat → Int32} {V0 : Nat → Nat → Int32} {R0 : Nat → Int32} {W0 : Nat → Nat → Int32}
theorem km_17 : ∀ k, k ≤ 118 → ((kmI k = 17) ↔ k = 112) := by decide +kernel
theorem L18_x {E : Int32 → (Nat → Int32) → (Nat → Nat → Int32) → (Nat → Int64) → Option ((Nat → Int32) × (Nat → Nat → Int32) × (Nat → Int64))} {m i : Nat} {a : Bool} {x : Int32} {S' : Nat → Int32} {V V' : Nat → Nat → Int32} {L' : Nat → Int64} (hc : CX tx n M V V') (h14 : S' 14 = 0) (hr : RN tx n S' L' (tS tx n i)) (h : a = false ∨ kdA tx n (tS tx n i) ≠ 112) : fX12_operand_0_L18 E (m + 1) (bI a) x S' V' L' = E (bI a) S' V' L' := by
  rw [fX12_operand_0_L18, good_1 h14, bd1_s, if_neg (show ¬ (1 : Int32) = 0 by decide)]
  cases a with
  | false => rw [if_pos (show bI false = 0 from rfl)]
  | true =>
    rw [if_neg (show ¬ bI true = 0 by decide), knR hc.2.1 hc.1 hr, bd1_s, if_neg (fun z => (h.resolve_left (by decide)) ((km_17 _ (kdA_b hc.2.1 _)).mp z))]
theorem eW_p {m i : Nat} {x : Int32} {S' : Nat → Int32} {V V' : Nat → Nat → Int32} {L' : Nat → Int64} (hc : CX tx n M V V') (h14 : S' 14 = 0) (hr : RN tx n S' L' (tS tx n i)) (h : kdA tx n (tS tx n i) ≠ 40) : eW (m + 1) x S' V' L' = ePt S' V' L' := by
  unfold eW
  rw [good_1 h14, bd1_s, if_neg (show ¬ (1 : Int32) = 0 by decide), show fX12_isSign_0 S' 40 = _ from sgnR hc.2.1 hr (c := 40) (by decide) (by decide), bd1_s, decide_eq_false h, if_pos (show bI false = 0 from rfl), L4_0]
/-- one level too deep -/
theorem rpSix {V V' : Nat → Nat → Int32} {S : Nat → Int32} {i : Nat} (hc : CX tx n M V V') (hi : i ≤ M) (h05 : S 2005 = nI i) (h4 : S 2504 = nI 6) : fX9_readPart_25 S V = some (nI (if kdA tx n (tS tx n i) = 1 ∨ 100 ≤ kdA tx n (tS tx n i) ∨ kdA tx n (tS tx n i) = 40 then 2 else 1), S, V) := by
  have kb := kdA_b hc.2.1 (tS tx n i)
  have kc := kindC hc hi h05
  have wc := wordC hc hi h05
  have h6 : (nI 6 < 6) = False := eq_false (by decide)
  unfold fX9_readPart_25
  by_cases k1 : kdA tx n (tS tx n i) = 1
  · have q1 : (nI (kdA tx n (tS tx n i)) = 1) = True := eq_true (by rw [k1]; rfl)
    rw [if_pos (Or.inl k1)]
    simp only [bk_e, lt_e, kc, bd1_s, q1, h4, h6, e10, ite_true, ite_false]
    rfl
  · have q1 : (nI (kdA tx n (tS tx n i)) = 1) = False := eq_false (fun z => k1 ((kd_is kb (c := 1) (by decide)).mp z))
    by_cases k2 : 100 ≤ kdA tx n (tS tx n i)
    · have q2 : (bI (decide (100 ≤ kdA tx n (tS tx n i))) = 0) = False := eq_false (by rw [decide_eq_true k2]; decide)
      rw [if_pos (Or.inr (Or.inl k2))]
      simp only [bk_e, lt_e, kc, wc, bd1_s, q1, q2, h4, h6, e10, ite_true, ite_false]
      rfl
    · have q2 : (bI (decide (100 ≤ kdA tx n (tS tx n i))) = 0) = True := eq_true (by rw [decide_eq_false k2]; rfl)
      by_cases k3 : kdA tx n (tS tx n i) = 40
      · have q3 : (nI (kdA tx n (tS tx n i)) = 40) = True := eq_true (by rw [k3]; rfl)
        rw [if_pos (Or.inr (Or.inr k3))]
        simp only [bk_e, lt_e, kc, wc, bd1_s, q1, q2, q3, h4, h6, e10, ite_true, ite_false]
        rfl
      · have q3 : (nI (kdA tx n (tS tx n i)) = 40) = False := eq_false (fun z => k3 ((kd_is kb (c := 40) (by decide)).mp z))
        rw [if_neg (fun z => z.elim k1 (fun z => z.elim k2 k3))]
        simp only [bk_e, lt_e, kc, wc, bd1_s, q1, q2, q3, h4, h6, e10, ite_true, ite_false]
        rfl
theorem deep6 {V V' : Nat → Nat → Int32} {S' : Nat → Int32} {L' : Nat → Int64} {i : Nat} (hc : CX tx n M V V') (h14 : S' 14 = 0) (hr : RN tx n S' L' (tS tx n i)) (h35 : S' 35 = nI 6) : fX12_deeper_0 S' V' = some (wrS S' (if kdA tx n (tS tx n i) = 1 ∨ 100 ≤ kdA tx n (tS tx n i) ∨ kdA tx n (tS tx n i) = 40 then 2 else 1) (tS tx n i), V') := by
  have kb := kdA_b hc.2.1 (tS tx n i)
  have w2 := s19 hc.2.1 hr 2 (by decide)
  have w1 := s19 hc.2.1 hr 1 (by decide)
  have hqn := hr.2.2.2.2.1
  unfold fX12_deeper_0
  rw [h35, if_pos (show 6 ≤ nI 6 by decide)]
  simp only [bk_e]
  rw [wrong2 h14 hqn, bd1_s]
  by_cases k1 : kdA tx n (tS tx n i) = 1
  · rw [if_pos (show S' 19 = 2 from w2.mpr ((so_2 _ kb).mpr k1)), if_pos (Or.inl k1)]
  · rw [if_neg (show ¬ S' 19 = 2 from fun z => k1 ((so_2 _ kb).mp (w2.mp z)))]
    by_cases k2 : 100 ≤ kdA tx n (tS tx n i)
    · rw [if_pos (show S' 19 = 1 from w1.mpr ((so_1 _ kb).mpr k2)), if_pos (Or.inr (Or.inl k2))]
    · rw [if_neg (show ¬ S' 19 = 1 from fun z => k2 ((so_1 _ kb).mp (w1.mp z))), show fX12_isSign_0 S' 40 = _ from sgnR hc.2.1 hr (c := 40) (by decide) (by decide), bd1_s]
      by_cases k3 : kdA tx n (tS tx n i) = 40
      · rw [decide_eq_true k3, if_neg (show ¬ bI true = 0 by decide), if_pos (Or.inr (Or.inr k3))]
      · rw [decide_eq_false k3, if_pos (show bI false = 0 from rfl), if_neg (fun z => z.elim k1 (fun z => z.elim k2 k3)), wrong1 h14 hqn, bd1_s]
theorem want {E : (Nat → Int32) → (Nat → Nat → Int32) → Option (Int32 × (Nat → Int32) × (Nat → Nat → Int32))} : ∀ (k i d : Nat) (stk cs : List Nat) (a : Bool) (c fC cnt n18 n4 : Nat) (S : Nat → Int32) (V : Nat → Nat → Int32) (S' : Nat → Int32) (V' : Nat → Nat → Int32) (L' : Nat → Int64), i + k = M → XR tx n M s0 a0 S0 V0 R0 W0 i d stk cs 0 S V S' V' L' → S 2505 = 1 → S 2506 = bI a → S 2507 = nI c → c ≤ 6 → (a = true → WNT (V' 12) d stk c) → cnt ≤ i → k + 4 < fC → k + 4 < n18 → k + 4 < n4 →
  (∃ i2 d2 stk2 cs2 fC2 cnt2 S2 V2 S3 V3 L3, fX9_read_25_L19 E fC 0 (nI cnt) S V = fX9_read_25_L19 E fC2 0 (nI cnt2) S2 V2 ∧ fX12_operand_0_L18 (eW n4) n18 (bI a) (nI c) S' V' L' = some (S3, V3, L3) ∧ XR tx n M s0 a0 S0 V0 R0 W0 i2 d2 stk2 cs2 1 S2 V2 S3 V3 L3 ∧ S2 2505 = 0 ∧ i < i2 ∧ cnt2 ≤ i2 ∧ fC2 + (i2 - i) = fC) ∨
  (∃ fl S2 V2 S3 V3 L3, fX9_read_25_L19 E fC 0 (nI cnt) S V = some (nI fl, S2, V2) ∧ fX12_operand_0_L18 (eW n4) n18 (bI a) (nI c) S' V' L' = some (S3, V3, L3) ∧ BDX tx n M s0 a0 S0 V0 R0 W0 fl S2 V2 S3 V3) := by
  intro k
  induction k with
  | zero =>
    intro i d stk cs a c fC cnt n18 n4 S V S' V' L' e0 hx h5 h6 h7 hc6 hw hcnt f1 f2 f3
    obtain ⟨hc, ha, hC, hR, hd, hk, c1, r1, ⟨b1, b2⟩, ht, fx, fy⟩ := id hx
    obtain ⟨hi1, h05, hr, h14⟩ := id ha
    have hM := M600 hc
    obtain ⟨fC, rfl⟩ : ∃ z, fC = z + 1 + 1 := ⟨fC - 2, by omega⟩
    obtain ⟨n18, rfl⟩ : ∃ z, n18 = z + 1 := ⟨n18 - 1, by omega⟩
    obtain ⟨n4, rfl⟩ : ∃ z, n4 = z + 1 := ⟨n4 - 1, by omega⟩
    have k0 : kdA tx n (tS tx n i) = 0 := (kd_M hc hi1).mpr (by omega)
    rcases partX hx (by omega) (fun z => by omega) with ⟨cs2, S2, V2, S3, V3, L3, p1, p2, p3, p4⟩ | ⟨fl, S3, V3, p1, p2, p3⟩
    · have := p3.2.1.1
      omega
    · refine Or.inr ⟨fl, S, V, S3, V3, L', ?_, ?_, p3⟩
      · rw [w19 (by omega) h5, p1, bd3_s, w19f p3.1 p3.2.1]
      · rw [L18_x hc h14 hr (Or.inr (by omega)), eW_p hc h14 hr (by omega), p2]
  | succ k ih =>
    intro i d stk cs a c fC cnt n18 n4 S V S' V' L' e0 hx h5 h6 h7 hc6 hw hcnt f1 f2 f3
    obtain ⟨hc, ha, hC, hR, hd, hk, c1, r1, ⟨b1, b2⟩, ht, fx, fy⟩ := id hx
    obtain ⟨hi1, h05, hr, h14⟩ := id ha
    have hM := M600 hc
    have kb := kdA_b hc.2.1 (tS tx n i)
    have skb := SK_b d stk hk
    have hd5 := hd.2.2
    obtain ⟨fC, rfl⟩ : ∃ z, fC = z + 1 + 1 := ⟨fC - 2, by omega⟩
    obtain ⟨n18, rfl⟩ : ∃ z, n18 = z + 1 + 1 := ⟨n18 - 2, by omega⟩
    obtain ⟨n4, rfl⟩ : ∃ z, n4 = z + 1 := ⟨n4 - 1, by omega⟩
    have hlt : i < M := by omega
    rw [w19 (by omega) h5]
    by_cases cN : a = true ∧ kdA tx n (tS tx n i) = 112
    · -- not
      obtain ⟨ca, ck⟩ := cN
      subst ca
      have rpn : fX9_readPart_25 S V = bd3 (fX9_readNot_25 S V) (fun r S2 V2 => some (r, S2, V2)) := by
        rw [rpAll hc hi1 h05 hd.1 hd.2.2, if_neg (by omega), if_pos (by omega), h6, if_neg (show ¬ bI true = 0 by decide), if_pos ck]
      rw [rpn]
      unfold fX9_readNot_25
      rw [h7]
      have rfx : fX12_operand_0_L18 (eW (n4 + 1)) (n18 + 1 + 1) (bI true) (nI c) S' V' L' = (if nI c = 6 then fX12_operand_0_L18 (eW (n4 + 1)) (n18 + 1) (bI true) (nI (c + 1)) (wrS S' 2 (tS tx n i)) V' L' else bd2 (fX12_waitsFor_0 S' V' 3) (fun S32 V33 => bd2 (fX12_goes_0 S32 V33 L') (fun S35 L36 => fX12_operand_0_L18 (eW (n4 + 1)) (n18 + 1) (bI true) (nI (c + 1)) S35 V33 L36))) := by
        rw [fX12_operand_0_L18, good_1 h14, bd1_s, if_neg (show ¬ (1 : Int32) = 0 by decide), if_neg (show ¬ bI true = 0 by decide), knR hc.2.1 hc.1 hr, bd1_s, if_pos ((km_17 _ kb).mpr ck)]
        simp only [bk_e, lt_e, nI_1]
        rw [wrong2 h14 hr.2.2.2.2.1, bd1_s, good_0 (S' := wrS S' 2 (tS tx n i)) (wr_n (by decide) (by decide)), bd1_s, if_pos rfl, good_1 h14, bd1_s, if_neg (show ¬ (1 : Int32) = 0 by decide)]
      rw [rfx]
      by_cases c6 : c = 6
      · rw [if_neg (show ¬ nI c < 6 from nI_nlt (a := c) (b := 6) (by omega) (by omega)), bd3_s, bd3_s, show (2 : Int32) = nI 2 from rfl, w19f (by decide) (by decide), if_pos (show nI c = 6 from by rw [c6]; rfl)]
        refine Or.inr ⟨2, S, V, wrS S' 2 (tS tx n i), V', L', rfl, ?_, BDX_now hx (by decide) (by decide)⟩
        have hn : ¬ (wrS S' 2 (tS tx n i)) 14 = 0 := wr_n (S' := S') (q := tS tx n i) (by decide) (by decide)
        rw [fX12_operand_0_L18, good_0 hn, bd1_s, if_pos rfl, eW_b hn]
      · obtain ⟨seg, rest, s1, s2, s3, s4, s5, s6⟩ := hw rfl
        obtain ⟨a1, b1', c1', d1, e1, f1', y, g1, g2⟩ := stepR (V := V) (V' := va_up V' 11 (upd (V' 11) stk.length 3)) (S' := va_up S' 34 (nI (stk.length + 1))) (L' := L') hc hlt hr
        rw [if_pos (show nI c < 6 from nI_lt (a := c) (b := 6) (by omega) (by decide)), if_neg (show ¬ nI c = 6 from fun z => c6 ((nI_eq (a := c) (b := 6) (by omega) (by decide)).mp z)), waitR hR.1 (by omega), bd2_s, g1, bd2_s]
        simp only [lt_e, nI_1]
        rw [show fX9_push_25 (va_up S 2507 (nI (c + 1))) V 3 = _ from pushC (S := va_up S 2507 (nI (c + 1))) (V := V) (x := 3) hC.1 (by omega), bd2_s, advC (S := va_up (va_up S 2507 (nI (c + 1))) 2503 (nI (stk.length + 1))) (V := va_up V 26 (upd (V 26) stk.length (nI 3))) (V' := V') (tx := tx) (n := n) hc hlt h05, bd1_s, bd3_s, bd3_s]
        have sg3 : SEG (3 :: seg) := by
          refine ⟨fun x hx => ?_, List.pairwise_cons.mpr ⟨fun b hb => ?_, s2.2.1⟩, ?_⟩
          · rcases List.mem_cons.mp hx with e | e
            · omega
            · exact s2.1 x e
          · rcases s3 b hb with e | e
            · exact Or.inl e
            · exact Or.inr ⟨rfl, e⟩
          · rw [List.filter_cons, if_pos (by decide), List.length_cons, s4]; omega
        have h43 : has4 (3 :: seg) = has4 seg := by
          unfold has4
          rw [List.any_cons]
          rfl
        have nb3 : nbS (3 :: stk) = nbS stk := by
          unfold nbS
          rw [List.filter_cons, if_neg (by decide)]
        have xr : XR tx n M s0 a0 S0 V0 R0 W0 (i + 1) d (3 :: stk) cs 0 (va_up (va_up (va_up S 2507 (nI (c + 1))) 2503 (nI (stk.length + 1))) 2005 (nI (i + 1))) (va_up V 26 (upd (V 26) stk.length (nI 3))) (gS (va_up S' 34 (nI (stk.length + 1))) a1 b1' c1' d1 e1 f1') (va_up V' 11 (upd (V' 11) stk.length 3)) (va_up L' 24 y) := by
          refine ⟨hc, ⟨hlt, rfl, g2, h14⟩, ⟨rfl, ?_, stR_upd (by rw [List.length_map]; exact Nat.le_refl _) hC.2⟩, ⟨rfl, ?_, stR_upd (by rw [List.length_map]; exact Nat.le_refl _) hR.2⟩, hd, ?_, c1, r1, ⟨?_, ?_⟩, by rw [nb3]; exact ht, FX_t fx ⟨fun q q1 q2 q3 => ?_, fun q q1 q2 => va_up_ne _ _ q2, fun _ _ => rfl⟩, FY_t fy.1 ⟨fun q hq => ?_, fun q hq => va_up_ne _ _ (by omega), fun _ _ => rfl⟩, fy.2⟩
          · rw [List.length_map]; exact upd_same _ _ _
          · rw [List.length_map]; exact upd_same _ _ _
          · have := s5 (3 :: seg) (V' 12) sg3 (fun _ _ => rfl) (by rw [h43]; exact s6)
            rw [s1]
            exact this
          · rw [List.length_cons]; omega
          · rw [List.length_cons]; omega
          · simp only [va_up]; (repeat rw [if_neg (by omega)])
          · simp only [va_up]; (repeat rw [if_neg (by omega)])
        have res := ih (i + 1) d (3 :: stk) cs true (c + 1) (fC + 1) (cnt + 1) (n18 + 1) (n4 + 1) _ _ _ _ _ (by omega) xr h5 h6 rfl (by omega) (fun _ => ⟨3 :: seg, rest, by rw [s1]; rfl, sg3, fun x hx => by
          rcases List.mem_cons.mp hx with e | e
          · exact Or.inr e
          · exact s3 x e, by rw [List.filter_cons, if_pos (by decide), List.length_cons, s4], s5, by rw [h43]; exact s6⟩) (by omega) (by omega) (by omega) (by omega)
        rcases res with ⟨i2, d2, stk2, cs2, fC2, cnt2, S2, V2, S3, V3, L3, r1', r2', r3', r4', r5', r6', r7'⟩ | ⟨fl, S2, V2, S3, V3, L3, r1', r2', r3'⟩
        · exact Or.inl ⟨i2, d2, stk2, cs2, fC2, cnt2, S2, V2, S3, V3, L3, r1', r2', r3', r4', by omega, r6', by omega⟩
        · exact Or.inr ⟨fl, S2, V2, S3, V3, L3, r1', r2', r3'⟩
    · have hex : a = false ∨ kdA tx n (tS tx n i) ≠ 112 := by
        cases a with
        | false => exact Or.inl rfl
        | true => exact Or.inr (fun z => cN ⟨rfl, z⟩)
      rw [L18_x hc h14 hr hex]
      by_cases cO : kdA tx n (tS tx n i) = 40
      · -- a parenthesis
        obtain ⟨a1, b1', c1', d1, e1, f1', y, g1, g2⟩ := stepR (V := V) (V' := va_up V' 11 (upd (V' 11) stk.length 14)) (S' := va_up S' 34 (nI (stk.length + 1))) (L' := L') hc hlt hr
        have ew : eW (n4 + 1) (bI a) S' V' L' = bd2 (fX12_deeper_0 (gS (va_up S' 34 (nI (stk.length + 1))) a1 b1' c1' d1 e1 f1') (va_up V' 11 (upd (V' 11) stk.length 14))) (fun S71 V72 => fX12_operand_0_L4 ePt (n4 + 1) 1 1 S71 V72 (va_up L' 24 y)) := by
          unfold eW
          rw [good_1 h14, bd1_s, if_neg (show ¬ (1 : Int32) = 0 by decide), show fX12_isSign_0 S' 40 = _ from sgnR hc.2.1 hr (c := 40) (by decide) (by decide), bd1_s, decide_eq_true cO, if_neg (show ¬ bI true = 0 by decide), waitR hR.1 (by omega), bd2_s, g1, bd2_s]
        have rpo : fX9_readPart_25 S V = some (0, va_up (va_up (va_up (va_up (va_up (va_up S 2503 (nI (stk.length + 1))) 2504 (nI (d + 1))) 2505 1) 2506 1) 2507 0) 2005 (nI (i + 1)), va_up V 26 (upd (V 26) stk.length (nI 0))) := by
          rw [rpAll hc hi1 h05 hd.1 hd.2.2, if_neg (by omega), if_neg (by omega), if_pos cO, show fX9_push_25 S V 0 = _ from pushC (S := S) (V := V) (x := 0) hC.1 (by omega), bd2_s, show (va_up S 2503 (nI (stk.length + 1))) 2504 = nI d from hd.1, nI_1]
          unfold fX9_wantPart_25
          simp only [lt_e]
          rw [gd_t (by decide), bd1_s, advC (S := va_up (va_up (va_up (va_up (va_up S 2503 (nI (stk.length + 1))) 2504 (nI (d + 1))) 2505 1) 2506 1) 2507 0) (V := va_up V 26 (upd (V 26) stk.length (nI 0))) (V' := V') (tx := tx) (n := n) hc hlt h05, bd1_s]
        rw [rpo, bd3_s, ew]
        by_cases d5 : d = 5
        · have hc2 : CX tx n M (va_up V 26 (upd (V 26) stk.length (nI 0))) (va_up V' 11 (upd (V' 11) stk.length 14)) := hc
          have fl2 : 1 ≤ (if kdA tx n (tS tx n (i + 1)) = 1 ∨ 100 ≤ kdA tx n (tS tx n (i + 1)) ∨ kdA tx n (tS tx n (i + 1)) = 40 then 2 else 1) ∧ (if kdA tx n (tS tx n (i + 1)) = 1 ∨ 100 ≤ kdA tx n (tS tx n (i + 1)) ∨ kdA tx n (tS tx n (i + 1)) = 40 then 2 else 1) ≤ 5 := by
            split <;> exact ⟨by decide, by decide⟩
          rw [w19 (by omega) rfl, rpSix (S := va_up (va_up (va_up (va_up (va_up (va_up S 2503 (nI (stk.length + 1))) 2504 (nI (d + 1))) 2505 1) 2506 1) 2507 0) 2005 (nI (i + 1))) hc2 (i := i + 1) hlt rfl (by show nI (d + 1) = nI 6; rw [d5]), bd3_s, deep6 (S' := gS (va_up S' 34 (nI (stk.length + 1))) a1 b1' c1' d1 e1 f1') hc2 h14 g2 (by show S' 35 = nI 6; rw [hd.2.1, d5]), bd2_s]
          generalize (if kdA tx n (tS tx n (i + 1)) = 1 ∨ 100 ≤ kdA tx n (tS tx n (i + 1)) ∨ kdA tx n (tS tx n (i + 1)) = 40 then 2 else 1) = fl at fl2
          have hn : ¬ (wrS (gS (va_up S' 34 (nI (stk.length + 1))) a1 b1' c1' d1 e1 f1') fl (tS tx n (i + 1))) 14 = 0 := wr_n (S' := gS (va_up S' 34 (nI (stk.length + 1))) a1 b1' c1' d1 e1 f1') (q := tS tx n (i + 1)) fl2.1 fl2.2
          obtain ⟨z, hz⟩ : ∃ z, fC = z + 1 := ⟨fC - 1, by omega⟩
          rw [hz, w19f fl2.1 fl2.2, L4_b hn, ePt_b hn]
          refine Or.inr ⟨fl, _, _, _, _, _, rfl, rfl, fl2.1, fl2.2, rfl, ⟨i + 1, hlt, rfl, rfl⟩, FX_t fx ⟨fun q q1 q2 q3 => ?_, fun q q1 q2 => va_up_ne _ _ q2, fun _ _ => rfl⟩, FY_t fy.1 ⟨fun q hq => ?_, fun q hq => va_up_ne _ _ (by omega), fun _ _ => rfl⟩, a0 + (cs.flatMap trT).length, stk.length + 1, r1.1, rfl, by omega, by omega⟩
          · simp only [va_up]; (repeat rw [if_neg (by omega)])
          · simp only [va_up]; (repeat rw [if_neg (by omega)])
        · have dp : fX12_deeper_0 (gS (va_up S' 34 (nI (stk.length + 1))) a1 b1' c1' d1 e1 f1') (va_up V' 11 (upd (V' 11) stk.length 14)) = some (va_up (gS (va_up S' 34 (nI (stk.length + 1))) a1 b1' c1' d1 e1 f1') 35 (nI (d + 1 + 1)), va_up (va_up V' 11 (upd (V' 11) stk.length 14)) 12 (upd (V' 12) (d + 1 + 1) 0)) := by
            unfold fX12_deeper_0
            simp only [lt_e]
            rw [show (gS (va_up S' 34 (nI (stk.length + 1))) a1 b1' c1' d1 e1 f1') 35 = nI (d + 1) from hd.2.1, if_neg (show ¬ 6 ≤ nI (d + 1) from nI_ge (a := d + 1) (b := 6) (by omega) (by decide)), nI_1, va_up_self, gd_n (d + 1 + 1) 9 (by omega) (by decide), nI_cl (d + 1 + 1) (by omega)]
            rfl
          have nb0 : nbS (0 :: stk) = nbS stk := nbS_0 stk
          have sgn : SEG [] := ⟨(fun x hx => by cases hx), List.Pairwise.nil, Nat.zero_le _⟩
          have h120 : (upd (V' 12) (d + 1 + 1) 0) (d + 1 + 1) = bI (has4 []) := by rw [upd_same]; rfl
          have ext : ∀ (seg2 : List Nat) (g : Nat → Int32), SEG seg2 → (∀ j, j ≤ d + 1 → g j = (upd (V' 12) (d + 1 + 1) 0) j) → g (d + 1 + 1) = bI (has4 seg2) → SK g (d + 1) (seg2 ++ 0 :: stk) := fun seg2 g q1 q2 q3 => ⟨seg2, stk, rfl, q1, q3, SK_cong d stk (fun j hj => by rw [q2 j hj, upd_ne _ _ (by omega)]) hk⟩
          have xr : XR tx n M s0 a0 S0 V0 R0 W0 (i + 1) (d + 1) (0 :: stk) cs 0 (va_up (va_up (va_up (va_up (va_up (va_up S 2503 (nI (stk.length + 1))) 2504 (nI (d + 1))) 2505 1) 2506 1) 2507 0) 2005 (nI (i + 1))) (va_up V 26 (upd (V 26) stk.length (nI 0))) (va_up (gS (va_up S' 34 (nI (stk.length + 1))) a1 b1' c1' d1 e1 f1') 35 (nI (d + 1 + 1))) (va_up (va_up V' 11 (upd (V' 11) stk.length 14)) 12 (upd (V' 12) (d + 1 + 1) 0)) (va_up L' 24 y) := by
            refine ⟨hc, ⟨hlt, rfl, g2, h14⟩, ⟨rfl, ?_, stR_upd (by rw [List.length_map]; exact Nat.le_refl _) hC.2⟩, ⟨rfl, ?_, stR_upd (by rw [List.length_map]; exact Nat.le_refl _) hR.2⟩, ⟨rfl, rfl, by omega⟩, ext [] _ sgn (fun _ _ => rfl) h120, c1, r1, ⟨?_, ?_⟩, by rw [nb0]; exact ht, FX_t fx ⟨fun q q1 q2 q3 => ?_, fun q q1 q2 => va_up_ne _ _ q2, fun _ _ => rfl⟩, FY_t fy.1 ⟨fun q hq => ?_, fun q hq => by rw [va_up_ne _ _ (by omega), va_up_ne _ _ (by omega)], fun _ _ => rfl⟩, fy.2⟩
            · rw [List.length_map]; exact upd_same _ _ _
            · rw [List.length_map]; exact upd_same _ _ _
            · rw [List.length_cons]; omega
            · rw [List.length_cons]; omega
            · simp only [va_up]; (repeat rw [if_neg (by omega)])
            · simp only [va_up]; (repeat rw [if_neg (by omega)])
          rw [dp, bd2_s, L4_1 (S := va_up (gS (va_up S' 34 (nI (stk.length + 1))) a1 b1' c1' d1 e1 f1') 35 (nI (d + 1 + 1))) h14]
          have res := ih (i + 1) (d + 1) (0 :: stk) cs true 0 (fC + 1) (cnt + 1) FU n4 _ _ _ _ _ (by omega) xr rfl rfl nI_0.symm (by decide) (fun _ => ⟨[], 0 :: stk, rfl, sgn, (fun x hx => by cases hx), rfl, ext, h120⟩) (by omega) (by omega) (by unfold FU; omega) (by omega)
          rw [show bI true = (1 : Int32) from rfl, nI_0] at res
          rcases res with ⟨i2, d2, stk2, cs2, fC2, cnt2, S2, V2, S3, V3, L3, r1', r2', r3', r4', r5', r6', r7'⟩ | ⟨fl, S2, V2, S3, V3, L3, r1', r2', r3'⟩
          · exact Or.inl ⟨i2, d2, stk2, cs2, fC2, cnt2, S2, V2, S3, V3, L3, r1', r2', r3', r4', by omega, r6', by omega⟩
          · exact Or.inr ⟨fl, S2, V2, S3, V3, L3, r1', r2', r3'⟩
      · rw [eW_p hc h14 hr cO]
        rcases partX hx cO (fun z => by
          rcases hex with q | q
          · rw [q] at h6; exact z.1 h6
          · exact q z.2) with ⟨cs2, S2, V2, S3, V3, L3, p1, p2, p3, p4⟩ | ⟨fl, S3, V3, p1, p2, p3⟩
        · rw [p1, bd3_s, p2]
          exact Or.inl ⟨i + 1, d, stk, cs2, fC + 1, cnt + 1, S2, V2, S3, V3, L3, rfl, rfl, p3, p4, by omega, by omega, by omega⟩
        · rw [p1, bd3_s, p2, w19f p3.1 p3.2.1]
          exact Or.inr ⟨fl, S, V, S3, V3, L', rfl, rfl, p3⟩
end WW
