/-! ===== a rule, to its end ===== -/
def eC (S44 : Nat → Int32) (V45 : Nat → Nat → Int32) : Option (Int32 × (Nat → Int32) × (Nat → Nat → Int32)) := bd2 (fX9_writeBinding_25 S44 V45 (1 : Int32)) (fun S46 V47 => some ((0 : Int32), S46, V47))
def EXO (tx : Nat → Nat) (n M s0 a0 : Nat) (S0 : Nat → Int32) (V0 : Nat → Nat → Int32) (R0 : Nat → Int32) (W0 : Nat → Nat → Int32) (i : Nat) (cl : Option (Int32 × (Nat → Int32) × (Nat → Nat → Int32))) (rf : Option ((Nat → Int32) × (Nat → Nat → Int32) × (Nat → Int64))) : Prop :=
  (∃ i2 cs2 S2 V2 S3 V3 L3, cl = some (0, S2, V2) ∧ rf = some (S3, V3, L3) ∧ i ≤ i2 ∧ i2 ≤ M ∧ S2 2005 = nI i2 ∧ RN tx n S3 L3 (tS tx n i2) ∧ S3 14 = 0 ∧ kdA tx n (tS tx n i2) = 59 ∧ CCD s0 cs2 (S2 1213) (V2 18) ∧ S3 33 = nI (a0 + (cs2.flatMap trT).length + 1) ∧ (∀ j p, (cs2.flatMap trT ++ [0])[j]? = some p → V3 10 (a0 + j) = nI p) ∧ htL cs2 0 = some 1 ∧ s0 + cs2.length + 1 ≤ i2 ∧ a0 + (cs2.flatMap trT).length + 1 ≤ 2 * i2 ∧ FX s0 S0 V0 S2 V2 ∧ FY a0 R0 W0 S3 V3 ∧ S3 15 = R0 15) ∨
  (∃ fl S2 V2 S3 V3 L3, cl = some (nI fl, S2, V2) ∧ rf = some (S3, V3, L3) ∧ BADF tx n M S2 S3 fl ∧ FC S0 V0 S2 V2 ∧ FR R0 W0 S3 V3 ∧ S2 1206 = S0 1206) ∨
  (∃ i2 S2 V2 S3 V3 L3, cl = some (1, S2, V2) ∧ rf = some (S3, V3, L3) ∧ S3 14 = 0 ∧ i2 ≤ M ∧ S2 2005 = nI i2 ∧ RN tx n S3 L3 (tS tx n i2) ∧ kdA tx n (tS tx n i2) ≠ 59 ∧ FC S0 V0 S2 V2 ∧ FR R0 W0 S3 V3 ∧ S2 1206 = S0 1206)
section RU
variable {tx : Nat → Nat} {n M s0 a0 : Nat} {S0 : Nat → Int32} {V0 : Nat → Nat → Int32} {R0 : Nat → Int32} {W0 : Nat → Nat → Int32}
theorem EXO_m {i i' : Nat} {cl : Option (Int32 × (Nat → Int32) × (Nat → Nat → Int32))} {rf : Option ((Nat → Int32) × (Nat → Nat → Int32) × (Nat → Int64))} (h : i ≤ i') (ho : EXO tx n M s0 a0 S0 V0 R0 W0 i' cl rf) : EXO tx n M s0 a0 S0 V0 R0 W0 i cl rf := by
  rcases ho with ⟨i2, cs2, S2, V2, S3, V3, L3, h1, h2, h3, h4⟩ | h | h
  · exact Or.inl ⟨i2, cs2, S2, V2, S3, V3, L3, h1, h2, by omega, h4⟩
  · exact Or.inr (Or.inl h)
  · exact Or.inr (Or.inr h)
theorem EXO_bad {i m fl : Nat} {S2 : Nat → Int32} {V2 : Nat → Nat → Int32} {S3 : Nat → Int32} {V3 : Nat → Nat → Int32} {L3 : Nat → Int64} (h : BDX tx n M s0 a0 S0 V0 R0 W0 fl S2 V2 S3 V3) : EXO tx n M s0 a0 S0 V0 R0 W0 i (some (nI fl, S2, V2)) (fX12_expression_0_L29 eX (m + 1) 1 S3 V3 L3) := by
  obtain ⟨h1, h2, h3, ⟨i2, h4, h5, h6⟩, h7, h8, tp, w, h9, h10, h11, h12⟩ := h
  have hn : ¬ S3 14 = 0 := fun z => by
    rw [h3] at z
    have := (nI_eq0 (n := fl) (by omega)).mp z
    omega
  obtain ⟨S4, V4, e1, e2, e3, e4⟩ := eX_bad (L' := L3) (V' := V3) hn h9 h10 h11 h12
  rw [L29_b hn]
  exact Or.inr (Or.inl ⟨fl, S2, V2, S4, V4, L3, rfl, e1, ⟨h1, h2, e2.trans h3, i2, h4, h5, e3.trans h6⟩, FX_FC h7, FR_t (FY_FR h8) e4, h7.1 1206 (by decide) (by decide) (by decide)⟩)
abbrev IHx (tx : Nat → Nat) (n M s0 a0 : Nat) (S0 : Nat → Int32) (V0 : Nat → Nat → Int32) (R0 : Nat → Int32) (W0 : Nat → Nat → Int32) (k : Nat) : Prop := ∀ (i d : Nat) (stk cs : List Nat) (fC cnt nE : Nat) (S : Nat → Int32) (V : Nat → Nat → Int32) (S' : Nat → Int32) (V' : Nat → Nat → Int32) (L' : Nat → Int64), i + k = M → XR tx n M s0 a0 S0 V0 R0 W0 i d stk cs 1 S V S' V' L' → S 2505 = 0 → cnt ≤ i → k + 6 < fC → k + 6 < nE → EXO tx n M s0 a0 S0 V0 R0 W0 i (fX9_read_25_L19 eC fC 0 (nI cnt) S V) (fX12_expression_0_L29 eX nE 1 S' V' L')
theorem opGo {k : Nat} (ih : ∀ k', k' < k → IHx tx n M s0 a0 S0 V0 R0 W0 k') {i d fC cnt m : Nat} {stk cs : List Nat} {a : Bool} {S : Nat → Int32} {V : Nat → Nat → Int32} {S' : Nat → Int32} {V' : Nat → Nat → Int32} {L' : Nat → Int64} (hk : i + k = M) (hx : XR tx n M s0 a0 S0 V0 R0 W0 i d stk cs 0 S V S' V' L') (h5 : S 2505 = 1) (h6 : S 2506 = bI a) (h7 : S 2507 = 0) (hw : a = true → WNT (V' 12) d stk 0) (hcnt : cnt ≤ i) (f1 : k + 6 < fC) (f2 : k + 5 < m) : EXO tx n M s0 a0 S0 V0 R0 W0 i (fX9_read_25_L19 eC fC 0 (nI cnt) S V) (bd3 (fX12_operand_0 S' V' L' (bI a)) (fun S59 V60 L61 => fX12_expression_0_L29 eX m 1 S59 V60 L61)) := by
  have hM := M600 hx.1
  obtain ⟨q, hq, hq2⟩ : ∃ q, FU = q + 1 ∧ 99000 < q := ⟨FU - 1, by unfold FU; omega, by unfold FU; omega⟩
  have h14 := hx.2.1.2.2.2
  have res := want (E := eC) k i d stk cs a 0 fC cnt FU q S V S' V' L' hk hx h5 h6 (by rw [nI_0]; exact h7) (by decide) hw hcnt (by omega) (by unfold FU; omega) (by omega)
  rw [nI_0, hq] at res
  rw [oper_e, hq, L4_1 h14, hq]
  rcases res with ⟨i2, d2, stk2, cs2, fC2, cnt2, S2, V2, S3, V3, L3, r1, r2, r3, r4, r5, r6, r7⟩ | ⟨fl, S2, V2, S3, V3, L3, r1, r2, r3⟩
  · have hi2 := r3.2.1.1
    rw [r1, r2, bd3_s]
    exact EXO_m (Nat.le_of_lt r5) (ih (M - i2) (by omega) i2 d2 stk2 cs2 fC2 cnt2 m S2 V2 S3 V3 L3 (by omega) r3 r4 r6 (by omega) (by omega))
  · obtain ⟨m, rfl⟩ : ∃ z, m = z + 1 := ⟨m - 1, by omega⟩
    rw [r1, r2, bd3_s]
    exact EXO_bad r3
theorem SEG_lt3 {seg : List Nat} (h : ∀ x, x ∈ seg → bn x < 3) : (seg.filter (fun x => decide (x = 3))).length = 0 := by
  rw [List.length_eq_zero_iff, List.filter_eq_nil_iff]
  intro x hx
  have := h x hx
  rw [decide_eq_true_iff]
  intro e
  rw [e] at this
  exact absurd this (by decide)
theorem exAnd {k : Nat} (ih : ∀ k', k' < k → IHx tx n M s0 a0 S0 V0 R0 W0 k') {i d fC cnt m : Nat} {stk cs : List Nat} {S : Nat → Int32} {V : Nat → Nat → Int32} {S' : Nat → Int32} {V' : Nat → Nat → Int32} {L' : Nat → Int64} (hk : i + k = M) (hx : XR tx n M s0 a0 S0 V0 R0 W0 i d stk cs 1 S V S' V' L') (hK : kdA tx n (tS tx n i) = 111) (hcnt : cnt ≤ i) (f1 : k + 6 < fC + 1) (f2 : k + 6 < m + 1) : EXO tx n M s0 a0 S0 V0 R0 W0 i (bd3 (fX9_readOperator_25 S V) (fun r S2 V2 => fX9_read_25_L19 eC fC r (nI (cnt + 1)) S2 V2)) (fX12_expression_0_L29 eX (m + 1) 1 S' V' L') := by
  obtain ⟨hc, ha, hC, hR, hd, hk2, c1, r1, ⟨b1, b2⟩, ht, fx, fy⟩ := id hx
  have hlt := lt_M hc ha.1 (by omega)
  obtain ⟨S3, V3, o1, o2, o3, o4, o5⟩ := rdop hx hlt (x := 2) (by decide) (by rw [hK]; decide) (by decide)
  obtain ⟨S41, V42, e1, e2, e3, e4, e5, e6, e7, e8, e9⟩ := drX hx (l := bn 2) (by decide)
  obtain ⟨seg, rest, g1, g2, g3, g4, g5, g6⟩ := SK_top2 hk2
  obtain ⟨sp1, sp2⟩ := SEG_pop (bn 2) seg g2
  have sgx : SEG (2 :: popS (bn 2) seg) := SEG_push (by decide) (by decide) rfl sp1 sp2
  have hlt3 : ∀ x, x ∈ 2 :: popS (bn 2) seg → bn x < 3 := fun x hx => by
    rcases List.mem_cons.mp hx with q | q
    · rw [q]; decide
    · have := sp2 x q
      have e : bn 2 = 2 := rfl
      omega
  have h4 : has4 (2 :: popS (bn 2) seg) = false := has4_lt (l := 3) (by decide) hlt3
  have st : 2 :: popS (bn 2) stk = (2 :: popS (bn 2) seg) ++ rest := by rw [(g4 (bn 2)).1]; rfl
  have hsk : SK (upd (V' 12) (d + 1) 0) d (2 :: popS (bn 2) stk) := by
    rw [st]
    exact g5 _ _ sgx (fun j hj => upd_ne _ _ (by omega)) (by rw [upd_same, h4]; rfl)
  obtain ⟨S50, V51, S56, L57, w1, w2, w3, w4, w5⟩ := XR_op hx hlt (l := bn 2) (x := 2) (by decide) (by decide) (by decide) o2 e2 e3 e4 e5 e6 e7 e8 e9.2 (upd (V' 12) (d + 1) 0) hsk
  have e12 : V51 12 = V' 12 := w3.trans e9.1
  rw [← e12] at w4
  rw [L29_And hc ha.2.2.2 ha.2.2.1 hK hd.2.2 e1 w1 w2 w4, o1, bd3_s, e12]
  refine EXO_m (Nat.le_succ i) (opGo (k := k - 1) (a := true) (fun k' hk' => ih k' (by omega)) (by omega) w5 o3 o4 o5 (fun _ => ⟨2 :: popS (bn 2) seg, rest, st, sgx, fun x hx => Or.inl (hlt3 x hx), SEG_lt3 hlt3, fun seg2 g q1 q2 q3 => g5 seg2 g q1 (fun j hj => (q2 j hj).trans (upd_ne _ _ (by omega))) q3, ?_⟩) (by omega) (by omega) (by omega))
  show (upd (V' 12) (d + 1) 0) (d + 1) = _
  rw [upd_same, h4]; rfl
theorem exOr {k : Nat} (ih : ∀ k', k' < k → IHx tx n M s0 a0 S0 V0 R0 W0 k') {i d fC cnt m : Nat} {stk cs : List Nat} {S : Nat → Int32} {V : Nat → Nat → Int32} {S' : Nat → Int32} {V' : Nat → Nat → Int32} {L' : Nat → Int64} (hk : i + k = M) (hx : XR tx n M s0 a0 S0 V0 R0 W0 i d stk cs 1 S V S' V' L') (hK : kdA tx n (tS tx n i) = 110) (hcnt : cnt ≤ i) (f1 : k + 6 < fC + 1) (f2 : k + 6 < m + 1) : EXO tx n M s0 a0 S0 V0 R0 W0 i (bd3 (fX9_readOperator_25 S V) (fun r S2 V2 => fX9_read_25_L19 eC fC r (nI (cnt + 1)) S2 V2)) (fX12_expression_0_L29 eX (m + 1) 1 S' V' L') := by
  obtain ⟨hc, ha, hC, hR, hd, hk2, c1, r1, ⟨b1, b2⟩, ht, fx, fy⟩ := id hx
  have hlt := lt_M hc ha.1 (by omega)
  obtain ⟨S3, V3, o1, o2, o3, o4, o5⟩ := rdop hx hlt (x := 1) (by decide) (by rw [hK]; decide) (by decide)
  obtain ⟨S41, V42, e1, e2, e3, e4, e5, e6, e7, e8, e9⟩ := drX hx (l := bn 1) (by decide)
  obtain ⟨seg, rest, g1, g2, g3, g4, g5, g6⟩ := SK_top2 hk2
  obtain ⟨sp1, sp2⟩ := SEG_pop (bn 1) seg g2
  have sgx : SEG (1 :: popS (bn 1) seg) := SEG_push (by decide) (by decide) rfl sp1 sp2
  have hlt3 : ∀ x, x ∈ 1 :: popS (bn 1) seg → bn x < 3 := fun x hx => by
    rcases List.mem_cons.mp hx with q | q
    · rw [q]; decide
    · have := sp2 x q
      have e : bn 1 = 1 := rfl
      omega
  have h4 : has4 (1 :: popS (bn 1) seg) = false := has4_lt (l := 3) (by decide) hlt3
  have st : 1 :: popS (bn 1) stk = (1 :: popS (bn 1) seg) ++ rest := by rw [(g4 (bn 1)).1]; rfl
  have hsk : SK (upd (V' 12) (d + 1) 0) d (1 :: popS (bn 1) stk) := by
    rw [st]
    exact g5 _ _ sgx (fun j hj => upd_ne _ _ (by omega)) (by rw [upd_same, h4]; rfl)
  obtain ⟨S50, V51, S56, L57, w1, w2, w3, w4, w5⟩ := XR_op hx hlt (l := bn 1) (x := 1) (by decide) (by decide) (by decide) o2 e2 e3 e4 e5 e6 e7 e8 e9.2 (upd (V' 12) (d + 1) 0) hsk
  have e12 : V51 12 = V' 12 := w3.trans e9.1
  rw [← e12] at w4
  rw [L29_Or hc ha.2.2.2 ha.2.2.1 hK hd.2.2 e1 w1 w2 w4, o1, bd3_s, e12]
  refine EXO_m (Nat.le_succ i) (opGo (k := k - 1) (a := true) (fun k' hk' => ih k' (by omega)) (by omega) w5 o3 o4 o5 (fun _ => ⟨1 :: popS (bn 1) seg, rest, st, sgx, fun x hx => Or.inl (hlt3 x hx), SEG_lt3 hlt3, fun seg2 g q1 q2 q3 => g5 seg2 g q1 (fun j hj => (q2 j hj).trans (upd_ne _ _ (by omega))) q3, ?_⟩) (by omega) (by omega) (by omega))
  show (upd (V' 12) (d + 1) 0) (d + 1) = _
  rw [upd_same, h4]; rfl
theorem exLess {k : Nat} (ih : ∀ k', k' < k → IHx tx n M s0 a0 S0 V0 R0 W0 k') {i d fC cnt m : Nat} {stk cs : List Nat} {S : Nat → Int32} {V : Nat → Nat → Int32} {S' : Nat → Int32} {V' : Nat → Nat → Int32} {L' : Nat → Int64} (hk : i + k = M) (hx : XR tx n M s0 a0 S0 V0 R0 W0 i d stk cs 1 S V S' V' L') (hK : kdA tx n (tS tx n i) = 60) (h12 : V' 12 (d + 1) = 0) (hcnt : cnt ≤ i) (f1 : k + 6 < fC + 1) (f2 : k + 6 < m + 1) : EXO tx n M s0 a0 S0 V0 R0 W0 i (bd3 (fX9_readOperator_25 S V) (fun r S2 V2 => fX9_read_25_L19 eC fC r (nI (cnt + 1)) S2 V2)) (fX12_expression_0_L29 eX (m + 1) 1 S' V' L') := by
  obtain ⟨hc, ha, hC, hR, hd, hk2, c1, r1, ⟨b1, b2⟩, ht, fx, fy⟩ := id hx
  have hlt := lt_M hc ha.1 (by omega)
  obtain ⟨S3, V3, o1, o2, o3, o4, o5⟩ := (rdopT hx hlt (x := 4) (by decide) (by rw [hK]; decide) rfl).1 h12
  obtain ⟨S41, V42, e1, e2, e3, e4, e5, e6, e7, e8, e9⟩ := drX hx (l := 4) (by decide)
  obtain ⟨seg, rest, g1, g2, g3, g4, g5, g6⟩ := SK_top2 hk2
  obtain ⟨sp1, sp2⟩ := SEG_pop 4 seg g2
  have sgx : SEG (4 :: popS 4 seg) := SEG_push (by decide) (by decide) rfl sp1 sp2
  have h4 : has4 (4 :: popS 4 seg) = true := by
    unfold has4
    rw [List.any_cons]
    rfl
  have st : 4 :: popS 4 stk = (4 :: popS 4 seg) ++ rest := by rw [(g4 4).1]; rfl
  have hsk : SK (upd (V' 12) (d + 1) 1) d (4 :: popS 4 stk) := by
    rw [st]
    exact g5 _ _ sgx (fun j hj => upd_ne _ _ (by omega)) (by rw [upd_same, h4]; rfl)
  obtain ⟨S50, V51, S56, L57, w1, w2, w3, w4, w5⟩ := XR_op hx hlt (l := 4) (x := 4) (by decide) (by decide) (by decide) o2 e2 e3 e4 e5 e6 e7 e8 e9.2 (upd (V' 12) (d + 1) 1) hsk
  have e12 : V51 12 = V' 12 := w3.trans e9.1
  rw [← e12] at w4
  rw [L29_Less hc ha.2.2.2 ha.2.2.1 hK hd.2.2 hd.2.1 h12 e1 e8 w1 w2 w4, o1, bd3_s, e12]
  exact EXO_m (Nat.le_succ i) (opGo (k := k - 1) (a := false) (fun k' hk' => ih k' (by omega)) (by omega) w5 o3 o4 o5 (fun z => by cases z) (by omega) (by omega) (by omega))
theorem exSame {k : Nat} (ih : ∀ k', k' < k → IHx tx n M s0 a0 S0 V0 R0 W0 k') {i d fC cnt m : Nat} {stk cs : List Nat} {S : Nat → Int32} {V : Nat → Nat → Int32} {S' : Nat → Int32} {V' : Nat → Nat → Int32} {L' : Nat → Int64} (hk : i + k = M) (hx : XR tx n M s0 a0 S0 V0 R0 W0 i d stk cs 1 S V S' V' L') (hK : kdA tx n (tS tx n i) = 61) (h12 : V' 12 (d + 1) = 0) (hcnt : cnt ≤ i) (f1 : k + 6 < fC + 1) (f2 : k + 6 < m + 1) : EXO tx n M s0 a0 S0 V0 R0 W0 i (bd3 (fX9_readOperator_25 S V) (fun r S2 V2 => fX9_read_25_L19 eC fC r (nI (cnt + 1)) S2 V2)) (fX12_expression_0_L29 eX (m + 1) 1 S' V' L') := by
  obtain ⟨hc, ha, hC, hR, hd, hk2, c1, r1, ⟨b1, b2⟩, ht, fx, fy⟩ := id hx
  have hlt := lt_M hc ha.1 (by omega)
  obtain ⟨S3, V3, o1, o2, o3, o4, o5⟩ := (rdopT hx hlt (x := 5) (by decide) (by rw [hK]; decide) rfl).1 h12
  obtain ⟨S41, V42, e1, e2, e3, e4, e5, e6, e7, e8, e9⟩ := drX hx (l := 4) (by decide)
  obtain ⟨seg, rest, g1, g2, g3, g4, g5, g6⟩ := SK_top2 hk2
  obtain ⟨sp1, sp2⟩ := SEG_pop 4 seg g2
  have sgx : SEG (5 :: popS 4 seg) := SEG_push (by decide) (by decide) rfl sp1 sp2
  have h4 : has4 (5 :: popS 4 seg) = true := by
    unfold has4
    rw [List.any_cons]
    rfl
  have st : 5 :: popS 4 stk = (5 :: popS 4 seg) ++ rest := by rw [(g4 4).1]; rfl
  have hsk : SK (upd (V' 12) (d + 1) 1) d (5 :: popS 4 stk) := by
    rw [st]
    exact g5 _ _ sgx (fun j hj => upd_ne _ _ (by omega)) (by rw [upd_same, h4]; rfl)
  obtain ⟨S50, V51, S56, L57, w1, w2, w3, w4, w5⟩ := XR_op hx hlt (l := 4) (x := 5) (by decide) (by decide) (by decide) o2 e2 e3 e4 e5 e6 e7 e8 e9.2 (upd (V' 12) (d + 1) 1) hsk
  have e12 : V51 12 = V' 12 := w3.trans e9.1
  rw [← e12] at w4
  rw [L29_Same hc ha.2.2.2 ha.2.2.1 hK hd.2.2 hd.2.1 h12 e1 e8 w1 w2 w4, o1, bd3_s, e12]
  exact EXO_m (Nat.le_succ i) (opGo (k := k - 1) (a := false) (fun k' hk' => ih k' (by omega)) (by omega) w5 o3 o4 o5 (fun z => by cases z) (by omega) (by omega) (by omega))
theorem exPlus {k : Nat} (ih : ∀ k', k' < k → IHx tx n M s0 a0 S0 V0 R0 W0 k') {i d fC cnt m : Nat} {stk cs : List Nat} {S : Nat → Int32} {V : Nat → Nat → Int32} {S' : Nat → Int32} {V' : Nat → Nat → Int32} {L' : Nat → Int64} (hk : i + k = M) (hx : XR tx n M s0 a0 S0 V0 R0 W0 i d stk cs 1 S V S' V' L') (hK : kdA tx n (tS tx n i) = 43) (hcnt : cnt ≤ i) (f1 : k + 6 < fC + 1) (f2 : k + 6 < m + 1) : EXO tx n M s0 a0 S0 V0 R0 W0 i (bd3 (fX9_readOperator_25 S V) (fun r S2 V2 => fX9_read_25_L19 eC fC r (nI (cnt + 1)) S2 V2)) (fX12_expression_0_L29 eX (m + 1) 1 S' V' L') := by
  obtain ⟨hc, ha, hC, hR, hd, hk2, c1, r1, ⟨b1, b2⟩, ht, fx, fy⟩ := id hx
  have hlt := lt_M hc ha.1 (by omega)
  obtain ⟨S3, V3, o1, o2, o3, o4, o5⟩ := rdop hx hlt (x := 6) (by decide) (by rw [hK]; decide) (by decide)
  obtain ⟨S41, V42, e1, e2, e3, e4, e5, e6, e7, e8, e9⟩ := drX hx (l := bn 6) (by decide)
  obtain ⟨seg, rest, g1, g2, g3, g4, g5, g6⟩ := SK_top2 hk2
  obtain ⟨sp1, sp2⟩ := SEG_pop (bn 6) seg g2
  have sgx : SEG (6 :: popS (bn 6) seg) := SEG_push (by decide) (by decide) rfl sp1 sp2
  have h4 : has4 (6 :: popS (bn 6) seg) = has4 seg := by
    rw [← has4_pop (l := bn 6) (by decide) seg]
    unfold has4
    rw [List.any_cons]
    rfl
  have st : 6 :: popS (bn 6) stk = (6 :: popS (bn 6) seg) ++ rest := by rw [(g4 (bn 6)).1]; rfl
  have hsk : SK (V' 12) d (6 :: popS (bn 6) stk) := by
    rw [st]
    exact g5 _ _ sgx (fun _ _ => rfl) (by rw [h4]; exact g3)
  obtain ⟨S50, V51, S56, L57, w1, w2, w3, w4, w5⟩ := XR_op hx hlt (l := bn 6) (x := 6) (by decide) (by decide) (by decide) o2 e2 e3 e4 e5 e6 e7 e8 e9.2 (V' 12) hsk
  have e12 : V51 12 = V' 12 := w3.trans e9.1
  rw [← e12, va_up_id] at w4 w5
  rw [L29_Plus hc ha.2.2.2 ha.2.2.1 hK e1 e8 w1 w4, o1, bd3_s]
  exact EXO_m (Nat.le_succ i) (opGo (k := k - 1) (a := false) (fun k' hk' => ih k' (by omega)) (by omega) w5 o3 o4 o5 (fun z => by cases z) (by omega) (by omega) (by omega))
theorem exMinus {k : Nat} (ih : ∀ k', k' < k → IHx tx n M s0 a0 S0 V0 R0 W0 k') {i d fC cnt m : Nat} {stk cs : List Nat} {S : Nat → Int32} {V : Nat → Nat → Int32} {S' : Nat → Int32} {V' : Nat → Nat → Int32} {L' : Nat → Int64} (hk : i + k = M) (hx : XR tx n M s0 a0 S0 V0 R0 W0 i d stk cs 1 S V S' V' L') (hK : kdA tx n (tS tx n i) = 45) (hcnt : cnt ≤ i) (f1 : k + 6 < fC + 1) (f2 : k + 6 < m + 1) : EXO tx n M s0 a0 S0 V0 R0 W0 i (bd3 (fX9_readOperator_25 S V) (fun r S2 V2 => fX9_read_25_L19 eC fC r (nI (cnt + 1)) S2 V2)) (fX12_expression_0_L29 eX (m + 1) 1 S' V' L') := by
  obtain ⟨hc, ha, hC, hR, hd, hk2, c1, r1, ⟨b1, b2⟩, ht, fx, fy⟩ := id hx
  have hlt := lt_M hc ha.1 (by omega)
  obtain ⟨S3, V3, o1, o2, o3, o4, o5⟩ := rdop hx hlt (x := 7) (by decide) (by rw [hK]; decide) (by decide)
  obtain ⟨S41, V42, e1, e2, e3, e4, e5, e6, e7, e8, e9⟩ := drX hx (l := bn 7) (by decide)
  obtain ⟨seg, rest, g1, g2, g3, g4, g5, g6⟩ := SK_top2 hk2
  obtain ⟨sp1, sp2⟩ := SEG_pop (bn 7) seg g2
  have sgx : SEG (7 :: popS (bn 7) seg) := SEG_push (by decide) (by decide) rfl sp1 sp2
  have h4 : has4 (7 :: popS (bn 7) seg) = has4 seg := by
    rw [← has4_pop (l := bn 7) (by decide) seg]
    unfold has4
    rw [List.any_cons]
    rfl
  have st : 7 :: popS (bn 7) stk = (7 :: popS (bn 7) seg) ++ rest := by rw [(g4 (bn 7)).1]; rfl
  have hsk : SK (V' 12) d (7 :: popS (bn 7) stk) := by
    rw [st]
    exact g5 _ _ sgx (fun _ _ => rfl) (by rw [h4]; exact g3)
  obtain ⟨S50, V51, S56, L57, w1, w2, w3, w4, w5⟩ := XR_op hx hlt (l := bn 7) (x := 7) (by decide) (by decide) (by decide) o2 e2 e3 e4 e5 e6 e7 e8 e9.2 (V' 12) hsk
  have e12 : V51 12 = V' 12 := w3.trans e9.1
  rw [← e12, va_up_id] at w4 w5
  rw [L29_Minus hc ha.2.2.2 ha.2.2.1 hK e1 e8 w1 w4, o1, bd3_s]
  exact EXO_m (Nat.le_succ i) (opGo (k := k - 1) (a := false) (fun k' hk' => ih k' (by omega)) (by omega) w5 o3 o4 o5 (fun z => by cases z) (by omega) (by omega) (by omega))
theorem exTimes {k : Nat} (ih : ∀ k', k' < k → IHx tx n M s0 a0 S0 V0 R0 W0 k') {i d fC cnt m : Nat} {stk cs : List Nat} {S : Nat → Int32} {V : Nat → Nat → Int32} {S' : Nat → Int32} {V' : Nat → Nat → Int32} {L' : Nat → Int64} (hk : i + k = M) (hx : XR tx n M s0 a0 S0 V0 R0 W0 i d stk cs 1 S V S' V' L') (hK : kdA tx n (tS tx n i) = 42) (hcnt : cnt ≤ i) (f1 : k + 6 < fC + 1) (f2 : k + 6 < m + 1) : EXO tx n M s0 a0 S0 V0 R0 W0 i (bd3 (fX9_readOperator_25 S V) (fun r S2 V2 => fX9_read_25_L19 eC fC r (nI (cnt + 1)) S2 V2)) (fX12_expression_0_L29 eX (m + 1) 1 S' V' L') := by
  obtain ⟨hc, ha, hC, hR, hd, hk2, c1, r1, ⟨b1, b2⟩, ht, fx, fy⟩ := id hx
  have hlt := lt_M hc ha.1 (by omega)
  obtain ⟨S3, V3, o1, o2, o3, o4, o5⟩ := rdop hx hlt (x := 8) (by decide) (by rw [hK]; decide) (by decide)
  obtain ⟨S41, V42, e1, e2, e3, e4, e5, e6, e7, e8, e9⟩ := drX hx (l := bn 8) (by decide)
  obtain ⟨seg, rest, g1, g2, g3, g4, g5, g6⟩ := SK_top2 hk2
  obtain ⟨sp1, sp2⟩ := SEG_pop (bn 8) seg g2
  have sgx : SEG (8 :: popS (bn 8) seg) := SEG_push (by decide) (by decide) rfl sp1 sp2
  have h4 : has4 (8 :: popS (bn 8) seg) = has4 seg := by
    rw [← has4_pop (l := bn 8) (by decide) seg]
    unfold has4
    rw [List.any_cons]
    rfl
  have st : 8 :: popS (bn 8) stk = (8 :: popS (bn 8) seg) ++ rest := by rw [(g4 (bn 8)).1]; rfl
  have hsk : SK (V' 12) d (8 :: popS (bn 8) stk) := by
    rw [st]
    exact g5 _ _ sgx (fun _ _ => rfl) (by rw [h4]; exact g3)
  obtain ⟨S50, V51, S56, L57, w1, w2, w3, w4, w5⟩ := XR_op hx hlt (l := bn 8) (x := 8) (by decide) (by decide) (by decide) o2 e2 e3 e4 e5 e6 e7 e8 e9.2 (V' 12) hsk
  have e12 : V51 12 = V' 12 := w3.trans e9.1
  rw [← e12, va_up_id] at w4 w5
  rw [L29_Times hc ha.2.2.2 ha.2.2.1 hK e1 e8 w1 w4, o1, bd3_s]
  exact EXO_m (Nat.le_succ i) (opGo (k := k - 1) (a := false) (fun k' hk' => ih k' (by omega)) (by omega) w5 o3 o4 o5 (fun z => by cases z) (by omega) (by omega) (by omega))
theorem exOver {k : Nat} (ih : ∀ k', k' < k → IHx tx n M s0 a0 S0 V0 R0 W0 k') {i d fC cnt m : Nat} {stk cs : List Nat} {S : Nat → Int32} {V : Nat → Nat → Int32} {S' : Nat → Int32} {V' : Nat → Nat → Int32} {L' : Nat → Int64} (hk : i + k = M) (hx : XR tx n M s0 a0 S0 V0 R0 W0 i d stk cs 1 S V S' V' L') (hK : kdA tx n (tS tx n i) = 47) (hcnt : cnt ≤ i) (f1 : k + 6 < fC + 1) (f2 : k + 6 < m + 1) : EXO tx n M s0 a0 S0 V0 R0 W0 i (bd3 (fX9_readOperator_25 S V) (fun r S2 V2 => fX9_read_25_L19 eC fC r (nI (cnt + 1)) S2 V2)) (fX12_expression_0_L29 eX (m + 1) 1 S' V' L') := by
  obtain ⟨hc, ha, hC, hR, hd, hk2, c1, r1, ⟨b1, b2⟩, ht, fx, fy⟩ := id hx
  have hlt := lt_M hc ha.1 (by omega)
  obtain ⟨S3, V3, o1, o2, o3, o4, o5⟩ := rdop hx hlt (x := 9) (by decide) (by rw [hK]; decide) (by decide)
  obtain ⟨S41, V42, e1, e2, e3, e4, e5, e6, e7, e8, e9⟩ := drX hx (l := bn 9) (by decide)
  obtain ⟨seg, rest, g1, g2, g3, g4, g5, g6⟩ := SK_top2 hk2
  obtain ⟨sp1, sp2⟩ := SEG_pop (bn 9) seg g2
  have sgx : SEG (9 :: popS (bn 9) seg) := SEG_push (by decide) (by decide) rfl sp1 sp2
  have h4 : has4 (9 :: popS (bn 9) seg) = has4 seg := by
    rw [← has4_pop (l := bn 9) (by decide) seg]
    unfold has4
    rw [List.any_cons]
    rfl
  have st : 9 :: popS (bn 9) stk = (9 :: popS (bn 9) seg) ++ rest := by rw [(g4 (bn 9)).1]; rfl
  have hsk : SK (V' 12) d (9 :: popS (bn 9) stk) := by
    rw [st]
    exact g5 _ _ sgx (fun _ _ => rfl) (by rw [h4]; exact g3)
  obtain ⟨S50, V51, S56, L57, w1, w2, w3, w4, w5⟩ := XR_op hx hlt (l := bn 9) (x := 9) (by decide) (by decide) (by decide) o2 e2 e3 e4 e5 e6 e7 e8 e9.2 (V' 12) hsk
  have e12 : V51 12 = V' 12 := w3.trans e9.1
  rw [← e12, va_up_id] at w4 w5
  rw [L29_Over hc ha.2.2.2 ha.2.2.1 hK e1 e8 w1 w4, o1, bd3_s]
  exact EXO_m (Nat.le_succ i) (opGo (k := k - 1) (a := false) (fun k' hk' => ih k' (by omega)) (by omega) w5 o3 o4 o5 (fun z => by cases z) (by omega) (by omega) (by omega))
theorem wbX5 {i d l : Nat} {stk cs : List Nat} {S : Nat → Int32} {V : Nat → Nat → Int32} (hl : l ≤ 6) (hl1 : 1 ≤ l) (h9 : ∀ x, x ∈ stk → x ≤ 9) (hC : S 2503 = nI stk.length ∧ stR (V 26) (stk.map nI)) (h84 : stk.length ≤ 84) (c1 : CCD s0 cs (S 1213) (V 18)) (hb : s0 + cs.length + stk.length < 600) (h4 : S 2504 = nI d) (h05 : S 2005 = nI i) : ∃ S2 V2, fX9_writeBinding_25 S V (nI l) = some (S2, V2) ∧ AFC s0 d (popS l stk) (cs ++ popC l stk) i S V S2 V2 ∧ S2 2505 = S 2505 := by
  obtain ⟨u, e1, e2, e3⟩ := wbC hl hl1 stk cs FU S V h9 (by unfold FU; omega) hC.1 hC.2 h84 c1 hb
  refine ⟨_, _, e1, ⟨h05, ⟨rfl, stR_pop l stk hC.2⟩, h4, e2, fun q q1 q2 q3 => ?_, fun q q1 q2 => va_up_ne _ _ q1, e3⟩, rfl⟩
  simp only [va_up]; (repeat rw [if_neg (by omega)])
/-- a parenthesis closes -/
theorem exClose {k : Nat} (ih : ∀ k', k' < k → IHx tx n M s0 a0 S0 V0 R0 W0 k') {i d fC cnt m : Nat} {stk cs : List Nat} {S : Nat → Int32} {V : Nat → Nat → Int32} {S' : Nat → Int32} {V' : Nat → Nat → Int32} {L' : Nat → Int64} (hk : i + k = M) (hx : XR tx n M s0 a0 S0 V0 R0 W0 i d stk cs 1 S V S' V' L') (hK : kdA tx n (tS tx n i) = 41) (hd0 : d ≠ 0) (h5 : S 2505 = 0) (hcnt : cnt ≤ i) (f1 : k + 6 < fC + 1) (f2 : k + 6 < m + 1) : EXO tx n M s0 a0 S0 V0 R0 W0 i (bd3 (fX9_readClose_25 S V) (fun r S2 V2 => fX9_read_25_L19 eC fC r (nI (cnt + 1)) S2 V2)) (fX12_expression_0_L29 eX (m + 1) 1 S' V' L') := by
  obtain ⟨hc, ha, hC, hR, hd, hk2, c1, r1, ⟨b1, b2⟩, ht, fx, fy⟩ := id hx
  obtain ⟨hi1, h05, hr, h14⟩ := id ha
  have hM := M600 hc
  have skb := SK_b d stk hk2
  have hlt := lt_M hc hi1 (by omega)
  obtain ⟨d', rfl⟩ : ∃ d', d = d' + 1 := ⟨d - 1, by omega⟩
  obtain ⟨seg, rest, g1, g2, g3, g4⟩ := id hk2
  have hdd := hd.2.2
  obtain ⟨S2, V2, e1, e2, e25⟩ := wbX5 (l := 1) (by decide) (by decide) skb.2.2 hC (by omega) c1 (by omega) hd.1 h05
  obtain ⟨q1, ⟨q2, q3⟩, q4, q5, q6⟩ := id e2
  have ps : popS 1 stk = 0 :: rest := by rw [g1, (pop_app 1 rest seg).1, pop1_seg seg g2.1]; rfl
  rw [ps] at q2 q3
  have q2' : S2 2503 = nI (rest.length + 1) := q2
  have pl := pop_len 1 stk
  rw [ps, List.length_cons] at pl
  obtain ⟨S41, V42, u1, u2, u3, u4, u5, u6, u7, u8, u9⟩ := drX hx (l := 0) (by decide)
  obtain ⟨p0, p1⟩ := pop01 stk skb.2.2
  rw [p0, ps] at u2
  rw [p1] at u5
  have u2' : S41 34 = nI (rest.length + 1) := u2
  have hc1 : CX tx n M V V42 := CX_of hc (fun _ _ _ => rfl) u6.2.1
  have hc2 : CX tx n M V2 V' := CX_of hc q6.2.1 (fun _ _ => rfl)
  obtain ⟨a1, b1', c1', d1, e1', f1', y, w1, w2⟩ := stepR (V := V) (V' := V42) (S' := va_up (va_up S41 34 (nI rest.length)) 35 (nI (d' + 1))) (L' := L') hc1 hlt u8
  have op : fX12_isOpened_0 S' V' = some 1 := (isOpR hx).trans (by rw [decide_eq_true (by omega)]; rfl)
  have cl : fX12_closes_0 S' V' L' = some (gS (va_up (va_up S41 34 (nI rest.length)) 35 (nI (d' + 1))) a1 b1' c1' d1 e1' f1', V42, va_up L' 24 y) := by
    unfold fX12_closes_0
    rw [show fX12_drops_0 S' V' 0 = _ from u1, bd2_s]
    simp only [lt_e]
    rw [u2', nI_dec, show (va_up S41 34 (nI rest.length)) 35 = nI (d' + 1 + 1) from u4, nI_dec, w1, bd2_s]
  have rc : fX9_readClose_25 S V = some (0, va_up (va_up (va_up S2 2503 (nI rest.length)) 2504 (nI d')) 2005 (nI (i + 1)), V2) := by
    unfold fX9_readClose_25
    rw [hd.1, if_neg (fun z => by have := (nI_eq0 (n := d' + 1) (by omega)).mp z; omega), show fX9_writeBinding_25 S V 1 = _ from e1, bd2_s]
    simp only [bk_e, lt_e]
    rw [q2', if_neg (fun z => by have := (nI_le0 (n := rest.length + 1) (by omega)).mp z; omega), nI_dec, show (va_up S2 2503 (nI rest.length)) 2504 = nI (d' + 1) from q4, nI_dec, advC (S := va_up (va_up S2 2503 (nI rest.length)) 2504 (nI d')) hc2 hlt q1, bd1_s]
  have lf : ((cs ++ popC 1 stk).flatMap trT).length = (cs.flatMap trT).length + (popC 1 stk).length := by
    rw [List.flatMap_append, List.length_append, popC_len 1 stk skb.2.2]
  have xr : XR tx n M s0 a0 S0 V0 R0 W0 (i + 1) d' rest (cs ++ popC 1 stk) 1 (va_up (va_up (va_up S2 2503 (nI rest.length)) 2504 (nI d')) 2005 (nI (i + 1))) V2 (gS (va_up (va_up S41 34 (nI rest.length)) 35 (nI (d' + 1))) a1 b1' c1' d1 e1' f1') V42 (va_up L' 24 y) := by
    refine ⟨CX_of hc q6.2.1 u6.2.1, ⟨hlt, rfl, w2, u7⟩, ⟨rfl, q3.2⟩, ⟨rfl, ?_⟩, ⟨rfl, rfl, by omega⟩, by rw [u9.1]; exact g4, q5, u5, ⟨?_, ?_⟩, ?_, FX_t fx (FX_t q6 ⟨fun q z1 z2 z3 => ?_, fun _ _ _ => rfl, fun _ _ => rfl⟩), FY_t fy.1 (FY_t u6 ⟨fun q hq => ?_, fun _ _ => rfl, fun _ _ => rfl⟩), u9.2.trans fy.2⟩
    · rw [u3]
      have := stR_pop (g := fun x => nI (trO x)) 1 stk hR.2
      rw [ps] at this
      exact this.2
    · rw [List.length_append]; omega
    · rw [lf]; omega
    · have := ht_pop 1 stk cs skb.2.2 ht
      rw [ps, nbS_0] at this
      exact this
    · simp only [va_up]; (repeat rw [if_neg (by omega)])
    · simp only [va_up]; (repeat rw [if_neg (by omega)])
  have h52 : (va_up (va_up (va_up S2 2503 (nI rest.length)) 2504 (nI d')) 2005 (nI (i + 1))) 2505 = 0 := e25.trans h5
  rw [L29_Close hc h14 hr hK op cl, rc, bd3_s]
  exact EXO_m (Nat.le_succ i) (ih (k - 1) (by omega) (i + 1) d' rest (cs ++ popC 1 stk) fC (cnt + 1) m _ _ _ _ _ (by omega) xr h52 (by omega) (by omega) (by omega))
end RU
