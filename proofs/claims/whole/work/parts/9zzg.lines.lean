/-! ===== lines side by side: base, oil, stop ===== -/
def FC (S : Nat → Int32) (V : Nat → Nat → Int32) (S2 : Nat → Int32) (V2 : Nat → Nat → Int32) : Prop := (∀ k, k < 1100 ∨ 2600 ≤ k → S2 k = S k) ∧ ∀ q, q < 13 ∨ (19 < q ∧ q ≠ 26) → V2 q = V q
def FR (S : Nat → Int32) (V : Nat → Nat → Int32) (S2 : Nat → Int32) (V2 : Nat → Nat → Int32) : Prop := (∀ k, k < 14 ∨ 35 < k → S2 k = S k) ∧ ∀ q, q < 7 ∨ 12 < q → V2 q = V q
theorem FC_t {S S2 S3 : Nat → Int32} {V V2 V3 : Nat → Nat → Int32} (h1 : FC S V S2 V2) (h2 : FC S2 V2 S3 V3) : FC S V S3 V3 := ⟨fun k hk => (h2.1 k hk).trans (h1.1 k hk), fun q hq => (h2.2 q hq).trans (h1.2 q hq)⟩
theorem FR_t {S S2 S3 : Nat → Int32} {V V2 V3 : Nat → Nat → Int32} (h1 : FR S V S2 V2) (h2 : FR S2 V2 S3 V3) : FR S V S3 V3 := ⟨fun k hk => (h2.1 k hk).trans (h1.1 k hk), fun q hq => (h2.2 q hq).trans (h1.2 q hq)⟩
theorem FR_g {S : Nat → Int32} {V : Nat → Nat → Int32} {a b c d e f : Int32} : FR S V (gS S a b c d e f) V := ⟨(fun k hk => by simp only [va_up]; (repeat rw [if_neg (by omega)])), fun _ _ => rfl⟩
theorem FR_w {S : Nat → Int32} {V : Nat → Nat → Int32} {f p : Nat} : FR S V (wrS S f p) V := ⟨(fun k hk => by simp only [va_up]; (repeat rw [if_neg (by omega)])), fun _ _ => rfl⟩
def CUs (h : Nat → Nat) (ru : Nat → List Nat) (st : Nat → Nat) (i : Nat) (s : Int32) (co re : Nat → Int32) : Prop := st 0 = 0 ∧ s = nI (st (h 6)) ∧ st (h 6) ≤ i ∧ ∀ r, r < h 6 → (re r = nI (st (r + 1)) ∧ st (r + 1) = st r + (ru r).length) ∧ ∀ j p, (ru r)[j]? = some p → co (st r + j) = nI p
def RUs (h : Nat → Nat) (ru : Nat → List Nat) (tp i : Nat) (s : Int32) (co ra : Nat → Int32) : Prop := s = nI tp ∧ tp ≤ 2 * i ∧ ∀ r, r < h 6 → ∃ a : Nat, ra r = nI a ∧ a + ((ru r).flatMap trT).length + 1 ≤ tp ∧ ∀ j p, ((ru r).flatMap trT ++ [0])[j]? = some p → co (a + j) = nI p
def TOf (s3 s4 s5 r : Int32) : Prop := ∃ m : Nat, m < 8 ∧ s3 = bI (m.testBit 0) ∧ s4 = bI (m.testBit 1) ∧ s5 = bI (m.testBit 2) ∧ r = nI m
def DQ (h : Nat → Nat) (t : Nat → Nat → Nat) (ru : Nat → List Nat) (st : Nat → Nat) (tp i : Nat) (S : Nat → Int32) (V : Nat → Nat → Int32) (S' : Nat → Int32) (V' : Nat → Nat → Int32) : Prop := MHs h ∧ MHt h t ∧ MU (h 6) ru ∧ CHs h (S 1200) (S 1201) (S 1202) (S 1203) (S 1204) (S 1205) (S 1206) ∧ CHt h t (V 13) (V 14) (V 15) (V 16) (V 17) ∧ CHs h (S' 25) (S' 26) (S' 27) (S' 28) (S' 29) (S' 30) (S' 31) ∧ RHt h t (V' 7) (V' 8) ∧ CUs h ru st i (S 1213) (V 18) (V 19) ∧ RUs h ru tp i (S' 33) (V' 10) (V' 9)
def QQ (tx : Nat → Nat) (n M i : Nat) (h : Nat → Nat) (t : Nat → Nat → Nat) (ru : Nat → List Nat) (st : Nat → Nat) (tp : Nat) (S : Nat → Int32) (V : Nat → Nat → Int32) (S' : Nat → Int32) (V' : Nat → Nat → Int32) (L' : Nat → Int64) : Prop := CX tx n M V V' ∧ AT tx n M i S S' L' ∧ TOf (S 1103) (S 1104) (S 1105) (S' 32) ∧ DQ h t ru st tp i S V S' V'
theorem DQ_mono {h : Nat → Nat} {t : Nat → Nat → Nat} {ru : Nat → List Nat} {st : Nat → Nat} {tp i i2 : Nat} {S : Nat → Int32} {V : Nat → Nat → Int32} {S' : Nat → Int32} {V' : Nat → Nat → Int32} (hi : i ≤ i2) (hd : DQ h t ru st tp i S V S' V') : DQ h t ru st tp i2 S V S' V' := by
  obtain ⟨d1, d2, d3, d4, d5, d6, d7, ⟨c1, c2, c3, c4⟩, ⟨r1, r2, r3⟩⟩ := hd
  exact ⟨d1, d2, d3, d4, d5, d6, d7, ⟨c1, c2, by omega, c4⟩, ⟨r1, by omega, r3⟩⟩
/-- what stands behind each line -/
def K5 (S4 : Nat → Int32) (V5 : Nat → Nat → Int32) (L6 : Nat → Int64) : Option ((Nat → Int32) × (Nat → Nat → Int32) × (Nat → Int64)) := bd1 (fX12_isSign_0 S4 (59 : Int32)) (fun r7 => bd2 (fX12_need_0 S4 V5 L6 r7) (fun S9 L10 => some (S9, V5, L10)))
def BADF (tx : Nat → Nat) (n M : Nat) (S2 S3 : Nat → Int32) (f : Nat) : Prop := 1 ≤ f ∧ f ≤ 5 ∧ S3 14 = nI f ∧ ∃ i2, i2 ≤ M ∧ S2 2005 = nI i2 ∧ S3 15 = nI (tS tx n i2)
def LINE (tx : Nat → Nat) (n M i : Nat) (S : Nat → Int32) (V : Nat → Nat → Int32) (S' : Nat → Int32) (V' : Nat → Nat → Int32) (L' : Nat → Int64) (res : Option (Int32 × (Nat → Int32) × (Nat → Nat → Int32))) : Prop :=
  ∃ S2 V2 S3 V3 L3, fX12_line_0 S' V' L' = K5 S3 V3 L3 ∧ FC S V S2 V2 ∧ FR S' V' S3 V3 ∧
  ((res = some (0, S2, V2) ∧ S3 15 = S' 15 ∧ ∃ i2 h t ru st tp, i < i2 ∧ QQ tx n M i2 h t ru st tp S2 V2 S3 V3 L3) ∨
   (∃ f, res = some (nI f, S2, V2) ∧ BADF tx n M S2 S3 f) ∨
   (res = some (1, S2, V2) ∧ S3 14 = 0 ∧ ∃ i2, i2 ≤ M ∧ S2 2005 = nI i2 ∧ RN tx n S3 L3 (tS tx n i2) ∧ kdA tx n (tS tx n i2) ≠ 59))
theorem bit_or : ∀ m, m < 8 → ∀ j, j < 3 → (m ||| 2 ^ j) < 8 ∧ ∀ k, k < 3 → (m ||| 2 ^ j).testBit k = (decide (k = j) || m.testBit k) := by decide +kernel
section LN
variable {tx : Nat → Nat} {n M i : Nat} {h : Nat → Nat} {t : Nat → Nat → Nat} {ru : Nat → List Nat} {st : Nat → Nat} {tp : Nat} {S S' : Nat → Int32} {V V' : Nat → Nat → Int32} {L' : Nat → Int64}
theorem begR (hc : CX tx n M V V') (ha : AT tx n M i S S' L') (hi : i < M) {m j : Nat} (hm : m < 8) (hj : j < 3) (h32 : S' 32 = nI m) : (m.testBit j = false → ∃ a b c d e f y, fX12_begins_0 S' V' L' (nI (9 + j)) = some (1, gS (va_up S' 32 (nI (m ||| 2 ^ j))) a b c d e f, va_up L' 24 y) ∧ RN tx n (gS (va_up S' 32 (nI (m ||| 2 ^ j))) a b c d e f) (va_up L' 24 y) (tS tx n (i + 1))) ∧ (m.testBit j = true → fX12_begins_0 S' V' L' (nI (9 + j)) = some (0, va_up (wrS S' 5 (tS tx n i)) 32 (nI (m ||| 2 ^ j)), L')) := by
  obtain ⟨hi1, h05, hr, h14⟩ := ha
  have e1 : ((1 : Int32) <<< ((nI (9 + j) - 9) &&& 31)) = nI (2 ^ j) := by
    rw [show (9 : Int32) = nI 9 from rfl, nI_sub (by omega), show 9 + j - 9 = j by omega, bit_lt (by omega)]
  constructor
  · intro hb
    obtain ⟨a, b, c, d, e, f, y, g1, g2⟩ := stepR (S' := va_up S' 32 (nI (m ||| 2 ^ j))) (L' := L') hc hi hr
    refine ⟨a, b, c, d, e, f, y, ?_, g2⟩
    unfold fX12_begins_0
    simp only [lt_e, bk_e]
    rw [e1, h32, if_pos ((fa_bit (by omega)).mpr hb), fa_or, good_1 (S' := va_up S' 32 (nI (m ||| 2 ^ j))) h14, bd1_s, if_neg (show ¬ (1 : Int32) = 0 by decide), g1, bd2_s, good_1 (S' := gS (va_up S' 32 (nI (m ||| 2 ^ j))) a b c d e f) h14, bd1_s]
    rfl
  · intro hb
    unfold fX12_begins_0
    simp only [lt_e, bk_e]
    rw [e1, h32, if_neg (fun z => by rw [(fa_bit (by omega)).mp z] at hb; cases hb), wrong5 h14 hr.2.2.2.2.1, bd1_s, show (wrS S' 5 (tS tx n i)) 32 = nI m from h32, fa_or, good_0 (show ¬ (va_up (wrS S' 5 (tS tx n i)) 32 (nI (m ||| 2 ^ j))) 14 = 0 from wr_n (S' := S') (q := tS tx n i) (f := 5) (by decide) (by decide)), bd1_s, if_pos rfl, bd1_s]
    rfl
theorem lineBase (hq : QQ tx n M i h t ru st tp S V S' V' L') (hi : i < M) (hk : kdA tx n (tS tx n i) = 101) : LINE tx n M i S V S' V' L' (bd2 (fX3_readBase_11 S V) (fun r S2 => some (r, S2, V))) := by
  obtain ⟨hc, ha, ⟨m, m8, f3, f4, f5, f32⟩, hd⟩ := hq
  obtain ⟨hi1, h05, hr, h14⟩ := id ha
  obtain ⟨bo1, bo2⟩ := bit_or m m8 0 (by decide)
  have kw := knR hc.2.1 hc.1 hr
  rw [hk, show kmI 101 = 9 by decide] at kw
  obtain ⟨bg1, bg2⟩ := begR hc ha hi m8 (show 0 < 3 by decide) f32
  unfold fX3_readBase_11
  cases hb : m.testBit 0 with
  | true =>
    rw [f3, hb, if_neg (show ¬ bI true = 0 by decide), bd2_s]
    refine ⟨S, V, va_up (wrS S' 5 (tS tx n i)) 32 (nI (m ||| 2 ^ 0)), V', L', ?_, ⟨fun _ _ => rfl, fun _ _ => rfl⟩, ⟨(fun k hk => by simp only [va_up]; (repeat rw [if_neg (by omega)])), fun _ _ => rfl⟩, Or.inr (Or.inl ⟨5, rfl, by decide, by decide, rfl, i, hi1, h05, rfl⟩)⟩
    unfold fX12_line_0
    rw [kw, bd1_s]
    simp only [bk_e]
    rw [if_pos trivial]
    rw [show fX12_begins_0 S' V' L' 9 = _ from bg2 hb, bd3_s, if_pos rfl]
    rfl
  | false =>
    obtain ⟨a, b, c, d, e, f, y, g1, g2⟩ := bg1 hb
    have ha2 : AT tx n M (i + 1) (va_up (va_up S 1103 1) 2005 (nI (i + 1))) (gS (va_up S' 32 (nI (m ||| 2 ^ 0))) a b c d e f) (va_up L' 24 y) := ⟨hi, rfl, g2, h14⟩
    rw [f3, hb, if_pos (show bI false = 0 from rfl)]
    simp only [lt_e]
    rw [advC (S := va_up S 1103 1) hc hi h05, bd1_s]
    have hline : ∀ (w : Int32) (S3 : Nat → Int32) (L3 : Nat → Int64), fX12_number_0 (gS (va_up S' 32 (nI (m ||| 2 ^ 0))) a b c d e f) V' (va_up L' 24 y) (nI 20) (nI 60) = some (w, S3, L3) → fX12_line_0 S' V' L' = K5 (va_up S3 25 w) V' L3 := fun w S3 L3 hn => by
      unfold fX12_line_0
      rw [kw, bd1_s]
      simp only [bk_e]
      rw [if_pos trivial]
      rw [show fX12_begins_0 S' V' L' 9 = _ from g1, bd3_s, if_neg (show ¬ (1 : Int32) = 0 by decide), show fX12_number_0 (gS (va_up S' 32 (nI (m ||| 2 ^ 0))) a b c d e f) V' (va_up L' 24 y) 20 60 = _ from hn, bd3_s, lt_e]
      rfl
    rcases numbR (lo := 20) (hi := 60) hc ha2 (by decide) (by decide) with ⟨v, a2, b2, c2, d2, e2, f2, y2, v1, v2, v3, n1, n2, n3⟩ | ⟨fl, x, w, w1, w2, n1, n2⟩
    · rw [show fX3_readNumber_11 (va_up (va_up S 1103 1) 2005 (nI (i + 1))) V 20 60 = _ from n1, bd2_s, bd2_s]
      refine ⟨_, V, _, V', _, hline _ _ _ n2, ⟨(fun k hk => by simp only [va_up]; (repeat rw [if_neg (by omega)])), fun _ _ => rfl⟩, ⟨(fun k hk => by simp only [va_up]; (repeat rw [if_neg (by omega)])), fun _ _ => rfl⟩, Or.inl ⟨rfl, rfl, i + 1 + 1, va_up h 0 v, t, ru, st, tp, by omega, hc, ⟨by omega, rfl, n3, h14⟩, ⟨m ||| 2 ^ 0, bo1, ?_, ?_, ?_, rfl⟩, ?_⟩⟩
      · rw [bo2 0 (by decide)]; rfl
      · rw [bo2 1 (by decide)]; exact f4
      · rw [bo2 2 (by decide)]; exact f5
      · obtain ⟨d1, d2', d3, d4, d5, d6, d7, d8, d9⟩ := DQ_mono (show i ≤ i + 1 + 1 by omega) hd
        refine ⟨?_, d2', d3, ?_, d5, ?_, d7, d8, d9⟩
        · obtain ⟨q0, q1, q2, q3, q4, q5, q6⟩ := d1
          exact ⟨⟨v1, v2⟩, q1, q2, q3, q4, q5, q6⟩
        · obtain ⟨q0, q1, q2, q3, q4, q5, q6⟩ := d4
          exact ⟨rfl, q1, q2, q3, q4, q5, q6⟩
        · obtain ⟨q0, q1, q2, q3, q4, q5, q6⟩ := d6
          exact ⟨rfl, q1, q2, q3, q4, q5, q6⟩
    · rw [show fX3_readNumber_11 (va_up (va_up S 1103 1) 2005 (nI (i + 1))) V 20 60 = _ from n1, bd2_s, bd2_s]
      exact ⟨_, V, _, V', _, hline _ _ _ n2, ⟨(fun k hk => by simp only [va_up]; (repeat rw [if_neg (by omega)])), fun _ _ => rfl⟩, ⟨(fun k hk => by simp only [va_up]; (repeat rw [if_neg (by omega)])), fun _ _ => rfl⟩, Or.inr (Or.inl ⟨fl, rfl, w1, w2, rfl, i + 1, hi, rfl, rfl⟩)⟩
theorem lineStop (hq : QQ tx n M i h t ru st tp S V S' V' L') (hi : i < M) (hk : kdA tx n (tS tx n i) = 103) : LINE tx n M i S V S' V' L' (bd2 (fX3_readStop_11 S V) (fun r S2 => some (r, S2, V))) := by
  obtain ⟨hc, ha, ⟨m, m8, f3, f4, f5, f32⟩, hd⟩ := hq
  obtain ⟨hi1, h05, hr, h14⟩ := id ha
  obtain ⟨bo1, bo2⟩ := bit_or m m8 2 (by decide)
  have kw := knR hc.2.1 hc.1 hr
  rw [hk, show kmI 103 = 11 by decide] at kw
  obtain ⟨bg1, bg2⟩ := begR hc ha hi m8 (show 2 < 3 by decide) f32
  unfold fX3_readStop_11
  cases hb : m.testBit 2 with
  | true =>
    rw [f5, hb, if_neg (show ¬ bI true = 0 by decide), bd2_s]
    refine ⟨S, V, va_up (wrS S' 5 (tS tx n i)) 32 (nI (m ||| 2 ^ 2)), V', L', ?_, ⟨fun _ _ => rfl, fun _ _ => rfl⟩, ⟨(fun k hk => by simp only [va_up]; (repeat rw [if_neg (by omega)])), fun _ _ => rfl⟩, Or.inr (Or.inl ⟨5, rfl, by decide, by decide, rfl, i, hi1, h05, rfl⟩)⟩
    unfold fX12_line_0
    rw [kw, bd1_s]
    simp only [bk_e]
    rw [if_neg (show ¬ (11 : Int32) = 9 by decide), if_neg (show ¬ (11 : Int32) = 10 by decide), if_pos trivial]
    rw [show fX12_begins_0 S' V' L' 11 = _ from bg2 hb, bd3_s, if_pos rfl]
    rfl
  | false =>
    obtain ⟨a, b, c, d, e, f, y, g1, g2⟩ := bg1 hb
    have ha2 : AT tx n M (i + 1) (va_up (va_up S 1105 1) 2005 (nI (i + 1))) (gS (va_up S' 32 (nI (m ||| 2 ^ 2))) a b c d e f) (va_up L' 24 y) := ⟨hi, rfl, g2, h14⟩
    rw [f5, hb, if_pos (show bI false = 0 from rfl)]
    simp only [lt_e]
    rw [advC (S := va_up S 1105 1) hc hi h05, bd1_s]
    have hline : ∀ (w : Int32) (S3 : Nat → Int32) (L3 : Nat → Int64), fX12_number_0 (gS (va_up S' 32 (nI (m ||| 2 ^ 2))) a b c d e f) V' (va_up L' 24 y) (nI 41) (nI 400) = some (w, S3, L3) → fX12_line_0 S' V' L' = K5 (va_up S3 28 w) V' L3 := fun w S3 L3 hn => by
      unfold fX12_line_0
      rw [kw, bd1_s]
      simp only [bk_e]
      rw [if_neg (show ¬ (11 : Int32) = 9 by decide), if_neg (show ¬ (11 : Int32) = 10 by decide), if_pos trivial]
      rw [show fX12_begins_0 S' V' L' 11 = _ from g1, bd3_s, if_neg (show ¬ (1 : Int32) = 0 by decide), show fX12_number_0 (gS (va_up S' 32 (nI (m ||| 2 ^ 2))) a b c d e f) V' (va_up L' 24 y) 41 400 = _ from hn, bd3_s, lt_e]
      rfl
    rcases numbR (lo := 41) (hi := 400) hc ha2 (by decide) (by decide) with ⟨v, a2, b2, c2, d2, e2, f2, y2, v1, v2, v3, n1, n2, n3⟩ | ⟨fl, x, w, w1, w2, n1, n2⟩
    · rw [show fX3_readNumber_11 (va_up (va_up S 1105 1) 2005 (nI (i + 1))) V 41 400 = _ from n1, bd2_s, bd2_s]
      refine ⟨_, V, _, V', _, hline _ _ _ n2, ⟨(fun k hk => by simp only [va_up]; (repeat rw [if_neg (by omega)])), fun _ _ => rfl⟩, ⟨(fun k hk => by simp only [va_up]; (repeat rw [if_neg (by omega)])), fun _ _ => rfl⟩, Or.inl ⟨rfl, rfl, i + 1 + 1, va_up h 3 v, t, ru, st, tp, by omega, hc, ⟨by omega, rfl, n3, h14⟩, ⟨m ||| 2 ^ 2, bo1, ?_, ?_, ?_, rfl⟩, ?_⟩⟩
      · rw [bo2 0 (by decide)]; exact f3
      · rw [bo2 1 (by decide)]; exact f4
      · rw [bo2 2 (by decide)]; rfl
      · obtain ⟨d1, d2', d3, d4, d5, d6, d7, d8, d9⟩ := DQ_mono (show i ≤ i + 1 + 1 by omega) hd
        refine ⟨?_, d2', d3, ?_, d5, ?_, d7, d8, d9⟩
        · obtain ⟨q0, q1, q2, q3, q4, q5, q6⟩ := d1
          exact ⟨q0, q1, q2, ⟨v1, v2⟩, q4, q5, q6⟩
        · obtain ⟨q0, q1, q2, q3, q4, q5, q6⟩ := d4
          exact ⟨q0, q1, q2, rfl, q4, q5, q6⟩
        · obtain ⟨q0, q1, q2, q3, q4, q5, q6⟩ := d6
          exact ⟨q0, q1, q2, rfl, q4, q5, q6⟩
    · rw [show fX3_readNumber_11 (va_up (va_up S 1105 1) 2005 (nI (i + 1))) V 41 400 = _ from n1, bd2_s, bd2_s]
      exact ⟨_, V, _, V', _, hline _ _ _ n2, ⟨(fun k hk => by simp only [va_up]; (repeat rw [if_neg (by omega)])), fun _ _ => rfl⟩, ⟨(fun k hk => by simp only [va_up]; (repeat rw [if_neg (by omega)])), fun _ _ => rfl⟩, Or.inr (Or.inl ⟨fl, rfl, w1, w2, rfl, i + 1, hi, rfl, rfl⟩)⟩
theorem lineOil (hq : QQ tx n M i h t ru st tp S V S' V' L') (hi : i < M) (hk : kdA tx n (tS tx n i) = 102) : LINE tx n M i S V S' V' L' (bd2 (fX3_readOil_11 S V) (fun r S2 => some (r, S2, V))) := by
  obtain ⟨hc, ha, ⟨m, m8, f3, f4, f5, f32⟩, hd⟩ := hq
  obtain ⟨hi1, h05, hr, h14⟩ := id ha
  obtain ⟨bo1, bo2⟩ := bit_or m m8 1 (by decide)
  have kw := knR hc.2.1 hc.1 hr
  rw [hk, show kmI 102 = 10 by decide] at kw
  obtain ⟨bg1, bg2⟩ := begR hc ha hi m8 (show 1 < 3 by decide) f32
  have nbad : ∀ (S3 : Nat → Int32) (V3 : Nat → Nat → Int32) (L3 : Nat → Int64) (lo hi : Int32), ¬ S3 14 = 0 → fX12_number_0 S3 V3 L3 lo hi = some (0, S3, L3) := fun S3 V3 L3 lo hi hn => by
    unfold fX12_number_0
    rw [good_0 hn, bd1_s, if_pos rfl]
  unfold fX3_readOil_11
  cases hb : m.testBit 1 with
  | true =>
    rw [f4, hb, if_neg (show ¬ bI true = 0 by decide), bd2_s]
    refine ⟨S, V, va_up (va_up (wrS S' 5 (tS tx n i)) 32 (nI (m ||| 2 ^ 1))) 27 0, V', L', ?_, ⟨fun _ _ => rfl, fun _ _ => rfl⟩, ⟨(fun k hk => by simp only [va_up]; (repeat rw [if_neg (by omega)])), fun _ _ => rfl⟩, Or.inr (Or.inl ⟨5, rfl, by decide, by decide, rfl, i, hi1, h05, rfl⟩)⟩
    unfold fX12_line_0
    rw [kw, bd1_s]
    simp only [bk_e]
    rw [if_neg (show ¬ (10 : Int32) = 9 by decide), if_pos trivial]
    rw [show fX12_begins_0 S' V' L' 10 = _ from bg2 hb, bd3_s, if_pos rfl, nbad _ _ _ _ _ (show ¬ (va_up (wrS S' 5 (tS tx n i)) 32 (nI (m ||| 2 ^ 1))) 14 = 0 from wr_n (S' := S') (q := tS tx n i) (f := 5) (by decide) (by decide)), bd3_s, lt_e]
    rfl
  | false =>
    obtain ⟨a, b, c, d, e, f, y, g1, g2⟩ := bg1 hb
    have ha2 : AT tx n M (i + 1) (va_up (va_up S 1104 1) 2005 (nI (i + 1))) (gS (va_up S' 32 (nI (m ||| 2 ^ 1))) a b c d e f) (va_up L' 24 y) := ⟨hi, rfl, g2, h14⟩
    rw [f4, hb, if_pos (show bI false = 0 from rfl)]
    simp only [lt_e]
    rw [advC (S := va_up S 1104 1) hc hi h05, bd1_s]
    have hline : ∀ (w w2 : Int32) (S3 S4 : Nat → Int32) (L3 L4 : Nat → Int64), fX12_number_0 (gS (va_up S' 32 (nI (m ||| 2 ^ 1))) a b c d e f) V' (va_up L' 24 y) (nI 0) (nI 30) = some (w, S3, L3) → fX12_number_0 (va_up S3 26 w) V' L3 (nI 1) (nI 99) = some (w2, S4, L4) → fX12_line_0 S' V' L' = K5 (va_up S4 27 w2) V' L4 := fun w w2 S3 S4 L3 L4 hn hn2 => by
      unfold fX12_line_0
      rw [kw, bd1_s]
      simp only [bk_e]
      rw [if_neg (show ¬ (10 : Int32) = 9 by decide), if_pos trivial]
      rw [show fX12_begins_0 S' V' L' 10 = _ from g1, bd3_s, if_neg (show ¬ (1 : Int32) = 0 by decide), show fX12_number_0 (gS (va_up S' 32 (nI (m ||| 2 ^ 1))) a b c d e f) V' (va_up L' 24 y) 0 30 = _ from hn, bd3_s, lt_e, show fX12_number_0 (va_up S3 26 w) V' L3 1 99 = _ from hn2, bd3_s, lt_e]
      rfl
    rcases numbR (lo := 0) (hi := 30) hc ha2 (by decide) (by decide) with ⟨v, a2, b2, c2, d2, e2, f2, y2, v1, v2, v3, n1, n2, n3⟩ | ⟨fl, x, w, w1, w2, n1, n2⟩
    · rw [show fX3_readNumber_11 (va_up (va_up S 1104 1) 2005 (nI (i + 1))) V 0 30 = _ from n1, bd2_s, if_pos rfl]
      have ha3 : AT tx n M (i + 1 + 1) (va_up (va_up (va_up (va_up (va_up S 1104 1) 2005 (nI (i + 1))) 1106 (nI v)) 2005 (nI (i + 1 + 1))) 1201 (nI v)) (va_up (gS (gS (va_up S' 32 (nI (m ||| 2 ^ 1))) a b c d e f) a2 b2 c2 d2 e2 f2) 26 (nI v)) (va_up (va_up L' 24 y) 24 y2) := ⟨by omega, rfl, n3, h14⟩
      rcases numbR (lo := 1) (hi := 99) hc ha3 (by decide) (by decide) with ⟨v', a3, b3, c3, d3, e3, f3', y3, v1', v2', v3', n1', n2', n3'⟩ | ⟨fl, x, w, w1, w2, n1', n2'⟩
      · rw [show fX3_readNumber_11 (va_up (va_up (va_up (va_up (va_up S 1104 1) 2005 (nI (i + 1))) 1106 (nI v)) 2005 (nI (i + 1 + 1))) 1201 ((va_up (va_up (va_up (va_up S 1104 1) 2005 (nI (i + 1))) 1106 (nI v)) 2005 (nI (i + 1 + 1))) 1106)) V 1 99 = _ from n1', bd2_s, bd2_s]
        refine ⟨_, V, _, V', _, hline _ _ _ _ _ _ n2 n2', ⟨(fun k hk => by simp only [va_up]; (repeat rw [if_neg (by omega)])), fun _ _ => rfl⟩, ⟨(fun k hk => by simp only [va_up]; (repeat rw [if_neg (by omega)])), fun _ _ => rfl⟩, Or.inl ⟨rfl, rfl, i + 1 + 1 + 1, va_up (va_up h 1 v) 2 v', t, ru, st, tp, by omega, hc, ⟨by omega, rfl, n3', h14⟩, ⟨m ||| 2 ^ 1, bo1, ?_, ?_, ?_, rfl⟩, ?_⟩⟩
        · rw [bo2 0 (by decide)]; exact f3
        · rw [bo2 1 (by decide)]; rfl
        · rw [bo2 2 (by decide)]; exact f5
        · obtain ⟨d1, d2', d3, d4, d5, d6, d7, d8, d9⟩ := DQ_mono (show i ≤ i + 1 + 1 + 1 by omega) hd
          refine ⟨?_, d2', d3, ?_, d5, ?_, d7, d8, d9⟩
          · obtain ⟨q0, q1, q2, q3, q4, q5, q6⟩ := d1
            exact ⟨q0, v2, ⟨v1', v2'⟩, q3, q4, q5, q6⟩
          · obtain ⟨q0, q1, q2, q3, q4, q5, q6⟩ := d4
            exact ⟨q0, rfl, rfl, q3, q4, q5, q6⟩
          · obtain ⟨q0, q1, q2, q3, q4, q5, q6⟩ := d6
            exact ⟨q0, rfl, rfl, q3, q4, q5, q6⟩
      · rw [show fX3_readNumber_11 (va_up (va_up (va_up (va_up (va_up S 1104 1) 2005 (nI (i + 1))) 1106 (nI v)) 2005 (nI (i + 1 + 1))) 1201 ((va_up (va_up (va_up (va_up S 1104 1) 2005 (nI (i + 1))) 1106 (nI v)) 2005 (nI (i + 1 + 1))) 1106)) V 1 99 = _ from n1', bd2_s, bd2_s]
        exact ⟨_, V, _, V', _, hline _ _ _ _ _ _ n2 n2', ⟨(fun k hk => by simp only [va_up]; (repeat rw [if_neg (by omega)])), fun _ _ => rfl⟩, ⟨(fun k hk => by simp only [va_up]; (repeat rw [if_neg (by omega)])), fun _ _ => rfl⟩, Or.inr (Or.inl ⟨fl, rfl, w1, w2, rfl, i + 1 + 1, by omega, rfl, rfl⟩)⟩
    · rw [show fX3_readNumber_11 (va_up (va_up S 1104 1) 2005 (nI (i + 1))) V 0 30 = _ from n1, bd2_s, if_neg (fun z => by have := (nI_eq0 (n := fl) (by omega)).mp z; omega), bd2_s]
      exact ⟨_, V, _, V', _, hline _ _ _ _ _ _ n2 (nbad _ _ _ _ _ (show ¬ (va_up (wrS (gS (va_up S' 32 (nI (m ||| 2 ^ 1))) a b c d e f) fl (tS tx n (i + 1))) 26 w) 14 = 0 from wr_n (S' := gS (va_up S' 32 (nI (m ||| 2 ^ 1))) a b c d e f) (q := tS tx n (i + 1)) w1 w2)), ⟨(fun k hk => by simp only [va_up]; (repeat rw [if_neg (by omega)])), fun _ _ => rfl⟩, ⟨(fun k hk => by simp only [va_up]; (repeat rw [if_neg (by omega)])), fun _ _ => rfl⟩, Or.inr (Or.inl ⟨fl, rfl, w1, w2, rfl, i + 1, hi, rfl, rfl⟩)⟩
end LN
