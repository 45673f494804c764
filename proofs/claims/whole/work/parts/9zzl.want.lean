/-! ===== a rule: where a part must stand ===== -/
def FX (s0 : Nat) (S0 : Nat → Int32) (V0 : Nat → Nat → Int32) (S : Nat → Int32) (V : Nat → Nat → Int32) : Prop := (∀ k, k ≠ 1213 → k ≠ 2005 → (k < 2503 ∨ 2507 < k) → S k = S0 k) ∧ (∀ q, q ≠ 18 → q ≠ 26 → V q = V0 q) ∧ ∀ j, j < s0 → V 18 j = V0 18 j
def FY (a0 : Nat) (S0 : Nat → Int32) (V0 : Nat → Nat → Int32) (S : Nat → Int32) (V : Nat → Nat → Int32) : Prop := (∀ k, k < 14 ∨ (23 < k ∧ k < 33) ∨ 35 < k → S k = S0 k) ∧ (∀ q, q < 10 ∨ 12 < q → V q = V0 q) ∧ ∀ j, j < a0 → V 10 j = V0 10 j
theorem FX_t {s0 : Nat} {S0 S1 S2 : Nat → Int32} {V0 V1 V2 : Nat → Nat → Int32} (h1 : FX s0 S0 V0 S1 V1) (h2 : FX s0 S1 V1 S2 V2) : FX s0 S0 V0 S2 V2 := ⟨fun k a b c => (h2.1 k a b c).trans (h1.1 k a b c), fun q a b => (h2.2.1 q a b).trans (h1.2.1 q a b), fun j hj => (h2.2.2 j hj).trans (h1.2.2 j hj)⟩
theorem FY_t {a0 : Nat} {S0 S1 S2 : Nat → Int32} {V0 V1 V2 : Nat → Nat → Int32} (h1 : FY a0 S0 V0 S1 V1) (h2 : FY a0 S1 V1 S2 V2) : FY a0 S0 V0 S2 V2 := ⟨fun k a => (h2.1 k a).trans (h1.1 k a), fun q a => (h2.2.1 q a).trans (h1.2.1 q a), fun j hj => (h2.2.2 j hj).trans (h1.2.2 j hj)⟩
def XR (tx : Nat → Nat) (n M s0 a0 : Nat) (S0 : Nat → Int32) (V0 : Nat → Nat → Int32) (R0 : Nat → Int32) (W0 : Nat → Nat → Int32) (i d : Nat) (stk cs : List Nat) (w : Nat) (S : Nat → Int32) (V : Nat → Nat → Int32) (S' : Nat → Int32) (V' : Nat → Nat → Int32) (L' : Nat → Int64) : Prop :=
  CX tx n M V V' ∧ AT tx n M i S S' L' ∧ (S 2503 = nI stk.length ∧ stR (V 26) (stk.map nI)) ∧ (S' 34 = nI stk.length ∧ stR (V' 11) (stk.map (fun x => nI (trO x)))) ∧ (S 2504 = nI d ∧ S' 35 = nI (d + 1) ∧ d ≤ 5) ∧ SK (V' 12) d stk ∧ CCD s0 cs (S 1213) (V 18) ∧ RCD a0 cs (S' 33) (V' 10) ∧ (s0 + cs.length + stk.length + 1 ≤ i ∧ a0 + (cs.flatMap trT).length + stk.length + 1 ≤ 2 * i) ∧ htL cs 0 = some (nbS stk + w) ∧ FX s0 S0 V0 S V ∧ FY a0 R0 W0 S' V' ∧ S' 15 = R0 15
def WNT (f : Nat → Int32) (d : Nat) (stk : List Nat) (c : Nat) : Prop := ∃ seg rest, stk = seg ++ rest ∧ SEG seg ∧ (∀ x, x ∈ seg → bn x < 3 ∨ x = 3) ∧ (seg.filter (fun x => decide (x = 3))).length = c ∧ (∀ (seg2 : List Nat) (g : Nat → Int32), SEG seg2 → (∀ j, j ≤ d → g j = f j) → g (d + 1) = bI (has4 seg2) → SK g d (seg2 ++ rest)) ∧ f (d + 1) = bI (has4 seg)
/-- a fault within a rule -/
def BDX (tx : Nat → Nat) (n M s0 a0 : Nat) (S0 : Nat → Int32) (V0 : Nat → Nat → Int32) (R0 : Nat → Int32) (W0 : Nat → Nat → Int32) (fl : Nat) (S2 : Nat → Int32) (V2 : Nat → Nat → Int32) (S3 : Nat → Int32) (V3 : Nat → Nat → Int32) : Prop := 1 ≤ fl ∧ fl ≤ 5 ∧ S3 14 = nI fl ∧ (∃ i2, i2 ≤ M ∧ S2 2005 = nI i2 ∧ S3 15 = nI (tS tx n i2)) ∧ FX s0 S0 V0 S2 V2 ∧ FY a0 R0 W0 S3 V3 ∧ ∃ tp w, S3 33 = nI tp ∧ S3 34 = nI w ∧ w ≤ 200 ∧ tp + w ≤ 1400
def ePt (S : Nat → Int32) (V : Nat → Nat → Int32) (L : Nat → Int64) : Option ((Nat → Int32) × (Nat → Nat → Int32) × (Nat → Int64)) := bd3 (fX12_part_0 S V L) (fun S90 V91 L92 => some (S90, V91, L92))
def eW (n : Nat) (x46 : Int32) (S47 : Nat → Int32) (V48 : Nat → Nat → Int32) (L49 : Nat → Int64) : Option ((Nat → Int32) × (Nat → Nat → Int32) × (Nat → Int64)) :=
  bd1 (fX12_isGood_0 S47) (fun r50 => if r50 = 0 then fX12_operand_0_L4 ePt n x46 0 S47 V48 L49 else bd1 (fX12_isSign_0 S47 (40 : Int32)) (fun r80 => if r80 = 0 then fX12_operand_0_L4 ePt n x46 0 S47 V48 L49 else bd2 (fX12_waitsFor_0 S47 V48 (14 : Int32)) (fun S65 V66 => bd2 (fX12_goes_0 S65 V66 L49) (fun S68 L69 => bd2 (fX12_deeper_0 S68 V66) (fun S71 V72 => fX12_operand_0_L4 ePt n 1 1 S71 V72 L69)))))
section WT
variable {S : Nat → Int32} {V : Nat → Nat → Int32} {L : Nat → Int64} {n : Nat} {a : Int32}
theorem L4_1 (h : S 14 = 0) : fX12_operand_0_L4 ePt (n + 1) a 1 S V L = fX12_operand_0_L18 (eW n) FU a 0 S V L := by
  rw [fX12_operand_0_L4, if_neg (show ¬ (1 : Int32) = 0 by decide), good_1 h, bd1_s, if_neg (show ¬ (1 : Int32) = 0 by decide), bk_e]
  refine congrArg (fun E => fX12_operand_0_L18 E FU a 0 S V L) ?_
  funext x46 S47 V48 L49
  unfold eW
  simp only [bk_e, e10, ite_true, ite_false]
theorem L4_0 : fX12_operand_0_L4 ePt (n + 1) a 0 S V L = ePt S V L := by
  rw [fX12_operand_0_L4, if_pos rfl]
theorem L4_b (h : ¬ S 14 = 0) : fX12_operand_0_L4 ePt (n + 1) a 1 S V L = ePt S V L := by
  rw [fX12_operand_0_L4, if_neg (show ¬ (1 : Int32) = 0 by decide), good_0 h, bd1_s, if_pos rfl]
theorem ePt_b (h : ¬ S 14 = 0) : ePt S V L = some (S, V, L) := by
  unfold ePt fX12_part_0
  rw [good_0 h, bd1_s, if_pos rfl, bd3_s]
theorem eW_b (h : ¬ S 14 = 0) : eW (n + 1) a S V L = some (S, V, L) := by
  unfold eW
  rw [good_0 h, bd1_s, if_pos rfl, L4_0, ePt_b h]
theorem oper_e : fX12_operand_0 S V L a = fX12_operand_0_L4 ePt FU a 1 S V L := by
  unfold fX12_operand_0
  rw [bk_e]
  refine congrArg (fun E => fX12_operand_0_L4 E FU a 1 S V L) ?_
  funext S87 V88 L89
  unfold ePt
  exact Eq.refl _
theorem w19 {E : (Nat → Int32) → (Nat → Nat → Int32) → Option (Int32 × (Nat → Int32) × (Nat → Nat → Int32))} {f c : Nat} (hc : c ≤ 600) (h5 : S 2505 = 1) : fX9_read_25_L19 E (f + 1) 0 (nI c) S V = bd3 (fX9_readPart_25 S V) (fun r S2 V2 => fX9_read_25_L19 E f r (nI (c + 1)) S2 V2) := by
  rw [fX9_read_25_L19, if_neg (show ¬ 600 < nI c from nI_nlt (a := 600) (b := c) hc (by decide)), if_pos rfl, h5]
  simp only [bk_e]
  rw [if_neg (show ¬ (1 : Int32) = 0 by decide)]
  simp only [lt_e, nI_1]
theorem w19f {E : (Nat → Int32) → (Nat → Nat → Int32) → Option (Int32 × (Nat → Int32) × (Nat → Nat → Int32))} {f fl : Nat} {x : Int32} (h1 : 1 ≤ fl) (h2 : fl ≤ 5) : fX9_read_25_L19 E (f + 1) (nI fl) x S V = some (nI fl, S, V) := by
  rw [fX9_read_25_L19, if_neg (show ¬ nI fl = 0 from fun z => by have := (nI_eq0 (n := fl) (by omega)).mp z; omega)]
  split <;> rfl
end WT
section WP
variable {tx : Nat → Nat} {n M s0 a0 : Nat} {S0 : Nat → Int32} {V0 : Nat → Nat → Int32} {R0 : Nat → Int32} {W0 : Nat → Nat → Int32} {i d : Nat} {stk cs : List Nat} {w : Nat} {S : Nat → Int32} {V : Nat → Nat → Int32} {S' : Nat → Int32} {V' : Nat → Nat → Int32} {L' : Nat → Int64}
/-- a fault here and now -/
theorem BDX_now (hx : XR tx n M s0 a0 S0 V0 R0 W0 i d stk cs w S V S' V' L') {fl : Nat} (h1 : 1 ≤ fl) (h2 : fl ≤ 5) : BDX tx n M s0 a0 S0 V0 R0 W0 fl S V (wrS S' fl (tS tx n i)) V' := by
  obtain ⟨hc, ha, hC, hR, hd, hk, c1, r1, ⟨b1, b2⟩, ht, fx, fy⟩ := hx
  have hM := M600 hc
  have hiM := ha.1
  have skb := SK_b d stk hk
  refine ⟨h1, h2, rfl, ⟨i, ha.1, ha.2.1, rfl⟩, fx, FY_t fy.1 ⟨(fun k hk => by simp only [va_up]; (repeat rw [if_neg (by omega)])), fun _ _ => rfl, fun _ _ => rfl⟩, a0 + (cs.flatMap trT).length, stk.length, r1.1, hR.1, by omega, by omega⟩
end WP
