/-! ===== a rule: the reference's operators ===== -/
def kX (S : Nat → Int32) (V : Nat → Nat → Int32) (L : Nat → Int64) : Option ((Nat → Int32) × (Nat → Nat → Int32) × (Nat → Int64)) := bd2 (fX12_drops_0 S V (0 : Int32)) (fun S204 V205 => bd2 (fX12_puts_0 S204 V205 (0 : Int32)) (fun S207 V208 => some (S207, V208, L)))
def eX (S : Nat → Int32) (V : Nat → Nat → Int32) (L : Nat → Int64) : Option ((Nat → Int32) × (Nat → Nat → Int32) × (Nat → Int64)) := bd1 (fX12_isGood_0 S) (fun r198 => if r198 = 0 then kX S V L else if S 35 ≤ 1 then kX S V L else bd1 (fX12_wrong_0 S 1) (fun S212 => kX S212 V L))
theorem km_15 : ∀ k, k ≤ 118 → ((kmI k = 15) ↔ k = 111) := by decide +kernel
theorem km_16 : ∀ k, k ≤ 118 → ((kmI k = 16) ↔ k = 110) := by decide +kernel
section RX
variable {tx : Nat → Nat} {n M s0 a0 : Nat} {S0 : Nat → Int32} {V0 : Nat → Nat → Int32} {R0 : Nat → Int32} {W0 : Nat → Nat → Int32} {i d m : Nat} {stk cs : List Nat} {w : Nat} {S : Nat → Int32} {V : Nat → Nat → Int32} {S' : Nat → Int32} {V' : Nat → Nat → Int32} {L' : Nat → Int64}
theorem expr_e (h : S' 14 = 0) : fX12_expression_0 S' V' L' = bd2 (fX12_deeper_0 (va_up (va_up S' 34 0) 35 0) V') (fun S6 V7 => bd3 (fX12_operand_0 S6 V7 L' 1) (fun S9 V10 L11 => fX12_expression_0_L29 eX FU 1 S9 V10 L11)) := by
  unfold fX12_expression_0
  rw [good_1 h, bd1_s, if_neg (show ¬ (1 : Int32) = 0 by decide), lt_e, lt_e]
  refine congrArg (bd2 _) ?_
  funext S6 V7
  refine congrArg (bd3 _) ?_
  funext S9 V10 L11
  rw [bk_e]
  refine congrArg (fun E => fX12_expression_0_L29 E FU 1 S9 V10 L11) ?_
  funext S195 V196 L197
  unfold eX kX
  simp only [bk_e]
theorem L29_b (h : ¬ S' 14 = 0) : fX12_expression_0_L29 eX (m + 1) 1 S' V' L' = eX S' V' L' := by
  rw [fX12_expression_0_L29, if_neg (show ¬ (1 : Int32) = 0 by decide), good_0 h, bd1_s, if_pos rfl]
theorem L29_0 : fX12_expression_0_L29 eX (m + 1) 0 S' V' L' = eX S' V' L' := by
  rw [fX12_expression_0_L29, if_pos rfl]
theorem nb0 : vp_nar .boolean (0 : Int32) = 0 := by decide
theorem nb1 : vp_nar .boolean (1 : Int32) = 1 := by decide
theorem L29_And {S41 S50 S56 : Nat → Int32} {V42 V51 : Nat → Nat → Int32} {L57 : Nat → Int64} (hc : CX tx n M V V') (h14 : S' 14 = 0) (hr : RN tx n S' L' (tS tx n i)) (hk : kdA tx n (tS tx n i) = 111) (hd5 : d ≤ 5) (h1 : fX12_drops_0 S' V' 2 = some (S41, V42)) (h2 : fX12_waitsFor_0 S41 V42 4 = some (S50, V51)) (h35 : S50 35 = nI (d + 1)) (h3 : fX12_goes_0 S50 (va_up V51 12 (upd (V51 12) (d + 1) 0)) L' = some (S56, L57)) : fX12_expression_0_L29 eX (m + 1) 1 S' V' L' = bd3 (fX12_operand_0 S56 (va_up V51 12 (upd (V51 12) (d + 1) 0)) L57 1) (fun S59 V60 L61 => fX12_expression_0_L29 eX m 1 S59 V60 L61) := by
  have kn : fX12_knownWord_0 S' L' = some 15 := (knR hc.2.1 hc.1 hr).trans (by rw [hk]; rfl)
  have n1 : ((16 : Int32) = 15) = False := eq_false (by decide)
  rw [fX12_expression_0_L29, if_neg (show ¬ (1 : Int32) = 0 by decide), good_1 h14, bd1_s, if_neg (show ¬ (1 : Int32) = 0 by decide), kn, bd1_s]
  simp only [bk_e, lt_e, n1, ite_true, ite_false]
  rw [h1, bd2_s, h2, bd2_s, h35, gd_n (d + 1) 9 (by omega) (by decide), nI_cl (d + 1) (by omega), nb0, h3, bd2_s]
theorem L29_Or {S41 S50 S56 : Nat → Int32} {V42 V51 : Nat → Nat → Int32} {L57 : Nat → Int64} (hc : CX tx n M V V') (h14 : S' 14 = 0) (hr : RN tx n S' L' (tS tx n i)) (hk : kdA tx n (tS tx n i) = 110) (hd5 : d ≤ 5) (h1 : fX12_drops_0 S' V' 1 = some (S41, V42)) (h2 : fX12_waitsFor_0 S41 V42 5 = some (S50, V51)) (h35 : S50 35 = nI (d + 1)) (h3 : fX12_goes_0 S50 (va_up V51 12 (upd (V51 12) (d + 1) 0)) L' = some (S56, L57)) : fX12_expression_0_L29 eX (m + 1) 1 S' V' L' = bd3 (fX12_operand_0 S56 (va_up V51 12 (upd (V51 12) (d + 1) 0)) L57 1) (fun S59 V60 L61 => fX12_expression_0_L29 eX m 1 S59 V60 L61) := by
  have kn : fX12_knownWord_0 S' L' = some 16 := (knR hc.2.1 hc.1 hr).trans (by rw [hk]; rfl)
  have n1 : ((16 : Int32) = 15) = False := eq_false (by decide)
  rw [fX12_expression_0_L29, if_neg (show ¬ (1 : Int32) = 0 by decide), good_1 h14, bd1_s, if_neg (show ¬ (1 : Int32) = 0 by decide), kn, bd1_s]
  simp only [bk_e, lt_e, n1, ite_true, ite_false]
  rw [h1, bd2_s, h2, bd2_s, h35, gd_n (d + 1) 9 (by omega) (by decide), nI_cl (d + 1) (by omega), nb0, h3, bd2_s]
theorem L29_Less {S41 S50 S56 : Nat → Int32} {V42 V51 : Nat → Nat → Int32} {L57 : Nat → Int64} (hc : CX tx n M V V') (h14 : S' 14 = 0) (hr : RN tx n S' L' (tS tx n i)) (hk : kdA tx n (tS tx n i) = 60) (hd5 : d ≤ 5) (h0 : S' 35 = nI (d + 1)) (h12 : V' 12 (d + 1) = 0) (h1 : fX12_drops_0 S' V' 4 = some (S41, V42)) (hr1 : RN tx n S41 L' (tS tx n i)) (h2 : fX12_waitsFor_0 S41 V42 6 = some (S50, V51)) (h35 : S50 35 = nI (d + 1)) (h3 : fX12_goes_0 S50 (va_up V51 12 (upd (V51 12) (d + 1) 1)) L' = some (S56, L57)) : fX12_expression_0_L29 eX (m + 1) 1 S' V' L' = bd3 (fX12_operand_0 S56 (va_up V51 12 (upd (V51 12) (d + 1) 1)) L57 0) (fun S59 V60 L61 => fX12_expression_0_L29 eX m 1 S59 V60 L61) := by
  have kn : fX12_knownWord_0 S' L' = some (-1) := (knR hc.2.1 hc.1 hr).trans (by rw [hk]; rfl)
  have n1 : ((-1 : Int32) = 15) = False := eq_false (by decide)
  have n2 : ((-1 : Int32) = 16) = False := eq_false (by decide)
  have s60 : fX12_isSign_0 S' 60 = some 1 := (show fX12_isSign_0 S' 60 = _ from sgnR hc.2.1 hr (c := 60) (by decide) (by decide)).trans (by rw [hk]; rfl)
  have s61 : fX12_isSign_0 S' 61 = some 0 := (show fX12_isSign_0 S' 61 = _ from sgnR hc.2.1 hr (c := 61) (by decide) (by decide)).trans (by rw [hk]; rfl)
  have s43 : fX12_isSign_0 S' 43 = some 0 := (show fX12_isSign_0 S' 43 = _ from sgnR hc.2.1 hr (c := 43) (by decide) (by decide)).trans (by rw [hk]; rfl)
  have s45 : fX12_isSign_0 S' 45 = some 0 := (show fX12_isSign_0 S' 45 = _ from sgnR hc.2.1 hr (c := 45) (by decide) (by decide)).trans (by rw [hk]; rfl)
  have s42 : fX12_isSign_0 S' 42 = some 0 := (show fX12_isSign_0 S' 42 = _ from sgnR hc.2.1 hr (c := 42) (by decide) (by decide)).trans (by rw [hk]; rfl)
  have s47 : fX12_isSign_0 S' 47 = some 0 := (show fX12_isSign_0 S' 47 = _ from sgnR hc.2.1 hr (c := 47) (by decide) (by decide)).trans (by rw [hk]; rfl)
  have s41 : fX12_isSign_0 S' 41 = some 0 := (show fX12_isSign_0 S' 41 = _ from sgnR hc.2.1 hr (c := 41) (by decide) (by decide)).trans (by rw [hk]; rfl)
  have u60 : fX12_isSign_0 S41 60 = some 1 := (show fX12_isSign_0 S41 60 = _ from sgnR hc.2.1 hr1 (c := 60) (by decide) (by decide)).trans (by rw [hk]; rfl)
  have u61 : fX12_isSign_0 S41 61 = some 0 := (show fX12_isSign_0 S41 61 = _ from sgnR hc.2.1 hr1 (c := 61) (by decide) (by decide)).trans (by rw [hk]; rfl)
  have u43 : fX12_isSign_0 S41 43 = some 0 := (show fX12_isSign_0 S41 43 = _ from sgnR hc.2.1 hr1 (c := 43) (by decide) (by decide)).trans (by rw [hk]; rfl)
  have u45 : fX12_isSign_0 S41 45 = some 0 := (show fX12_isSign_0 S41 45 = _ from sgnR hc.2.1 hr1 (c := 45) (by decide) (by decide)).trans (by rw [hk]; rfl)
  have u42 : fX12_isSign_0 S41 42 = some 0 := (show fX12_isSign_0 S41 42 = _ from sgnR hc.2.1 hr1 (c := 42) (by decide) (by decide)).trans (by rw [hk]; rfl)
  have u47 : fX12_isSign_0 S41 47 = some 0 := (show fX12_isSign_0 S41 47 = _ from sgnR hc.2.1 hr1 (c := 47) (by decide) (by decide)).trans (by rw [hk]; rfl)
  have u41 : fX12_isSign_0 S41 41 = some 0 := (show fX12_isSign_0 S41 41 = _ from sgnR hc.2.1 hr1 (c := 41) (by decide) (by decide)).trans (by rw [hk]; rfl)
  rw [fX12_expression_0_L29, if_neg (show ¬ (1 : Int32) = 0 by decide), good_1 h14, bd1_s, if_neg (show ¬ (1 : Int32) = 0 by decide), kn, bd1_s]
  simp only [bk_e, lt_e, n1, n2, ite_true, ite_false, s60, s61, bd1_s, e10]
  rw [h0, gd_n (d + 1) 9 (by omega) (by decide), nI_cl (d + 1) (by omega), if_pos h12, h1, bd2_s, u60, bd1_s]
  simp only [e10, ite_true, ite_false]
  rw [h2, bd2_s, h35, gd_n (d + 1) 9 (by omega) (by decide), nI_cl (d + 1) (by omega), nb1, h3, bd2_s]
theorem L29_Same {S41 S50 S56 : Nat → Int32} {V42 V51 : Nat → Nat → Int32} {L57 : Nat → Int64} (hc : CX tx n M V V') (h14 : S' 14 = 0) (hr : RN tx n S' L' (tS tx n i)) (hk : kdA tx n (tS tx n i) = 61) (hd5 : d ≤ 5) (h0 : S' 35 = nI (d + 1)) (h12 : V' 12 (d + 1) = 0) (h1 : fX12_drops_0 S' V' 4 = some (S41, V42)) (hr1 : RN tx n S41 L' (tS tx n i)) (h2 : fX12_waitsFor_0 S41 V42 7 = some (S50, V51)) (h35 : S50 35 = nI (d + 1)) (h3 : fX12_goes_0 S50 (va_up V51 12 (upd (V51 12) (d + 1) 1)) L' = some (S56, L57)) : fX12_expression_0_L29 eX (m + 1) 1 S' V' L' = bd3 (fX12_operand_0 S56 (va_up V51 12 (upd (V51 12) (d + 1) 1)) L57 0) (fun S59 V60 L61 => fX12_expression_0_L29 eX m 1 S59 V60 L61) := by
  have kn : fX12_knownWord_0 S' L' = some (-1) := (knR hc.2.1 hc.1 hr).trans (by rw [hk]; rfl)
  have n1 : ((-1 : Int32) = 15) = False := eq_false (by decide)
  have n2 : ((-1 : Int32) = 16) = False := eq_false (by decide)
  have s60 : fX12_isSign_0 S' 60 = some 0 := (show fX12_isSign_0 S' 60 = _ from sgnR hc.2.1 hr (c := 60) (by decide) (by decide)).trans (by rw [hk]; rfl)
  have s61 : fX12_isSign_0 S' 61 = some 1 := (show fX12_isSign_0 S' 61 = _ from sgnR hc.2.1 hr (c := 61) (by decide) (by decide)).trans (by rw [hk]; rfl)
  have s43 : fX12_isSign_0 S' 43 = some 0 := (show fX12_isSign_0 S' 43 = _ from sgnR hc.2.1 hr (c := 43) (by decide) (by decide)).trans (by rw [hk]; rfl)
  have s45 : fX12_isSign_0 S' 45 = some 0 := (show fX12_isSign_0 S' 45 = _ from sgnR hc.2.1 hr (c := 45) (by decide) (by decide)).trans (by rw [hk]; rfl)
  have s42 : fX12_isSign_0 S' 42 = some 0 := (show fX12_isSign_0 S' 42 = _ from sgnR hc.2.1 hr (c := 42) (by decide) (by decide)).trans (by rw [hk]; rfl)
  have s47 : fX12_isSign_0 S' 47 = some 0 := (show fX12_isSign_0 S' 47 = _ from sgnR hc.2.1 hr (c := 47) (by decide) (by decide)).trans (by rw [hk]; rfl)
  have s41 : fX12_isSign_0 S' 41 = some 0 := (show fX12_isSign_0 S' 41 = _ from sgnR hc.2.1 hr (c := 41) (by decide) (by decide)).trans (by rw [hk]; rfl)
  have u60 : fX12_isSign_0 S41 60 = some 0 := (show fX12_isSign_0 S41 60 = _ from sgnR hc.2.1 hr1 (c := 60) (by decide) (by decide)).trans (by rw [hk]; rfl)
  have u61 : fX12_isSign_0 S41 61 = some 1 := (show fX12_isSign_0 S41 61 = _ from sgnR hc.2.1 hr1 (c := 61) (by decide) (by decide)).trans (by rw [hk]; rfl)
  have u43 : fX12_isSign_0 S41 43 = some 0 := (show fX12_isSign_0 S41 43 = _ from sgnR hc.2.1 hr1 (c := 43) (by decide) (by decide)).trans (by rw [hk]; rfl)
  have u45 : fX12_isSign_0 S41 45 = some 0 := (show fX12_isSign_0 S41 45 = _ from sgnR hc.2.1 hr1 (c := 45) (by decide) (by decide)).trans (by rw [hk]; rfl)
  have u42 : fX12_isSign_0 S41 42 = some 0 := (show fX12_isSign_0 S41 42 = _ from sgnR hc.2.1 hr1 (c := 42) (by decide) (by decide)).trans (by rw [hk]; rfl)
  have u47 : fX12_isSign_0 S41 47 = some 0 := (show fX12_isSign_0 S41 47 = _ from sgnR hc.2.1 hr1 (c := 47) (by decide) (by decide)).trans (by rw [hk]; rfl)
  have u41 : fX12_isSign_0 S41 41 = some 0 := (show fX12_isSign_0 S41 41 = _ from sgnR hc.2.1 hr1 (c := 41) (by decide) (by decide)).trans (by rw [hk]; rfl)
  rw [fX12_expression_0_L29, if_neg (show ¬ (1 : Int32) = 0 by decide), good_1 h14, bd1_s, if_neg (show ¬ (1 : Int32) = 0 by decide), kn, bd1_s]
  simp only [bk_e, lt_e, n1, n2, ite_true, ite_false, s60, s61, bd1_s, e10]
  rw [h0, gd_n (d + 1) 9 (by omega) (by decide), nI_cl (d + 1) (by omega), if_pos h12, h1, bd2_s, u60, bd1_s]
  simp only [e10, ite_true, ite_false]
  rw [h2, bd2_s, h35, gd_n (d + 1) 9 (by omega) (by decide), nI_cl (d + 1) (by omega), nb1, h3, bd2_s]
theorem L29_Plus {S41 S50 S56 : Nat → Int32} {V42 V51 : Nat → Nat → Int32} {L57 : Nat → Int64} (hc : CX tx n M V V') (h14 : S' 14 = 0) (hr : RN tx n S' L' (tS tx n i)) (hk : kdA tx n (tS tx n i) = 43) (h1 : fX12_drops_0 S' V' 5 = some (S41, V42)) (hr1 : RN tx n S41 L' (tS tx n i)) (h2 : fX12_waitsFor_0 S41 V42 8 = some (S50, V51)) (h3 : fX12_goes_0 S50 V51 L' = some (S56, L57)) : fX12_expression_0_L29 eX (m + 1) 1 S' V' L' = bd3 (fX12_operand_0 S56 V51 L57 0) (fun S59 V60 L61 => fX12_expression_0_L29 eX m 1 S59 V60 L61) := by
  have kn : fX12_knownWord_0 S' L' = some (-1) := (knR hc.2.1 hc.1 hr).trans (by rw [hk]; rfl)
  have n1 : ((-1 : Int32) = 15) = False := eq_false (by decide)
  have n2 : ((-1 : Int32) = 16) = False := eq_false (by decide)
  have s60 : fX12_isSign_0 S' 60 = some 0 := (show fX12_isSign_0 S' 60 = _ from sgnR hc.2.1 hr (c := 60) (by decide) (by decide)).trans (by rw [hk]; rfl)
  have s61 : fX12_isSign_0 S' 61 = some 0 := (show fX12_isSign_0 S' 61 = _ from sgnR hc.2.1 hr (c := 61) (by decide) (by decide)).trans (by rw [hk]; rfl)
  have s43 : fX12_isSign_0 S' 43 = some 1 := (show fX12_isSign_0 S' 43 = _ from sgnR hc.2.1 hr (c := 43) (by decide) (by decide)).trans (by rw [hk]; rfl)
  have s45 : fX12_isSign_0 S' 45 = some 0 := (show fX12_isSign_0 S' 45 = _ from sgnR hc.2.1 hr (c := 45) (by decide) (by decide)).trans (by rw [hk]; rfl)
  have s42 : fX12_isSign_0 S' 42 = some 0 := (show fX12_isSign_0 S' 42 = _ from sgnR hc.2.1 hr (c := 42) (by decide) (by decide)).trans (by rw [hk]; rfl)
  have s47 : fX12_isSign_0 S' 47 = some 0 := (show fX12_isSign_0 S' 47 = _ from sgnR hc.2.1 hr (c := 47) (by decide) (by decide)).trans (by rw [hk]; rfl)
  have s41 : fX12_isSign_0 S' 41 = some 0 := (show fX12_isSign_0 S' 41 = _ from sgnR hc.2.1 hr (c := 41) (by decide) (by decide)).trans (by rw [hk]; rfl)
  have u60 : fX12_isSign_0 S41 60 = some 0 := (show fX12_isSign_0 S41 60 = _ from sgnR hc.2.1 hr1 (c := 60) (by decide) (by decide)).trans (by rw [hk]; rfl)
  have u61 : fX12_isSign_0 S41 61 = some 0 := (show fX12_isSign_0 S41 61 = _ from sgnR hc.2.1 hr1 (c := 61) (by decide) (by decide)).trans (by rw [hk]; rfl)
  have u43 : fX12_isSign_0 S41 43 = some 1 := (show fX12_isSign_0 S41 43 = _ from sgnR hc.2.1 hr1 (c := 43) (by decide) (by decide)).trans (by rw [hk]; rfl)
  have u45 : fX12_isSign_0 S41 45 = some 0 := (show fX12_isSign_0 S41 45 = _ from sgnR hc.2.1 hr1 (c := 45) (by decide) (by decide)).trans (by rw [hk]; rfl)
  have u42 : fX12_isSign_0 S41 42 = some 0 := (show fX12_isSign_0 S41 42 = _ from sgnR hc.2.1 hr1 (c := 42) (by decide) (by decide)).trans (by rw [hk]; rfl)
  have u47 : fX12_isSign_0 S41 47 = some 0 := (show fX12_isSign_0 S41 47 = _ from sgnR hc.2.1 hr1 (c := 47) (by decide) (by decide)).trans (by rw [hk]; rfl)
  have u41 : fX12_isSign_0 S41 41 = some 0 := (show fX12_isSign_0 S41 41 = _ from sgnR hc.2.1 hr1 (c := 41) (by decide) (by decide)).trans (by rw [hk]; rfl)
  rw [fX12_expression_0_L29, if_neg (show ¬ (1 : Int32) = 0 by decide), good_1 h14, bd1_s, if_neg (show ¬ (1 : Int32) = 0 by decide), kn, bd1_s]
  simp only [bk_e, lt_e, n1, n2, ite_true, ite_false, s60, s61, s43, s45, s42, s47, bd1_s, e10]
  rw [h1, bd2_s, u43, bd1_s]
  simp only [e10, ite_true, ite_false]
  rw [h2, bd2_s, h3, bd2_s]
theorem L29_Minus {S41 S50 S56 : Nat → Int32} {V42 V51 : Nat → Nat → Int32} {L57 : Nat → Int64} (hc : CX tx n M V V') (h14 : S' 14 = 0) (hr : RN tx n S' L' (tS tx n i)) (hk : kdA tx n (tS tx n i) = 45) (h1 : fX12_drops_0 S' V' 5 = some (S41, V42)) (hr1 : RN tx n S41 L' (tS tx n i)) (h2 : fX12_waitsFor_0 S41 V42 9 = some (S50, V51)) (h3 : fX12_goes_0 S50 V51 L' = some (S56, L57)) : fX12_expression_0_L29 eX (m + 1) 1 S' V' L' = bd3 (fX12_operand_0 S56 V51 L57 0) (fun S59 V60 L61 => fX12_expression_0_L29 eX m 1 S59 V60 L61) := by
  have kn : fX12_knownWord_0 S' L' = some (-1) := (knR hc.2.1 hc.1 hr).trans (by rw [hk]; rfl)
  have n1 : ((-1 : Int32) = 15) = False := eq_false (by decide)
  have n2 : ((-1 : Int32) = 16) = False := eq_false (by decide)
  have s60 : fX12_isSign_0 S' 60 = some 0 := (show fX12_isSign_0 S' 60 = _ from sgnR hc.2.1 hr (c := 60) (by decide) (by decide)).trans (by rw [hk]; rfl)
  have s61 : fX12_isSign_0 S' 61 = some 0 := (show fX12_isSign_0 S' 61 = _ from sgnR hc.2.1 hr (c := 61) (by decide) (by decide)).trans (by rw [hk]; rfl)
  have s43 : fX12_isSign_0 S' 43 = some 0 := (show fX12_isSign_0 S' 43 = _ from sgnR hc.2.1 hr (c := 43) (by decide) (by decide)).trans (by rw [hk]; rfl)
  have s45 : fX12_isSign_0 S' 45 = some 1 := (show fX12_isSign_0 S' 45 = _ from sgnR hc.2.1 hr (c := 45) (by decide) (by decide)).trans (by rw [hk]; rfl)
  have s42 : fX12_isSign_0 S' 42 = some 0 := (show fX12_isSign_0 S' 42 = _ from sgnR hc.2.1 hr (c := 42) (by decide) (by decide)).trans (by rw [hk]; rfl)
  have s47 : fX12_isSign_0 S' 47 = some 0 := (show fX12_isSign_0 S' 47 = _ from sgnR hc.2.1 hr (c := 47) (by decide) (by decide)).trans (by rw [hk]; rfl)
  have s41 : fX12_isSign_0 S' 41 = some 0 := (show fX12_isSign_0 S' 41 = _ from sgnR hc.2.1 hr (c := 41) (by decide) (by decide)).trans (by rw [hk]; rfl)
  have u60 : fX12_isSign_0 S41 60 = some 0 := (show fX12_isSign_0 S41 60 = _ from sgnR hc.2.1 hr1 (c := 60) (by decide) (by decide)).trans (by rw [hk]; rfl)
  have u61 : fX12_isSign_0 S41 61 = some 0 := (show fX12_isSign_0 S41 61 = _ from sgnR hc.2.1 hr1 (c := 61) (by decide) (by decide)).trans (by rw [hk]; rfl)
  have u43 : fX12_isSign_0 S41 43 = some 0 := (show fX12_isSign_0 S41 43 = _ from sgnR hc.2.1 hr1 (c := 43) (by decide) (by decide)).trans (by rw [hk]; rfl)
  have u45 : fX12_isSign_0 S41 45 = some 1 := (show fX12_isSign_0 S41 45 = _ from sgnR hc.2.1 hr1 (c := 45) (by decide) (by decide)).trans (by rw [hk]; rfl)
  have u42 : fX12_isSign_0 S41 42 = some 0 := (show fX12_isSign_0 S41 42 = _ from sgnR hc.2.1 hr1 (c := 42) (by decide) (by decide)).trans (by rw [hk]; rfl)
  have u47 : fX12_isSign_0 S41 47 = some 0 := (show fX12_isSign_0 S41 47 = _ from sgnR hc.2.1 hr1 (c := 47) (by decide) (by decide)).trans (by rw [hk]; rfl)
  have u41 : fX12_isSign_0 S41 41 = some 0 := (show fX12_isSign_0 S41 41 = _ from sgnR hc.2.1 hr1 (c := 41) (by decide) (by decide)).trans (by rw [hk]; rfl)
  rw [fX12_expression_0_L29, if_neg (show ¬ (1 : Int32) = 0 by decide), good_1 h14, bd1_s, if_neg (show ¬ (1 : Int32) = 0 by decide), kn, bd1_s]
  simp only [bk_e, lt_e, n1, n2, ite_true, ite_false, s60, s61, s43, s45, s42, s47, bd1_s, e10]
  rw [h1, bd2_s, u43, bd1_s]
  simp only [e10, ite_true, ite_false]
  rw [h2, bd2_s, h3, bd2_s]
theorem L29_Times {S41 S50 S56 : Nat → Int32} {V42 V51 : Nat → Nat → Int32} {L57 : Nat → Int64} (hc : CX tx n M V V') (h14 : S' 14 = 0) (hr : RN tx n S' L' (tS tx n i)) (hk : kdA tx n (tS tx n i) = 42) (h1 : fX12_drops_0 S' V' 6 = some (S41, V42)) (hr1 : RN tx n S41 L' (tS tx n i)) (h2 : fX12_waitsFor_0 S41 V42 10 = some (S50, V51)) (h3 : fX12_goes_0 S50 V51 L' = some (S56, L57)) : fX12_expression_0_L29 eX (m + 1) 1 S' V' L' = bd3 (fX12_operand_0 S56 V51 L57 0) (fun S59 V60 L61 => fX12_expression_0_L29 eX m 1 S59 V60 L61) := by
  have kn : fX12_knownWord_0 S' L' = some (-1) := (knR hc.2.1 hc.1 hr).trans (by rw [hk]; rfl)
  have n1 : ((-1 : Int32) = 15) = False := eq_false (by decide)
  have n2 : ((-1 : Int32) = 16) = False := eq_false (by decide)
  have s60 : fX12_isSign_0 S' 60 = some 0 := (show fX12_isSign_0 S' 60 = _ from sgnR hc.2.1 hr (c := 60) (by decide) (by decide)).trans (by rw [hk]; rfl)
  have s61 : fX12_isSign_0 S' 61 = some 0 := (show fX12_isSign_0 S' 61 = _ from sgnR hc.2.1 hr (c := 61) (by decide) (by decide)).trans (by rw [hk]; rfl)
  have s43 : fX12_isSign_0 S' 43 = some 0 := (show fX12_isSign_0 S' 43 = _ from sgnR hc.2.1 hr (c := 43) (by decide) (by decide)).trans (by rw [hk]; rfl)
  have s45 : fX12_isSign_0 S' 45 = some 0 := (show fX12_isSign_0 S' 45 = _ from sgnR hc.2.1 hr (c := 45) (by decide) (by decide)).trans (by rw [hk]; rfl)
  have s42 : fX12_isSign_0 S' 42 = some 1 := (show fX12_isSign_0 S' 42 = _ from sgnR hc.2.1 hr (c := 42) (by decide) (by decide)).trans (by rw [hk]; rfl)
  have s47 : fX12_isSign_0 S' 47 = some 0 := (show fX12_isSign_0 S' 47 = _ from sgnR hc.2.1 hr (c := 47) (by decide) (by decide)).trans (by rw [hk]; rfl)
  have s41 : fX12_isSign_0 S' 41 = some 0 := (show fX12_isSign_0 S' 41 = _ from sgnR hc.2.1 hr (c := 41) (by decide) (by decide)).trans (by rw [hk]; rfl)
  have u60 : fX12_isSign_0 S41 60 = some 0 := (show fX12_isSign_0 S41 60 = _ from sgnR hc.2.1 hr1 (c := 60) (by decide) (by decide)).trans (by rw [hk]; rfl)
  have u61 : fX12_isSign_0 S41 61 = some 0 := (show fX12_isSign_0 S41 61 = _ from sgnR hc.2.1 hr1 (c := 61) (by decide) (by decide)).trans (by rw [hk]; rfl)
  have u43 : fX12_isSign_0 S41 43 = some 0 := (show fX12_isSign_0 S41 43 = _ from sgnR hc.2.1 hr1 (c := 43) (by decide) (by decide)).trans (by rw [hk]; rfl)
  have u45 : fX12_isSign_0 S41 45 = some 0 := (show fX12_isSign_0 S41 45 = _ from sgnR hc.2.1 hr1 (c := 45) (by decide) (by decide)).trans (by rw [hk]; rfl)
  have u42 : fX12_isSign_0 S41 42 = some 1 := (show fX12_isSign_0 S41 42 = _ from sgnR hc.2.1 hr1 (c := 42) (by decide) (by decide)).trans (by rw [hk]; rfl)
  have u47 : fX12_isSign_0 S41 47 = some 0 := (show fX12_isSign_0 S41 47 = _ from sgnR hc.2.1 hr1 (c := 47) (by decide) (by decide)).trans (by rw [hk]; rfl)
  have u41 : fX12_isSign_0 S41 41 = some 0 := (show fX12_isSign_0 S41 41 = _ from sgnR hc.2.1 hr1 (c := 41) (by decide) (by decide)).trans (by rw [hk]; rfl)
  rw [fX12_expression_0_L29, if_neg (show ¬ (1 : Int32) = 0 by decide), good_1 h14, bd1_s, if_neg (show ¬ (1 : Int32) = 0 by decide), kn, bd1_s]
  simp only [bk_e, lt_e, n1, n2, ite_true, ite_false, s60, s61, s43, s45, s42, s47, bd1_s, e10]
  rw [h1, bd2_s, u42, bd1_s]
  simp only [e10, ite_true, ite_false]
  rw [h2, bd2_s, h3, bd2_s]
theorem L29_Over {S41 S50 S56 : Nat → Int32} {V42 V51 : Nat → Nat → Int32} {L57 : Nat → Int64} (hc : CX tx n M V V') (h14 : S' 14 = 0) (hr : RN tx n S' L' (tS tx n i)) (hk : kdA tx n (tS tx n i) = 47) (h1 : fX12_drops_0 S' V' 6 = some (S41, V42)) (hr1 : RN tx n S41 L' (tS tx n i)) (h2 : fX12_waitsFor_0 S41 V42 11 = some (S50, V51)) (h3 : fX12_goes_0 S50 V51 L' = some (S56, L57)) : fX12_expression_0_L29 eX (m + 1) 1 S' V' L' = bd3 (fX12_operand_0 S56 V51 L57 0) (fun S59 V60 L61 => fX12_expression_0_L29 eX m 1 S59 V60 L61) := by
  have kn : fX12_knownWord_0 S' L' = some (-1) := (knR hc.2.1 hc.1 hr).trans (by rw [hk]; rfl)
  have n1 : ((-1 : Int32) = 15) = False := eq_false (by decide)
  have n2 : ((-1 : Int32) = 16) = False := eq_false (by decide)
  have s60 : fX12_isSign_0 S' 60 = some 0 := (show fX12_isSign_0 S' 60 = _ from sgnR hc.2.1 hr (c := 60) (by decide) (by decide)).trans (by rw [hk]; rfl)
  have s61 : fX12_isSign_0 S' 61 = some 0 := (show fX12_isSign_0 S' 61 = _ from sgnR hc.2.1 hr (c := 61) (by decide) (by decide)).trans (by rw [hk]; rfl)
  have s43 : fX12_isSign_0 S' 43 = some 0 := (show fX12_isSign_0 S' 43 = _ from sgnR hc.2.1 hr (c := 43) (by decide) (by decide)).trans (by rw [hk]; rfl)
  have s45 : fX12_isSign_0 S' 45 = some 0 := (show fX12_isSign_0 S' 45 = _ from sgnR hc.2.1 hr (c := 45) (by decide) (by decide)).trans (by rw [hk]; rfl)
  have s42 : fX12_isSign_0 S' 42 = some 0 := (show fX12_isSign_0 S' 42 = _ from sgnR hc.2.1 hr (c := 42) (by decide) (by decide)).trans (by rw [hk]; rfl)
  have s47 : fX12_isSign_0 S' 47 = some 1 := (show fX12_isSign_0 S' 47 = _ from sgnR hc.2.1 hr (c := 47) (by decide) (by decide)).trans (by rw [hk]; rfl)
  have s41 : fX12_isSign_0 S' 41 = some 0 := (show fX12_isSign_0 S' 41 = _ from sgnR hc.2.1 hr (c := 41) (by decide) (by decide)).trans (by rw [hk]; rfl)
  have u60 : fX12_isSign_0 S41 60 = some 0 := (show fX12_isSign_0 S41 60 = _ from sgnR hc.2.1 hr1 (c := 60) (by decide) (by decide)).trans (by rw [hk]; rfl)
  have u61 : fX12_isSign_0 S41 61 = some 0 := (show fX12_isSign_0 S41 61 = _ from sgnR hc.2.1 hr1 (c := 61) (by decide) (by decide)).trans (by rw [hk]; rfl)
  have u43 : fX12_isSign_0 S41 43 = some 0 := (show fX12_isSign_0 S41 43 = _ from sgnR hc.2.1 hr1 (c := 43) (by decide) (by decide)).trans (by rw [hk]; rfl)
  have u45 : fX12_isSign_0 S41 45 = some 0 := (show fX12_isSign_0 S41 45 = _ from sgnR hc.2.1 hr1 (c := 45) (by decide) (by decide)).trans (by rw [hk]; rfl)
  have u42 : fX12_isSign_0 S41 42 = some 0 := (show fX12_isSign_0 S41 42 = _ from sgnR hc.2.1 hr1 (c := 42) (by decide) (by decide)).trans (by rw [hk]; rfl)
  have u47 : fX12_isSign_0 S41 47 = some 1 := (show fX12_isSign_0 S41 47 = _ from sgnR hc.2.1 hr1 (c := 47) (by decide) (by decide)).trans (by rw [hk]; rfl)
  have u41 : fX12_isSign_0 S41 41 = some 0 := (show fX12_isSign_0 S41 41 = _ from sgnR hc.2.1 hr1 (c := 41) (by decide) (by decide)).trans (by rw [hk]; rfl)
  rw [fX12_expression_0_L29, if_neg (show ¬ (1 : Int32) = 0 by decide), good_1 h14, bd1_s, if_neg (show ¬ (1 : Int32) = 0 by decide), kn, bd1_s]
  simp only [bk_e, lt_e, n1, n2, ite_true, ite_false, s60, s61, s43, s45, s42, s47, bd1_s, e10]
  rw [h1, bd2_s, u42, bd1_s]
  simp only [e10, ite_true, ite_false]
  rw [h2, bd2_s, h3, bd2_s]
theorem L29_Close {S2 : Nat → Int32} {V2 : Nat → Nat → Int32} {L2 : Nat → Int64} (hc : CX tx n M V V') (h14 : S' 14 = 0) (hr : RN tx n S' L' (tS tx n i)) (hk : kdA tx n (tS tx n i) = 41) (ho : fX12_isOpened_0 S' V' = some 1) (h1 : fX12_closes_0 S' V' L' = some (S2, V2, L2)) : fX12_expression_0_L29 eX (m + 1) 1 S' V' L' = fX12_expression_0_L29 eX m 1 S2 V2 L2 := by
  have kn : fX12_knownWord_0 S' L' = some (-1) := (knR hc.2.1 hc.1 hr).trans (by rw [hk]; rfl)
  have n1 : ((-1 : Int32) = 15) = False := eq_false (by decide)
  have n2 : ((-1 : Int32) = 16) = False := eq_false (by decide)
  have s60 : fX12_isSign_0 S' 60 = some 0 := (show fX12_isSign_0 S' 60 = _ from sgnR hc.2.1 hr (c := 60) (by decide) (by decide)).trans (by rw [hk]; rfl)
  have s61 : fX12_isSign_0 S' 61 = some 0 := (show fX12_isSign_0 S' 61 = _ from sgnR hc.2.1 hr (c := 61) (by decide) (by decide)).trans (by rw [hk]; rfl)
  have s43 : fX12_isSign_0 S' 43 = some 0 := (show fX12_isSign_0 S' 43 = _ from sgnR hc.2.1 hr (c := 43) (by decide) (by decide)).trans (by rw [hk]; rfl)
  have s45 : fX12_isSign_0 S' 45 = some 0 := (show fX12_isSign_0 S' 45 = _ from sgnR hc.2.1 hr (c := 45) (by decide) (by decide)).trans (by rw [hk]; rfl)
  have s42 : fX12_isSign_0 S' 42 = some 0 := (show fX12_isSign_0 S' 42 = _ from sgnR hc.2.1 hr (c := 42) (by decide) (by decide)).trans (by rw [hk]; rfl)
  have s47 : fX12_isSign_0 S' 47 = some 0 := (show fX12_isSign_0 S' 47 = _ from sgnR hc.2.1 hr (c := 47) (by decide) (by decide)).trans (by rw [hk]; rfl)
  have s41 : fX12_isSign_0 S' 41 = some 1 := (show fX12_isSign_0 S' 41 = _ from sgnR hc.2.1 hr (c := 41) (by decide) (by decide)).trans (by rw [hk]; rfl)
  rw [fX12_expression_0_L29, if_neg (show ¬ (1 : Int32) = 0 by decide), good_1 h14, bd1_s, if_neg (show ¬ (1 : Int32) = 0 by decide), kn, bd1_s]
  simp only [bk_e, lt_e, n1, n2, ite_true, ite_false, s60, s61, s43, s45, s42, s47, s41, bd1_s, e10, ho, h1, bd3_s]
/-- nothing more: a token that can't go on -/
theorem L29_Stop (hc : CX tx n M V V') (h14 : S' 14 = 0) (hr : RN tx n S' L' (tS tx n i)) (hd5 : d ≤ 5) (h0 : S' 35 = nI (d + 1)) (k1 : kdA tx n (tS tx n i) ≠ 111) (k2 : kdA tx n (tS tx n i) ≠ 110) (k3 : ¬ ((kdA tx n (tS tx n i) = 60 ∨ kdA tx n (tS tx n i) = 61) ∧ V' 12 (d + 1) = 0)) (k4 : kdA tx n (tS tx n i) ≠ 43) (k5 : kdA tx n (tS tx n i) ≠ 45) (k6 : kdA tx n (tS tx n i) ≠ 42) (k7 : kdA tx n (tS tx n i) ≠ 47) (k8 : kdA tx n (tS tx n i) = 41 → fX12_isOpened_0 S' V' = some 0) : fX12_expression_0_L29 eX (m + 1 + 1) 1 S' V' L' = eX S' V' L' := by
  have kb := kdA_b hc.2.1 (tS tx n i)
  have kn := knR hc.2.1 hc.1 hr
  have n1 : (kmI (kdA tx n (tS tx n i)) = 15) = False := eq_false (fun z => k1 ((km_15 _ kb).mp z))
  have n2 : (kmI (kdA tx n (tS tx n i)) = 16) = False := eq_false (fun z => k2 ((km_16 _ kb).mp z))
  have sf : ∀ c : Nat, 3 ≤ c → c < 100 → kdA tx n (tS tx n i) ≠ c → fX12_isSign_0 S' (nI c) = some 0 := fun c c1 c2 c3 => by
    rw [sgnR hc.2.1 hr c1 c2, decide_eq_false c3]; rfl
  have s43 : fX12_isSign_0 S' 43 = some 0 := sf 43 (by decide) (by decide) k4
  have s45 : fX12_isSign_0 S' 45 = some 0 := sf 45 (by decide) (by decide) k5
  have s42 : fX12_isSign_0 S' 42 = some 0 := sf 42 (by decide) (by decide) k6
  have s47 : fX12_isSign_0 S' 47 = some 0 := sf 47 (by decide) (by decide) k7
  have rest : ∀ (A : Option ((Nat → Int32) × (Nat → Nat → Int32) × (Nat → Int64))), bd1 (fX12_isSign_0 S' 41) (fun r140 => if r140 = 0 then fX12_expression_0_L29 eX (m + 1) 0 S' V' L' else bd1 (fX12_isOpened_0 S' V') (fun r147 => if r147 = 0 then fX12_expression_0_L29 eX (m + 1) 0 S' V' L' else A)) = eX S' V' L' := fun A => by
    by_cases c : kdA tx n (tS tx n i) = 41
    · rw [show fX12_isSign_0 S' 41 = some 1 from (sgnR hc.2.1 hr (c := 41) (by decide) (by decide)).trans (by rw [decide_eq_true c]; rfl), bd1_s, if_neg (show ¬ (1 : Int32) = 0 by decide), k8 c, bd1_s, if_pos rfl, L29_0]
    · rw [show fX12_isSign_0 S' 41 = some 0 from sf 41 (by decide) (by decide) c, bd1_s, if_pos rfl, L29_0]
  rw [fX12_expression_0_L29, if_neg (show ¬ (1 : Int32) = 0 by decide), good_1 h14, bd1_s, if_neg (show ¬ (1 : Int32) = 0 by decide), kn, bd1_s]
  by_cases c6 : kdA tx n (tS tx n i) = 60 ∨ kdA tx n (tS tx n i) = 61
  · have h12 : (V' 12 (d + 1) = 0) = False := eq_false (fun z => k3 ⟨c6, z⟩)
    by_cases c60 : kdA tx n (tS tx n i) = 60
    · have s60 : fX12_isSign_0 S' 60 = some 1 := (sgnR hc.2.1 hr (c := 60) (by decide) (by decide)).trans (by rw [decide_eq_true c60]; rfl)
      simp only [bk_e, lt_e, n1, n2, ite_true, ite_false, s60, s43, s45, s42, s47, bd1_s, e10, h0]
      rw [gd_n (d + 1) 9 (by omega) (by decide), nI_cl (d + 1) (by omega)]
      simp only [h12, ite_false]
      exact rest _
    · have s60 : fX12_isSign_0 S' 60 = some 0 := sf 60 (by decide) (by decide) c60
      have s61 : fX12_isSign_0 S' 61 = some 1 := (sgnR hc.2.1 hr (c := 61) (by decide) (by decide)).trans (by rw [decide_eq_true (c6.resolve_left c60)]; rfl)
      simp only [bk_e, lt_e, n1, n2, ite_true, ite_false, s60, s61, s43, s45, s42, s47, bd1_s, e10, h0]
      rw [gd_n (d + 1) 9 (by omega) (by decide), nI_cl (d + 1) (by omega)]
      simp only [h12, ite_false]
      exact rest _
  · have s60 : fX12_isSign_0 S' 60 = some 0 := sf 60 (by decide) (by decide) (fun z => c6 (Or.inl z))
    have s61 : fX12_isSign_0 S' 61 = some 0 := sf 61 (by decide) (by decide) (fun z => c6 (Or.inr z))
    simp only [bk_e, lt_e, n1, n2, ite_true, ite_false, s60, s61, s43, s45, s42, s47, bd1_s, e10]
    exact rest _
end RX
