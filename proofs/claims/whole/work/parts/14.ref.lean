theorem dX12_count_0 : decode cX12_count 0 = .ok (.aload_n 0, 1) := by decide +kernel
theorem dX12_count_1 : decode cX12_count 1 = .ok (.iconst 0, 1) := by decide +kernel
theorem dX12_count_2 : decode cX12_count 2 = .ok (.putfield 93, 3) := by decide +kernel
theorem dX12_count_5 : decode cX12_count 5 = .ok (.aload_n 0, 1) := by decide +kernel
theorem dX12_count_6 : decode cX12_count 6 = .ok (.iload_n 1, 1) := by decide +kernel
theorem dX12_count_7 : decode cX12_count 7 = .ok (.iconst 0, 1) := by decide +kernel
theorem dX12_count_8 : decode cX12_count 8 = .ok (.bipush 12, 2) := by decide +kernel
theorem dX12_count_10 : decode cX12_count 10 = .ok (.invokestatic 294, 3) := by decide +kernel
theorem dX12_count_13 : decode cX12_count 13 = .ok (.iconst 1, 1) := by decide +kernel
theorem dX12_count_14 : decode cX12_count 14 = .ok (.invokevirtual 255, 3) := by decide +kernel
theorem dX12_count_17 : decode cX12_count 17 = .ok (.ifCond .ne 5, 3) := by decide +kernel
theorem dX12_count_20 : decode cX12_count 20 = .ok (.iconst 0, 1) := by decide +kernel
theorem dX12_count_21 : decode cX12_count 21 = .ok (.ireturn, 1) := by decide +kernel
theorem dX12_count_22 : decode cX12_count 22 = .ok (.iload_n 1, 1) := by decide +kernel
theorem dX12_count_23 : decode cX12_count 23 = .ok (.tableswitch 103 0 9 #[53, 58, 63, 68, 73, 78, 83, 88, 93, 98], 53) := by decide +kernel
theorem dX12_count_76 : decode cX12_count 76 = .ok (.aload_n 0, 1) := by decide +kernel
theorem dX12_count_77 : decode cX12_count 77 = .ok (.getfield 7, 3) := by decide +kernel
theorem dX12_count_80 : decode cX12_count 80 = .ok (.ireturn, 1) := by decide +kernel
theorem dX12_count_81 : decode cX12_count 81 = .ok (.aload_n 0, 1) := by decide +kernel
theorem dX12_count_82 : decode cX12_count 82 = .ok (.getfield 262, 3) := by decide +kernel
theorem dX12_count_85 : decode cX12_count 85 = .ok (.ireturn, 1) := by decide +kernel
theorem dX12_count_86 : decode cX12_count 86 = .ok (.aload_n 0, 1) := by decide +kernel
theorem dX12_count_87 : decode cX12_count 87 = .ok (.getfield 13, 3) := by decide +kernel
theorem dX12_count_90 : decode cX12_count 90 = .ok (.ireturn, 1) := by decide +kernel
theorem dX12_count_91 : decode cX12_count 91 = .ok (.aload_n 0, 1) := by decide +kernel
theorem dX12_count_92 : decode cX12_count 92 = .ok (.getfield 16, 3) := by decide +kernel
theorem dX12_count_95 : decode cX12_count 95 = .ok (.ireturn, 1) := by decide +kernel
theorem dX12_count_96 : decode cX12_count 96 = .ok (.aload_n 0, 1) := by decide +kernel
theorem dX12_count_97 : decode cX12_count 97 = .ok (.getfield 265, 3) := by decide +kernel
theorem dX12_count_100 : decode cX12_count 100 = .ok (.ireturn, 1) := by decide +kernel
theorem dX12_count_101 : decode cX12_count 101 = .ok (.aload_n 0, 1) := by decide +kernel
theorem dX12_count_102 : decode cX12_count 102 = .ok (.getfield 268, 3) := by decide +kernel
theorem dX12_count_105 : decode cX12_count 105 = .ok (.ireturn, 1) := by decide +kernel
theorem dX12_count_106 : decode cX12_count 106 = .ok (.aload_n 0, 1) := by decide +kernel
theorem dX12_count_107 : decode cX12_count 107 = .ok (.getfield 271, 3) := by decide +kernel
theorem dX12_count_110 : decode cX12_count 110 = .ok (.ireturn, 1) := by decide +kernel
theorem dX12_count_111 : decode cX12_count 111 = .ok (.aload_n 0, 1) := by decide +kernel
theorem dX12_count_112 : decode cX12_count 112 = .ok (.getfield 278, 3) := by decide +kernel
theorem dX12_count_115 : decode cX12_count 115 = .ok (.ireturn, 1) := by decide +kernel
theorem dX12_count_116 : decode cX12_count 116 = .ok (.aload_n 0, 1) := by decide +kernel
theorem dX12_count_117 : decode cX12_count 117 = .ok (.getfield 281, 3) := by decide +kernel
theorem dX12_count_120 : decode cX12_count 120 = .ok (.ireturn, 1) := by decide +kernel
theorem dX12_count_121 : decode cX12_count 121 = .ok (.aload_n 0, 1) := by decide +kernel
theorem dX12_count_122 : decode cX12_count 122 = .ok (.getfield 96, 3) := by decide +kernel
theorem dX12_count_125 : decode cX12_count 125 = .ok (.ireturn, 1) := by decide +kernel
theorem dX12_count_126 : decode cX12_count 126 = .ok (.aload_n 0, 1) := by decide +kernel
theorem dX12_count_127 : decode cX12_count 127 = .ok (.getfield 38, 3) := by decide +kernel
theorem dX12_count_130 : decode cX12_count 130 = .ok (.iload_n 1, 1) := by decide +kernel
theorem dX12_count_131 : decode cX12_count 131 = .ok (.bipush 10, 2) := by decide +kernel
theorem dX12_count_133 : decode cX12_count 133 = .ok (.isub, 1) := by decide +kernel
theorem dX12_count_134 : decode cX12_count 134 = .ok (.iaload, 1) := by decide +kernel
theorem dX12_count_135 : decode cX12_count 135 = .ok (.ireturn, 1) := by decide +kernel
def fX12_count_0 (S : Nat → Int32) (V : Nat → Nat → Int32) (a1 : Int32) : Option (Int32 × (Nat → Int32)) :=
  lt (va_up S 0 (0 : Int32)) (fun S1 =>
  bd1 (fX12_within a1 (0 : Int32) (12 : Int32)) (fun r2 =>
  bd2 (fX12_right_0 S1 r2 (1 : Int32)) (fun r4 S5 =>
  (if r4 = 0 then
  some ((0 : Int32), S5)
  else
  (if a1 = (0 : Int32) then
  some ((S5 1), S5)
  else
  (if a1 = (1 : Int32) then
  some ((S5 2), S5)
  else
  (if a1 = (2 : Int32) then
  some ((S5 3), S5)
  else
  (if a1 = (3 : Int32) then
  some ((S5 4), S5)
  else
  (if a1 = (4 : Int32) then
  some ((S5 5), S5)
  else
  (if a1 = (5 : Int32) then
  some ((S5 6), S5)
  else
  (if a1 = (6 : Int32) then
  some ((S5 7), S5)
  else
  (if a1 = (7 : Int32) then
  some ((S5 42), S5)
  else
  (if a1 = (8 : Int32) then
  some ((S5 53), S5)
  else
  (if a1 = (9 : Int32) then
  some ((S5 13), S5)
  else
  lt ((a1 - (10 : Int32))) (fun x18 =>
  gd (ib x18 3) (
  some ((V 6 (x18).toNatClampNeg), S5)))))))))))))))))
set_option maxHeartbeats 4000000 in
set_option maxRecDepth 100000 in
theorem kX12_count_0 (l : Launch) (B : jBT) (D : va_G) (ad : Nat → Nat) (cA : Nat → ClassId) (hI : jI ad TR) (S : Nat → Int32) (V : Nat → Nat → Int32) (L : Nat → Int64) (a1 : Int32) (r0 : Int32) (S0 : Nat → Int32) (h : fX12_count_0 S V a1 = some (r0, S0)) : jM l yX12_count cX12_count 2 (some .int) ({ frames := 1, cells := 0, slots := 0, locals := 22 }) B D TR ad cA [.ref (ad 0), .int a1] S V L (some (.int r0)) S0 V L := by
  refine jM_of (plainFor_of_name (by decide)) TR_ok hI (Nat.le_of_ble_eq_true rfl) ?_
  intro p e s m args below meth c C hr hlk
  refine j_lv (lv2 := [(0, .ref (ad 0)), (1, .int a1)]) rfl ?_
  unfold fX12_count_0 at h
  refine j_aload_n C 0 rfl dX12_count_0 rfl ?_
  refine j_iconst C dX12_count_1 ci_0 ?_
  refine fp_X12_93_TR_0 C dX12_count_2 ?_
  refine lt_elim h (fun S1 e_S1 h => ?_)
  refine j_S e_S1 ?_
  refine j_aload_n C 0 rfl dX12_count_5 rfl ?_
  refine j_iload_n C 1 rfl dX12_count_6 rfl ?_
  refine j_iconst C dX12_count_7 ci_0 ?_
  refine j_bipush C dX12_count_8 cb_12 ?_
  obtain ⟨r2, h3, h⟩ := bd1_elim h
  refine j_callS (As := [.int a1, .int (0 : Int32), .int (12 : Int32)]) (rest := [.ref (ad 0)]) C (kX12_within l B D ad cA hI S1 V L a1 (0 : Int32) (12 : Int32) _ h3) mw_X12_within wd1760 wd1759 ⟨rfl, rfl, by decide, by decide⟩ ⟨Nat.zero_le _, Nat.zero_le _⟩ rfl rfl (Nat.le_of_ble_eq_true rfl) dX12_count_10 ?_
  refine j_iconst C dX12_count_13 ci_1 ?_
  obtain ⟨r4, S5, h6, h⟩ := bd2_elim h
  refine j_callV (As := [.int r2, .int (1 : Int32)]) (rest := []) C (kX12_right_0 l B D ad cA hI S1 V L r2 (1 : Int32) _ _ h6) mw_X12_right wd1638 wd56 wd1636 tr_0 rfl rfl ⟨rfl, rfl, by decide, by decide⟩ ⟨Nat.zero_le _, Nat.zero_le _⟩ rfl rfl (Nat.le_of_ble_eq_true rfl) dX12_count_14 ?_
  refine j_if_ne (tgt := 22) C dX12_count_17 (by decide) (fun c7 => ?_) (fun c7 => ?_)
  · have h := (if_neg c7).symm.trans h
    refine j_iload_n C 1 rfl dX12_count_22 rfl ?_
    by_cases c8 : a1 = (0 : Int32)
    · have h := (if_pos c8).symm.trans h
      refine j_tableIn (tgt := 76) C dX12_count_23 (by rw [c8]; decide) (by rw [c8]; decide) (by rw [c8]; rfl) (by decide) ?_
      refine j_aload_n C 0 rfl dX12_count_76 rfl ?_
      refine fg_X12_7_TR_0 C dX12_count_77 ?_
      cases h
      exact j_iret C hr hlk rfl dX12_count_80
    have h := (if_neg c8).symm.trans h
    have n_c8 := ne_toInt (z := 0) (by decide) c8
    by_cases c9 : a1 = (1 : Int32)
    · have h := (if_pos c9).symm.trans h
      refine j_tableIn (tgt := 81) C dX12_count_23 (by rw [c9]; decide) (by rw [c9]; decide) (by rw [c9]; rfl) (by decide) ?_
      refine j_aload_n C 0 rfl dX12_count_81 rfl ?_
      refine fg_X12_262_TR_0 C dX12_count_82 ?_
      cases h
      exact j_iret C hr hlk rfl dX12_count_85
    have h := (if_neg c9).symm.trans h
    have n_c9 := ne_toInt (z := 1) (by decide) c9
    by_cases c10 : a1 = (2 : Int32)
    · have h := (if_pos c10).symm.trans h
      refine j_tableIn (tgt := 86) C dX12_count_23 (by rw [c10]; decide) (by rw [c10]; decide) (by rw [c10]; rfl) (by decide) ?_
      refine j_aload_n C 0 rfl dX12_count_86 rfl ?_
      refine fg_X12_13_TR_0 C dX12_count_87 ?_
      cases h
      exact j_iret C hr hlk rfl dX12_count_90
    have h := (if_neg c10).symm.trans h
    have n_c10 := ne_toInt (z := 2) (by decide) c10
    by_cases c11 : a1 = (3 : Int32)
    · have h := (if_pos c11).symm.trans h
      refine j_tableIn (tgt := 91) C dX12_count_23 (by rw [c11]; decide) (by rw [c11]; decide) (by rw [c11]; rfl) (by decide) ?_
      refine j_aload_n C 0 rfl dX12_count_91 rfl ?_
      refine fg_X12_16_TR_0 C dX12_count_92 ?_
      cases h
      exact j_iret C hr hlk rfl dX12_count_95
    have h := (if_neg c11).symm.trans h
    have n_c11 := ne_toInt (z := 3) (by decide) c11
    by_cases c12 : a1 = (4 : Int32)
    · have h := (if_pos c12).symm.trans h
      refine j_tableIn (tgt := 96) C dX12_count_23 (by rw [c12]; decide) (by rw [c12]; decide) (by rw [c12]; rfl) (by decide) ?_
      refine j_aload_n C 0 rfl dX12_count_96 rfl ?_
      refine fg_X12_265_TR_0 C dX12_count_97 ?_
      cases h
      exact j_iret C hr hlk rfl dX12_count_100
    have h := (if_neg c12).symm.trans h
    have n_c12 := ne_toInt (z := 4) (by decide) c12
    by_cases c13 : a1 = (5 : Int32)
    · have h := (if_pos c13).symm.trans h
      refine j_tableIn (tgt := 101) C dX12_count_23 (by rw [c13]; decide) (by rw [c13]; decide) (by rw [c13]; rfl) (by decide) ?_
      refine j_aload_n C 0 rfl dX12_count_101 rfl ?_
      refine fg_X12_268_TR_0 C dX12_count_102 ?_
      cases h
      exact j_iret C hr hlk rfl dX12_count_105
    have h := (if_neg c13).symm.trans h
    have n_c13 := ne_toInt (z := 5) (by decide) c13
    by_cases c14 : a1 = (6 : Int32)
    · have h := (if_pos c14).symm.trans h
      refine j_tableIn (tgt := 106) C dX12_count_23 (by rw [c14]; decide) (by rw [c14]; decide) (by rw [c14]; rfl) (by decide) ?_
      refine j_aload_n C 0 rfl dX12_count_106 rfl ?_
      refine fg_X12_271_TR_0 C dX12_count_107 ?_
      cases h
      exact j_iret C hr hlk rfl dX12_count_110
    have h := (if_neg c14).symm.trans h
    have n_c14 := ne_toInt (z := 6) (by decide) c14
    by_cases c15 : a1 = (7 : Int32)
    · have h := (if_pos c15).symm.trans h
      refine j_tableIn (tgt := 111) C dX12_count_23 (by rw [c15]; decide) (by rw [c15]; decide) (by rw [c15]; rfl) (by decide) ?_
      refine j_aload_n C 0 rfl dX12_count_111 rfl ?_
      refine fg_X12_278_TR_0 C dX12_count_112 ?_
      cases h
      exact j_iret C hr hlk rfl dX12_count_115
    have h := (if_neg c15).symm.trans h
    have n_c15 := ne_toInt (z := 7) (by decide) c15
    by_cases c16 : a1 = (8 : Int32)
    · have h := (if_pos c16).symm.trans h
      refine j_tableIn (tgt := 116) C dX12_count_23 (by rw [c16]; decide) (by rw [c16]; decide) (by rw [c16]; rfl) (by decide) ?_
      refine j_aload_n C 0 rfl dX12_count_116 rfl ?_
      refine fg_X12_281_TR_0 C dX12_count_117 ?_
      cases h
      exact j_iret C hr hlk rfl dX12_count_120
    have h := (if_neg c16).symm.trans h
    have n_c16 := ne_toInt (z := 8) (by decide) c16
    by_cases c17 : a1 = (9 : Int32)
    · have h := (if_pos c17).symm.trans h
      refine j_tableIn (tgt := 121) C dX12_count_23 (by rw [c17]; decide) (by rw [c17]; decide) (by rw [c17]; rfl) (by decide) ?_
      refine j_aload_n C 0 rfl dX12_count_121 rfl ?_
      refine fg_X12_96_TR_0 C dX12_count_122 ?_
      cases h
      exact j_iret C hr hlk rfl dX12_count_125
    have h := (if_neg c17).symm.trans h
    have n_c17 := ne_toInt (z := 9) (by decide) c17
    refine j_tableOut (tgt := 126) C dX12_count_23 (by omega) (by decide) ?_
    refine j_aload_n C 0 rfl dX12_count_126 rfl ?_
    refine fg_X12_38_TR_0 C dX12_count_127 ?_
    refine j_iload_n C 1 rfl dX12_count_130 rfl ?_
    refine j_bipush C dX12_count_131 cb_10 ?_
    refine j_isub C dX12_count_133 ?_
    refine lt_elim h (fun x18 e_x18 h => ?_)
    refine j_top e_x18 ?_
    obtain ⟨g19, h⟩ := gd_elim h
    refine j_iald C tr_6 (ib_in g19) dX12_count_134 ?_
    cases h
    exact j_iret C hr hlk rfl dX12_count_135
  · have h := (if_pos c7).symm.trans h
    refine j_iconst C dX12_count_20 ci_0 ?_
    cases h
    exact j_iret C hr hlk rfl dX12_count_21
