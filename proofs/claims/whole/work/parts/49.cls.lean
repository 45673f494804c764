theorem dX9_wantPart_0 : decode cX9_wantPart 0 = .ok (.aload_n 0, 1) := by decide +kernel
theorem dX9_wantPart_1 : decode cX9_wantPart 1 = .ok (.iconst 1, 1) := by decide +kernel
theorem dX9_wantPart_2 : decode cX9_wantPart 2 = .ok (.putfield 34, 3) := by decide +kernel
theorem dX9_wantPart_5 : decode cX9_wantPart 5 = .ok (.aload_n 0, 1) := by decide +kernel
theorem dX9_wantPart_6 : decode cX9_wantPart 6 = .ok (.iload_n 1, 1) := by decide +kernel
theorem dX9_wantPart_7 : decode cX9_wantPart 7 = .ok (.putfield 57, 3) := by decide +kernel
theorem dX9_wantPart_10 : decode cX9_wantPart 10 = .ok (.aload_n 0, 1) := by decide +kernel
theorem dX9_wantPart_11 : decode cX9_wantPart 11 = .ok (.iconst 0, 1) := by decide +kernel
theorem dX9_wantPart_12 : decode cX9_wantPart 12 = .ok (.putfield 60, 3) := by decide +kernel
theorem dX9_wantPart_15 : decode cX9_wantPart 15 = .ok (.return_, 1) := by decide +kernel
def fX9_wantPart_25 (S : Nat → Int32) (a1 : Int32) : Option ((Nat → Int32)) :=
  lt (va_up S 2505 (1 : Int32)) (fun S1 =>
  gd (isb a1) (
  lt (va_up S1 2506 a1) (fun S3 =>
  lt (va_up S3 2507 (0 : Int32)) (fun S4 =>
  some S4))))
set_option maxHeartbeats 4000000 in
set_option maxRecDepth 100000 in
theorem kX9_wantPart_25 (l : Launch) (B : jBT) (D : va_G) (ad : Nat → Nat) (cA : Nat → ClassId) (hI : jI ad TC) (S : Nat → Int32) (V : Nat → Nat → Int32) (L : Nat → Int64) (a1 : Int32) (S0 : Nat → Int32) (h : fX9_wantPart_25 S a1 = some S0) : jM l yX9_wantPart cX9_wantPart 2 none ({ frames := 0, cells := 0, slots := 0, locals := 0 }) B D TC ad cA [.ref (ad 25), .int a1] S V L none S0 V L := by
  refine jM_of (plainFor_of_name (by decide)) TC_ok hI (Nat.le_of_ble_eq_true rfl) ?_
  intro p e s m args below meth c C hr hlk
  refine j_lv (lv2 := [(0, .ref (ad 25)), (1, .int a1)]) rfl ?_
  unfold fX9_wantPart_25 at h
  refine j_aload_n C 0 rfl dX9_wantPart_0 rfl ?_
  refine j_iconst C dX9_wantPart_1 ci_1 ?_
  refine fp_X9_34_TC_25 C rfl rfl dX9_wantPart_2 ?_
  refine lt_elim h (fun S1 e_S1 h => ?_)
  refine j_S e_S1 ?_
  refine j_aload_n C 0 rfl dX9_wantPart_5 rfl ?_
  refine j_iload_n C 1 rfl dX9_wantPart_6 rfl ?_
  obtain ⟨g2, h⟩ := gd_elim h
  refine fp_X9_57_TC_25 C (isb_n g2) (isb_f g2) dX9_wantPart_7 ?_
  refine lt_elim h (fun S3 e_S3 h => ?_)
  refine j_S e_S3 ?_
  refine j_aload_n C 0 rfl dX9_wantPart_10 rfl ?_
  refine j_iconst C dX9_wantPart_11 ci_0 ?_
  refine fp_X9_60_TC_25 C dX9_wantPart_12 ?_
  refine lt_elim h (fun S4 e_S4 h => ?_)
  refine j_S e_S4 ?_
  cases h
  exact j_vret C hr hlk rfl dX9_wantPart_15
theorem dX9_operatorTold_0 : decode cX9_operatorTold 0 = .ok (.aload_n 0, 1) := by decide +kernel
theorem dX9_operatorTold_1 : decode cX9_operatorTold 1 = .ok (.getfield 15, 3) := by decide +kernel
theorem dX9_operatorTold_4 : decode cX9_operatorTold 4 = .ok (.invokevirtual 42, 3) := by decide +kernel
theorem dX9_operatorTold_7 : decode cX9_operatorTold 7 = .ok (.lookupswitch 93 #[(42, 87), (43, 81), (45, 84), (47, 90), (60, 77), (61, 79), (110, 73), (111, 75)], 73) := by decide +kernel
theorem dX9_operatorTold_80 : decode cX9_operatorTold 80 = .ok (.iconst 1, 1) := by decide +kernel
theorem dX9_operatorTold_81 : decode cX9_operatorTold 81 = .ok (.ireturn, 1) := by decide +kernel
theorem dX9_operatorTold_82 : decode cX9_operatorTold 82 = .ok (.iconst 2, 1) := by decide +kernel
theorem dX9_operatorTold_83 : decode cX9_operatorTold 83 = .ok (.ireturn, 1) := by decide +kernel
theorem dX9_operatorTold_84 : decode cX9_operatorTold 84 = .ok (.iconst 4, 1) := by decide +kernel
theorem dX9_operatorTold_85 : decode cX9_operatorTold 85 = .ok (.ireturn, 1) := by decide +kernel
theorem dX9_operatorTold_86 : decode cX9_operatorTold 86 = .ok (.iconst 5, 1) := by decide +kernel
theorem dX9_operatorTold_87 : decode cX9_operatorTold 87 = .ok (.ireturn, 1) := by decide +kernel
theorem dX9_operatorTold_88 : decode cX9_operatorTold 88 = .ok (.bipush 6, 2) := by decide +kernel
theorem dX9_operatorTold_90 : decode cX9_operatorTold 90 = .ok (.ireturn, 1) := by decide +kernel
theorem dX9_operatorTold_91 : decode cX9_operatorTold 91 = .ok (.bipush 7, 2) := by decide +kernel
theorem dX9_operatorTold_93 : decode cX9_operatorTold 93 = .ok (.ireturn, 1) := by decide +kernel
theorem dX9_operatorTold_94 : decode cX9_operatorTold 94 = .ok (.bipush 8, 2) := by decide +kernel
theorem dX9_operatorTold_96 : decode cX9_operatorTold 96 = .ok (.ireturn, 1) := by decide +kernel
theorem dX9_operatorTold_97 : decode cX9_operatorTold 97 = .ok (.bipush 9, 2) := by decide +kernel
theorem dX9_operatorTold_99 : decode cX9_operatorTold 99 = .ok (.ireturn, 1) := by decide +kernel
theorem dX9_operatorTold_100 : decode cX9_operatorTold 100 = .ok (.iconst (-1), 1) := by decide +kernel
theorem dX9_operatorTold_101 : decode cX9_operatorTold 101 = .ok (.ireturn, 1) := by decide +kernel
def fX9_operatorTold_25 (S : Nat → Int32) (V : Nat → Nat → Int32) : Option (Int32) :=
  bd1 (fX10_kind_20 S V) (fun r1 =>
  (if r1 = (42 : Int32) then
  some (8 : Int32)
  else
  (if r1 = (43 : Int32) then
  some (6 : Int32)
  else
  (if r1 = (45 : Int32) then
  some (7 : Int32)
  else
  (if r1 = (47 : Int32) then
  some (9 : Int32)
  else
  (if r1 = (60 : Int32) then
  some (4 : Int32)
  else
  (if r1 = (61 : Int32) then
  some (5 : Int32)
  else
  (if r1 = (110 : Int32) then
  some (1 : Int32)
  else
  (if r1 = (111 : Int32) then
  some (2 : Int32)
  else
  some (-1 : Int32))))))))))
set_option maxHeartbeats 4000000 in
set_option maxRecDepth 100000 in
theorem kX9_operatorTold_25 (l : Launch) (B : jBT) (D : va_G) (ad : Nat → Nat) (cA : Nat → ClassId) (hI : jI ad TC) (S : Nat → Int32) (V : Nat → Nat → Int32) (L : Nat → Int64) (r0 : Int32) (h : fX9_operatorTold_25 S V = some r0) : jM l yX9_operatorTold cX9_operatorTold 1 (some .int) ({ frames := 1, cells := 0, slots := 0, locals := 20 }) B D TC ad cA [.ref (ad 25)] S V L (some (.int r0)) S V L := by
  refine jM_of (plainFor_of_name (by decide)) TC_ok hI (Nat.le_of_ble_eq_true rfl) ?_
  intro p e s m args below meth c C hr hlk
  refine j_lv (lv2 := [(0, .ref (ad 25))]) rfl ?_
  unfold fX9_operatorTold_25 at h
  refine j_aload_n C 0 rfl dX9_operatorTold_0 rfl ?_
  refine fg_X9_15_TC_25 C dX9_operatorTold_1 ?_
  obtain ⟨r1, h2, h⟩ := bd1_elim h
  refine j_callV (As := []) (rest := []) C (kX10_kind_20 l B D ad cA hI S V L _ h2) mw_X10_kind wd911 wd912 wd972 tc_20 rfl rfl ⟨rfl, rfl, by decide, by decide⟩ ⟨Nat.zero_le _, Nat.zero_le _⟩ rfl rfl (Nat.le_of_ble_eq_true rfl) dX9_operatorTold_4 ?_
  by_cases c3 : r1 = (42 : Int32)
  · have h := (if_pos c3).symm.trans h
    refine j_lookup (tgt := 94) C dX9_operatorTold_7 (by decide) (by rw [c3] <;> rfl) (by decide) ?_
    refine j_bipush C dX9_operatorTold_94 cb_8 ?_
    cases h
    exact j_iret C hr hlk rfl dX9_operatorTold_96
  have h := (if_neg c3).symm.trans h
  have n_c3 := ne_toInt (z := 42) (by decide) c3
  by_cases c4 : r1 = (43 : Int32)
  · have h := (if_pos c4).symm.trans h
    refine j_lookup (tgt := 88) C dX9_operatorTold_7 (by decide) (by rw [c4] <;> rfl) (by decide) ?_
    refine j_bipush C dX9_operatorTold_88 cb_6 ?_
    cases h
    exact j_iret C hr hlk rfl dX9_operatorTold_90
  have h := (if_neg c4).symm.trans h
  have n_c4 := ne_toInt (z := 43) (by decide) c4
  by_cases c5 : r1 = (45 : Int32)
  · have h := (if_pos c5).symm.trans h
    refine j_lookup (tgt := 91) C dX9_operatorTold_7 (by decide) (by rw [c5] <;> rfl) (by decide) ?_
    refine j_bipush C dX9_operatorTold_91 cb_7 ?_
    cases h
    exact j_iret C hr hlk rfl dX9_operatorTold_93
  have h := (if_neg c5).symm.trans h
  have n_c5 := ne_toInt (z := 45) (by decide) c5
  by_cases c6 : r1 = (47 : Int32)
  · have h := (if_pos c6).symm.trans h
    refine j_lookup (tgt := 97) C dX9_operatorTold_7 (by decide) (by rw [c6] <;> rfl) (by decide) ?_
    refine j_bipush C dX9_operatorTold_97 cb_9 ?_
    cases h
    exact j_iret C hr hlk rfl dX9_operatorTold_99
  have h := (if_neg c6).symm.trans h
  have n_c6 := ne_toInt (z := 47) (by decide) c6
  by_cases c7 : r1 = (60 : Int32)
  · have h := (if_pos c7).symm.trans h
    refine j_lookup (tgt := 84) C dX9_operatorTold_7 (by decide) (by rw [c7] <;> rfl) (by decide) ?_
    refine j_iconst C dX9_operatorTold_84 ci_4 ?_
    cases h
    exact j_iret C hr hlk rfl dX9_operatorTold_85
  have h := (if_neg c7).symm.trans h
  have n_c7 := ne_toInt (z := 60) (by decide) c7
  by_cases c8 : r1 = (61 : Int32)
  · have h := (if_pos c8).symm.trans h
    refine j_lookup (tgt := 86) C dX9_operatorTold_7 (by decide) (by rw [c8] <;> rfl) (by decide) ?_
    refine j_iconst C dX9_operatorTold_86 ci_5 ?_
    cases h
    exact j_iret C hr hlk rfl dX9_operatorTold_87
  have h := (if_neg c8).symm.trans h
  have n_c8 := ne_toInt (z := 61) (by decide) c8
  by_cases c9 : r1 = (110 : Int32)
  · have h := (if_pos c9).symm.trans h
    refine j_lookup (tgt := 80) C dX9_operatorTold_7 (by decide) (by rw [c9] <;> rfl) (by decide) ?_
    refine j_iconst C dX9_operatorTold_80 ci_1 ?_
    cases h
    exact j_iret C hr hlk rfl dX9_operatorTold_81
  have h := (if_neg c9).symm.trans h
  have n_c9 := ne_toInt (z := 110) (by decide) c9
  by_cases c10 : r1 = (111 : Int32)
  · have h := (if_pos c10).symm.trans h
    refine j_lookup (tgt := 82) C dX9_operatorTold_7 (by decide) (by rw [c10] <;> rfl) (by decide) ?_
    refine j_iconst C dX9_operatorTold_82 ci_2 ?_
    cases h
    exact j_iret C hr hlk rfl dX9_operatorTold_83
  have h := (if_neg c10).symm.trans h
  have n_c10 := ne_toInt (z := 111) (by decide) c10
  refine j_lookup (tgt := 100) (off := 93) C dX9_operatorTold_7 (by decide) (by simp [Op.lookupswitch.offset, Ne.symm n_c3, Ne.symm n_c4, Ne.symm n_c5, Ne.symm n_c6, Ne.symm n_c7, Ne.symm n_c8, Ne.symm n_c9, Ne.symm n_c10]) (by decide) ?_
  refine j_iconst C dX9_operatorTold_100 ci_m1 ?_
  cases h
  exact j_iret C hr hlk rfl dX9_operatorTold_101
def fX2_addCode_12 (S : Nat → Int32) (V : Nat → Nat → Int32) (a1 : Int32) : Option ((Nat → Int32) × (Nat → Nat → Int32)) :=
  (if (600 : Int32) ≤ (S 1213) then
  some (S, V)
  else
  lt ((S 1213)) (fun x2 =>
  gd (ib x2 600) (
  lt (va_up V 18 (upd (V 18) (x2).toNatClampNeg a1)) (fun V4 =>
  lt (((S 1213) + (1 : Int32))) (fun x5 =>
  lt (va_up S 1213 x5) (fun S6 =>
  some (S6, V4)))))))
set_option maxHeartbeats 4000000 in
set_option maxRecDepth 100000 in
theorem kX2_addCode_12 (l : Launch) (B : jBT) (D : va_G) (ad : Nat → Nat) (cA : Nat → ClassId) (hI : jI ad TC) (S : Nat → Int32) (V : Nat → Nat → Int32) (L : Nat → Int64) (a1 : Int32) (S0 : Nat → Int32) (V0 : Nat → Nat → Int32) (h : fX2_addCode_12 S V a1 = some (S0, V0)) : jM l yX2_addCode cX2_addCode 2 none ({ frames := 0, cells := 0, slots := 0, locals := 0 }) B D TC ad cA [.ref (ad 12), .int a1] S V L none S0 V0 L := by
  refine jM_of (plainFor_of_name (by decide)) TC_ok hI (Nat.le_of_ble_eq_true rfl) ?_
  intro p e s m args below meth c C hr hlk
  refine j_lv (lv2 := [(0, .ref (ad 12)), (1, .int a1)]) rfl ?_
  unfold fX2_addCode_12 at h
  refine j_aload_n C 0 rfl dX2_addCode_0 rfl ?_
  refine fg_X2_55_TC_12 C dX2_addCode_1 ?_
  refine j_sipush C dX2_addCode_4 cs_600 ?_
  refine j_icmp_ge (tgt := 30) C dX2_addCode_7 (by decide) (fun c1 => ?_) (fun c1 => ?_)
  · have h := (if_pos c1).symm.trans h
    cases h
    exact j_vret C hr hlk rfl dX2_addCode_30
  · have h := (if_neg c1).symm.trans h
    refine j_aload_n C 0 rfl dX2_addCode_10 rfl ?_
    refine fg_X2_27_TC_12 C dX2_addCode_11 ?_
    refine j_aload_n C 0 rfl dX2_addCode_14 rfl ?_
    refine fg_X2_55_TC_12 C dX2_addCode_15 ?_
    refine j_iload_n C 1 rfl dX2_addCode_18 rfl ?_
    refine lt_elim h (fun x2 e_x2 h => ?_)
    refine j_top2 e_x2 ?_
    obtain ⟨g3, h⟩ := gd_elim h
    refine j_iast C tc_18 (ib_in g3) dX2_addCode_19 ?_
    refine lt_elim h (fun V4 e_V4 h => ?_)
    refine j_V e_V4 ?_
    refine j_aload_n C 0 rfl dX2_addCode_20 rfl ?_
    refine j_dup C dX2_addCode_21 rfl ?_
    refine fg_X2_55_TC_12 C dX2_addCode_22 ?_
    refine j_iconst C dX2_addCode_25 ci_1 ?_
    refine j_iadd C dX2_addCode_26 ?_
    refine lt_elim h (fun x5 e_x5 h => ?_)
    refine j_top e_x5 ?_
    refine fp_X2_55_TC_12 C dX2_addCode_27 ?_
    refine lt_elim h (fun S6 e_S6 h => ?_)
    refine j_S e_S6 ?_
    cases h
    exact j_vret C hr hlk rfl dX2_addCode_30
theorem dX9_writeBinding_0 : decode cX9_writeBinding 0 = .ok (.aload_n 0, 1) := by decide +kernel
theorem dX9_writeBinding_1 : decode cX9_writeBinding 1 = .ok (.getfield 23, 3) := by decide +kernel
theorem dX9_writeBinding_4 : decode cX9_writeBinding 4 = .ok (.ifCond .le 55, 3) := by decide +kernel
theorem dX9_writeBinding_7 : decode cX9_writeBinding 7 = .ok (.getstatic 95, 3) := by decide +kernel
theorem dX9_writeBinding_10 : decode cX9_writeBinding 10 = .ok (.aload_n 0, 1) := by decide +kernel
theorem dX9_writeBinding_11 : decode cX9_writeBinding 11 = .ok (.getfield 11, 3) := by decide +kernel
theorem dX9_writeBinding_14 : decode cX9_writeBinding 14 = .ok (.aload_n 0, 1) := by decide +kernel
theorem dX9_writeBinding_15 : decode cX9_writeBinding 15 = .ok (.getfield 23, 3) := by decide +kernel
theorem dX9_writeBinding_18 : decode cX9_writeBinding 18 = .ok (.iconst 1, 1) := by decide +kernel
theorem dX9_writeBinding_19 : decode cX9_writeBinding 19 = .ok (.isub, 1) := by decide +kernel
theorem dX9_writeBinding_20 : decode cX9_writeBinding 20 = .ok (.iaload, 1) := by decide +kernel
theorem dX9_writeBinding_21 : decode cX9_writeBinding 21 = .ok (.iaload, 1) := by decide +kernel
theorem dX9_writeBinding_22 : decode cX9_writeBinding 22 = .ok (.iload_n 1, 1) := by decide +kernel
theorem dX9_writeBinding_23 : decode cX9_writeBinding 23 = .ok (.if_icmp .lt 36, 3) := by decide +kernel
theorem dX9_writeBinding_26 : decode cX9_writeBinding 26 = .ok (.aload_n 0, 1) := by decide +kernel
theorem dX9_writeBinding_27 : decode cX9_writeBinding 27 = .ok (.dup, 1) := by decide +kernel
theorem dX9_writeBinding_28 : decode cX9_writeBinding 28 = .ok (.getfield 23, 3) := by decide +kernel
theorem dX9_writeBinding_31 : decode cX9_writeBinding 31 = .ok (.iconst 1, 1) := by decide +kernel
theorem dX9_writeBinding_32 : decode cX9_writeBinding 32 = .ok (.isub, 1) := by decide +kernel
theorem dX9_writeBinding_33 : decode cX9_writeBinding 33 = .ok (.putfield 23, 3) := by decide +kernel
theorem dX9_writeBinding_36 : decode cX9_writeBinding 36 = .ok (.aload_n 0, 1) := by decide +kernel
theorem dX9_writeBinding_37 : decode cX9_writeBinding 37 = .ok (.getfield 19, 3) := by decide +kernel
theorem dX9_writeBinding_40 : decode cX9_writeBinding 40 = .ok (.sipush 20000, 3) := by decide +kernel
theorem dX9_writeBinding_43 : decode cX9_writeBinding 43 = .ok (.aload_n 0, 1) := by decide +kernel
theorem dX9_writeBinding_44 : decode cX9_writeBinding 44 = .ok (.getfield 11, 3) := by decide +kernel
theorem dX9_writeBinding_47 : decode cX9_writeBinding 47 = .ok (.aload_n 0, 1) := by decide +kernel
theorem dX9_writeBinding_48 : decode cX9_writeBinding 48 = .ok (.getfield 23, 3) := by decide +kernel
theorem dX9_writeBinding_51 : decode cX9_writeBinding 51 = .ok (.iaload, 1) := by decide +kernel
theorem dX9_writeBinding_52 : decode cX9_writeBinding 52 = .ok (.iadd, 1) := by decide +kernel
theorem dX9_writeBinding_53 : decode cX9_writeBinding 53 = .ok (.invokevirtual 87, 3) := by decide +kernel
theorem dX9_writeBinding_56 : decode cX9_writeBinding 56 = .ok (.goto (-56), 3) := by decide +kernel
theorem dX9_writeBinding_59 : decode cX9_writeBinding 59 = .ok (.return_, 1) := by decide +kernel
def fX9_writeBinding_25_L0 : Nat → Int32 → (Nat → Int32) → (Nat → Nat → Int32) → Option ((Nat → Int32) × (Nat → Nat → Int32))
  | 0, _, _, _ => none
  | n + 1, x1, S2, V3 =>
    (if (S2 2503) ≤ 0 then
    some (S2, V3)
    else
    lt (((S2 2503) - (1 : Int32))) (fun x5 =>
    gd (ib x5 84) (
    lt ((V3 26 (x5).toNatClampNeg)) (fun x7 =>
    gd (ib x7 10) (
    (if (bnd (x7).toNatClampNeg) < x1 then
    some (S2, V3)
    else
    lt (((S2 2503) - (1 : Int32))) (fun x10 =>
    lt (va_up S2 2503 x10) (fun S11 =>
    lt ((S11 2503)) (fun x12 =>
    gd (ib x12 84) (
    bd2 (fX2_addCode_12 S11 V3 (((20000 : Int32) + (V3 26 (x12).toNatClampNeg)))) (fun S14 V15 =>
    fX9_writeBinding_25_L0 n x1 S14 V15)))))))))))
def fX9_writeBinding_25 (S : Nat → Int32) (V : Nat → Nat → Int32) (a1 : Int32) : Option ((Nat → Int32) × (Nat → Nat → Int32)) :=
  fX9_writeBinding_25_L0 FU a1 S V
set_option maxHeartbeats 4000000 in
set_option maxRecDepth 100000 in
theorem kX9_writeBinding_25 (l : Launch) (B : jBT) (D : va_G) (ad : Nat → Nat) (cA : Nat → ClassId) (hI : jI ad TC) (S : Nat → Int32) (V : Nat → Nat → Int32) (L : Nat → Int64) (a1 : Int32) (S0 : Nat → Int32) (V0 : Nat → Nat → Int32) (h : fX9_writeBinding_25 S V a1 = some (S0, V0)) : jM l yX9_writeBinding cX9_writeBinding 2 none ({ frames := 1, cells := 0, slots := 0, locals := 21 }) B D TC ad cA [.ref (ad 25), .int a1] S V L none S0 V0 L := by
  refine jM_of (plainFor_of_name (by decide)) TC_ok hI (Nat.le_of_ble_eq_true rfl) ?_
  intro p e s m args below meth c C hr hlk
  refine j_lv (lv2 := [(0, .ref (ad 25)), (1, .int a1)]) rfl ?_
  unfold fX9_writeBinding_25 at h
  have H_fX9_writeBinding_25_L0 : ∀ (n : Nat) (x1 : Int32) (S2 : Nat → Int32) (V3 : Nat → Nat → Int32), fX9_writeBinding_25_L0 n x1 S2 V3 = some (S0, V0) → jW p l e ({ frames := 1, cells := 0, slots := 0, locals := 21 }) s m args below meth c (MQ below (jQc D TC ad cA none s.heap.size S0 V0 L) args s 0 0 (jA ad TC s.heap.size)) D TC ad cA (jA ad TC s.heap.size) 2 0 0 0 [(0, .ref (ad 25)), (1, .int x1)] [] S2 V3 L := by
    intro n
    induction n with
    | zero =>
      intro x1 S2 V3 h
      cases (show (none : Option ((Nat → Int32) × (Nat → Nat → Int32))) = some (S0, V0) from h)
    | succ n ih =>
      intro x1 S2 V3 h
      unfold fX9_writeBinding_25_L0 at h
      refine j_aload_n C 0 rfl dX9_writeBinding_0 rfl ?_
      refine fg_X9_23_TC_25 C dX9_writeBinding_1 ?_
      refine j_if_le (tgt := 59) C dX9_writeBinding_4 (by decide) (fun c4 => ?_) (fun c4 => ?_)
      · have h := (if_pos c4).symm.trans h
        cases h
        exact j_vret C hr hlk rfl dX9_writeBinding_59
      · have h := (if_neg c4).symm.trans h
        refine j_binds C wd1003 dX9_writeBinding_7 ?_
        refine j_aload_n C 0 rfl dX9_writeBinding_10 rfl ?_
        refine fg_X9_11_TC_25 C dX9_writeBinding_11 ?_
        refine j_aload_n C 0 rfl dX9_writeBinding_14 rfl ?_
        refine fg_X9_23_TC_25 C dX9_writeBinding_15 ?_
        refine j_iconst C dX9_writeBinding_18 ci_1 ?_
        refine j_isub C dX9_writeBinding_19 ?_
        refine lt_elim h (fun x5 e_x5 h => ?_)
        refine j_top e_x5 ?_
        obtain ⟨g6, h⟩ := gd_elim h
        refine j_iald C tc_26 (ib_in g6) dX9_writeBinding_20 ?_
        refine lt_elim h (fun x7 e_x7 h => ?_)
        refine j_top e_x7 ?_
        obtain ⟨g8, h⟩ := gd_elim h
        refine j_bnd C (ib_in g8) dX9_writeBinding_21 ?_
        refine j_iload_n C 1 rfl dX9_writeBinding_22 rfl ?_
        refine j_icmp_lt (tgt := 59) C dX9_writeBinding_23 (by decide) (fun c9 => ?_) (fun c9 => ?_)
        · have h := (if_pos c9).symm.trans h
          cases h
          exact j_vret C hr hlk rfl dX9_writeBinding_59
        · have h := (if_neg c9).symm.trans h
          refine j_aload_n C 0 rfl dX9_writeBinding_26 rfl ?_
          refine j_dup C dX9_writeBinding_27 rfl ?_
          refine fg_X9_23_TC_25 C dX9_writeBinding_28 ?_
          refine j_iconst C dX9_writeBinding_31 ci_1 ?_
          refine j_isub C dX9_writeBinding_32 ?_
          refine lt_elim h (fun x10 e_x10 h => ?_)
          refine j_top e_x10 ?_
          refine fp_X9_23_TC_25 C dX9_writeBinding_33 ?_
          refine lt_elim h (fun S11 e_S11 h => ?_)
          refine j_S e_S11 ?_
          refine j_aload_n C 0 rfl dX9_writeBinding_36 rfl ?_
          refine fg_X9_19_TC_25 C dX9_writeBinding_37 ?_
          refine j_sipush C dX9_writeBinding_40 cs_20000 ?_
          refine j_aload_n C 0 rfl dX9_writeBinding_43 rfl ?_
          refine fg_X9_11_TC_25 C dX9_writeBinding_44 ?_
          refine j_aload_n C 0 rfl dX9_writeBinding_47 rfl ?_
          refine fg_X9_23_TC_25 C dX9_writeBinding_48 ?_
          refine lt_elim h (fun x12 e_x12 h => ?_)
          refine j_top e_x12 ?_
          obtain ⟨g13, h⟩ := gd_elim h
          refine j_iald C tc_26 (ib_in g13) dX9_writeBinding_51 ?_
          refine j_iadd C dX9_writeBinding_52 ?_
          obtain ⟨S14, V15, h16, h⟩ := bd2_elim h
          refine j_callV (As := [.int ((20000 : Int32) + (V3 26 (x12).toNatClampNeg))]) (rest := []) C (kX2_addCode_12 l B D ad cA hI S11 V3 L (((20000 : Int32) + (V3 26 (x12).toNatClampNeg))) _ _ h16) mw_X2_addCode wd983 wd984 wd982 tc_12 rfl rfl ⟨rfl, rfl, by decide, by decide⟩ ⟨Nat.zero_le _, Nat.zero_le _⟩ rfl rfl (Nat.le_of_ble_eq_true rfl) dX9_writeBinding_53 ?_
          refine j_goto (tgt := 0) C dX9_writeBinding_56 (by decide) ?_
          exact j_sub [0, 1] rfl (ih _ _ _ h)
  exact j_sub [0, 1] rfl (H_fX9_writeBinding_25_L0 FU _ _ _ h)
theorem dX9_push_0 : decode cX9_push 0 = .ok (.aload_n 0, 1) := by decide +kernel
theorem dX9_push_1 : decode cX9_push 1 = .ok (.getfield 23, 3) := by decide +kernel
theorem dX9_push_4 : decode cX9_push 4 = .ok (.bipush 84, 2) := by decide +kernel
theorem dX9_push_6 : decode cX9_push 6 = .ok (.if_icmp .ge 23, 3) := by decide +kernel
theorem dX9_push_9 : decode cX9_push 9 = .ok (.aload_n 0, 1) := by decide +kernel
theorem dX9_push_10 : decode cX9_push 10 = .ok (.getfield 11, 3) := by decide +kernel
theorem dX9_push_13 : decode cX9_push 13 = .ok (.aload_n 0, 1) := by decide +kernel
theorem dX9_push_14 : decode cX9_push 14 = .ok (.getfield 23, 3) := by decide +kernel
theorem dX9_push_17 : decode cX9_push 17 = .ok (.iload_n 1, 1) := by decide +kernel
theorem dX9_push_18 : decode cX9_push 18 = .ok (.iastore, 1) := by decide +kernel
theorem dX9_push_19 : decode cX9_push 19 = .ok (.aload_n 0, 1) := by decide +kernel
theorem dX9_push_20 : decode cX9_push 20 = .ok (.dup, 1) := by decide +kernel
theorem dX9_push_21 : decode cX9_push 21 = .ok (.getfield 23, 3) := by decide +kernel
theorem dX9_push_24 : decode cX9_push 24 = .ok (.iconst 1, 1) := by decide +kernel
theorem dX9_push_25 : decode cX9_push 25 = .ok (.iadd, 1) := by decide +kernel
theorem dX9_push_26 : decode cX9_push 26 = .ok (.putfield 23, 3) := by decide +kernel
theorem dX9_push_29 : decode cX9_push 29 = .ok (.return_, 1) := by decide +kernel
def fX9_push_25 (S : Nat → Int32) (V : Nat → Nat → Int32) (a1 : Int32) : Option ((Nat → Int32) × (Nat → Nat → Int32)) :=
  (if (84 : Int32) ≤ (S 2503) then
  some (S, V)
  else
  lt ((S 2503)) (fun x2 =>
  gd (ib x2 84) (
  lt (va_up V 26 (upd (V 26) (x2).toNatClampNeg a1)) (fun V4 =>
  lt (((S 2503) + (1 : Int32))) (fun x5 =>
  lt (va_up S 2503 x5) (fun S6 =>
  some (S6, V4)))))))
set_option maxHeartbeats 4000000 in
set_option maxRecDepth 100000 in
theorem kX9_push_25 (l : Launch) (B : jBT) (D : va_G) (ad : Nat → Nat) (cA : Nat → ClassId) (hI : jI ad TC) (S : Nat → Int32) (V : Nat → Nat → Int32) (L : Nat → Int64) (a1 : Int32) (S0 : Nat → Int32) (V0 : Nat → Nat → Int32) (h : fX9_push_25 S V a1 = some (S0, V0)) : jM l yX9_push cX9_push 2 none ({ frames := 0, cells := 0, slots := 0, locals := 0 }) B D TC ad cA [.ref (ad 25), .int a1] S V L none S0 V0 L := by
  refine jM_of (plainFor_of_name (by decide)) TC_ok hI (Nat.le_of_ble_eq_true rfl) ?_
  intro p e s m args below meth c C hr hlk
  refine j_lv (lv2 := [(0, .ref (ad 25)), (1, .int a1)]) rfl ?_
  unfold fX9_push_25 at h
  refine j_aload_n C 0 rfl dX9_push_0 rfl ?_
  refine fg_X9_23_TC_25 C dX9_push_1 ?_
  refine j_bipush C dX9_push_4 cb_84 ?_
  refine j_icmp_ge (tgt := 29) C dX9_push_6 (by decide) (fun c1 => ?_) (fun c1 => ?_)
  · have h := (if_pos c1).symm.trans h
    cases h
    exact j_vret C hr hlk rfl dX9_push_29
  · have h := (if_neg c1).symm.trans h
    refine j_aload_n C 0 rfl dX9_push_9 rfl ?_
    refine fg_X9_11_TC_25 C dX9_push_10 ?_
    refine j_aload_n C 0 rfl dX9_push_13 rfl ?_
    refine fg_X9_23_TC_25 C dX9_push_14 ?_
    refine j_iload_n C 1 rfl dX9_push_17 rfl ?_
    refine lt_elim h (fun x2 e_x2 h => ?_)
    refine j_top2 e_x2 ?_
    obtain ⟨g3, h⟩ := gd_elim h
    refine j_iast C tc_26 (ib_in g3) dX9_push_18 ?_
    refine lt_elim h (fun V4 e_V4 h => ?_)
    refine j_V e_V4 ?_
    refine j_aload_n C 0 rfl dX9_push_19 rfl ?_
    refine j_dup C dX9_push_20 rfl ?_
    refine fg_X9_23_TC_25 C dX9_push_21 ?_
    refine j_iconst C dX9_push_24 ci_1 ?_
    refine j_iadd C dX9_push_25 ?_
    refine lt_elim h (fun x5 e_x5 h => ?_)
    refine j_top e_x5 ?_
    refine fp_X9_23_TC_25 C dX9_push_26 ?_
    refine lt_elim h (fun S6 e_S6 h => ?_)
    refine j_S e_S6 ?_
    cases h
    exact j_vret C hr hlk rfl dX9_push_29
theorem dX9_readOperator_0 : decode cX9_readOperator 0 = .ok (.aload_n 0, 1) := by decide +kernel
theorem dX9_readOperator_1 : decode cX9_readOperator 1 = .ok (.invokevirtual 92, 3) := by decide +kernel
theorem dX9_readOperator_4 : decode cX9_readOperator 4 = .ok (.istore_n 1, 1) := by decide +kernel
theorem dX9_readOperator_5 : decode cX9_readOperator 5 = .ok (.iload_n 1, 1) := by decide +kernel
theorem dX9_readOperator_6 : decode cX9_readOperator 6 = .ok (.iconst (-1), 1) := by decide +kernel
theorem dX9_readOperator_7 : decode cX9_readOperator 7 = .ok (.if_icmp .ne 5, 3) := by decide +kernel
theorem dX9_readOperator_10 : decode cX9_readOperator 10 = .ok (.iconst 1, 1) := by decide +kernel
theorem dX9_readOperator_11 : decode cX9_readOperator 11 = .ok (.ireturn, 1) := by decide +kernel
theorem dX9_readOperator_12 : decode cX9_readOperator 12 = .ok (.getstatic 95, 3) := by decide +kernel
theorem dX9_readOperator_15 : decode cX9_readOperator 15 = .ok (.iload_n 1, 1) := by decide +kernel
theorem dX9_readOperator_16 : decode cX9_readOperator 16 = .ok (.iaload, 1) := by decide +kernel
theorem dX9_readOperator_17 : decode cX9_readOperator 17 = .ok (.iconst 4, 1) := by decide +kernel
theorem dX9_readOperator_18 : decode cX9_readOperator 18 = .ok (.if_icmp .ne 36, 3) := by decide +kernel
theorem dX9_readOperator_21 : decode cX9_readOperator 21 = .ok (.aload_n 0, 1) := by decide +kernel
theorem dX9_readOperator_22 : decode cX9_readOperator 22 = .ok (.iconst 5, 1) := by decide +kernel
theorem dX9_readOperator_23 : decode cX9_readOperator 23 = .ok (.invokevirtual 47, 3) := by decide +kernel
theorem dX9_readOperator_26 : decode cX9_readOperator 26 = .ok (.aload_n 0, 1) := by decide +kernel
theorem dX9_readOperator_27 : decode cX9_readOperator 27 = .ok (.getfield 23, 3) := by decide +kernel
theorem dX9_readOperator_30 : decode cX9_readOperator 30 = .ok (.ifCond .le 24, 3) := by decide +kernel
theorem dX9_readOperator_33 : decode cX9_readOperator 33 = .ok (.getstatic 95, 3) := by decide +kernel
theorem dX9_readOperator_36 : decode cX9_readOperator 36 = .ok (.aload_n 0, 1) := by decide +kernel
theorem dX9_readOperator_37 : decode cX9_readOperator 37 = .ok (.getfield 11, 3) := by decide +kernel
theorem dX9_readOperator_40 : decode cX9_readOperator 40 = .ok (.aload_n 0, 1) := by decide +kernel
theorem dX9_readOperator_41 : decode cX9_readOperator 41 = .ok (.getfield 23, 3) := by decide +kernel
theorem dX9_readOperator_44 : decode cX9_readOperator 44 = .ok (.iconst 1, 1) := by decide +kernel
theorem dX9_readOperator_45 : decode cX9_readOperator 45 = .ok (.isub, 1) := by decide +kernel
theorem dX9_readOperator_46 : decode cX9_readOperator 46 = .ok (.iaload, 1) := by decide +kernel
theorem dX9_readOperator_47 : decode cX9_readOperator 47 = .ok (.iaload, 1) := by decide +kernel
theorem dX9_readOperator_48 : decode cX9_readOperator 48 = .ok (.iconst 4, 1) := by decide +kernel
theorem dX9_readOperator_49 : decode cX9_readOperator 49 = .ok (.if_icmp .ne 5, 3) := by decide +kernel
theorem dX9_readOperator_52 : decode cX9_readOperator 52 = .ok (.iconst 1, 1) := by decide +kernel
theorem dX9_readOperator_53 : decode cX9_readOperator 53 = .ok (.ireturn, 1) := by decide +kernel
theorem dX9_readOperator_54 : decode cX9_readOperator 54 = .ok (.aload_n 0, 1) := by decide +kernel
theorem dX9_readOperator_55 : decode cX9_readOperator 55 = .ok (.getstatic 95, 3) := by decide +kernel
theorem dX9_readOperator_58 : decode cX9_readOperator 58 = .ok (.iload_n 1, 1) := by decide +kernel
theorem dX9_readOperator_59 : decode cX9_readOperator 59 = .ok (.iaload, 1) := by decide +kernel
theorem dX9_readOperator_60 : decode cX9_readOperator 60 = .ok (.invokevirtual 47, 3) := by decide +kernel
theorem dX9_readOperator_63 : decode cX9_readOperator 63 = .ok (.aload_n 0, 1) := by decide +kernel
theorem dX9_readOperator_64 : decode cX9_readOperator 64 = .ok (.iload_n 1, 1) := by decide +kernel
theorem dX9_readOperator_65 : decode cX9_readOperator 65 = .ok (.invokevirtual 78, 3) := by decide +kernel
theorem dX9_readOperator_68 : decode cX9_readOperator 68 = .ok (.aload_n 0, 1) := by decide +kernel
theorem dX9_readOperator_69 : decode cX9_readOperator 69 = .ok (.iload_n 1, 1) := by decide +kernel
theorem dX9_readOperator_70 : decode cX9_readOperator 70 = .ok (.iconst 1, 1) := by decide +kernel
theorem dX9_readOperator_71 : decode cX9_readOperator 71 = .ok (.if_icmp .eq 8, 3) := by decide +kernel
theorem dX9_readOperator_74 : decode cX9_readOperator 74 = .ok (.iload_n 1, 1) := by decide +kernel
theorem dX9_readOperator_75 : decode cX9_readOperator 75 = .ok (.iconst 2, 1) := by decide +kernel
theorem dX9_readOperator_76 : decode cX9_readOperator 76 = .ok (.if_icmp .ne 7, 3) := by decide +kernel
theorem dX9_readOperator_79 : decode cX9_readOperator 79 = .ok (.iconst 1, 1) := by decide +kernel
theorem dX9_readOperator_80 : decode cX9_readOperator 80 = .ok (.goto 4, 3) := by decide +kernel
theorem dX9_readOperator_83 : decode cX9_readOperator 83 = .ok (.iconst 0, 1) := by decide +kernel
theorem dX9_readOperator_84 : decode cX9_readOperator 84 = .ok (.invokevirtual 30, 3) := by decide +kernel
theorem dX9_readOperator_87 : decode cX9_readOperator 87 = .ok (.aload_n 0, 1) := by decide +kernel
theorem dX9_readOperator_88 : decode cX9_readOperator 88 = .ok (.getfield 15, 3) := by decide +kernel
theorem dX9_readOperator_91 : decode cX9_readOperator 91 = .ok (.invokevirtual 81, 3) := by decide +kernel
theorem dX9_readOperator_94 : decode cX9_readOperator 94 = .ok (.iconst 0, 1) := by decide +kernel
theorem dX9_readOperator_95 : decode cX9_readOperator 95 = .ok (.ireturn, 1) := by decide +kernel
def fX9_readOperator_25 (S : Nat → Int32) (V : Nat → Nat → Int32) : Option (Int32 × (Nat → Int32) × (Nat → Nat → Int32)) :=
  bd1 (fX9_operatorTold_25 S V) (fun r1 =>
  (if r1 = (-1 : Int32) then
  some ((1 : Int32), S, V)
  else
  gd (ib r1 10) (
  bk (fun (x6 : Int32) (S7 : Nat → Int32) (V8 : Nat → Nat → Int32) =>
  gd (ib x6 10) (
  bd2 (fX9_writeBinding_25 S7 V8 ((bnd (x6).toNatClampNeg))) (fun S10 V11 =>
  bd2 (fX9_push_25 S10 V11 x6) (fun S13 V14 =>
  bk (fun (x17 : Int32) (S18 : Nat → Int32) (V19 : Nat → Nat → Int32) =>
  bd1 (fX9_wantPart_25 S18 x17) (fun S20 =>
  bd1 (fX10_advance_20 S20 V19) (fun S22 =>
  some ((0 : Int32), S22, V19)))) (fun K84_16 =>
  bk (fun (S25 : Nat → Int32) (V26 : Nat → Nat → Int32) =>
  K84_16 (1 : Int32) S25 V26) (fun K79_24 =>
  (if x6 = (1 : Int32) then
  K79_24 S13 V14
  else
  (if x6 = (2 : Int32) then
  K79_24 S13 V14
  else
  K84_16 (0 : Int32) S13 V14)))))))) (fun K54_5 =>
  (if (bnd (r1).toNatClampNeg) = (4 : Int32) then
  bd2 (fX9_writeBinding_25 S V (5 : Int32)) (fun S30 V31 =>
  (if (S30 2503) ≤ 0 then
  K54_5 r1 S30 V31
  else
  lt (((S30 2503) - (1 : Int32))) (fun x34 =>
  gd (ib x34 84) (
  lt ((V31 26 (x34).toNatClampNeg)) (fun x36 =>
  gd (ib x36 10) (
  (if (bnd (x36).toNatClampNeg) = (4 : Int32) then
  some ((1 : Int32), S30, V31)
  else
  K54_5 r1 S30 V31)))))))
  else
  K54_5 r1 S V)))))
set_option maxHeartbeats 4000000 in
set_option maxRecDepth 100000 in
theorem kX9_readOperator_25 (l : Launch) (B : jBT) (D : va_G) (ad : Nat → Nat) (cA : Nat → ClassId) (hI : jI ad TC) (S : Nat → Int32) (V : Nat → Nat → Int32) (L : Nat → Int64) (r0 : Int32) (S0 : Nat → Int32) (V0 : Nat → Nat → Int32) (h : fX9_readOperator_25 S V = some (r0, S0, V0)) : jM l yX9_readOperator cX9_readOperator 2 (some .int) ({ frames := 2, cells := 0, slots := 0, locals := 42 }) B D TC ad cA [.ref (ad 25)] S V L (some (.int r0)) S0 V0 L := by
  refine jM_of (plainFor_of_name (by decide)) TC_ok hI (Nat.le_of_ble_eq_true rfl) ?_
  intro p e s m args below meth c C hr hlk
  refine j_lv (lv2 := [(0, .ref (ad 25))]) rfl ?_
  unfold fX9_readOperator_25 at h
  refine j_aload_n C 0 rfl dX9_readOperator_0 rfl ?_
  obtain ⟨r1, h2, h⟩ := bd1_elim h
  refine j_callV (As := []) (rest := []) C (kX9_operatorTold_25 l B D ad cA hI S V L _ h2) mw_X9_operatorTold wd1015 wd34 wd1013 tc_25 rfl rfl ⟨rfl, rfl, by decide, by decide⟩ ⟨Nat.zero_le _, Nat.zero_le _⟩ rfl rfl (Nat.le_of_ble_eq_true rfl) dX9_readOperator_1 ?_
  refine j_istore_n C [(1, .int r1), (0, .ref (ad 25))] dX9_readOperator_4 rfl (by decide) rfl ?_
  refine j_iload_n C 0 rfl dX9_readOperator_5 rfl ?_
  refine j_iconst C dX9_readOperator_6 ci_m1 ?_
  refine j_icmp_ne (tgt := 12) C dX9_readOperator_7 (by decide) (fun c3 => ?_) (fun c3 => ?_)
  · have h := (if_neg c3).symm.trans h
    refine j_binds C wd1003 dX9_readOperator_12 ?_
    refine j_iload_n C 0 rfl dX9_readOperator_15 rfl ?_
    obtain ⟨g4, h⟩ := gd_elim h
    refine j_bnd C (ib_in g4) dX9_readOperator_16 ?_
    refine j_iconst C dX9_readOperator_17 ci_4 ?_
    refine bk_elim h (fun K54_5 e_K54_5 h => ?_)
    have HK54_5 : ∀ (x6 : Int32) (S7 : Nat → Int32) (V8 : Nat → Nat → Int32), K54_5 x6 S7 V8 = some (r0, S0, V0) → jW p l e ({ frames := 2, cells := 0, slots := 0, locals := 42 }) s m args below meth c (MQ below (jQc D TC ad cA (some (.int r0)) s.heap.size S0 V0 L) args s 0 0 (jA ad TC s.heap.size)) D TC ad cA (jA ad TC s.heap.size) 2 0 0 54 [(0, .ref (ad 25)), (1, .int x6)] [] S7 V8 L := by
      subst e_K54_5
      intro x6 S7 V8 h
      refine j_aload_n C 0 rfl dX9_readOperator_54 rfl ?_
      refine j_binds C wd1003 dX9_readOperator_55 ?_
      refine j_iload_n C 1 rfl dX9_readOperator_58 rfl ?_
      obtain ⟨g9, h⟩ := gd_elim h
      refine j_bnd C (ib_in g9) dX9_readOperator_59 ?_
      obtain ⟨S10, V11, h12, h⟩ := bd2_elim h
      refine j_callV (As := [.int (bnd (x6).toNatClampNeg)]) (rest := []) C (kX9_writeBinding_25 l B D ad cA hI S7 V8 L ((bnd (x6).toNatClampNeg)) _ _ h12) mw_X9_writeBinding wd1001 wd31 wd999 tc_25 rfl rfl ⟨rfl, rfl, by decide, by decide⟩ ⟨Nat.zero_le _, Nat.zero_le _⟩ rfl rfl (Nat.le_of_ble_eq_true rfl) dX9_readOperator_60 ?_
      refine j_aload_n C 0 rfl dX9_readOperator_63 rfl ?_
      refine j_iload_n C 1 rfl dX9_readOperator_64 rfl ?_
      obtain ⟨S13, V14, h15, h⟩ := bd2_elim h
      refine j_callV (As := [.int x6]) (rest := []) C (kX9_push_25 l B D ad cA hI S10 V11 L x6 _ _ h15) mw_X9_push wd993 wd29 wd991 tc_25 rfl rfl ⟨rfl, rfl, by decide, by decide⟩ ⟨Nat.zero_le _, Nat.zero_le _⟩ rfl rfl (Nat.le_of_ble_eq_true rfl) dX9_readOperator_65 ?_
      refine j_aload_n C 0 rfl dX9_readOperator_68 rfl ?_
      refine j_iload_n C 1 rfl dX9_readOperator_69 rfl ?_
      refine j_iconst C dX9_readOperator_70 ci_1 ?_
      refine bk_elim h (fun K84_16 e_K84_16 h => ?_)
      have HK84_16 : ∀ (x17 : Int32) (S18 : Nat → Int32) (V19 : Nat → Nat → Int32), K84_16 x17 S18 V19 = some (r0, S0, V0) → jW p l e ({ frames := 2, cells := 0, slots := 0, locals := 42 }) s m args below meth c (MQ below (jQc D TC ad cA (some (.int r0)) s.heap.size S0 V0 L) args s 0 0 (jA ad TC s.heap.size)) D TC ad cA (jA ad TC s.heap.size) 2 0 0 84 [(0, .ref (ad 25))] [.int x17, .ref (ad 25)] S18 V19 L := by
        subst e_K84_16
        intro x17 S18 V19 h
        obtain ⟨S20, h21, h⟩ := bd1_elim h
        refine j_callV (As := [.int x17]) (rest := []) C (kX9_wantPart_25 l B D ad cA hI S18 V19 L x17 _ h21) mw_X9_wantPart wd966 wd25 wd964 tc_25 rfl rfl ⟨rfl, rfl, by decide, by decide⟩ ⟨Nat.zero_le _, Nat.zero_le _⟩ rfl rfl (Nat.le_of_ble_eq_true rfl) dX9_readOperator_84 ?_
        refine j_aload_n C 0 rfl dX9_readOperator_87 rfl ?_
        refine fg_X9_15_TC_25 C dX9_readOperator_88 ?_
        obtain ⟨S22, h23, h⟩ := bd1_elim h
        refine j_callV (As := []) (rest := []) C (kX10_advance_20 l B D ad cA hI S20 V19 L _ h23) mw_X10_advance wd923 wd924 wd986 tc_20 rfl rfl ⟨rfl, rfl, by decide, by decide⟩ ⟨Nat.zero_le _, Nat.zero_le _⟩ rfl rfl (Nat.le_of_ble_eq_true rfl) dX9_readOperator_91 ?_
        refine j_iconst C dX9_readOperator_94 ci_0 ?_
        cases h
        exact j_iret C hr hlk rfl dX9_readOperator_95
      refine bk_elim h (fun K79_24 e_K79_24 h => ?_)
      have HK79_24 : ∀ (S25 : Nat → Int32) (V26 : Nat → Nat → Int32), K79_24 S25 V26 = some (r0, S0, V0) → jW p l e ({ frames := 2, cells := 0, slots := 0, locals := 42 }) s m args below meth c (MQ below (jQc D TC ad cA (some (.int r0)) s.heap.size S0 V0 L) args s 0 0 (jA ad TC s.heap.size)) D TC ad cA (jA ad TC s.heap.size) 2 0 0 79 [(0, .ref (ad 25))] [.ref (ad 25)] S25 V26 L := by
        subst e_K79_24
        intro S25 V26 h
        refine j_iconst C dX9_readOperator_79 ci_1 ?_
        refine j_goto (tgt := 84) C dX9_readOperator_80 (by decide) ?_
        exact j_sub [0] rfl (HK84_16 _ _ _ h)
      refine j_icmp_eq (tgt := 79) C dX9_readOperator_71 (by decide) (fun c27 => ?_) (fun c27 => ?_)
      · have h := (if_pos c27).symm.trans h
        exact j_sub [0] rfl (HK79_24 _ _ h)
      · have h := (if_neg c27).symm.trans h
        refine j_iload_n C 1 rfl dX9_readOperator_74 rfl ?_
        refine j_iconst C dX9_readOperator_75 ci_2 ?_
        refine j_icmp_ne (tgt := 83) C dX9_readOperator_76 (by decide) (fun c28 => ?_) (fun c28 => ?_)
        · have h := (if_neg c28).symm.trans h
          refine j_iconst C dX9_readOperator_83 ci_0 ?_
          exact j_sub [0] rfl (HK84_16 _ _ _ h)
        · have h := (if_pos c28).symm.trans h
          exact j_sub [0] rfl (HK79_24 _ _ h)
    refine j_icmp_ne (tgt := 54) C dX9_readOperator_18 (by decide) (fun c29 => ?_) (fun c29 => ?_)
    · have h := (if_neg c29).symm.trans h
      exact j_sub [1, 0] rfl (HK54_5 _ _ _ h)
    · have h := (if_pos c29).symm.trans h
      refine j_aload_n C 1 rfl dX9_readOperator_21 rfl ?_
      refine j_iconst C dX9_readOperator_22 ci_5 ?_
      obtain ⟨S30, V31, h32, h⟩ := bd2_elim h
      refine j_callV (As := [.int (5 : Int32)]) (rest := []) C (kX9_writeBinding_25 l B D ad cA hI S V L (5 : Int32) _ _ h32) mw_X9_writeBinding wd1001 wd31 wd999 tc_25 rfl rfl ⟨rfl, rfl, by decide, by decide⟩ ⟨Nat.zero_le _, Nat.zero_le _⟩ rfl rfl (Nat.le_of_ble_eq_true rfl) dX9_readOperator_23 ?_
      refine j_aload_n C 1 rfl dX9_readOperator_26 rfl ?_
      refine fg_X9_23_TC_25 C dX9_readOperator_27 ?_
      refine j_if_le (tgt := 54) C dX9_readOperator_30 (by decide) (fun c33 => ?_) (fun c33 => ?_)
      · have h := (if_pos c33).symm.trans h
        exact j_sub [1, 0] rfl (HK54_5 _ _ _ h)
      · have h := (if_neg c33).symm.trans h
        refine j_binds C wd1003 dX9_readOperator_33 ?_
        refine j_aload_n C 1 rfl dX9_readOperator_36 rfl ?_
        refine fg_X9_11_TC_25 C dX9_readOperator_37 ?_
        refine j_aload_n C 1 rfl dX9_readOperator_40 rfl ?_
        refine fg_X9_23_TC_25 C dX9_readOperator_41 ?_
        refine j_iconst C dX9_readOperator_44 ci_1 ?_
        refine j_isub C dX9_readOperator_45 ?_
        refine lt_elim h (fun x34 e_x34 h => ?_)
        refine j_top e_x34 ?_
        obtain ⟨g35, h⟩ := gd_elim h
        refine j_iald C tc_26 (ib_in g35) dX9_readOperator_46 ?_
        refine lt_elim h (fun x36 e_x36 h => ?_)
        refine j_top e_x36 ?_
        obtain ⟨g37, h⟩ := gd_elim h
        refine j_bnd C (ib_in g37) dX9_readOperator_47 ?_
        refine j_iconst C dX9_readOperator_48 ci_4 ?_
        refine j_icmp_ne (tgt := 54) C dX9_readOperator_49 (by decide) (fun c38 => ?_) (fun c38 => ?_)
        · have h := (if_neg c38).symm.trans h
          exact j_sub [1, 0] rfl (HK54_5 _ _ _ h)
        · have h := (if_pos c38).symm.trans h
          refine j_iconst C dX9_readOperator_52 ci_1 ?_
          cases h
          exact j_iret C hr hlk rfl dX9_readOperator_53
  · have h := (if_pos c3).symm.trans h
    refine j_iconst C dX9_readOperator_10 ci_1 ?_
    cases h
    exact j_iret C hr hlk rfl dX9_readOperator_11
theorem dX9_readClose_0 : decode cX9_readClose 0 = .ok (.aload_n 0, 1) := by decide +kernel
theorem dX9_readClose_1 : decode cX9_readClose 1 = .ok (.getfield 27, 3) := by decide +kernel
theorem dX9_readClose_4 : decode cX9_readClose 4 = .ok (.ifCond .ne 5, 3) := by decide +kernel
theorem dX9_readClose_7 : decode cX9_readClose 7 = .ok (.iconst 1, 1) := by decide +kernel
theorem dX9_readClose_8 : decode cX9_readClose 8 = .ok (.ireturn, 1) := by decide +kernel
theorem dX9_readClose_9 : decode cX9_readClose 9 = .ok (.aload_n 0, 1) := by decide +kernel
theorem dX9_readClose_10 : decode cX9_readClose 10 = .ok (.iconst 1, 1) := by decide +kernel
theorem dX9_readClose_11 : decode cX9_readClose 11 = .ok (.invokevirtual 47, 3) := by decide +kernel
theorem dX9_readClose_14 : decode cX9_readClose 14 = .ok (.aload_n 0, 1) := by decide +kernel
theorem dX9_readClose_15 : decode cX9_readClose 15 = .ok (.getfield 23, 3) := by decide +kernel
theorem dX9_readClose_18 : decode cX9_readClose 18 = .ok (.ifCond .le 13, 3) := by decide +kernel
theorem dX9_readClose_21 : decode cX9_readClose 21 = .ok (.aload_n 0, 1) := by decide +kernel
theorem dX9_readClose_22 : decode cX9_readClose 22 = .ok (.dup, 1) := by decide +kernel
theorem dX9_readClose_23 : decode cX9_readClose 23 = .ok (.getfield 23, 3) := by decide +kernel
theorem dX9_readClose_26 : decode cX9_readClose 26 = .ok (.iconst 1, 1) := by decide +kernel
theorem dX9_readClose_27 : decode cX9_readClose 27 = .ok (.isub, 1) := by decide +kernel
theorem dX9_readClose_28 : decode cX9_readClose 28 = .ok (.putfield 23, 3) := by decide +kernel
theorem dX9_readClose_31 : decode cX9_readClose 31 = .ok (.aload_n 0, 1) := by decide +kernel
theorem dX9_readClose_32 : decode cX9_readClose 32 = .ok (.dup, 1) := by decide +kernel
theorem dX9_readClose_33 : decode cX9_readClose 33 = .ok (.getfield 27, 3) := by decide +kernel
theorem dX9_readClose_36 : decode cX9_readClose 36 = .ok (.iconst 1, 1) := by decide +kernel
theorem dX9_readClose_37 : decode cX9_readClose 37 = .ok (.isub, 1) := by decide +kernel
theorem dX9_readClose_38 : decode cX9_readClose 38 = .ok (.putfield 27, 3) := by decide +kernel
theorem dX9_readClose_41 : decode cX9_readClose 41 = .ok (.aload_n 0, 1) := by decide +kernel
theorem dX9_readClose_42 : decode cX9_readClose 42 = .ok (.getfield 15, 3) := by decide +kernel
theorem dX9_readClose_45 : decode cX9_readClose 45 = .ok (.invokevirtual 81, 3) := by decide +kernel
theorem dX9_readClose_48 : decode cX9_readClose 48 = .ok (.iconst 0, 1) := by decide +kernel
theorem dX9_readClose_49 : decode cX9_readClose 49 = .ok (.ireturn, 1) := by decide +kernel
def fX9_readClose_25 (S : Nat → Int32) (V : Nat → Nat → Int32) : Option (Int32 × (Nat → Int32) × (Nat → Nat → Int32)) :=
  (if (S 2504) = 0 then
  some ((1 : Int32), S, V)
  else
  bd2 (fX9_writeBinding_25 S V (1 : Int32)) (fun S2 V3 =>
  bk (fun (S6 : Nat → Int32) (V7 : Nat → Nat → Int32) =>
  lt (((S6 2504) - (1 : Int32))) (fun x8 =>
  lt (va_up S6 2504 x8) (fun S9 =>
  bd1 (fX10_advance_20 S9 V7) (fun S10 =>
  some ((0 : Int32), S10, V7))))) (fun K31_5 =>
  (if (S2 2503) ≤ 0 then
  K31_5 S2 V3
  else
  lt (((S2 2503) - (1 : Int32))) (fun x13 =>
  lt (va_up S2 2503 x13) (fun S14 =>
  K31_5 S14 V3))))))
set_option maxHeartbeats 4000000 in
set_option maxRecDepth 100000 in
theorem kX9_readClose_25 (l : Launch) (B : jBT) (D : va_G) (ad : Nat → Nat) (cA : Nat → ClassId) (hI : jI ad TC) (S : Nat → Int32) (V : Nat → Nat → Int32) (L : Nat → Int64) (r0 : Int32) (S0 : Nat → Int32) (V0 : Nat → Nat → Int32) (h : fX9_readClose_25 S V = some (r0, S0, V0)) : jM l yX9_readClose cX9_readClose 1 (some .int) ({ frames := 2, cells := 0, slots := 0, locals := 42 }) B D TC ad cA [.ref (ad 25)] S V L (some (.int r0)) S0 V0 L := by
  refine jM_of (plainFor_of_name (by decide)) TC_ok hI (Nat.le_of_ble_eq_true rfl) ?_
  intro p e s m args below meth c C hr hlk
  refine j_lv (lv2 := [(0, .ref (ad 25))]) rfl ?_
  unfold fX9_readClose_25 at h
  refine j_aload_n C 0 rfl dX9_readClose_0 rfl ?_
  refine fg_X9_27_TC_25 C dX9_readClose_1 ?_
  refine j_if_ne (tgt := 9) C dX9_readClose_4 (by decide) (fun c1 => ?_) (fun c1 => ?_)
  · have h := (if_neg c1).symm.trans h
    refine j_aload_n C 0 rfl dX9_readClose_9 rfl ?_
    refine j_iconst C dX9_readClose_10 ci_1 ?_
    obtain ⟨S2, V3, h4, h⟩ := bd2_elim h
    refine j_callV (As := [.int (1 : Int32)]) (rest := []) C (kX9_writeBinding_25 l B D ad cA hI S V L (1 : Int32) _ _ h4) mw_X9_writeBinding wd1001 wd31 wd999 tc_25 rfl rfl ⟨rfl, rfl, by decide, by decide⟩ ⟨Nat.zero_le _, Nat.zero_le _⟩ rfl rfl (Nat.le_of_ble_eq_true rfl) dX9_readClose_11 ?_
    refine j_aload_n C 0 rfl dX9_readClose_14 rfl ?_
    refine fg_X9_23_TC_25 C dX9_readClose_15 ?_
    refine bk_elim h (fun K31_5 e_K31_5 h => ?_)
    have HK31_5 : ∀ (S6 : Nat → Int32) (V7 : Nat → Nat → Int32), K31_5 S6 V7 = some (r0, S0, V0) → jW p l e ({ frames := 2, cells := 0, slots := 0, locals := 42 }) s m args below meth c (MQ below (jQc D TC ad cA (some (.int r0)) s.heap.size S0 V0 L) args s 0 0 (jA ad TC s.heap.size)) D TC ad cA (jA ad TC s.heap.size) 1 0 0 31 [(0, .ref (ad 25))] [] S6 V7 L := by
      subst e_K31_5
      intro S6 V7 h
      refine j_aload_n C 0 rfl dX9_readClose_31 rfl ?_
      refine j_dup C dX9_readClose_32 rfl ?_
      refine fg_X9_27_TC_25 C dX9_readClose_33 ?_
      refine j_iconst C dX9_readClose_36 ci_1 ?_
      refine j_isub C dX9_readClose_37 ?_
      refine lt_elim h (fun x8 e_x8 h => ?_)
      refine j_top e_x8 ?_
      refine fp_X9_27_TC_25 C dX9_readClose_38 ?_
      refine lt_elim h (fun S9 e_S9 h => ?_)
      refine j_S e_S9 ?_
      refine j_aload_n C 0 rfl dX9_readClose_41 rfl ?_
      refine fg_X9_15_TC_25 C dX9_readClose_42 ?_
      obtain ⟨S10, h11, h⟩ := bd1_elim h
      refine j_callV (As := []) (rest := []) C (kX10_advance_20 l B D ad cA hI S9 V7 L _ h11) mw_X10_advance wd923 wd924 wd986 tc_20 rfl rfl ⟨rfl, rfl, by decide, by decide⟩ ⟨Nat.zero_le _, Nat.zero_le _⟩ rfl rfl (Nat.le_of_ble_eq_true rfl) dX9_readClose_45 ?_
      refine j_iconst C dX9_readClose_48 ci_0 ?_
      cases h
      exact j_iret C hr hlk rfl dX9_readClose_49
    refine j_if_le (tgt := 31) C dX9_readClose_18 (by decide) (fun c12 => ?_) (fun c12 => ?_)
    · have h := (if_pos c12).symm.trans h
      exact j_sub [0] rfl (HK31_5 _ _ h)
    · have h := (if_neg c12).symm.trans h
      refine j_aload_n C 0 rfl dX9_readClose_21 rfl ?_
      refine j_dup C dX9_readClose_22 rfl ?_
      refine fg_X9_23_TC_25 C dX9_readClose_23 ?_
      refine j_iconst C dX9_readClose_26 ci_1 ?_
      refine j_isub C dX9_readClose_27 ?_
      refine lt_elim h (fun x13 e_x13 h => ?_)
      refine j_top e_x13 ?_
      refine fp_X9_23_TC_25 C dX9_readClose_28 ?_
      refine lt_elim h (fun S14 e_S14 h => ?_)
      refine j_S e_S14 ?_
      exact j_sub [0] rfl (HK31_5 _ _ h)
  · have h := (if_pos c1).symm.trans h
    refine j_iconst C dX9_readClose_7 ci_1 ?_
    cases h
    exact j_iret C hr hlk rfl dX9_readClose_8
theorem dX9_readValue_0 : decode cX9_readValue 0 = .ok (.aload_n 0, 1) := by decide +kernel
theorem dX9_readValue_1 : decode cX9_readValue 1 = .ok (.getfield 15, 3) := by decide +kernel
theorem dX9_readValue_4 : decode cX9_readValue 4 = .ok (.invokevirtual 42, 3) := by decide +kernel
theorem dX9_readValue_7 : decode cX9_readValue 7 = .ok (.bipush 113, 2) := by decide +kernel
theorem dX9_readValue_9 : decode cX9_readValue 9 = .ok (.if_icmp .lt 15, 3) := by decide +kernel
theorem dX9_readValue_12 : decode cX9_readValue 12 = .ok (.aload_n 0, 1) := by decide +kernel
theorem dX9_readValue_13 : decode cX9_readValue 13 = .ok (.getfield 15, 3) := by decide +kernel
theorem dX9_readValue_16 : decode cX9_readValue 16 = .ok (.invokevirtual 42, 3) := by decide +kernel
theorem dX9_readValue_19 : decode cX9_readValue 19 = .ok (.bipush 118, 2) := by decide +kernel
theorem dX9_readValue_21 : decode cX9_readValue 21 = .ok (.if_icmp .le 5, 3) := by decide +kernel
theorem dX9_readValue_24 : decode cX9_readValue 24 = .ok (.iconst 3, 1) := by decide +kernel
theorem dX9_readValue_25 : decode cX9_readValue 25 = .ok (.ireturn, 1) := by decide +kernel
theorem dX9_readValue_26 : decode cX9_readValue 26 = .ok (.aload_n 0, 1) := by decide +kernel
theorem dX9_readValue_27 : decode cX9_readValue 27 = .ok (.getfield 19, 3) := by decide +kernel
theorem dX9_readValue_30 : decode cX9_readValue 30 = .ok (.sipush 10000, 3) := by decide +kernel
theorem dX9_readValue_33 : decode cX9_readValue 33 = .ok (.aload_n 0, 1) := by decide +kernel
theorem dX9_readValue_34 : decode cX9_readValue 34 = .ok (.getfield 15, 3) := by decide +kernel
theorem dX9_readValue_37 : decode cX9_readValue 37 = .ok (.invokevirtual 42, 3) := by decide +kernel
theorem dX9_readValue_40 : decode cX9_readValue 40 = .ok (.iadd, 1) := by decide +kernel
theorem dX9_readValue_41 : decode cX9_readValue 41 = .ok (.bipush 113, 2) := by decide +kernel
theorem dX9_readValue_43 : decode cX9_readValue 43 = .ok (.isub, 1) := by decide +kernel
theorem dX9_readValue_44 : decode cX9_readValue 44 = .ok (.invokevirtual 87, 3) := by decide +kernel
theorem dX9_readValue_47 : decode cX9_readValue 47 = .ok (.aload_n 0, 1) := by decide +kernel
theorem dX9_readValue_48 : decode cX9_readValue 48 = .ok (.iconst 0, 1) := by decide +kernel
theorem dX9_readValue_49 : decode cX9_readValue 49 = .ok (.putfield 34, 3) := by decide +kernel
theorem dX9_readValue_52 : decode cX9_readValue 52 = .ok (.aload_n 0, 1) := by decide +kernel
theorem dX9_readValue_53 : decode cX9_readValue 53 = .ok (.getfield 15, 3) := by decide +kernel
theorem dX9_readValue_56 : decode cX9_readValue 56 = .ok (.invokevirtual 81, 3) := by decide +kernel
theorem dX9_readValue_59 : decode cX9_readValue 59 = .ok (.iconst 0, 1) := by decide +kernel
theorem dX9_readValue_60 : decode cX9_readValue 60 = .ok (.ireturn, 1) := by decide +kernel
def fX9_readValue_25 (S : Nat → Int32) (V : Nat → Nat → Int32) : Option (Int32 × (Nat → Int32) × (Nat → Nat → Int32)) :=
  bd1 (fX10_kind_20 S V) (fun r1 =>
  (if r1 < (113 : Int32) then
  some ((3 : Int32), S, V)
  else
  bd1 (fX10_kind_20 S V) (fun r4 =>
  (if r4 ≤ (118 : Int32) then
  bd1 (fX10_kind_20 S V) (fun r7 =>
  bd2 (fX2_addCode_12 S V ((((10000 : Int32) + r7) - (113 : Int32)))) (fun S9 V10 =>
  lt (va_up S9 2505 (0 : Int32)) (fun S12 =>
  bd1 (fX10_advance_20 S12 V10) (fun S13 =>
  some ((0 : Int32), S13, V10)))))
  else
  some ((3 : Int32), S, V)))))
set_option maxHeartbeats 4000000 in
set_option maxRecDepth 100000 in
theorem kX9_readValue_25 (l : Launch) (B : jBT) (D : va_G) (ad : Nat → Nat) (cA : Nat → ClassId) (hI : jI ad TC) (S : Nat → Int32) (V : Nat → Nat → Int32) (L : Nat → Int64) (r0 : Int32) (S0 : Nat → Int32) (V0 : Nat → Nat → Int32) (h : fX9_readValue_25 S V = some (r0, S0, V0)) : jM l yX9_readValue cX9_readValue 1 (some .int) ({ frames := 1, cells := 0, slots := 0, locals := 21 }) B D TC ad cA [.ref (ad 25)] S V L (some (.int r0)) S0 V0 L := by
  refine jM_of (plainFor_of_name (by decide)) TC_ok hI (Nat.le_of_ble_eq_true rfl) ?_
  intro p e s m args below meth c C hr hlk
  refine j_lv (lv2 := [(0, .ref (ad 25))]) rfl ?_
  unfold fX9_readValue_25 at h
  refine j_aload_n C 0 rfl dX9_readValue_0 rfl ?_
  refine fg_X9_15_TC_25 C dX9_readValue_1 ?_
  obtain ⟨r1, h2, h⟩ := bd1_elim h
  refine j_callV (As := []) (rest := []) C (kX10_kind_20 l B D ad cA hI S V L _ h2) mw_X10_kind wd911 wd912 wd972 tc_20 rfl rfl ⟨rfl, rfl, by decide, by decide⟩ ⟨Nat.zero_le _, Nat.zero_le _⟩ rfl rfl (Nat.le_of_ble_eq_true rfl) dX9_readValue_4 ?_
  refine j_bipush C dX9_readValue_7 cb_113 ?_
  refine j_icmp_lt (tgt := 24) C dX9_readValue_9 (by decide) (fun c3 => ?_) (fun c3 => ?_)
  · have h := (if_pos c3).symm.trans h
    refine j_iconst C dX9_readValue_24 ci_3 ?_
    cases h
    exact j_iret C hr hlk rfl dX9_readValue_25
  · have h := (if_neg c3).symm.trans h
    refine j_aload_n C 0 rfl dX9_readValue_12 rfl ?_
    refine fg_X9_15_TC_25 C dX9_readValue_13 ?_
    obtain ⟨r4, h5, h⟩ := bd1_elim h
    refine j_callV (As := []) (rest := []) C (kX10_kind_20 l B D ad cA hI S V L _ h5) mw_X10_kind wd911 wd912 wd972 tc_20 rfl rfl ⟨rfl, rfl, by decide, by decide⟩ ⟨Nat.zero_le _, Nat.zero_le _⟩ rfl rfl (Nat.le_of_ble_eq_true rfl) dX9_readValue_16 ?_
    refine j_bipush C dX9_readValue_19 cb_118 ?_
    refine j_icmp_le (tgt := 26) C dX9_readValue_21 (by decide) (fun c6 => ?_) (fun c6 => ?_)
    · have h := (if_pos c6).symm.trans h
      refine j_aload_n C 0 rfl dX9_readValue_26 rfl ?_
      refine fg_X9_19_TC_25 C dX9_readValue_27 ?_
      refine j_sipush C dX9_readValue_30 cs_10000 ?_
      refine j_aload_n C 0 rfl dX9_readValue_33 rfl ?_
      refine fg_X9_15_TC_25 C dX9_readValue_34 ?_
      obtain ⟨r7, h8, h⟩ := bd1_elim h
      refine j_callV (As := []) (rest := [.int (10000 : Int32), .ref (ad 12)]) C (kX10_kind_20 l B D ad cA hI S V L _ h8) mw_X10_kind wd911 wd912 wd972 tc_20 rfl rfl ⟨rfl, rfl, by decide, by decide⟩ ⟨Nat.zero_le _, Nat.zero_le _⟩ rfl rfl (Nat.le_of_ble_eq_true rfl) dX9_readValue_37 ?_
      refine j_iadd C dX9_readValue_40 ?_
      refine j_bipush C dX9_readValue_41 cb_113 ?_
      refine j_isub C dX9_readValue_43 ?_
      obtain ⟨S9, V10, h11, h⟩ := bd2_elim h
      refine j_callV (As := [.int (((10000 : Int32) + r7) - (113 : Int32))]) (rest := []) C (kX2_addCode_12 l B D ad cA hI S V L ((((10000 : Int32) + r7) - (113 : Int32))) _ _ h11) mw_X2_addCode wd983 wd984 wd982 tc_12 rfl rfl ⟨rfl, rfl, by decide, by decide⟩ ⟨Nat.zero_le _, Nat.zero_le _⟩ rfl rfl (Nat.le_of_ble_eq_true rfl) dX9_readValue_44 ?_
      refine j_aload_n C 0 rfl dX9_readValue_47 rfl ?_
      refine j_iconst C dX9_readValue_48 ci_0 ?_
      refine fp_X9_34_TC_25 C rfl rfl dX9_readValue_49 ?_
      refine lt_elim h (fun S12 e_S12 h => ?_)
      refine j_S e_S12 ?_
      refine j_aload_n C 0 rfl dX9_readValue_52 rfl ?_
      refine fg_X9_15_TC_25 C dX9_readValue_53 ?_
      obtain ⟨S13, h14, h⟩ := bd1_elim h
      refine j_callV (As := []) (rest := []) C (kX10_advance_20 l B D ad cA hI S12 V10 L _ h14) mw_X10_advance wd923 wd924 wd986 tc_20 rfl rfl ⟨rfl, rfl, by decide, by decide⟩ ⟨Nat.zero_le _, Nat.zero_le _⟩ rfl rfl (Nat.le_of_ble_eq_true rfl) dX9_readValue_56 ?_
      refine j_iconst C dX9_readValue_59 ci_0 ?_
      cases h
      exact j_iret C hr hlk rfl dX9_readValue_60
    · have h := (if_neg c6).symm.trans h
      refine j_iconst C dX9_readValue_24 ci_3 ?_
      cases h
      exact j_iret C hr hlk rfl dX9_readValue_25
theorem dX9_readNot_0 : decode cX9_readNot 0 = .ok (.aload_n 0, 1) := by decide +kernel
theorem dX9_readNot_1 : decode cX9_readNot 1 = .ok (.getfield 60, 3) := by decide +kernel
theorem dX9_readNot_4 : decode cX9_readNot 4 = .ok (.bipush 6, 2) := by decide +kernel
theorem dX9_readNot_6 : decode cX9_readNot 6 = .ok (.if_icmp .lt 5, 3) := by decide +kernel
theorem dX9_readNot_9 : decode cX9_readNot 9 = .ok (.iconst 2, 1) := by decide +kernel
theorem dX9_readNot_10 : decode cX9_readNot 10 = .ok (.ireturn, 1) := by decide +kernel
theorem dX9_readNot_11 : decode cX9_readNot 11 = .ok (.aload_n 0, 1) := by decide +kernel
theorem dX9_readNot_12 : decode cX9_readNot 12 = .ok (.dup, 1) := by decide +kernel
theorem dX9_readNot_13 : decode cX9_readNot 13 = .ok (.getfield 60, 3) := by decide +kernel
theorem dX9_readNot_16 : decode cX9_readNot 16 = .ok (.iconst 1, 1) := by decide +kernel
theorem dX9_readNot_17 : decode cX9_readNot 17 = .ok (.iadd, 1) := by decide +kernel
theorem dX9_readNot_18 : decode cX9_readNot 18 = .ok (.putfield 60, 3) := by decide +kernel
theorem dX9_readNot_21 : decode cX9_readNot 21 = .ok (.aload_n 0, 1) := by decide +kernel
theorem dX9_readNot_22 : decode cX9_readNot 22 = .ok (.iconst 3, 1) := by decide +kernel
theorem dX9_readNot_23 : decode cX9_readNot 23 = .ok (.invokevirtual 78, 3) := by decide +kernel
theorem dX9_readNot_26 : decode cX9_readNot 26 = .ok (.aload_n 0, 1) := by decide +kernel
theorem dX9_readNot_27 : decode cX9_readNot 27 = .ok (.getfield 15, 3) := by decide +kernel
theorem dX9_readNot_30 : decode cX9_readNot 30 = .ok (.invokevirtual 81, 3) := by decide +kernel
theorem dX9_readNot_33 : decode cX9_readNot 33 = .ok (.iconst 0, 1) := by decide +kernel
theorem dX9_readNot_34 : decode cX9_readNot 34 = .ok (.ireturn, 1) := by decide +kernel
def fX9_readNot_25 (S : Nat → Int32) (V : Nat → Nat → Int32) : Option (Int32 × (Nat → Int32) × (Nat → Nat → Int32)) :=
  (if (S 2507) < (6 : Int32) then
  lt (((S 2507) + (1 : Int32))) (fun x2 =>
  lt (va_up S 2507 x2) (fun S3 =>
  bd2 (fX9_push_25 S3 V (3 : Int32)) (fun S4 V5 =>
  bd1 (fX10_advance_20 S4 V5) (fun S7 =>
  some ((0 : Int32), S7, V5)))))
  else
  some ((2 : Int32), S, V))
set_option maxHeartbeats 4000000 in
set_option maxRecDepth 100000 in
theorem kX9_readNot_25 (l : Launch) (B : jBT) (D : va_G) (ad : Nat → Nat) (cA : Nat → ClassId) (hI : jI ad TC) (S : Nat → Int32) (V : Nat → Nat → Int32) (L : Nat → Int64) (r0 : Int32) (S0 : Nat → Int32) (V0 : Nat → Nat → Int32) (h : fX9_readNot_25 S V = some (r0, S0, V0)) : jM l yX9_readNot cX9_readNot 1 (some .int) ({ frames := 1, cells := 0, slots := 0, locals := 21 }) B D TC ad cA [.ref (ad 25)] S V L (some (.int r0)) S0 V0 L := by
  refine jM_of (plainFor_of_name (by decide)) TC_ok hI (Nat.le_of_ble_eq_true rfl) ?_
  intro p e s m args below meth c C hr hlk
  refine j_lv (lv2 := [(0, .ref (ad 25))]) rfl ?_
  unfold fX9_readNot_25 at h
  refine j_aload_n C 0 rfl dX9_readNot_0 rfl ?_
  refine fg_X9_60_TC_25 C dX9_readNot_1 ?_
  refine j_bipush C dX9_readNot_4 cb_6 ?_
  refine j_icmp_lt (tgt := 11) C dX9_readNot_6 (by decide) (fun c1 => ?_) (fun c1 => ?_)
  · have h := (if_pos c1).symm.trans h
    refine j_aload_n C 0 rfl dX9_readNot_11 rfl ?_
    refine j_dup C dX9_readNot_12 rfl ?_
    refine fg_X9_60_TC_25 C dX9_readNot_13 ?_
    refine j_iconst C dX9_readNot_16 ci_1 ?_
    refine j_iadd C dX9_readNot_17 ?_
    refine lt_elim h (fun x2 e_x2 h => ?_)
    refine j_top e_x2 ?_
    refine fp_X9_60_TC_25 C dX9_readNot_18 ?_
    refine lt_elim h (fun S3 e_S3 h => ?_)
    refine j_S e_S3 ?_
    refine j_aload_n C 0 rfl dX9_readNot_21 rfl ?_
    refine j_iconst C dX9_readNot_22 ci_3 ?_
    obtain ⟨S4, V5, h6, h⟩ := bd2_elim h
    refine j_callV (As := [.int (3 : Int32)]) (rest := []) C (kX9_push_25 l B D ad cA hI S3 V L (3 : Int32) _ _ h6) mw_X9_push wd993 wd29 wd991 tc_25 rfl rfl ⟨rfl, rfl, by decide, by decide⟩ ⟨Nat.zero_le _, Nat.zero_le _⟩ rfl rfl (Nat.le_of_ble_eq_true rfl) dX9_readNot_23 ?_
    refine j_aload_n C 0 rfl dX9_readNot_26 rfl ?_
    refine fg_X9_15_TC_25 C dX9_readNot_27 ?_
    obtain ⟨S7, h8, h⟩ := bd1_elim h
    refine j_callV (As := []) (rest := []) C (kX10_advance_20 l B D ad cA hI S4 V5 L _ h8) mw_X10_advance wd923 wd924 wd986 tc_20 rfl rfl ⟨rfl, rfl, by decide, by decide⟩ ⟨Nat.zero_le _, Nat.zero_le _⟩ rfl rfl (Nat.le_of_ble_eq_true rfl) dX9_readNot_30 ?_
    refine j_iconst C dX9_readNot_33 ci_0 ?_
    cases h
    exact j_iret C hr hlk rfl dX9_readNot_34
  · have h := (if_neg c1).symm.trans h
    refine j_iconst C dX9_readNot_9 ci_2 ?_
    cases h
    exact j_iret C hr hlk rfl dX9_readNot_10
theorem dX9_readConstant_0 : decode cX9_readConstant 0 = .ok (.aload_n 0, 1) := by decide +kernel
theorem dX9_readConstant_1 : decode cX9_readConstant 1 = .ok (.getfield 15, 3) := by decide +kernel
theorem dX9_readConstant_4 : decode cX9_readConstant 4 = .ok (.invokevirtual 84, 3) := by decide +kernel
theorem dX9_readConstant_7 : decode cX9_readConstant 7 = .ok (.iconst (-1), 1) := by decide +kernel
theorem dX9_readConstant_8 : decode cX9_readConstant 8 = .ok (.if_icmp .ne 5, 3) := by decide +kernel
theorem dX9_readConstant_11 : decode cX9_readConstant 11 = .ok (.iconst 2, 1) := by decide +kernel
theorem dX9_readConstant_12 : decode cX9_readConstant 12 = .ok (.ireturn, 1) := by decide +kernel
theorem dX9_readConstant_13 : decode cX9_readConstant 13 = .ok (.aload_n 0, 1) := by decide +kernel
theorem dX9_readConstant_14 : decode cX9_readConstant 14 = .ok (.getfield 19, 3) := by decide +kernel
theorem dX9_readConstant_17 : decode cX9_readConstant 17 = .ok (.aload_n 0, 1) := by decide +kernel
theorem dX9_readConstant_18 : decode cX9_readConstant 18 = .ok (.getfield 15, 3) := by decide +kernel
theorem dX9_readConstant_21 : decode cX9_readConstant 21 = .ok (.invokevirtual 84, 3) := by decide +kernel
theorem dX9_readConstant_24 : decode cX9_readConstant 24 = .ok (.invokevirtual 87, 3) := by decide +kernel
theorem dX9_readConstant_27 : decode cX9_readConstant 27 = .ok (.aload_n 0, 1) := by decide +kernel
theorem dX9_readConstant_28 : decode cX9_readConstant 28 = .ok (.iconst 0, 1) := by decide +kernel
theorem dX9_readConstant_29 : decode cX9_readConstant 29 = .ok (.putfield 34, 3) := by decide +kernel
theorem dX9_readConstant_32 : decode cX9_readConstant 32 = .ok (.aload_n 0, 1) := by decide +kernel
theorem dX9_readConstant_33 : decode cX9_readConstant 33 = .ok (.getfield 15, 3) := by decide +kernel
theorem dX9_readConstant_36 : decode cX9_readConstant 36 = .ok (.invokevirtual 81, 3) := by decide +kernel
theorem dX9_readConstant_39 : decode cX9_readConstant 39 = .ok (.iconst 0, 1) := by decide +kernel
theorem dX9_readConstant_40 : decode cX9_readConstant 40 = .ok (.ireturn, 1) := by decide +kernel
def fX9_readConstant_25 (S : Nat → Int32) (V : Nat → Nat → Int32) : Option (Int32 × (Nat → Int32) × (Nat → Nat → Int32)) :=
  bd1 (fX10_number_20 S V) (fun r1 =>
  (if r1 = (-1 : Int32) then
  some ((2 : Int32), S, V)
  else
  bd1 (fX10_number_20 S V) (fun r4 =>
  bd2 (fX2_addCode_12 S V r4) (fun S6 V7 =>
  lt (va_up S6 2505 (0 : Int32)) (fun S9 =>
  bd1 (fX10_advance_20 S9 V7) (fun S10 =>
  some ((0 : Int32), S10, V7)))))))
set_option maxHeartbeats 4000000 in
set_option maxRecDepth 100000 in
theorem kX9_readConstant_25 (l : Launch) (B : jBT) (D : va_G) (ad : Nat → Nat) (cA : Nat → ClassId) (hI : jI ad TC) (S : Nat → Int32) (V : Nat → Nat → Int32) (L : Nat → Int64) (r0 : Int32) (S0 : Nat → Int32) (V0 : Nat → Nat → Int32) (h : fX9_readConstant_25 S V = some (r0, S0, V0)) : jM l yX9_readConstant cX9_readConstant 1 (some .int) ({ frames := 1, cells := 0, slots := 0, locals := 21 }) B D TC ad cA [.ref (ad 25)] S V L (some (.int r0)) S0 V0 L := by
  refine jM_of (plainFor_of_name (by decide)) TC_ok hI (Nat.le_of_ble_eq_true rfl) ?_
  intro p e s m args below meth c C hr hlk
  refine j_lv (lv2 := [(0, .ref (ad 25))]) rfl ?_
  unfold fX9_readConstant_25 at h
  refine j_aload_n C 0 rfl dX9_readConstant_0 rfl ?_
  refine fg_X9_15_TC_25 C dX9_readConstant_1 ?_
  obtain ⟨r1, h2, h⟩ := bd1_elim h
  refine j_callV (As := []) (rest := []) C (kX10_number_20 l B D ad cA hI S V L _ h2) mw_X10_number wd931 wd932 wd981 tc_20 rfl rfl ⟨rfl, rfl, by decide, by decide⟩ ⟨Nat.zero_le _, Nat.zero_le _⟩ rfl rfl (Nat.le_of_ble_eq_true rfl) dX9_readConstant_4 ?_
  refine j_iconst C dX9_readConstant_7 ci_m1 ?_
  refine j_icmp_ne (tgt := 13) C dX9_readConstant_8 (by decide) (fun c3 => ?_) (fun c3 => ?_)
  · have h := (if_neg c3).symm.trans h
    refine j_aload_n C 0 rfl dX9_readConstant_13 rfl ?_
    refine fg_X9_19_TC_25 C dX9_readConstant_14 ?_
    refine j_aload_n C 0 rfl dX9_readConstant_17 rfl ?_
    refine fg_X9_15_TC_25 C dX9_readConstant_18 ?_
    obtain ⟨r4, h5, h⟩ := bd1_elim h
    refine j_callV (As := []) (rest := [.ref (ad 12)]) C (kX10_number_20 l B D ad cA hI S V L _ h5) mw_X10_number wd931 wd932 wd981 tc_20 rfl rfl ⟨rfl, rfl, by decide, by decide⟩ ⟨Nat.zero_le _, Nat.zero_le _⟩ rfl rfl (Nat.le_of_ble_eq_true rfl) dX9_readConstant_21 ?_
    obtain ⟨S6, V7, h8, h⟩ := bd2_elim h
    refine j_callV (As := [.int r4]) (rest := []) C (kX2_addCode_12 l B D ad cA hI S V L r4 _ _ h8) mw_X2_addCode wd983 wd984 wd982 tc_12 rfl rfl ⟨rfl, rfl, by decide, by decide⟩ ⟨Nat.zero_le _, Nat.zero_le _⟩ rfl rfl (Nat.le_of_ble_eq_true rfl) dX9_readConstant_24 ?_
    refine j_aload_n C 0 rfl dX9_readConstant_27 rfl ?_
    refine j_iconst C dX9_readConstant_28 ci_0 ?_
    refine fp_X9_34_TC_25 C rfl rfl dX9_readConstant_29 ?_
    refine lt_elim h (fun S9 e_S9 h => ?_)
    refine j_S e_S9 ?_
    refine j_aload_n C 0 rfl dX9_readConstant_32 rfl ?_
    refine fg_X9_15_TC_25 C dX9_readConstant_33 ?_
    obtain ⟨S10, h11, h⟩ := bd1_elim h
    refine j_callV (As := []) (rest := []) C (kX10_advance_20 l B D ad cA hI S9 V7 L _ h11) mw_X10_advance wd923 wd924 wd986 tc_20 rfl rfl ⟨rfl, rfl, by decide, by decide⟩ ⟨Nat.zero_le _, Nat.zero_le _⟩ rfl rfl (Nat.le_of_ble_eq_true rfl) dX9_readConstant_36 ?_
    refine j_iconst C dX9_readConstant_39 ci_0 ?_
    cases h
    exact j_iret C hr hlk rfl dX9_readConstant_40
  · have h := (if_pos c3).symm.trans h
    refine j_iconst C dX9_readConstant_11 ci_2 ?_
    cases h
    exact j_iret C hr hlk rfl dX9_readConstant_12
theorem dX9_readPart_0 : decode cX9_readPart 0 = .ok (.aload_n 0, 1) := by decide +kernel
theorem dX9_readPart_1 : decode cX9_readPart 1 = .ok (.getfield 15, 3) := by decide +kernel
theorem dX9_readPart_4 : decode cX9_readPart 4 = .ok (.invokevirtual 42, 3) := by decide +kernel
theorem dX9_readPart_7 : decode cX9_readPart 7 = .ok (.iconst 1, 1) := by decide +kernel
theorem dX9_readPart_8 : decode cX9_readPart 8 = .ok (.if_icmp .ne 7, 3) := by decide +kernel
theorem dX9_readPart_11 : decode cX9_readPart 11 = .ok (.iconst 1, 1) := by decide +kernel
theorem dX9_readPart_12 : decode cX9_readPart 12 = .ok (.goto 4, 3) := by decide +kernel
theorem dX9_readPart_15 : decode cX9_readPart 15 = .ok (.iconst 0, 1) := by decide +kernel
theorem dX9_readPart_16 : decode cX9_readPart 16 = .ok (.istore_n 1, 1) := by decide +kernel
theorem dX9_readPart_17 : decode cX9_readPart 17 = .ok (.iload_n 1, 1) := by decide +kernel
theorem dX9_readPart_18 : decode cX9_readPart 18 = .ok (.ifCond .ne 27, 3) := by decide +kernel
theorem dX9_readPart_21 : decode cX9_readPart 21 = .ok (.aload_n 0, 1) := by decide +kernel
theorem dX9_readPart_22 : decode cX9_readPart 22 = .ok (.getfield 15, 3) := by decide +kernel
theorem dX9_readPart_25 : decode cX9_readPart 25 = .ok (.invokevirtual 63, 3) := by decide +kernel
theorem dX9_readPart_28 : decode cX9_readPart 28 = .ok (.ifCond .ne 17, 3) := by decide +kernel
theorem dX9_readPart_31 : decode cX9_readPart 31 = .ok (.aload_n 0, 1) := by decide +kernel
theorem dX9_readPart_32 : decode cX9_readPart 32 = .ok (.getfield 15, 3) := by decide +kernel
theorem dX9_readPart_35 : decode cX9_readPart 35 = .ok (.invokevirtual 42, 3) := by decide +kernel
theorem dX9_readPart_38 : decode cX9_readPart 38 = .ok (.bipush 40, 2) := by decide +kernel
theorem dX9_readPart_40 : decode cX9_readPart 40 = .ok (.if_icmp .eq 5, 3) := by decide +kernel
theorem dX9_readPart_43 : decode cX9_readPart 43 = .ok (.iconst 1, 1) := by decide +kernel
theorem dX9_readPart_44 : decode cX9_readPart 44 = .ok (.ireturn, 1) := by decide +kernel
theorem dX9_readPart_45 : decode cX9_readPart 45 = .ok (.aload_n 0, 1) := by decide +kernel
theorem dX9_readPart_46 : decode cX9_readPart 46 = .ok (.getfield 27, 3) := by decide +kernel
theorem dX9_readPart_49 : decode cX9_readPart 49 = .ok (.bipush 6, 2) := by decide +kernel
theorem dX9_readPart_51 : decode cX9_readPart 51 = .ok (.if_icmp .lt 5, 3) := by decide +kernel
theorem dX9_readPart_54 : decode cX9_readPart 54 = .ok (.iconst 2, 1) := by decide +kernel
theorem dX9_readPart_55 : decode cX9_readPart 55 = .ok (.ireturn, 1) := by decide +kernel
theorem dX9_readPart_56 : decode cX9_readPart 56 = .ok (.iload_n 1, 1) := by decide +kernel
theorem dX9_readPart_57 : decode cX9_readPart 57 = .ok (.ifCond .eq 8, 3) := by decide +kernel
theorem dX9_readPart_60 : decode cX9_readPart 60 = .ok (.aload_n 0, 1) := by decide +kernel
theorem dX9_readPart_61 : decode cX9_readPart 61 = .ok (.invokevirtual 69, 3) := by decide +kernel
theorem dX9_readPart_64 : decode cX9_readPart 64 = .ok (.ireturn, 1) := by decide +kernel
theorem dX9_readPart_65 : decode cX9_readPart 65 = .ok (.aload_n 0, 1) := by decide +kernel
theorem dX9_readPart_66 : decode cX9_readPart 66 = .ok (.getfield 15, 3) := by decide +kernel
theorem dX9_readPart_69 : decode cX9_readPart 69 = .ok (.invokevirtual 63, 3) := by decide +kernel
theorem dX9_readPart_72 : decode cX9_readPart 72 = .ok (.ifCond .eq 34, 3) := by decide +kernel
theorem dX9_readPart_75 : decode cX9_readPart 75 = .ok (.aload_n 0, 1) := by decide +kernel
theorem dX9_readPart_76 : decode cX9_readPart 76 = .ok (.getfield 57, 3) := by decide +kernel
theorem dX9_readPart_79 : decode cX9_readPart 79 = .ok (.ifCond .eq 22, 3) := by decide +kernel
theorem dX9_readPart_82 : decode cX9_readPart 82 = .ok (.aload_n 0, 1) := by decide +kernel
theorem dX9_readPart_83 : decode cX9_readPart 83 = .ok (.getfield 15, 3) := by decide +kernel
theorem dX9_readPart_86 : decode cX9_readPart 86 = .ok (.invokevirtual 42, 3) := by decide +kernel
theorem dX9_readPart_89 : decode cX9_readPart 89 = .ok (.bipush 112, 2) := by decide +kernel
theorem dX9_readPart_91 : decode cX9_readPart 91 = .ok (.if_icmp .ne 10, 3) := by decide +kernel
theorem dX9_readPart_94 : decode cX9_readPart 94 = .ok (.aload_n 0, 1) := by decide +kernel
theorem dX9_readPart_95 : decode cX9_readPart 95 = .ok (.invokevirtual 72, 3) := by decide +kernel
theorem dX9_readPart_98 : decode cX9_readPart 98 = .ok (.goto 7, 3) := by decide +kernel
theorem dX9_readPart_101 : decode cX9_readPart 101 = .ok (.aload_n 0, 1) := by decide +kernel
theorem dX9_readPart_102 : decode cX9_readPart 102 = .ok (.invokevirtual 75, 3) := by decide +kernel
theorem dX9_readPart_105 : decode cX9_readPart 105 = .ok (.ireturn, 1) := by decide +kernel
theorem dX9_readPart_106 : decode cX9_readPart 106 = .ok (.aload_n 0, 1) := by decide +kernel
theorem dX9_readPart_107 : decode cX9_readPart 107 = .ok (.iconst 0, 1) := by decide +kernel
theorem dX9_readPart_108 : decode cX9_readPart 108 = .ok (.invokevirtual 78, 3) := by decide +kernel
theorem dX9_readPart_111 : decode cX9_readPart 111 = .ok (.aload_n 0, 1) := by decide +kernel
theorem dX9_readPart_112 : decode cX9_readPart 112 = .ok (.dup, 1) := by decide +kernel
theorem dX9_readPart_113 : decode cX9_readPart 113 = .ok (.getfield 27, 3) := by decide +kernel
theorem dX9_readPart_116 : decode cX9_readPart 116 = .ok (.iconst 1, 1) := by decide +kernel
theorem dX9_readPart_117 : decode cX9_readPart 117 = .ok (.iadd, 1) := by decide +kernel
theorem dX9_readPart_118 : decode cX9_readPart 118 = .ok (.putfield 27, 3) := by decide +kernel
theorem dX9_readPart_121 : decode cX9_readPart 121 = .ok (.aload_n 0, 1) := by decide +kernel
theorem dX9_readPart_122 : decode cX9_readPart 122 = .ok (.iconst 1, 1) := by decide +kernel
theorem dX9_readPart_123 : decode cX9_readPart 123 = .ok (.invokevirtual 30, 3) := by decide +kernel
theorem dX9_readPart_126 : decode cX9_readPart 126 = .ok (.aload_n 0, 1) := by decide +kernel
theorem dX9_readPart_127 : decode cX9_readPart 127 = .ok (.getfield 15, 3) := by decide +kernel
theorem dX9_readPart_130 : decode cX9_readPart 130 = .ok (.invokevirtual 81, 3) := by decide +kernel
theorem dX9_readPart_133 : decode cX9_readPart 133 = .ok (.iconst 0, 1) := by decide +kernel
theorem dX9_readPart_134 : decode cX9_readPart 134 = .ok (.ireturn, 1) := by decide +kernel
def fX9_readPart_25 (S : Nat → Int32) (V : Nat → Nat → Int32) : Option (Int32 × (Nat → Int32) × (Nat → Nat → Int32)) :=
  bd1 (fX10_kind_20 S V) (fun r1 =>
  bk (fun (x4 : Int32) (S5 : Nat → Int32) (V6 : Nat → Nat → Int32) =>
  bk (fun (x8 : Int32) (S9 : Nat → Int32) (V10 : Nat → Nat → Int32) =>
  (if (S9 2504) < (6 : Int32) then
  (if x8 = 0 then
  bd1 (fX10_isWord_20 S9 V10) (fun r13 =>
  (if r13 = 0 then
  bd2 (fX9_push_25 S9 V10 (0 : Int32)) (fun S16 V17 =>
  lt (((S16 2504) + (1 : Int32))) (fun x19 =>
  lt (va_up S16 2504 x19) (fun S20 =>
  bd1 (fX9_wantPart_25 S20 (1 : Int32)) (fun S21 =>
  bd1 (fX10_advance_20 S21 V17) (fun S23 =>
  some ((0 : Int32), S23, V17))))))
  else
  bk (fun (S26 : Nat → Int32) (V27 : Nat → Nat → Int32) =>
  bd3 (fX9_readValue_25 S26 V27) (fun r28 S29 V30 =>
  some (r28, S29, V30))) (fun K101_25 =>
  (if (S9 2506) = 0 then
  K101_25 S9 V10
  else
  bd1 (fX10_kind_20 S9 V10) (fun r33 =>
  (if r33 = (112 : Int32) then
  bd3 (fX9_readNot_25 S9 V10) (fun r36 S37 V38 =>
  some (r36, S37, V38))
  else
  K101_25 S9 V10))))))
  else
  bd3 (fX9_readConstant_25 S9 V10) (fun r40 S41 V42 =>
  some (r40, S41, V42)))
  else
  some ((2 : Int32), S9, V10))) (fun K45_7 =>
  (if x4 = 0 then
  bd1 (fX10_isWord_20 S5 V6) (fun r45 =>
  (if r45 = 0 then
  bd1 (fX10_kind_20 S5 V6) (fun r48 =>
  (if r48 = (40 : Int32) then
  K45_7 x4 S5 V6
  else
  some ((1 : Int32), S5, V6)))
  else
  K45_7 x4 S5 V6))
  else
  K45_7 x4 S5 V6))) (fun K16_3 =>
  (if r1 = (1 : Int32) then
  K16_3 (1 : Int32) S V
  else
  K16_3 (0 : Int32) S V)))
set_option maxHeartbeats 4000000 in
set_option maxRecDepth 100000 in
theorem kX9_readPart_25 (l : Launch) (B : jBT) (D : va_G) (ad : Nat → Nat) (cA : Nat → ClassId) (hI : jI ad TC) (S : Nat → Int32) (V : Nat → Nat → Int32) (L : Nat → Int64) (r0 : Int32) (S0 : Nat → Int32) (V0 : Nat → Nat → Int32) (h : fX9_readPart_25 S V = some (r0, S0, V0)) : jM l yX9_readPart cX9_readPart 2 (some .int) ({ frames := 2, cells := 0, slots := 0, locals := 41 }) B D TC ad cA [.ref (ad 25)] S V L (some (.int r0)) S0 V0 L := by
  refine jM_of (plainFor_of_name (by decide)) TC_ok hI (Nat.le_of_ble_eq_true rfl) ?_
  intro p e s m args below meth c C hr hlk
  refine j_lv (lv2 := [(0, .ref (ad 25))]) rfl ?_
  unfold fX9_readPart_25 at h
  refine j_aload_n C 0 rfl dX9_readPart_0 rfl ?_
  refine fg_X9_15_TC_25 C dX9_readPart_1 ?_
  obtain ⟨r1, h2, h⟩ := bd1_elim h
  refine j_callV (As := []) (rest := []) C (kX10_kind_20 l B D ad cA hI S V L _ h2) mw_X10_kind wd911 wd912 wd972 tc_20 rfl rfl ⟨rfl, rfl, by decide, by decide⟩ ⟨Nat.zero_le _, Nat.zero_le _⟩ rfl rfl (Nat.le_of_ble_eq_true rfl) dX9_readPart_4 ?_
  refine j_iconst C dX9_readPart_7 ci_1 ?_
  refine bk_elim h (fun K16_3 e_K16_3 h => ?_)
  have HK16_3 : ∀ (x4 : Int32) (S5 : Nat → Int32) (V6 : Nat → Nat → Int32), K16_3 x4 S5 V6 = some (r0, S0, V0) → jW p l e ({ frames := 2, cells := 0, slots := 0, locals := 41 }) s m args below meth c (MQ below (jQc D TC ad cA (some (.int r0)) s.heap.size S0 V0 L) args s 0 0 (jA ad TC s.heap.size)) D TC ad cA (jA ad TC s.heap.size) 2 0 0 16 [(0, .ref (ad 25))] [.int x4] S5 V6 L := by
    subst e_K16_3
    intro x4 S5 V6 h
    refine j_istore_n C [(1, .int x4), (0, .ref (ad 25))] dX9_readPart_16 rfl (by decide) rfl ?_
    refine j_iload_n C 0 rfl dX9_readPart_17 rfl ?_
    refine bk_elim h (fun K45_7 e_K45_7 h => ?_)
    have HK45_7 : ∀ (x8 : Int32) (S9 : Nat → Int32) (V10 : Nat → Nat → Int32), K45_7 x8 S9 V10 = some (r0, S0, V0) → jW p l e ({ frames := 2, cells := 0, slots := 0, locals := 41 }) s m args below meth c (MQ below (jQc D TC ad cA (some (.int r0)) s.heap.size S0 V0 L) args s 0 0 (jA ad TC s.heap.size)) D TC ad cA (jA ad TC s.heap.size) 2 0 0 45 [(0, .ref (ad 25)), (1, .int x8)] [] S9 V10 L := by
      subst e_K45_7
      intro x8 S9 V10 h
      refine j_aload_n C 0 rfl dX9_readPart_45 rfl ?_
      refine fg_X9_27_TC_25 C dX9_readPart_46 ?_
      refine j_bipush C dX9_readPart_49 cb_6 ?_
      refine j_icmp_lt (tgt := 56) C dX9_readPart_51 (by decide) (fun c11 => ?_) (fun c11 => ?_)
      · have h := (if_pos c11).symm.trans h
        refine j_iload_n C 1 rfl dX9_readPart_56 rfl ?_
        refine j_if_eq (tgt := 65) C dX9_readPart_57 (by decide) (fun c12 => ?_) (fun c12 => ?_)
        · have h := (if_pos c12).symm.trans h
          refine j_aload_n C 0 rfl dX9_readPart_65 rfl ?_
          refine fg_X9_15_TC_25 C dX9_readPart_66 ?_
          obtain ⟨r13, h14, h⟩ := bd1_elim h
          refine j_callV (As := []) (rest := []) C (kX10_isWord_20 l B D ad cA hI S9 V10 L _ h14) mw_X10_isWord wd974 wd975 wd973 tc_20 rfl rfl ⟨rfl, rfl, by decide, by decide⟩ ⟨Nat.zero_le _, Nat.zero_le _⟩ rfl rfl (Nat.le_of_ble_eq_true rfl) dX9_readPart_69 ?_
          refine j_if_eq (tgt := 106) C dX9_readPart_72 (by decide) (fun c15 => ?_) (fun c15 => ?_)
          · have h := (if_pos c15).symm.trans h
            refine j_aload_n C 0 rfl dX9_readPart_106 rfl ?_
            refine j_iconst C dX9_readPart_107 ci_0 ?_
            obtain ⟨S16, V17, h18, h⟩ := bd2_elim h
            refine j_callV (As := [.int (0 : Int32)]) (rest := []) C (kX9_push_25 l B D ad cA hI S9 V10 L (0 : Int32) _ _ h18) mw_X9_push wd993 wd29 wd991 tc_25 rfl rfl ⟨rfl, rfl, by decide, by decide⟩ ⟨Nat.zero_le _, Nat.zero_le _⟩ rfl rfl (Nat.le_of_ble_eq_true rfl) dX9_readPart_108 ?_
            refine j_aload_n C 0 rfl dX9_readPart_111 rfl ?_
            refine j_dup C dX9_readPart_112 rfl ?_
            refine fg_X9_27_TC_25 C dX9_readPart_113 ?_
            refine j_iconst C dX9_readPart_116 ci_1 ?_
            refine j_iadd C dX9_readPart_117 ?_
            refine lt_elim h (fun x19 e_x19 h => ?_)
            refine j_top e_x19 ?_
            refine fp_X9_27_TC_25 C dX9_readPart_118 ?_
            refine lt_elim h (fun S20 e_S20 h => ?_)
            refine j_S e_S20 ?_
            refine j_aload_n C 0 rfl dX9_readPart_121 rfl ?_
            refine j_iconst C dX9_readPart_122 ci_1 ?_
            obtain ⟨S21, h22, h⟩ := bd1_elim h
            refine j_callV (As := [.int (1 : Int32)]) (rest := []) C (kX9_wantPart_25 l B D ad cA hI S20 V17 L (1 : Int32) _ h22) mw_X9_wantPart wd966 wd25 wd964 tc_25 rfl rfl ⟨rfl, rfl, by decide, by decide⟩ ⟨Nat.zero_le _, Nat.zero_le _⟩ rfl rfl (Nat.le_of_ble_eq_true rfl) dX9_readPart_123 ?_
            refine j_aload_n C 0 rfl dX9_readPart_126 rfl ?_
            refine fg_X9_15_TC_25 C dX9_readPart_127 ?_
            obtain ⟨S23, h24, h⟩ := bd1_elim h
            refine j_callV (As := []) (rest := []) C (kX10_advance_20 l B D ad cA hI S21 V17 L _ h24) mw_X10_advance wd923 wd924 wd986 tc_20 rfl rfl ⟨rfl, rfl, by decide, by decide⟩ ⟨Nat.zero_le _, Nat.zero_le _⟩ rfl rfl (Nat.le_of_ble_eq_true rfl) dX9_readPart_130 ?_
            refine j_iconst C dX9_readPart_133 ci_0 ?_
            cases h
            exact j_iret C hr hlk rfl dX9_readPart_134
          · have h := (if_neg c15).symm.trans h
            refine j_aload_n C 0 rfl dX9_readPart_75 rfl ?_
            refine fg_X9_57_TC_25 C dX9_readPart_76 ?_
            refine bk_elim h (fun K101_25 e_K101_25 h => ?_)
            have HK101_25 : ∀ (S26 : Nat → Int32) (V27 : Nat → Nat → Int32), K101_25 S26 V27 = some (r0, S0, V0) → jW p l e ({ frames := 2, cells := 0, slots := 0, locals := 41 }) s m args below meth c (MQ below (jQc D TC ad cA (some (.int r0)) s.heap.size S0 V0 L) args s 0 0 (jA ad TC s.heap.size)) D TC ad cA (jA ad TC s.heap.size) 2 0 0 101 [(0, .ref (ad 25))] [] S26 V27 L := by
              subst e_K101_25
              intro S26 V27 h
              refine j_aload_n C 0 rfl dX9_readPart_101 rfl ?_
              obtain ⟨r28, S29, V30, h31, h⟩ := bd3_elim h
              refine j_callV (As := []) (rest := []) C (kX9_readValue_25 l B D ad cA hI S26 V27 L _ _ _ h31) mw_X9_readValue wd997 wd30 wd995 tc_25 rfl rfl ⟨rfl, rfl, by decide, by decide⟩ ⟨Nat.zero_le _, Nat.zero_le _⟩ rfl rfl (Nat.le_of_ble_eq_true rfl) dX9_readPart_102 ?_
              cases h
              exact j_iret C hr hlk rfl dX9_readPart_105
            refine j_if_eq (tgt := 101) C dX9_readPart_79 (by decide) (fun c32 => ?_) (fun c32 => ?_)
            · have h := (if_pos c32).symm.trans h
              exact j_sub [0] rfl (HK101_25 _ _ h)
            · have h := (if_neg c32).symm.trans h
              refine j_aload_n C 0 rfl dX9_readPart_82 rfl ?_
              refine fg_X9_15_TC_25 C dX9_readPart_83 ?_
              obtain ⟨r33, h34, h⟩ := bd1_elim h
              refine j_callV (As := []) (rest := []) C (kX10_kind_20 l B D ad cA hI S9 V10 L _ h34) mw_X10_kind wd911 wd912 wd972 tc_20 rfl rfl ⟨rfl, rfl, by decide, by decide⟩ ⟨Nat.zero_le _, Nat.zero_le _⟩ rfl rfl (Nat.le_of_ble_eq_true rfl) dX9_readPart_86 ?_
              refine j_bipush C dX9_readPart_89 cb_112 ?_
              refine j_icmp_ne (tgt := 101) C dX9_readPart_91 (by decide) (fun c35 => ?_) (fun c35 => ?_)
              · have h := (if_neg c35).symm.trans h
                exact j_sub [0] rfl (HK101_25 _ _ h)
              · have h := (if_pos c35).symm.trans h
                refine j_aload_n C 0 rfl dX9_readPart_94 rfl ?_
                obtain ⟨r36, S37, V38, h39, h⟩ := bd3_elim h
                refine j_callV (As := []) (rest := []) C (kX9_readNot_25 l B D ad cA hI S9 V10 L _ _ _ h39) mw_X9_readNot wd989 wd28 wd987 tc_25 rfl rfl ⟨rfl, rfl, by decide, by decide⟩ ⟨Nat.zero_le _, Nat.zero_le _⟩ rfl rfl (Nat.le_of_ble_eq_true rfl) dX9_readPart_95 ?_
                refine j_goto (tgt := 105) C dX9_readPart_98 (by decide) ?_
                cases h
                exact j_iret C hr hlk rfl dX9_readPart_105
        · have h := (if_neg c12).symm.trans h
          refine j_aload_n C 0 rfl dX9_readPart_60 rfl ?_
          obtain ⟨r40, S41, V42, h43, h⟩ := bd3_elim h
          refine j_callV (As := []) (rest := []) C (kX9_readConstant_25 l B D ad cA hI S9 V10 L _ _ _ h43) mw_X9_readConstant wd979 wd27 wd977 tc_25 rfl rfl ⟨rfl, rfl, by decide, by decide⟩ ⟨Nat.zero_le _, Nat.zero_le _⟩ rfl rfl (Nat.le_of_ble_eq_true rfl) dX9_readPart_61 ?_
          cases h
          exact j_iret C hr hlk rfl dX9_readPart_64
      · have h := (if_neg c11).symm.trans h
        refine j_iconst C dX9_readPart_54 ci_2 ?_
        cases h
        exact j_iret C hr hlk rfl dX9_readPart_55
    refine j_if_ne (tgt := 45) C dX9_readPart_18 (by decide) (fun c44 => ?_) (fun c44 => ?_)
    · have h := (if_neg c44).symm.trans h
      exact j_sub [1, 0] rfl (HK45_7 _ _ _ h)
    · have h := (if_pos c44).symm.trans h
      refine j_aload_n C 1 rfl dX9_readPart_21 rfl ?_
      refine fg_X9_15_TC_25 C dX9_readPart_22 ?_
      obtain ⟨r45, h46, h⟩ := bd1_elim h
      refine j_callV (As := []) (rest := []) C (kX10_isWord_20 l B D ad cA hI S5 V6 L _ h46) mw_X10_isWord wd974 wd975 wd973 tc_20 rfl rfl ⟨rfl, rfl, by decide, by decide⟩ ⟨Nat.zero_le _, Nat.zero_le _⟩ rfl rfl (Nat.le_of_ble_eq_true rfl) dX9_readPart_25 ?_
      refine j_if_ne (tgt := 45) C dX9_readPart_28 (by decide) (fun c47 => ?_) (fun c47 => ?_)
      · have h := (if_neg c47).symm.trans h
        exact j_sub [1, 0] rfl (HK45_7 _ _ _ h)
      · have h := (if_pos c47).symm.trans h
        refine j_aload_n C 1 rfl dX9_readPart_31 rfl ?_
        refine fg_X9_15_TC_25 C dX9_readPart_32 ?_
        obtain ⟨r48, h49, h⟩ := bd1_elim h
        refine j_callV (As := []) (rest := []) C (kX10_kind_20 l B D ad cA hI S5 V6 L _ h49) mw_X10_kind wd911 wd912 wd972 tc_20 rfl rfl ⟨rfl, rfl, by decide, by decide⟩ ⟨Nat.zero_le _, Nat.zero_le _⟩ rfl rfl (Nat.le_of_ble_eq_true rfl) dX9_readPart_35 ?_
        refine j_bipush C dX9_readPart_38 cb_40 ?_
        refine j_icmp_eq (tgt := 45) C dX9_readPart_40 (by decide) (fun c50 => ?_) (fun c50 => ?_)
        · have h := (if_pos c50).symm.trans h
          exact j_sub [1, 0] rfl (HK45_7 _ _ _ h)
        · have h := (if_neg c50).symm.trans h
          refine j_iconst C dX9_readPart_43 ci_1 ?_
          cases h
          exact j_iret C hr hlk rfl dX9_readPart_44
  refine j_icmp_ne (tgt := 15) C dX9_readPart_8 (by decide) (fun c51 => ?_) (fun c51 => ?_)
  · have h := (if_neg c51).symm.trans h
    refine j_iconst C dX9_readPart_15 ci_0 ?_
    exact j_sub [0] rfl (HK16_3 _ _ _ h)
  · have h := (if_pos c51).symm.trans h
    refine j_iconst C dX9_readPart_11 ci_1 ?_
    refine j_goto (tgt := 16) C dX9_readPart_12 (by decide) ?_
    exact j_sub [0] rfl (HK16_3 _ _ _ h)
theorem dX9_read_0 : decode cX9_read 0 = .ok (.aload_n 0, 1) := by decide +kernel
theorem dX9_read_1 : decode cX9_read 1 = .ok (.iconst 0, 1) := by decide +kernel
theorem dX9_read_2 : decode cX9_read 2 = .ok (.putfield 23, 3) := by decide +kernel
theorem dX9_read_5 : decode cX9_read 5 = .ok (.aload_n 0, 1) := by decide +kernel
theorem dX9_read_6 : decode cX9_read 6 = .ok (.iconst 0, 1) := by decide +kernel
theorem dX9_read_7 : decode cX9_read 7 = .ok (.putfield 27, 3) := by decide +kernel
theorem dX9_read_10 : decode cX9_read 10 = .ok (.aload_n 0, 1) := by decide +kernel
theorem dX9_read_11 : decode cX9_read 11 = .ok (.iconst 1, 1) := by decide +kernel
theorem dX9_read_12 : decode cX9_read 12 = .ok (.invokevirtual 30, 3) := by decide +kernel
theorem dX9_read_15 : decode cX9_read 15 = .ok (.iconst 0, 1) := by decide +kernel
theorem dX9_read_16 : decode cX9_read 16 = .ok (.istore_n 1, 1) := by decide +kernel
theorem dX9_read_17 : decode cX9_read 17 = .ok (.iconst 0, 1) := by decide +kernel
theorem dX9_read_18 : decode cX9_read 18 = .ok (.istore_n 2, 1) := by decide +kernel
theorem dX9_read_19 : decode cX9_read 19 = .ok (.iload_n 2, 1) := by decide +kernel
theorem dX9_read_20 : decode cX9_read 20 = .ok (.sipush 600, 3) := by decide +kernel
theorem dX9_read_23 : decode cX9_read 23 = .ok (.if_icmp .gt 79, 3) := by decide +kernel
theorem dX9_read_26 : decode cX9_read 26 = .ok (.iload_n 1, 1) := by decide +kernel
theorem dX9_read_27 : decode cX9_read 27 = .ok (.ifCond .ne 75, 3) := by decide +kernel
theorem dX9_read_30 : decode cX9_read 30 = .ok (.aload_n 0, 1) := by decide +kernel
theorem dX9_read_31 : decode cX9_read 31 = .ok (.getfield 34, 3) := by decide +kernel
theorem dX9_read_34 : decode cX9_read 34 = .ok (.ifCond .eq 11, 3) := by decide +kernel
theorem dX9_read_37 : decode cX9_read 37 = .ok (.aload_n 0, 1) := by decide +kernel
theorem dX9_read_38 : decode cX9_read 38 = .ok (.invokevirtual 38, 3) := by decide +kernel
theorem dX9_read_41 : decode cX9_read 41 = .ok (.istore_n 1, 1) := by decide +kernel
theorem dX9_read_42 : decode cX9_read 42 = .ok (.goto 54, 3) := by decide +kernel
theorem dX9_read_45 : decode cX9_read 45 = .ok (.aload_n 0, 1) := by decide +kernel
theorem dX9_read_46 : decode cX9_read 46 = .ok (.getfield 15, 3) := by decide +kernel
theorem dX9_read_49 : decode cX9_read 49 = .ok (.invokevirtual 42, 3) := by decide +kernel
theorem dX9_read_52 : decode cX9_read 52 = .ok (.bipush 59, 2) := by decide +kernel
theorem dX9_read_54 : decode cX9_read 54 = .ok (.if_icmp .ne 17, 3) := by decide +kernel
theorem dX9_read_57 : decode cX9_read 57 = .ok (.aload_n 0, 1) := by decide +kernel
theorem dX9_read_58 : decode cX9_read 58 = .ok (.getfield 27, 3) := by decide +kernel
theorem dX9_read_61 : decode cX9_read 61 = .ok (.ifCond .ne 10, 3) := by decide +kernel
theorem dX9_read_64 : decode cX9_read 64 = .ok (.aload_n 0, 1) := by decide +kernel
theorem dX9_read_65 : decode cX9_read 65 = .ok (.iconst 1, 1) := by decide +kernel
theorem dX9_read_66 : decode cX9_read 66 = .ok (.invokevirtual 47, 3) := by decide +kernel
theorem dX9_read_69 : decode cX9_read 69 = .ok (.iconst 0, 1) := by decide +kernel
theorem dX9_read_70 : decode cX9_read 70 = .ok (.ireturn, 1) := by decide +kernel
theorem dX9_read_71 : decode cX9_read 71 = .ok (.aload_n 0, 1) := by decide +kernel
theorem dX9_read_72 : decode cX9_read 72 = .ok (.getfield 15, 3) := by decide +kernel
theorem dX9_read_75 : decode cX9_read 75 = .ok (.invokevirtual 42, 3) := by decide +kernel
theorem dX9_read_78 : decode cX9_read 78 = .ok (.bipush 41, 2) := by decide +kernel
theorem dX9_read_80 : decode cX9_read 80 = .ok (.if_icmp .ne 11, 3) := by decide +kernel
theorem dX9_read_83 : decode cX9_read 83 = .ok (.aload_n 0, 1) := by decide +kernel
theorem dX9_read_84 : decode cX9_read 84 = .ok (.invokevirtual 51, 3) := by decide +kernel
theorem dX9_read_87 : decode cX9_read 87 = .ok (.istore_n 1, 1) := by decide +kernel
theorem dX9_read_88 : decode cX9_read 88 = .ok (.goto 8, 3) := by decide +kernel
theorem dX9_read_91 : decode cX9_read 91 = .ok (.aload_n 0, 1) := by decide +kernel
theorem dX9_read_92 : decode cX9_read 92 = .ok (.invokevirtual 54, 3) := by decide +kernel
theorem dX9_read_95 : decode cX9_read 95 = .ok (.istore_n 1, 1) := by decide +kernel
theorem dX9_read_96 : decode cX9_read 96 = .ok (.iinc 2 1, 3) := by decide +kernel
theorem dX9_read_99 : decode cX9_read 99 = .ok (.goto (-80), 3) := by decide +kernel
theorem dX9_read_102 : decode cX9_read 102 = .ok (.iload_n 1, 1) := by decide +kernel
theorem dX9_read_103 : decode cX9_read 103 = .ok (.ireturn, 1) := by decide +kernel
def fX9_read_25_L19 (E64 : (Nat → Int32) → (Nat → Nat → Int32) → Option (Int32 × (Nat → Int32) × (Nat → Nat → Int32))) : Nat → Int32 → Int32 → (Nat → Int32) → (Nat → Nat → Int32) → Option (Int32 × (Nat → Int32) × (Nat → Nat → Int32))
  | 0, _, _, _, _ => none
  | n + 1, x5, x6, S7, V8 =>
    (if (600 : Int32) < x6 then
    some (x5, S7, V8)
    else
    (if x5 = 0 then
    bk (fun (x12 : Int32) (x13 : Int32) (S14 : Nat → Int32) (V15 : Nat → Nat → Int32) =>
    lt (x13 + (1 : Int32)) (fun x16 =>
    fX9_read_25_L19 E64 n x12 x16 S14 V15)) (fun K96_11 =>
    (if (S7 2505) = 0 then
    bd1 (fX10_kind_20 S7 V8) (fun r18 =>
    bk (fun (x21 : Int32) (S22 : Nat → Int32) (V23 : Nat → Nat → Int32) =>
    bd1 (fX10_kind_20 S22 V23) (fun r24 =>
    (if r24 = (41 : Int32) then
    bd3 (fX9_readClose_25 S22 V23) (fun r31 S32 V33 =>
    K96_11 r31 x21 S32 V33)
    else
    bd3 (fX9_readOperator_25 S22 V23) (fun r27 S28 V29 =>
    K96_11 r27 x21 S28 V29)))) (fun K71_20 =>
    (if r18 = (59 : Int32) then
    (if (S7 2504) = 0 then
    E64 S7 V8
    else
    K71_20 x6 S7 V8)
    else
    K71_20 x6 S7 V8)))
    else
    bd3 (fX9_readPart_25 S7 V8) (fun r37 S38 V39 =>
    K96_11 r37 x6 S38 V39)))
    else
    some (x5, S7, V8)))
def fX9_read_25 (S : Nat → Int32) (V : Nat → Nat → Int32) : Option (Int32 × (Nat → Int32) × (Nat → Nat → Int32)) :=
  lt (va_up S 2503 (0 : Int32)) (fun S1 =>
  lt (va_up S1 2504 (0 : Int32)) (fun S2 =>
  bd1 (fX9_wantPart_25 S2 (1 : Int32)) (fun S3 =>
  bk (fun (S44 : Nat → Int32) (V45 : Nat → Nat → Int32) =>
  bd2 (fX9_writeBinding_25 S44 V45 (1 : Int32)) (fun S46 V47 =>
  some ((0 : Int32), S46, V47))) (fun X64_43 =>
  fX9_read_25_L19 X64_43 FU (0 : Int32) (0 : Int32) S3 V))))
set_option maxHeartbeats 4000000 in
set_option maxRecDepth 100000 in
theorem kX9_read_25 (l : Launch) (B : jBT) (D : va_G) (ad : Nat → Nat) (cA : Nat → ClassId) (hI : jI ad TC) (S : Nat → Int32) (V : Nat → Nat → Int32) (L : Nat → Int64) (r0 : Int32) (S0 : Nat → Int32) (V0 : Nat → Nat → Int32) (h : fX9_read_25 S V = some (r0, S0, V0)) : jM l yX9_read cX9_read 3 (some .int) ({ frames := 3, cells := 0, slots := 0, locals := 63 }) B D TC ad cA [.ref (ad 25)] S V L (some (.int r0)) S0 V0 L := by
  refine jM_of (plainFor_of_name (by decide)) TC_ok hI (Nat.le_of_ble_eq_true rfl) ?_
  intro p e s m args below meth c C hr hlk
  refine j_lv (lv2 := [(0, .ref (ad 25))]) rfl ?_
  unfold fX9_read_25 at h
  have H_fX9_read_25_L19 : ∀ (E64 : (Nat → Int32) → (Nat → Nat → Int32) → Option (Int32 × (Nat → Int32) × (Nat → Nat → Int32))) (_ : ∀ (S41 : Nat → Int32) (V42 : Nat → Nat → Int32), E64 S41 V42 = some (r0, S0, V0) → jW p l e ({ frames := 3, cells := 0, slots := 0, locals := 63 }) s m args below meth c (MQ below (jQc D TC ad cA (some (.int r0)) s.heap.size S0 V0 L) args s 0 0 (jA ad TC s.heap.size)) D TC ad cA (jA ad TC s.heap.size) 3 0 0 64 [(0, .ref (ad 25))] [] S41 V42 L) (n : Nat) (x5 : Int32) (x6 : Int32) (S7 : Nat → Int32) (V8 : Nat → Nat → Int32), fX9_read_25_L19 E64 n x5 x6 S7 V8 = some (r0, S0, V0) → jW p l e ({ frames := 3, cells := 0, slots := 0, locals := 63 }) s m args below meth c (MQ below (jQc D TC ad cA (some (.int r0)) s.heap.size S0 V0 L) args s 0 0 (jA ad TC s.heap.size)) D TC ad cA (jA ad TC s.heap.size) 3 0 0 19 [(0, .ref (ad 25)), (1, .int x5), (2, .int x6)] [] S7 V8 L := by
    intro E64 HE64
    intro n
    induction n with
    | zero =>
      intro x5 x6 S7 V8 h
      cases (show (none : Option (Int32 × (Nat → Int32) × (Nat → Nat → Int32))) = some (r0, S0, V0) from h)
    | succ n ih =>
      intro x5 x6 S7 V8 h
      unfold fX9_read_25_L19 at h
      refine j_iload_n C 2 rfl dX9_read_19 rfl ?_
      refine j_sipush C dX9_read_20 cs_600 ?_
      refine j_icmp_gt (tgt := 102) C dX9_read_23 (by decide) (fun c9 => ?_) (fun c9 => ?_)
      · have h := (if_pos c9).symm.trans h
        refine j_iload_n C 1 rfl dX9_read_102 rfl ?_
        cases h
        exact j_iret C hr hlk rfl dX9_read_103
      · have h := (if_neg c9).symm.trans h
        refine j_iload_n C 1 rfl dX9_read_26 rfl ?_
        refine j_if_ne (tgt := 102) C dX9_read_27 (by decide) (fun c10 => ?_) (fun c10 => ?_)
        · have h := (if_neg c10).symm.trans h
          refine j_iload_n C 1 rfl dX9_read_102 rfl ?_
          cases h
          exact j_iret C hr hlk rfl dX9_read_103
        · have h := (if_pos c10).symm.trans h
          refine j_aload_n C 0 rfl dX9_read_30 rfl ?_
          refine fg_X9_34_TC_25 C dX9_read_31 ?_
          refine bk_elim h (fun K96_11 e_K96_11 h => ?_)
          have HK96_11 : ∀ (x12 : Int32) (x13 : Int32) (S14 : Nat → Int32) (V15 : Nat → Nat → Int32), K96_11 x12 x13 S14 V15 = some (r0, S0, V0) → jW p l e ({ frames := 3, cells := 0, slots := 0, locals := 63 }) s m args below meth c (MQ below (jQc D TC ad cA (some (.int r0)) s.heap.size S0 V0 L) args s 0 0 (jA ad TC s.heap.size)) D TC ad cA (jA ad TC s.heap.size) 3 0 0 96 [(0, .ref (ad 25)), (1, .int x12), (2, .int x13)] [] S14 V15 L := by
            subst e_K96_11
            intro x12 x13 S14 V15 h
            refine lt_elim h (fun x16 e_x16 h => ?_)
            refine j_iinc C [(2, .int x16), (0, .ref (ad 25)), (1, .int x12)] 2 dX9_read_96 rfl ((iinc_eq ci_1).trans e_x16.symm) (by decide) rfl ?_
            refine j_goto (tgt := 19) C dX9_read_99 (by decide) ?_
            exact j_sub [1, 2, 0] rfl (ih _ _ _ _ h)
          refine j_if_eq (tgt := 45) C dX9_read_34 (by decide) (fun c17 => ?_) (fun c17 => ?_)
          · have h := (if_pos c17).symm.trans h
            refine j_aload_n C 0 rfl dX9_read_45 rfl ?_
            refine fg_X9_15_TC_25 C dX9_read_46 ?_
            obtain ⟨r18, h19, h⟩ := bd1_elim h
            refine j_callV (As := []) (rest := []) C (kX10_kind_20 l B D ad cA hI S7 V8 L _ h19) mw_X10_kind wd911 wd912 wd972 tc_20 rfl rfl ⟨rfl, rfl, by decide, by decide⟩ ⟨Nat.zero_le _, Nat.zero_le _⟩ rfl rfl (Nat.le_of_ble_eq_true rfl) dX9_read_49 ?_
            refine j_bipush C dX9_read_52 cb_59 ?_
            refine bk_elim h (fun K71_20 e_K71_20 h => ?_)
            have HK71_20 : ∀ (x21 : Int32) (S22 : Nat → Int32) (V23 : Nat → Nat → Int32), K71_20 x21 S22 V23 = some (r0, S0, V0) → jW p l e ({ frames := 3, cells := 0, slots := 0, locals := 63 }) s m args below meth c (MQ below (jQc D TC ad cA (some (.int r0)) s.heap.size S0 V0 L) args s 0 0 (jA ad TC s.heap.size)) D TC ad cA (jA ad TC s.heap.size) 3 0 0 71 [(0, .ref (ad 25)), (2, .int x21)] [] S22 V23 L := by
              subst e_K71_20
              intro x21 S22 V23 h
              refine j_aload_n C 0 rfl dX9_read_71 rfl ?_
              refine fg_X9_15_TC_25 C dX9_read_72 ?_
              obtain ⟨r24, h25, h⟩ := bd1_elim h
              refine j_callV (As := []) (rest := []) C (kX10_kind_20 l B D ad cA hI S22 V23 L _ h25) mw_X10_kind wd911 wd912 wd972 tc_20 rfl rfl ⟨rfl, rfl, by decide, by decide⟩ ⟨Nat.zero_le _, Nat.zero_le _⟩ rfl rfl (Nat.le_of_ble_eq_true rfl) dX9_read_75 ?_
              refine j_bipush C dX9_read_78 cb_41 ?_
              refine j_icmp_ne (tgt := 91) C dX9_read_80 (by decide) (fun c26 => ?_) (fun c26 => ?_)
              · have h := (if_neg c26).symm.trans h
                refine j_aload_n C 0 rfl dX9_read_91 rfl ?_
                obtain ⟨r27, S28, V29, h30, h⟩ := bd3_elim h
                refine j_callV (As := []) (rest := []) C (kX9_readOperator_25 l B D ad cA hI S22 V23 L _ _ _ h30) mw_X9_readOperator wd1011 wd33 wd1009 tc_25 rfl rfl ⟨rfl, rfl, by decide, by decide⟩ ⟨Nat.zero_le _, Nat.zero_le _⟩ rfl rfl (Nat.le_of_ble_eq_true rfl) dX9_read_92 ?_
                refine j_istore_n C [(1, .int r27), (0, .ref (ad 25)), (2, .int x21)] dX9_read_95 rfl (by decide) rfl ?_
                exact j_sub [1, 0, 2] rfl (HK96_11 _ _ _ _ h)
              · have h := (if_pos c26).symm.trans h
                refine j_aload_n C 0 rfl dX9_read_83 rfl ?_
                obtain ⟨r31, S32, V33, h34, h⟩ := bd3_elim h
                refine j_callV (As := []) (rest := []) C (kX9_readClose_25 l B D ad cA hI S22 V23 L _ _ _ h34) mw_X9_readClose wd1007 wd32 wd1005 tc_25 rfl rfl ⟨rfl, rfl, by decide, by decide⟩ ⟨Nat.zero_le _, Nat.zero_le _⟩ rfl rfl (Nat.le_of_ble_eq_true rfl) dX9_read_84 ?_
                refine j_istore_n C [(1, .int r31), (0, .ref (ad 25)), (2, .int x21)] dX9_read_87 rfl (by decide) rfl ?_
                refine j_goto (tgt := 96) C dX9_read_88 (by decide) ?_
                exact j_sub [1, 0, 2] rfl (HK96_11 _ _ _ _ h)
            refine j_icmp_ne (tgt := 71) C dX9_read_54 (by decide) (fun c35 => ?_) (fun c35 => ?_)
            · have h := (if_neg c35).symm.trans h
              exact j_sub [0, 2] rfl (HK71_20 _ _ _ h)
            · have h := (if_pos c35).symm.trans h
              refine j_aload_n C 0 rfl dX9_read_57 rfl ?_
              refine fg_X9_27_TC_25 C dX9_read_58 ?_
              refine j_if_ne (tgt := 71) C dX9_read_61 (by decide) (fun c36 => ?_) (fun c36 => ?_)
              · have h := (if_neg c36).symm.trans h
                exact j_sub [0, 2] rfl (HK71_20 _ _ _ h)
              · have h := (if_pos c36).symm.trans h
                exact j_sub [0] rfl (HE64 _ _ h)
          · have h := (if_neg c17).symm.trans h
            refine j_aload_n C 0 rfl dX9_read_37 rfl ?_
            obtain ⟨r37, S38, V39, h40, h⟩ := bd3_elim h
            refine j_callV (As := []) (rest := []) C (kX9_readPart_25 l B D ad cA hI S7 V8 L _ _ _ h40) mw_X9_readPart wd970 wd26 wd968 tc_25 rfl rfl ⟨rfl, rfl, by decide, by decide⟩ ⟨Nat.zero_le _, Nat.zero_le _⟩ rfl rfl (Nat.le_of_ble_eq_true rfl) dX9_read_38 ?_
            refine j_istore_n C [(1, .int r37), (0, .ref (ad 25)), (2, .int x6)] dX9_read_41 rfl (by decide) rfl ?_
            refine j_goto (tgt := 96) C dX9_read_42 (by decide) ?_
            exact j_sub [1, 0, 2] rfl (HK96_11 _ _ _ _ h)
  refine j_aload_n C 0 rfl dX9_read_0 rfl ?_
  refine j_iconst C dX9_read_1 ci_0 ?_
  refine fp_X9_23_TC_25 C dX9_read_2 ?_
  refine lt_elim h (fun S1 e_S1 h => ?_)
  refine j_S e_S1 ?_
  refine j_aload_n C 0 rfl dX9_read_5 rfl ?_
  refine j_iconst C dX9_read_6 ci_0 ?_
  refine fp_X9_27_TC_25 C dX9_read_7 ?_
  refine lt_elim h (fun S2 e_S2 h => ?_)
  refine j_S e_S2 ?_
  refine j_aload_n C 0 rfl dX9_read_10 rfl ?_
  refine j_iconst C dX9_read_11 ci_1 ?_
  obtain ⟨S3, h4, h⟩ := bd1_elim h
  refine j_callV (As := [.int (1 : Int32)]) (rest := []) C (kX9_wantPart_25 l B D ad cA hI S2 V L (1 : Int32) _ h4) mw_X9_wantPart wd966 wd25 wd964 tc_25 rfl rfl ⟨rfl, rfl, by decide, by decide⟩ ⟨Nat.zero_le _, Nat.zero_le _⟩ rfl rfl (Nat.le_of_ble_eq_true rfl) dX9_read_12 ?_
  refine j_iconst C dX9_read_15 ci_0 ?_
  refine j_istore_n C [(1, .int (0 : Int32)), (0, .ref (ad 25))] dX9_read_16 rfl (by decide) rfl ?_
  refine j_iconst C dX9_read_17 ci_0 ?_
  refine j_istore_n C [(2, .int (0 : Int32)), (1, .int (0 : Int32)), (0, .ref (ad 25))] dX9_read_18 rfl (by decide) rfl ?_
  refine bk_elim h (fun X64_43 e_X64_43 h => ?_)
  have HX64_43 : ∀ (S44 : Nat → Int32) (V45 : Nat → Nat → Int32), X64_43 S44 V45 = some (r0, S0, V0) → jW p l e ({ frames := 3, cells := 0, slots := 0, locals := 63 }) s m args below meth c (MQ below (jQc D TC ad cA (some (.int r0)) s.heap.size S0 V0 L) args s 0 0 (jA ad TC s.heap.size)) D TC ad cA (jA ad TC s.heap.size) 3 0 0 64 [(0, .ref (ad 25))] [] S44 V45 L := by
    subst e_X64_43
    intro S44 V45 h
    refine j_aload_n C 0 rfl dX9_read_64 rfl ?_
    refine j_iconst C dX9_read_65 ci_1 ?_
    obtain ⟨S46, V47, h48, h⟩ := bd2_elim h
    refine j_callV (As := [.int (1 : Int32)]) (rest := []) C (kX9_writeBinding_25 l B D ad cA hI S44 V45 L (1 : Int32) _ _ h48) mw_X9_writeBinding wd1001 wd31 wd999 tc_25 rfl rfl ⟨rfl, rfl, by decide, by decide⟩ ⟨Nat.zero_le _, Nat.zero_le _⟩ rfl rfl (Nat.le_of_ble_eq_true rfl) dX9_read_66 ?_
    refine j_iconst C dX9_read_69 ci_0 ?_
    cases h
    exact j_iret C hr hlk rfl dX9_read_70
  exact j_sub [2, 1, 0] rfl (H_fX9_read_25_L19 _ HX64_43 FU _ _ _ _ h)
theorem dX3_readRule_0 : decode cX3_readRule 0 = .ok (.aload_n 0, 1) := by decide +kernel
theorem dX3_readRule_1 : decode cX3_readRule 1 = .ok (.getfield 12, 3) := by decide +kernel
theorem dX3_readRule_4 : decode cX3_readRule 4 = .ok (.getfield 135, 3) := by decide +kernel
theorem dX3_readRule_7 : decode cX3_readRule 7 = .ok (.iconst 4, 1) := by decide +kernel
theorem dX3_readRule_8 : decode cX3_readRule 8 = .ok (.if_icmp .lt 5, 3) := by decide +kernel
theorem dX3_readRule_11 : decode cX3_readRule 11 = .ok (.iconst 2, 1) := by decide +kernel
theorem dX3_readRule_12 : decode cX3_readRule 12 = .ok (.ireturn, 1) := by decide +kernel
theorem dX3_readRule_13 : decode cX3_readRule 13 = .ok (.aload_n 0, 1) := by decide +kernel
theorem dX3_readRule_14 : decode cX3_readRule 14 = .ok (.getfield 21, 3) := by decide +kernel
theorem dX3_readRule_17 : decode cX3_readRule 17 = .ok (.invokevirtual 64, 3) := by decide +kernel
theorem dX3_readRule_20 : decode cX3_readRule 20 = .ok (.aload_n 0, 1) := by decide +kernel
theorem dX3_readRule_21 : decode cX3_readRule 21 = .ok (.getfield 30, 3) := by decide +kernel
theorem dX3_readRule_24 : decode cX3_readRule 24 = .ok (.invokevirtual 138, 3) := by decide +kernel
theorem dX3_readRule_27 : decode cX3_readRule 27 = .ok (.istore_n 1, 1) := by decide +kernel
theorem dX3_readRule_28 : decode cX3_readRule 28 = .ok (.aload_n 0, 1) := by decide +kernel
theorem dX3_readRule_29 : decode cX3_readRule 29 = .ok (.getfield 12, 3) := by decide +kernel
theorem dX3_readRule_32 : decode cX3_readRule 32 = .ok (.getfield 141, 3) := by decide +kernel
theorem dX3_readRule_35 : decode cX3_readRule 35 = .ok (.aload_n 0, 1) := by decide +kernel
theorem dX3_readRule_36 : decode cX3_readRule 36 = .ok (.getfield 12, 3) := by decide +kernel
theorem dX3_readRule_39 : decode cX3_readRule 39 = .ok (.getfield 135, 3) := by decide +kernel
theorem dX3_readRule_42 : decode cX3_readRule 42 = .ok (.aload_n 0, 1) := by decide +kernel
theorem dX3_readRule_43 : decode cX3_readRule 43 = .ok (.getfield 12, 3) := by decide +kernel
theorem dX3_readRule_46 : decode cX3_readRule 46 = .ok (.getfield 144, 3) := by decide +kernel
theorem dX3_readRule_49 : decode cX3_readRule 49 = .ok (.iastore, 1) := by decide +kernel
theorem dX3_readRule_50 : decode cX3_readRule 50 = .ok (.aload_n 0, 1) := by decide +kernel
theorem dX3_readRule_51 : decode cX3_readRule 51 = .ok (.getfield 12, 3) := by decide +kernel
theorem dX3_readRule_54 : decode cX3_readRule 54 = .ok (.dup, 1) := by decide +kernel
theorem dX3_readRule_55 : decode cX3_readRule 55 = .ok (.getfield 135, 3) := by decide +kernel
theorem dX3_readRule_58 : decode cX3_readRule 58 = .ok (.iconst 1, 1) := by decide +kernel
theorem dX3_readRule_59 : decode cX3_readRule 59 = .ok (.iadd, 1) := by decide +kernel
theorem dX3_readRule_60 : decode cX3_readRule 60 = .ok (.putfield 135, 3) := by decide +kernel
theorem dX3_readRule_63 : decode cX3_readRule 63 = .ok (.iload_n 1, 1) := by decide +kernel
theorem dX3_readRule_64 : decode cX3_readRule 64 = .ok (.ireturn, 1) := by decide +kernel
def fX3_readRule_11 (S : Nat → Int32) (V : Nat → Nat → Int32) : Option (Int32 × (Nat → Int32) × (Nat → Nat → Int32)) :=
  (if (S 1206) < (4 : Int32) then
  bd1 (fX10_advance_20 S V) (fun S2 =>
  bd3 (fX9_read_25 S2 V) (fun r4 S5 V6 =>
  lt ((S5 1213)) (fun x8 =>
  lt ((S5 1206)) (fun x9 =>
  gd (ib x9 4) (
  lt (va_up V6 19 (upd (V6 19) (x9).toNatClampNeg x8)) (fun V11 =>
  lt (((S5 1206) + (1 : Int32))) (fun x12 =>
  lt (va_up S5 1206 x12) (fun S13 =>
  some (r4, S13, V11)))))))))
  else
  some ((2 : Int32), S, V))
set_option maxHeartbeats 4000000 in
set_option maxRecDepth 100000 in
theorem kX3_readRule_11 (l : Launch) (B : jBT) (D : va_G) (ad : Nat → Nat) (cA : Nat → ClassId) (hI : jI ad TC) (S : Nat → Int32) (V : Nat → Nat → Int32) (L : Nat → Int64) (r0 : Int32) (S0 : Nat → Int32) (V0 : Nat → Nat → Int32) (h : fX3_readRule_11 S V = some (r0, S0, V0)) : jM l yX3_readRule cX3_readRule 2 (some .int) ({ frames := 4, cells := 0, slots := 0, locals := 85 }) B D TC ad cA [.ref (ad 11)] S V L (some (.int r0)) S0 V0 L := by
  refine jM_of (plainFor_of_name (by decide)) TC_ok hI (Nat.le_of_ble_eq_true rfl) ?_
  intro p e s m args below meth c C hr hlk
  refine j_lv (lv2 := [(0, .ref (ad 11))]) rfl ?_
  unfold fX3_readRule_11 at h
  refine j_aload_n C 0 rfl dX3_readRule_0 rfl ?_
  refine fg_X3_12_TC_11 C dX3_readRule_1 ?_
  refine fg_X3_135_TC_12 C dX3_readRule_4 ?_
  refine j_iconst C dX3_readRule_7 ci_4 ?_
  refine j_icmp_lt (tgt := 13) C dX3_readRule_8 (by decide) (fun c1 => ?_) (fun c1 => ?_)
  · have h := (if_pos c1).symm.trans h
    refine j_aload_n C 0 rfl dX3_readRule_13 rfl ?_
    refine fg_X3_21_TC_11 C dX3_readRule_14 ?_
    obtain ⟨S2, h3, h⟩ := bd1_elim h
    refine j_callV (As := []) (rest := []) C (kX10_advance_20 l B D ad cA hI S V L _ h3) mw_X10_advance wd923 wd924 wd922 tc_20 rfl rfl ⟨rfl, rfl, by decide, by decide⟩ ⟨Nat.zero_le _, Nat.zero_le _⟩ rfl rfl (Nat.le_of_ble_eq_true rfl) dX3_readRule_17 ?_
    refine j_aload_n C 0 rfl dX3_readRule_20 rfl ?_
    refine fg_X3_30_TC_11 C dX3_readRule_21 ?_
    obtain ⟨r4, S5, V6, h7, h⟩ := bd3_elim h
    refine j_callV (As := []) (rest := []) C (kX9_read_25 l B D ad cA hI S2 V L _ _ _ h7) mw_X9_read wd961 wd962 wd960 tc_25 rfl rfl ⟨rfl, rfl, by decide, by decide⟩ ⟨Nat.zero_le _, Nat.zero_le _⟩ rfl rfl (Nat.le_of_ble_eq_true rfl) dX3_readRule_24 ?_
    refine j_istore_n C [(1, .int r4), (0, .ref (ad 11))] dX3_readRule_27 rfl (by decide) rfl ?_
    refine j_aload_n C 1 rfl dX3_readRule_28 rfl ?_
    refine fg_X3_12_TC_11 C dX3_readRule_29 ?_
    refine fg_X3_141_TC_12 C dX3_readRule_32 ?_
    refine j_aload_n C 1 rfl dX3_readRule_35 rfl ?_
    refine fg_X3_12_TC_11 C dX3_readRule_36 ?_
    refine fg_X3_135_TC_12 C dX3_readRule_39 ?_
    refine j_aload_n C 1 rfl dX3_readRule_42 rfl ?_
    refine fg_X3_12_TC_11 C dX3_readRule_43 ?_
    refine fg_X3_144_TC_12 C dX3_readRule_46 ?_
    refine lt_elim h (fun x8 e_x8 h => ?_)
    refine j_top e_x8 ?_
    refine lt_elim h (fun x9 e_x9 h => ?_)
    refine j_top2 e_x9 ?_
    obtain ⟨g10, h⟩ := gd_elim h
    refine j_iast C tc_19 (ib_in g10) dX3_readRule_49 ?_
    refine lt_elim h (fun V11 e_V11 h => ?_)
    refine j_V e_V11 ?_
    refine j_aload_n C 1 rfl dX3_readRule_50 rfl ?_
    refine fg_X3_12_TC_11 C dX3_readRule_51 ?_
    refine j_dup C dX3_readRule_54 rfl ?_
    refine fg_X3_135_TC_12 C dX3_readRule_55 ?_
    refine j_iconst C dX3_readRule_58 ci_1 ?_
    refine j_iadd C dX3_readRule_59 ?_
    refine lt_elim h (fun x12 e_x12 h => ?_)
    refine j_top e_x12 ?_
    refine fp_X3_135_TC_12 C dX3_readRule_60 ?_
    refine lt_elim h (fun S13 e_S13 h => ?_)
    refine j_S e_S13 ?_
    refine j_iload_n C 0 rfl dX3_readRule_63 rfl ?_
    cases h
    exact j_iret C hr hlk rfl dX3_readRule_64
  · have h := (if_neg c1).symm.trans h
    refine j_iconst C dX3_readRule_11 ci_2 ?_
    cases h
    exact j_iret C hr hlk rfl dX3_readRule_12
def fX2_hasTenant_12 (S : Nat → Int32) (a1 : Int32) : Option (Int32) :=
  (if a1 < 0 then
  some (0 : Int32)
  else
  (if (S 1204) ≤ a1 then
  some (0 : Int32)
  else
  some (1 : Int32)))
set_option maxHeartbeats 4000000 in
set_option maxRecDepth 100000 in
theorem kX2_hasTenant_12 (l : Launch) (B : jBT) (D : va_G) (ad : Nat → Nat) (cA : Nat → ClassId) (hI : jI ad TC) (S : Nat → Int32) (V : Nat → Nat → Int32) (L : Nat → Int64) (a1 : Int32) (r0 : Int32) (h : fX2_hasTenant_12 S a1 = some r0) : jM l yX2_hasTenant cX2_hasTenant 2 (some .boolean) ({ frames := 0, cells := 0, slots := 0, locals := 0 }) B D TC ad cA [.ref (ad 12), .int a1] S V L (some (.int r0)) S V L := by
  refine jM_of (plainFor_of_name (by decide)) TC_ok hI (Nat.le_of_ble_eq_true rfl) ?_
  intro p e s m args below meth c C hr hlk
  refine j_lv (lv2 := [(0, .ref (ad 12)), (1, .int a1)]) rfl ?_
  unfold fX2_hasTenant_12 at h
  refine j_iload_n C 1 rfl dX2_hasTenant_0 rfl ?_
  refine j_if_lt (tgt := 16) C dX2_hasTenant_1 (by decide) (fun c1 => ?_) (fun c1 => ?_)
  · have h := (if_pos c1).symm.trans h
    refine j_iconst C dX2_hasTenant_16 ci_0 ?_
    cases h
    exact j_zret C hr hlk rfl rfl dX2_hasTenant_17
  · have h := (if_neg c1).symm.trans h
    refine j_iload_n C 1 rfl dX2_hasTenant_4 rfl ?_
    refine j_aload_n C 0 rfl dX2_hasTenant_5 rfl ?_
    refine fg_X2_46_TC_12 C dX2_hasTenant_6 ?_
    refine j_icmp_ge (tgt := 16) C dX2_hasTenant_9 (by decide) (fun c2 => ?_) (fun c2 => ?_)
    · have h := (if_pos c2).symm.trans h
      refine j_iconst C dX2_hasTenant_16 ci_0 ?_
      cases h
      exact j_zret C hr hlk rfl rfl dX2_hasTenant_17
    · have h := (if_neg c2).symm.trans h
      refine j_iconst C dX2_hasTenant_12 ci_1 ?_
      refine j_goto (tgt := 17) C dX2_hasTenant_13 (by decide) ?_
      cases h
      exact j_zret C hr hlk rfl rfl dX2_hasTenant_17
theorem dX3_tenantFault_0 : decode cX3_tenantFault 0 = .ok (.aload_n 0, 1) := by decide +kernel
theorem dX3_tenantFault_1 : decode cX3_tenantFault 1 = .ok (.getfield 21, 3) := by decide +kernel
theorem dX3_tenantFault_4 : decode cX3_tenantFault 4 = .ok (.invokevirtual 51, 3) := by decide +kernel
theorem dX3_tenantFault_7 : decode cX3_tenantFault 7 = .ok (.iconst 1, 1) := by decide +kernel
theorem dX3_tenantFault_8 : decode cX3_tenantFault 8 = .ok (.if_icmp .eq 5, 3) := by decide +kernel
theorem dX3_tenantFault_11 : decode cX3_tenantFault 11 = .ok (.iconst 1, 1) := by decide +kernel
theorem dX3_tenantFault_12 : decode cX3_tenantFault 12 = .ok (.ireturn, 1) := by decide +kernel
theorem dX3_tenantFault_13 : decode cX3_tenantFault 13 = .ok (.aload_n 0, 1) := by decide +kernel
theorem dX3_tenantFault_14 : decode cX3_tenantFault 14 = .ok (.getfield 21, 3) := by decide +kernel
theorem dX3_tenantFault_17 : decode cX3_tenantFault 17 = .ok (.invokevirtual 130, 3) := by decide +kernel
theorem dX3_tenantFault_20 : decode cX3_tenantFault 20 = .ok (.iconst (-1), 1) := by decide +kernel
theorem dX3_tenantFault_21 : decode cX3_tenantFault 21 = .ok (.if_icmp .ne 5, 3) := by decide +kernel
theorem dX3_tenantFault_24 : decode cX3_tenantFault 24 = .ok (.iconst 2, 1) := by decide +kernel
theorem dX3_tenantFault_25 : decode cX3_tenantFault 25 = .ok (.ireturn, 1) := by decide +kernel
theorem dX3_tenantFault_26 : decode cX3_tenantFault 26 = .ok (.aload_n 0, 1) := by decide +kernel
theorem dX3_tenantFault_27 : decode cX3_tenantFault 27 = .ok (.getfield 12, 3) := by decide +kernel
theorem dX3_tenantFault_30 : decode cX3_tenantFault 30 = .ok (.aload_n 0, 1) := by decide +kernel
theorem dX3_tenantFault_31 : decode cX3_tenantFault 31 = .ok (.getfield 21, 3) := by decide +kernel
theorem dX3_tenantFault_34 : decode cX3_tenantFault 34 = .ok (.invokevirtual 130, 3) := by decide +kernel
theorem dX3_tenantFault_37 : decode cX3_tenantFault 37 = .ok (.invokevirtual 147, 3) := by decide +kernel
theorem dX3_tenantFault_40 : decode cX3_tenantFault 40 = .ok (.ifCond .eq 7, 3) := by decide +kernel
theorem dX3_tenantFault_43 : decode cX3_tenantFault 43 = .ok (.iconst 0, 1) := by decide +kernel
theorem dX3_tenantFault_44 : decode cX3_tenantFault 44 = .ok (.goto 4, 3) := by decide +kernel
theorem dX3_tenantFault_47 : decode cX3_tenantFault 47 = .ok (.iconst 3, 1) := by decide +kernel
theorem dX3_tenantFault_48 : decode cX3_tenantFault 48 = .ok (.ireturn, 1) := by decide +kernel
def fX3_tenantFault_11 (S : Nat → Int32) (V : Nat → Nat → Int32) : Option (Int32) :=
  bd1 (fX10_kind_20 S V) (fun r1 =>
  (if r1 = (1 : Int32) then
  bd1 (fX10_number_20 S V) (fun r4 =>
  (if r4 = (-1 : Int32) then
  some (2 : Int32)
  else
  bd1 (fX10_number_20 S V) (fun r7 =>
  bd1 (fX2_hasTenant_12 S r7) (fun r9 =>
  (if r9 = 0 then
  some (3 : Int32)
  else
  some (0 : Int32))))))
  else
  some (1 : Int32)))
set_option maxHeartbeats 4000000 in
set_option maxRecDepth 100000 in
theorem kX3_tenantFault_11 (l : Launch) (B : jBT) (D : va_G) (ad : Nat → Nat) (cA : Nat → ClassId) (hI : jI ad TC) (S : Nat → Int32) (V : Nat → Nat → Int32) (L : Nat → Int64) (r0 : Int32) (h : fX3_tenantFault_11 S V = some r0) : jM l yX3_tenantFault cX3_tenantFault 1 (some .int) ({ frames := 1, cells := 0, slots := 0, locals := 21 }) B D TC ad cA [.ref (ad 11)] S V L (some (.int r0)) S V L := by
  refine jM_of (plainFor_of_name (by decide)) TC_ok hI (Nat.le_of_ble_eq_true rfl) ?_
  intro p e s m args below meth c C hr hlk
  refine j_lv (lv2 := [(0, .ref (ad 11))]) rfl ?_
  unfold fX3_tenantFault_11 at h
  refine j_aload_n C 0 rfl dX3_tenantFault_0 rfl ?_
  refine fg_X3_21_TC_11 C dX3_tenantFault_1 ?_
  obtain ⟨r1, h2, h⟩ := bd1_elim h
  refine j_callV (As := []) (rest := []) C (kX10_kind_20 l B D ad cA hI S V L _ h2) mw_X10_kind wd911 wd912 wd910 tc_20 rfl rfl ⟨rfl, rfl, by decide, by decide⟩ ⟨Nat.zero_le _, Nat.zero_le _⟩ rfl rfl (Nat.le_of_ble_eq_true rfl) dX3_tenantFault_4 ?_
  refine j_iconst C dX3_tenantFault_7 ci_1 ?_
  refine j_icmp_eq (tgt := 13) C dX3_tenantFault_8 (by decide) (fun c3 => ?_) (fun c3 => ?_)
  · have h := (if_pos c3).symm.trans h
    refine j_aload_n C 0 rfl dX3_tenantFault_13 rfl ?_
    refine fg_X3_21_TC_11 C dX3_tenantFault_14 ?_
    obtain ⟨r4, h5, h⟩ := bd1_elim h
    refine j_callV (As := []) (rest := []) C (kX10_number_20 l B D ad cA hI S V L _ h5) mw_X10_number wd931 wd932 wd930 tc_20 rfl rfl ⟨rfl, rfl, by decide, by decide⟩ ⟨Nat.zero_le _, Nat.zero_le _⟩ rfl rfl (Nat.le_of_ble_eq_true rfl) dX3_tenantFault_17 ?_
    refine j_iconst C dX3_tenantFault_20 ci_m1 ?_
    refine j_icmp_ne (tgt := 26) C dX3_tenantFault_21 (by decide) (fun c6 => ?_) (fun c6 => ?_)
    · have h := (if_neg c6).symm.trans h
      refine j_aload_n C 0 rfl dX3_tenantFault_26 rfl ?_
      refine fg_X3_12_TC_11 C dX3_tenantFault_27 ?_
      refine j_aload_n C 0 rfl dX3_tenantFault_30 rfl ?_
      refine fg_X3_21_TC_11 C dX3_tenantFault_31 ?_
      obtain ⟨r7, h8, h⟩ := bd1_elim h
      refine j_callV (As := []) (rest := [.ref (ad 12)]) C (kX10_number_20 l B D ad cA hI S V L _ h8) mw_X10_number wd931 wd932 wd930 tc_20 rfl rfl ⟨rfl, rfl, by decide, by decide⟩ ⟨Nat.zero_le _, Nat.zero_le _⟩ rfl rfl (Nat.le_of_ble_eq_true rfl) dX3_tenantFault_34 ?_
      obtain ⟨r9, h10, h⟩ := bd1_elim h
      refine j_callV (As := [.int r7]) (rest := []) C (kX2_hasTenant_12 l B D ad cA hI S V L r7 _ h10) mw_X2_hasTenant wd577 wd578 wd954 tc_12 rfl rfl ⟨rfl, rfl, by decide, by decide⟩ ⟨Nat.zero_le _, Nat.zero_le _⟩ rfl rfl (Nat.le_of_ble_eq_true rfl) dX3_tenantFault_37 ?_
      refine j_if_eq (tgt := 47) C dX3_tenantFault_40 (by decide) (fun c11 => ?_) (fun c11 => ?_)
      · have h := (if_pos c11).symm.trans h
        refine j_iconst C dX3_tenantFault_47 ci_3 ?_
        cases h
        exact j_iret C hr hlk rfl dX3_tenantFault_48
      · have h := (if_neg c11).symm.trans h
        refine j_iconst C dX3_tenantFault_43 ci_0 ?_
        refine j_goto (tgt := 48) C dX3_tenantFault_44 (by decide) ?_
        cases h
        exact j_iret C hr hlk rfl dX3_tenantFault_48
    · have h := (if_pos c6).symm.trans h
      refine j_iconst C dX3_tenantFault_24 ci_2 ?_
      cases h
      exact j_iret C hr hlk rfl dX3_tenantFault_25
  · have h := (if_neg c3).symm.trans h
    refine j_iconst C dX3_tenantFault_11 ci_1 ?_
    cases h
    exact j_iret C hr hlk rfl dX3_tenantFault_12
def fX2_quarrelsOf_12 (V : Nat → Nat → Int32) (a1 : Int32) (a2 : Int32) : Option (Int32) :=
  (if a1 = (-1 : Int32) then
  some (0 : Int32)
  else
  (if a2 = (-1 : Int32) then
  some (0 : Int32)
  else
  gd (ib a1 6) (
  some ((((V 17 (a1).toNatClampNeg) >>> (a2 &&& 31)) &&& (1 : Int32))))))
set_option maxHeartbeats 4000000 in
set_option maxRecDepth 100000 in
theorem kX2_quarrelsOf_12 (l : Launch) (B : jBT) (D : va_G) (ad : Nat → Nat) (cA : Nat → ClassId) (hI : jI ad TC) (S : Nat → Int32) (V : Nat → Nat → Int32) (L : Nat → Int64) (a1 : Int32) (a2 : Int32) (r0 : Int32) (h : fX2_quarrelsOf_12 V a1 a2 = some r0) : jM l yX2_quarrelsOf cX2_quarrelsOf 3 (some .int) ({ frames := 0, cells := 0, slots := 0, locals := 0 }) B D TC ad cA [.ref (ad 12), .int a1, .int a2] S V L (some (.int r0)) S V L := by
  refine jM_of (plainFor_of_name (by decide)) TC_ok hI (Nat.le_of_ble_eq_true rfl) ?_
  intro p e s m args below meth c C hr hlk
  refine j_lv (lv2 := [(0, .ref (ad 12)), (1, .int a1), (2, .int a2)]) rfl ?_
  unfold fX2_quarrelsOf_12 at h
  refine j_iload_n C 1 rfl dX2_quarrelsOf_0 rfl ?_
  refine j_iconst C dX2_quarrelsOf_1 ci_m1 ?_
  refine j_icmp_eq (tgt := 10) C dX2_quarrelsOf_2 (by decide) (fun c1 => ?_) (fun c1 => ?_)
  · have h := (if_pos c1).symm.trans h
    refine j_iconst C dX2_quarrelsOf_10 ci_0 ?_
    refine j_goto (tgt := 24) C dX2_quarrelsOf_11 (by decide) ?_
    cases h
    exact j_iret C hr hlk rfl dX2_quarrelsOf_24
  · have h := (if_neg c1).symm.trans h
    refine j_iload_n C 2 rfl dX2_quarrelsOf_5 rfl ?_
    refine j_iconst C dX2_quarrelsOf_6 ci_m1 ?_
    refine j_icmp_ne (tgt := 14) C dX2_quarrelsOf_7 (by decide) (fun c2 => ?_) (fun c2 => ?_)
    · have h := (if_neg c2).symm.trans h
      refine j_aload_n C 0 rfl dX2_quarrelsOf_14 rfl ?_
      refine fg_X2_24_TC_12 C dX2_quarrelsOf_15 ?_
      refine j_iload_n C 1 rfl dX2_quarrelsOf_18 rfl ?_
      obtain ⟨g3, h⟩ := gd_elim h
      refine j_iald C tc_17 (ib_in g3) dX2_quarrelsOf_19 ?_
      refine j_iload_n C 2 rfl dX2_quarrelsOf_20 rfl ?_
      refine j_ishr C dX2_quarrelsOf_21 ?_
      refine j_iconst C dX2_quarrelsOf_22 ci_1 ?_
      refine j_iand C dX2_quarrelsOf_23 ?_
      cases h
      exact j_iret C hr hlk rfl dX2_quarrelsOf_24
    · have h := (if_pos c2).symm.trans h
      refine j_iconst C dX2_quarrelsOf_10 ci_0 ?_
      refine j_goto (tgt := 24) C dX2_quarrelsOf_11 (by decide) ?_
      cases h
      exact j_iret C hr hlk rfl dX2_quarrelsOf_24
theorem dX3_readQuarrel_0 : decode cX3_readQuarrel 0 = .ok (.aload_n 0, 1) := by decide +kernel
theorem dX3_readQuarrel_1 : decode cX3_readQuarrel 1 = .ok (.getfield 12, 3) := by decide +kernel
theorem dX3_readQuarrel_4 : decode cX3_readQuarrel 4 = .ok (.getfield 124, 3) := by decide +kernel
theorem dX3_readQuarrel_7 : decode cX3_readQuarrel 7 = .ok (.bipush 8, 2) := by decide +kernel
theorem dX3_readQuarrel_9 : decode cX3_readQuarrel 9 = .ok (.if_icmp .lt 5, 3) := by decide +kernel
theorem dX3_readQuarrel_12 : decode cX3_readQuarrel 12 = .ok (.iconst 2, 1) := by decide +kernel
theorem dX3_readQuarrel_13 : decode cX3_readQuarrel 13 = .ok (.ireturn, 1) := by decide +kernel
theorem dX3_readQuarrel_14 : decode cX3_readQuarrel 14 = .ok (.aload_n 0, 1) := by decide +kernel
theorem dX3_readQuarrel_15 : decode cX3_readQuarrel 15 = .ok (.getfield 21, 3) := by decide +kernel
theorem dX3_readQuarrel_18 : decode cX3_readQuarrel 18 = .ok (.invokevirtual 64, 3) := by decide +kernel
theorem dX3_readQuarrel_21 : decode cX3_readQuarrel 21 = .ok (.aload_n 0, 1) := by decide +kernel
theorem dX3_readQuarrel_22 : decode cX3_readQuarrel 22 = .ok (.invokevirtual 127, 3) := by decide +kernel
theorem dX3_readQuarrel_25 : decode cX3_readQuarrel 25 = .ok (.istore_n 1, 1) := by decide +kernel
theorem dX3_readQuarrel_26 : decode cX3_readQuarrel 26 = .ok (.iload_n 1, 1) := by decide +kernel
theorem dX3_readQuarrel_27 : decode cX3_readQuarrel 27 = .ok (.ifCond .eq 5, 3) := by decide +kernel
theorem dX3_readQuarrel_30 : decode cX3_readQuarrel 30 = .ok (.iload_n 1, 1) := by decide +kernel
theorem dX3_readQuarrel_31 : decode cX3_readQuarrel 31 = .ok (.ireturn, 1) := by decide +kernel
theorem dX3_readQuarrel_32 : decode cX3_readQuarrel 32 = .ok (.aload_n 0, 1) := by decide +kernel
theorem dX3_readQuarrel_33 : decode cX3_readQuarrel 33 = .ok (.getfield 21, 3) := by decide +kernel
theorem dX3_readQuarrel_36 : decode cX3_readQuarrel 36 = .ok (.invokevirtual 130, 3) := by decide +kernel
theorem dX3_readQuarrel_39 : decode cX3_readQuarrel 39 = .ok (.istore_n 2, 1) := by decide +kernel
theorem dX3_readQuarrel_40 : decode cX3_readQuarrel 40 = .ok (.aload_n 0, 1) := by decide +kernel
theorem dX3_readQuarrel_41 : decode cX3_readQuarrel 41 = .ok (.getfield 21, 3) := by decide +kernel
theorem dX3_readQuarrel_44 : decode cX3_readQuarrel 44 = .ok (.invokevirtual 64, 3) := by decide +kernel
theorem dX3_readQuarrel_47 : decode cX3_readQuarrel 47 = .ok (.aload_n 0, 1) := by decide +kernel
theorem dX3_readQuarrel_48 : decode cX3_readQuarrel 48 = .ok (.invokevirtual 127, 3) := by decide +kernel
theorem dX3_readQuarrel_51 : decode cX3_readQuarrel 51 = .ok (.istore_n 1, 1) := by decide +kernel
theorem dX3_readQuarrel_52 : decode cX3_readQuarrel 52 = .ok (.iload_n 1, 1) := by decide +kernel
theorem dX3_readQuarrel_53 : decode cX3_readQuarrel 53 = .ok (.ifCond .eq 5, 3) := by decide +kernel
theorem dX3_readQuarrel_56 : decode cX3_readQuarrel 56 = .ok (.iload_n 1, 1) := by decide +kernel
theorem dX3_readQuarrel_57 : decode cX3_readQuarrel 57 = .ok (.ireturn, 1) := by decide +kernel
theorem dX3_readQuarrel_58 : decode cX3_readQuarrel 58 = .ok (.aload_n 0, 1) := by decide +kernel
theorem dX3_readQuarrel_59 : decode cX3_readQuarrel 59 = .ok (.getfield 21, 3) := by decide +kernel
theorem dX3_readQuarrel_62 : decode cX3_readQuarrel 62 = .ok (.invokevirtual 130, 3) := by decide +kernel
theorem dX3_readQuarrel_65 : decode cX3_readQuarrel 65 = .ok (.istore_n 3, 1) := by decide +kernel
theorem dX3_readQuarrel_66 : decode cX3_readQuarrel 66 = .ok (.iload_n 2, 1) := by decide +kernel
theorem dX3_readQuarrel_67 : decode cX3_readQuarrel 67 = .ok (.iload_n 3, 1) := by decide +kernel
theorem dX3_readQuarrel_68 : decode cX3_readQuarrel 68 = .ok (.if_icmp .eq 15, 3) := by decide +kernel
theorem dX3_readQuarrel_71 : decode cX3_readQuarrel 71 = .ok (.aload_n 0, 1) := by decide +kernel
theorem dX3_readQuarrel_72 : decode cX3_readQuarrel 72 = .ok (.getfield 12, 3) := by decide +kernel
theorem dX3_readQuarrel_75 : decode cX3_readQuarrel 75 = .ok (.iload_n 2, 1) := by decide +kernel
theorem dX3_readQuarrel_76 : decode cX3_readQuarrel 76 = .ok (.iload_n 3, 1) := by decide +kernel
theorem dX3_readQuarrel_77 : decode cX3_readQuarrel 77 = .ok (.invokevirtual 132, 3) := by decide +kernel
theorem dX3_readQuarrel_80 : decode cX3_readQuarrel 80 = .ok (.ifCond .eq 5, 3) := by decide +kernel
theorem dX3_readQuarrel_83 : decode cX3_readQuarrel 83 = .ok (.iconst 4, 1) := by decide +kernel
theorem dX3_readQuarrel_84 : decode cX3_readQuarrel 84 = .ok (.ireturn, 1) := by decide +kernel
theorem dX3_readQuarrel_85 : decode cX3_readQuarrel 85 = .ok (.aload_n 0, 1) := by decide +kernel
theorem dX3_readQuarrel_86 : decode cX3_readQuarrel 86 = .ok (.getfield 21, 3) := by decide +kernel
theorem dX3_readQuarrel_89 : decode cX3_readQuarrel 89 = .ok (.invokevirtual 64, 3) := by decide +kernel
theorem dX3_readQuarrel_92 : decode cX3_readQuarrel 92 = .ok (.aload_n 0, 1) := by decide +kernel
theorem dX3_readQuarrel_93 : decode cX3_readQuarrel 93 = .ok (.getfield 12, 3) := by decide +kernel
theorem dX3_readQuarrel_96 : decode cX3_readQuarrel 96 = .ok (.getfield 121, 3) := by decide +kernel
theorem dX3_readQuarrel_99 : decode cX3_readQuarrel 99 = .ok (.iload_n 2, 1) := by decide +kernel
theorem dX3_readQuarrel_100 : decode cX3_readQuarrel 100 = .ok (.dup2, 1) := by decide +kernel
theorem dX3_readQuarrel_101 : decode cX3_readQuarrel 101 = .ok (.iaload, 1) := by decide +kernel
theorem dX3_readQuarrel_102 : decode cX3_readQuarrel 102 = .ok (.iconst 1, 1) := by decide +kernel
theorem dX3_readQuarrel_103 : decode cX3_readQuarrel 103 = .ok (.iload_n 3, 1) := by decide +kernel
theorem dX3_readQuarrel_104 : decode cX3_readQuarrel 104 = .ok (.ishl, 1) := by decide +kernel
theorem dX3_readQuarrel_105 : decode cX3_readQuarrel 105 = .ok (.ior, 1) := by decide +kernel
theorem dX3_readQuarrel_106 : decode cX3_readQuarrel 106 = .ok (.iastore, 1) := by decide +kernel
theorem dX3_readQuarrel_107 : decode cX3_readQuarrel 107 = .ok (.aload_n 0, 1) := by decide +kernel
theorem dX3_readQuarrel_108 : decode cX3_readQuarrel 108 = .ok (.getfield 12, 3) := by decide +kernel
theorem dX3_readQuarrel_111 : decode cX3_readQuarrel 111 = .ok (.getfield 121, 3) := by decide +kernel
theorem dX3_readQuarrel_114 : decode cX3_readQuarrel 114 = .ok (.iload_n 3, 1) := by decide +kernel
theorem dX3_readQuarrel_115 : decode cX3_readQuarrel 115 = .ok (.dup2, 1) := by decide +kernel
theorem dX3_readQuarrel_116 : decode cX3_readQuarrel 116 = .ok (.iaload, 1) := by decide +kernel
theorem dX3_readQuarrel_117 : decode cX3_readQuarrel 117 = .ok (.iconst 1, 1) := by decide +kernel
theorem dX3_readQuarrel_118 : decode cX3_readQuarrel 118 = .ok (.iload_n 2, 1) := by decide +kernel
theorem dX3_readQuarrel_119 : decode cX3_readQuarrel 119 = .ok (.ishl, 1) := by decide +kernel
theorem dX3_readQuarrel_120 : decode cX3_readQuarrel 120 = .ok (.ior, 1) := by decide +kernel
theorem dX3_readQuarrel_121 : decode cX3_readQuarrel 121 = .ok (.iastore, 1) := by decide +kernel
theorem dX3_readQuarrel_122 : decode cX3_readQuarrel 122 = .ok (.aload_n 0, 1) := by decide +kernel
theorem dX3_readQuarrel_123 : decode cX3_readQuarrel 123 = .ok (.getfield 12, 3) := by decide +kernel
theorem dX3_readQuarrel_126 : decode cX3_readQuarrel 126 = .ok (.dup, 1) := by decide +kernel
theorem dX3_readQuarrel_127 : decode cX3_readQuarrel 127 = .ok (.getfield 124, 3) := by decide +kernel
theorem dX3_readQuarrel_130 : decode cX3_readQuarrel 130 = .ok (.iconst 1, 1) := by decide +kernel
theorem dX3_readQuarrel_131 : decode cX3_readQuarrel 131 = .ok (.iadd, 1) := by decide +kernel
theorem dX3_readQuarrel_132 : decode cX3_readQuarrel 132 = .ok (.putfield 124, 3) := by decide +kernel
theorem dX3_readQuarrel_135 : decode cX3_readQuarrel 135 = .ok (.iconst 0, 1) := by decide +kernel
theorem dX3_readQuarrel_136 : decode cX3_readQuarrel 136 = .ok (.ireturn, 1) := by decide +kernel
def fX3_readQuarrel_11 (S : Nat → Int32) (V : Nat → Nat → Int32) : Option (Int32 × (Nat → Int32) × (Nat → Nat → Int32)) :=
  (if (S 1205) < (8 : Int32) then
  bd1 (fX10_advance_20 S V) (fun S2 =>
  bd1 (fX3_tenantFault_11 S2 V) (fun r4 =>
  (if r4 = 0 then
  bd1 (fX10_number_20 S2 V) (fun r7 =>
  bd1 (fX10_advance_20 S2 V) (fun S9 =>
  bd1 (fX3_tenantFault_11 S9 V) (fun r11 =>
  (if r11 = 0 then
  bd1 (fX10_number_20 S9 V) (fun r14 =>
  (if r7 = r14 then
  some ((4 : Int32), S9, V)
  else
  bd1 (fX2_quarrelsOf_12 V r7 r14) (fun r17 =>
  (if r17 = 0 then
  bd1 (fX10_advance_20 S9 V) (fun S20 =>
  gd (ib r7 6) (
  lt (((V 17 (r7).toNatClampNeg) ||| ((1 : Int32) <<< (r14 &&& 31)))) (fun x23 =>
  gd (ib r7 6) (
  lt (va_up V 17 (upd (V 17) (r7).toNatClampNeg x23)) (fun V25 =>
  gd (ib r14 6) (
  lt (((V25 17 (r14).toNatClampNeg) ||| ((1 : Int32) <<< (r7 &&& 31)))) (fun x27 =>
  gd (ib r14 6) (
  lt (va_up V25 17 (upd (V25 17) (r14).toNatClampNeg x27)) (fun V29 =>
  lt (((S20 1205) + (1 : Int32))) (fun x30 =>
  lt (va_up S20 1205 x30) (fun S31 =>
  some ((0 : Int32), S31, V29))))))))))))
  else
  some ((4 : Int32), S9, V)))))
  else
  some (r11, S9, V)))))
  else
  some (r4, S2, V))))
  else
  some ((2 : Int32), S, V))
set_option maxHeartbeats 4000000 in
set_option maxRecDepth 100000 in
theorem kX3_readQuarrel_11 (l : Launch) (B : jBT) (D : va_G) (ad : Nat → Nat) (cA : Nat → ClassId) (hI : jI ad TC) (S : Nat → Int32) (V : Nat → Nat → Int32) (L : Nat → Int64) (r0 : Int32) (S0 : Nat → Int32) (V0 : Nat → Nat → Int32) (h : fX3_readQuarrel_11 S V = some (r0, S0, V0)) : jM l yX3_readQuarrel cX3_readQuarrel 4 (some .int) ({ frames := 2, cells := 0, slots := 0, locals := 41 }) B D TC ad cA [.ref (ad 11)] S V L (some (.int r0)) S0 V0 L := by
  refine jM_of (plainFor_of_name (by decide)) TC_ok hI (Nat.le_of_ble_eq_true rfl) ?_
  intro p e s m args below meth c C hr hlk
  refine j_lv (lv2 := [(0, .ref (ad 11))]) rfl ?_
  unfold fX3_readQuarrel_11 at h
  refine j_aload_n C 0 rfl dX3_readQuarrel_0 rfl ?_
  refine fg_X3_12_TC_11 C dX3_readQuarrel_1 ?_
  refine fg_X3_124_TC_12 C dX3_readQuarrel_4 ?_
  refine j_bipush C dX3_readQuarrel_7 cb_8 ?_
  refine j_icmp_lt (tgt := 14) C dX3_readQuarrel_9 (by decide) (fun c1 => ?_) (fun c1 => ?_)
  · have h := (if_pos c1).symm.trans h
    refine j_aload_n C 0 rfl dX3_readQuarrel_14 rfl ?_
    refine fg_X3_21_TC_11 C dX3_readQuarrel_15 ?_
    obtain ⟨S2, h3, h⟩ := bd1_elim h
    refine j_callV (As := []) (rest := []) C (kX10_advance_20 l B D ad cA hI S V L _ h3) mw_X10_advance wd923 wd924 wd922 tc_20 rfl rfl ⟨rfl, rfl, by decide, by decide⟩ ⟨Nat.zero_le _, Nat.zero_le _⟩ rfl rfl (Nat.le_of_ble_eq_true rfl) dX3_readQuarrel_18 ?_
    refine j_aload_n C 0 rfl dX3_readQuarrel_21 rfl ?_
    obtain ⟨r4, h5, h⟩ := bd1_elim h
    refine j_callV (As := []) (rest := []) C (kX3_tenantFault_11 l B D ad cA hI S2 V L _ h5) mw_X3_tenantFault wd952 wd23 wd950 tc_11 rfl rfl ⟨rfl, rfl, by decide, by decide⟩ ⟨Nat.zero_le _, Nat.zero_le _⟩ rfl rfl (Nat.le_of_ble_eq_true rfl) dX3_readQuarrel_22 ?_
    refine j_istore_n C [(1, .int r4), (0, .ref (ad 11))] dX3_readQuarrel_25 rfl (by decide) rfl ?_
    refine j_iload_n C 0 rfl dX3_readQuarrel_26 rfl ?_
    refine j_if_eq (tgt := 32) C dX3_readQuarrel_27 (by decide) (fun c6 => ?_) (fun c6 => ?_)
    · have h := (if_pos c6).symm.trans h
      refine j_aload_n C 1 rfl dX3_readQuarrel_32 rfl ?_
      refine fg_X3_21_TC_11 C dX3_readQuarrel_33 ?_
      obtain ⟨r7, h8, h⟩ := bd1_elim h
      refine j_callV (As := []) (rest := []) C (kX10_number_20 l B D ad cA hI S2 V L _ h8) mw_X10_number wd931 wd932 wd930 tc_20 rfl rfl ⟨rfl, rfl, by decide, by decide⟩ ⟨Nat.zero_le _, Nat.zero_le _⟩ rfl rfl (Nat.le_of_ble_eq_true rfl) dX3_readQuarrel_36 ?_
      refine j_istore_n C [(2, .int r7), (1, .int r4), (0, .ref (ad 11))] dX3_readQuarrel_39 rfl (by decide) rfl ?_
      refine j_aload_n C 2 rfl dX3_readQuarrel_40 rfl ?_
      refine fg_X3_21_TC_11 C dX3_readQuarrel_41 ?_
      obtain ⟨S9, h10, h⟩ := bd1_elim h
      refine j_callV (As := []) (rest := []) C (kX10_advance_20 l B D ad cA hI S2 V L _ h10) mw_X10_advance wd923 wd924 wd922 tc_20 rfl rfl ⟨rfl, rfl, by decide, by decide⟩ ⟨Nat.zero_le _, Nat.zero_le _⟩ rfl rfl (Nat.le_of_ble_eq_true rfl) dX3_readQuarrel_44 ?_
      refine j_aload_n C 2 rfl dX3_readQuarrel_47 rfl ?_
      obtain ⟨r11, h12, h⟩ := bd1_elim h
      refine j_callV (As := []) (rest := []) C (kX3_tenantFault_11 l B D ad cA hI S9 V L _ h12) mw_X3_tenantFault wd952 wd23 wd950 tc_11 rfl rfl ⟨rfl, rfl, by decide, by decide⟩ ⟨Nat.zero_le _, Nat.zero_le _⟩ rfl rfl (Nat.le_of_ble_eq_true rfl) dX3_readQuarrel_48 ?_
      refine j_istore_n C [(1, .int r11), (2, .int r7), (0, .ref (ad 11))] dX3_readQuarrel_51 rfl (by decide) rfl ?_
      refine j_iload_n C 0 rfl dX3_readQuarrel_52 rfl ?_
      refine j_if_eq (tgt := 58) C dX3_readQuarrel_53 (by decide) (fun c13 => ?_) (fun c13 => ?_)
      · have h := (if_pos c13).symm.trans h
        refine j_aload_n C 2 rfl dX3_readQuarrel_58 rfl ?_
        refine fg_X3_21_TC_11 C dX3_readQuarrel_59 ?_
        obtain ⟨r14, h15, h⟩ := bd1_elim h
        refine j_callV (As := []) (rest := []) C (kX10_number_20 l B D ad cA hI S9 V L _ h15) mw_X10_number wd931 wd932 wd930 tc_20 rfl rfl ⟨rfl, rfl, by decide, by decide⟩ ⟨Nat.zero_le _, Nat.zero_le _⟩ rfl rfl (Nat.le_of_ble_eq_true rfl) dX3_readQuarrel_62 ?_
        refine j_istore_n C [(3, .int r14), (1, .int r11), (2, .int r7), (0, .ref (ad 11))] dX3_readQuarrel_65 rfl (by decide) rfl ?_
        refine j_iload_n C 2 rfl dX3_readQuarrel_66 rfl ?_
        refine j_iload_n C 0 rfl dX3_readQuarrel_67 rfl ?_
        refine j_icmp_eq (tgt := 83) C dX3_readQuarrel_68 (by decide) (fun c16 => ?_) (fun c16 => ?_)
        · have h := (if_pos c16).symm.trans h
          refine j_iconst C dX3_readQuarrel_83 ci_4 ?_
          cases h
          exact j_iret C hr hlk rfl dX3_readQuarrel_84
        · have h := (if_neg c16).symm.trans h
          refine j_aload_n C 3 rfl dX3_readQuarrel_71 rfl ?_
          refine fg_X3_12_TC_11 C dX3_readQuarrel_72 ?_
          refine j_iload_n C 2 rfl dX3_readQuarrel_75 rfl ?_
          refine j_iload_n C 0 rfl dX3_readQuarrel_76 rfl ?_
          obtain ⟨r17, h18, h⟩ := bd1_elim h
          refine j_callV (As := [.int r7, .int r14]) (rest := []) C (kX2_quarrelsOf_12 l B D ad cA hI S9 V L r7 r14 _ h18) mw_X2_quarrelsOf wd620 wd621 wd955 tc_12 rfl rfl ⟨rfl, rfl, by decide, by decide⟩ ⟨Nat.zero_le _, Nat.zero_le _⟩ rfl rfl (Nat.le_of_ble_eq_true rfl) dX3_readQuarrel_77 ?_
          refine j_if_eq (tgt := 85) C dX3_readQuarrel_80 (by decide) (fun c19 => ?_) (fun c19 => ?_)
          · have h := (if_pos c19).symm.trans h
            refine j_aload_n C 3 rfl dX3_readQuarrel_85 rfl ?_
            refine fg_X3_21_TC_11 C dX3_readQuarrel_86 ?_
            obtain ⟨S20, h21, h⟩ := bd1_elim h
            refine j_callV (As := []) (rest := []) C (kX10_advance_20 l B D ad cA hI S9 V L _ h21) mw_X10_advance wd923 wd924 wd922 tc_20 rfl rfl ⟨rfl, rfl, by decide, by decide⟩ ⟨Nat.zero_le _, Nat.zero_le _⟩ rfl rfl (Nat.le_of_ble_eq_true rfl) dX3_readQuarrel_89 ?_
            refine j_aload_n C 3 rfl dX3_readQuarrel_92 rfl ?_
            refine fg_X3_12_TC_11 C dX3_readQuarrel_93 ?_
            refine fg_X3_121_TC_12 C dX3_readQuarrel_96 ?_
            refine j_iload_n C 2 rfl dX3_readQuarrel_99 rfl ?_
            refine j_dup2_11 C dX3_readQuarrel_100 rfl rfl ?_
            obtain ⟨g22, h⟩ := gd_elim h
            refine j_iald C tc_17 (ib_in g22) dX3_readQuarrel_101 ?_
            refine j_iconst C dX3_readQuarrel_102 ci_1 ?_
            refine j_iload_n C 0 rfl dX3_readQuarrel_103 rfl ?_
            refine j_ishl C dX3_readQuarrel_104 ?_
            refine j_ior C dX3_readQuarrel_105 ?_
            refine lt_elim h (fun x23 e_x23 h => ?_)
            refine j_top e_x23 ?_
            obtain ⟨g24, h⟩ := gd_elim h
            refine j_iast C tc_17 (ib_in g24) dX3_readQuarrel_106 ?_
            refine lt_elim h (fun V25 e_V25 h => ?_)
            refine j_V e_V25 ?_
            refine j_aload_n C 3 rfl dX3_readQuarrel_107 rfl ?_
            refine fg_X3_12_TC_11 C dX3_readQuarrel_108 ?_
            refine fg_X3_121_TC_12 C dX3_readQuarrel_111 ?_
            refine j_iload_n C 0 rfl dX3_readQuarrel_114 rfl ?_
            refine j_dup2_11 C dX3_readQuarrel_115 rfl rfl ?_
            obtain ⟨g26, h⟩ := gd_elim h
            refine j_iald C tc_17 (ib_in g26) dX3_readQuarrel_116 ?_
            refine j_iconst C dX3_readQuarrel_117 ci_1 ?_
            refine j_iload_n C 2 rfl dX3_readQuarrel_118 rfl ?_
            refine j_ishl C dX3_readQuarrel_119 ?_
            refine j_ior C dX3_readQuarrel_120 ?_
            refine lt_elim h (fun x27 e_x27 h => ?_)
            refine j_top e_x27 ?_
            obtain ⟨g28, h⟩ := gd_elim h
            refine j_iast C tc_17 (ib_in g28) dX3_readQuarrel_121 ?_
            refine lt_elim h (fun V29 e_V29 h => ?_)
            refine j_V e_V29 ?_
            refine j_aload_n C 3 rfl dX3_readQuarrel_122 rfl ?_
            refine fg_X3_12_TC_11 C dX3_readQuarrel_123 ?_
            refine j_dup C dX3_readQuarrel_126 rfl ?_
            refine fg_X3_124_TC_12 C dX3_readQuarrel_127 ?_
            refine j_iconst C dX3_readQuarrel_130 ci_1 ?_
            refine j_iadd C dX3_readQuarrel_131 ?_
            refine lt_elim h (fun x30 e_x30 h => ?_)
            refine j_top e_x30 ?_
            refine fp_X3_124_TC_12 C dX3_readQuarrel_132 ?_
            refine lt_elim h (fun S31 e_S31 h => ?_)
            refine j_S e_S31 ?_
            refine j_iconst C dX3_readQuarrel_135 ci_0 ?_
            cases h
            exact j_iret C hr hlk rfl dX3_readQuarrel_136
          · have h := (if_neg c19).symm.trans h
            refine j_iconst C dX3_readQuarrel_83 ci_4 ?_
            cases h
            exact j_iret C hr hlk rfl dX3_readQuarrel_84
      · have h := (if_neg c13).symm.trans h
        refine j_iload_n C 0 rfl dX3_readQuarrel_56 rfl ?_
        cases h
        exact j_iret C hr hlk rfl dX3_readQuarrel_57
    · have h := (if_neg c6).symm.trans h
      refine j_iload_n C 0 rfl dX3_readQuarrel_30 rfl ?_
      cases h
      exact j_iret C hr hlk rfl dX3_readQuarrel_31
  · have h := (if_neg c1).symm.trans h
    refine j_iconst C dX3_readQuarrel_12 ci_2 ?_
    cases h
    exact j_iret C hr hlk rfl dX3_readQuarrel_13
theorem dX3_readTenant_0 : decode cX3_readTenant 0 = .ok (.aload_n 0, 1) := by decide +kernel
theorem dX3_readTenant_1 : decode cX3_readTenant 1 = .ok (.getfield 12, 3) := by decide +kernel
theorem dX3_readTenant_4 : decode cX3_readTenant 4 = .ok (.getfield 105, 3) := by decide +kernel
theorem dX3_readTenant_7 : decode cX3_readTenant 7 = .ok (.istore_n 1, 1) := by decide +kernel
theorem dX3_readTenant_8 : decode cX3_readTenant 8 = .ok (.iload_n 1, 1) := by decide +kernel
theorem dX3_readTenant_9 : decode cX3_readTenant 9 = .ok (.bipush 6, 2) := by decide +kernel
theorem dX3_readTenant_11 : decode cX3_readTenant 11 = .ok (.if_icmp .lt 5, 3) := by decide +kernel
theorem dX3_readTenant_14 : decode cX3_readTenant 14 = .ok (.iconst 2, 1) := by decide +kernel
theorem dX3_readTenant_15 : decode cX3_readTenant 15 = .ok (.ireturn, 1) := by decide +kernel
theorem dX3_readTenant_16 : decode cX3_readTenant 16 = .ok (.aload_n 0, 1) := by decide +kernel
theorem dX3_readTenant_17 : decode cX3_readTenant 17 = .ok (.getfield 21, 3) := by decide +kernel
theorem dX3_readTenant_20 : decode cX3_readTenant 20 = .ok (.invokevirtual 64, 3) := by decide +kernel
theorem dX3_readTenant_23 : decode cX3_readTenant 23 = .ok (.aload_n 0, 1) := by decide +kernel
theorem dX3_readTenant_24 : decode cX3_readTenant 24 = .ok (.iconst 0, 1) := by decide +kernel
theorem dX3_readTenant_25 : decode cX3_readTenant 25 = .ok (.bipush 20, 2) := by decide +kernel
theorem dX3_readTenant_27 : decode cX3_readTenant 27 = .ok (.invokevirtual 85, 3) := by decide +kernel
theorem dX3_readTenant_30 : decode cX3_readTenant 30 = .ok (.istore_n 2, 1) := by decide +kernel
theorem dX3_readTenant_31 : decode cX3_readTenant 31 = .ok (.iload_n 2, 1) := by decide +kernel
theorem dX3_readTenant_32 : decode cX3_readTenant 32 = .ok (.ifCond .eq 5, 3) := by decide +kernel
theorem dX3_readTenant_35 : decode cX3_readTenant 35 = .ok (.iload_n 2, 1) := by decide +kernel
theorem dX3_readTenant_36 : decode cX3_readTenant 36 = .ok (.ireturn, 1) := by decide +kernel
theorem dX3_readTenant_37 : decode cX3_readTenant 37 = .ok (.aload_n 0, 1) := by decide +kernel
theorem dX3_readTenant_38 : decode cX3_readTenant 38 = .ok (.getfield 12, 3) := by decide +kernel
theorem dX3_readTenant_41 : decode cX3_readTenant 41 = .ok (.getfield 108, 3) := by decide +kernel
theorem dX3_readTenant_44 : decode cX3_readTenant 44 = .ok (.iload_n 1, 1) := by decide +kernel
theorem dX3_readTenant_45 : decode cX3_readTenant 45 = .ok (.aload_n 0, 1) := by decide +kernel
theorem dX3_readTenant_46 : decode cX3_readTenant 46 = .ok (.getfield 89, 3) := by decide +kernel
theorem dX3_readTenant_49 : decode cX3_readTenant 49 = .ok (.iastore, 1) := by decide +kernel
theorem dX3_readTenant_50 : decode cX3_readTenant 50 = .ok (.aload_n 0, 1) := by decide +kernel
theorem dX3_readTenant_51 : decode cX3_readTenant 51 = .ok (.getfield 21, 3) := by decide +kernel
theorem dX3_readTenant_54 : decode cX3_readTenant 54 = .ok (.invokevirtual 51, 3) := by decide +kernel
theorem dX3_readTenant_57 : decode cX3_readTenant 57 = .ok (.bipush 107, 2) := by decide +kernel
theorem dX3_readTenant_59 : decode cX3_readTenant 59 = .ok (.if_icmp .lt 15, 3) := by decide +kernel
theorem dX3_readTenant_62 : decode cX3_readTenant 62 = .ok (.aload_n 0, 1) := by decide +kernel
theorem dX3_readTenant_63 : decode cX3_readTenant 63 = .ok (.getfield 21, 3) := by decide +kernel
theorem dX3_readTenant_66 : decode cX3_readTenant 66 = .ok (.invokevirtual 51, 3) := by decide +kernel
theorem dX3_readTenant_69 : decode cX3_readTenant 69 = .ok (.bipush 109, 2) := by decide +kernel
theorem dX3_readTenant_71 : decode cX3_readTenant 71 = .ok (.if_icmp .le 5, 3) := by decide +kernel
theorem dX3_readTenant_74 : decode cX3_readTenant 74 = .ok (.iconst 1, 1) := by decide +kernel
theorem dX3_readTenant_75 : decode cX3_readTenant 75 = .ok (.ireturn, 1) := by decide +kernel
theorem dX3_readTenant_76 : decode cX3_readTenant 76 = .ok (.aload_n 0, 1) := by decide +kernel
theorem dX3_readTenant_77 : decode cX3_readTenant 77 = .ok (.getfield 12, 3) := by decide +kernel
theorem dX3_readTenant_80 : decode cX3_readTenant 80 = .ok (.getfield 112, 3) := by decide +kernel
theorem dX3_readTenant_83 : decode cX3_readTenant 83 = .ok (.iload_n 1, 1) := by decide +kernel
theorem dX3_readTenant_84 : decode cX3_readTenant 84 = .ok (.aload_n 0, 1) := by decide +kernel
theorem dX3_readTenant_85 : decode cX3_readTenant 85 = .ok (.getfield 21, 3) := by decide +kernel
theorem dX3_readTenant_88 : decode cX3_readTenant 88 = .ok (.invokevirtual 51, 3) := by decide +kernel
theorem dX3_readTenant_91 : decode cX3_readTenant 91 = .ok (.bipush 107, 2) := by decide +kernel
theorem dX3_readTenant_93 : decode cX3_readTenant 93 = .ok (.isub, 1) := by decide +kernel
theorem dX3_readTenant_94 : decode cX3_readTenant 94 = .ok (.iastore, 1) := by decide +kernel
theorem dX3_readTenant_95 : decode cX3_readTenant 95 = .ok (.aload_n 0, 1) := by decide +kernel
theorem dX3_readTenant_96 : decode cX3_readTenant 96 = .ok (.getfield 21, 3) := by decide +kernel
theorem dX3_readTenant_99 : decode cX3_readTenant 99 = .ok (.invokevirtual 64, 3) := by decide +kernel
theorem dX3_readTenant_102 : decode cX3_readTenant 102 = .ok (.aload_n 0, 1) := by decide +kernel
theorem dX3_readTenant_103 : decode cX3_readTenant 103 = .ok (.iconst 1, 1) := by decide +kernel
theorem dX3_readTenant_104 : decode cX3_readTenant 104 = .ok (.bipush 12, 2) := by decide +kernel
theorem dX3_readTenant_106 : decode cX3_readTenant 106 = .ok (.invokevirtual 85, 3) := by decide +kernel
theorem dX3_readTenant_109 : decode cX3_readTenant 109 = .ok (.istore_n 2, 1) := by decide +kernel
theorem dX3_readTenant_110 : decode cX3_readTenant 110 = .ok (.iload_n 2, 1) := by decide +kernel
theorem dX3_readTenant_111 : decode cX3_readTenant 111 = .ok (.ifCond .eq 5, 3) := by decide +kernel
theorem dX3_readTenant_114 : decode cX3_readTenant 114 = .ok (.iload_n 2, 1) := by decide +kernel
theorem dX3_readTenant_115 : decode cX3_readTenant 115 = .ok (.ireturn, 1) := by decide +kernel
theorem dX3_readTenant_116 : decode cX3_readTenant 116 = .ok (.aload_n 0, 1) := by decide +kernel
theorem dX3_readTenant_117 : decode cX3_readTenant 117 = .ok (.getfield 12, 3) := by decide +kernel
theorem dX3_readTenant_120 : decode cX3_readTenant 120 = .ok (.getfield 115, 3) := by decide +kernel
theorem dX3_readTenant_123 : decode cX3_readTenant 123 = .ok (.iload_n 1, 1) := by decide +kernel
theorem dX3_readTenant_124 : decode cX3_readTenant 124 = .ok (.aload_n 0, 1) := by decide +kernel
theorem dX3_readTenant_125 : decode cX3_readTenant 125 = .ok (.getfield 89, 3) := by decide +kernel
theorem dX3_readTenant_128 : decode cX3_readTenant 128 = .ok (.iastore, 1) := by decide +kernel
theorem dX3_readTenant_129 : decode cX3_readTenant 129 = .ok (.aload_n 0, 1) := by decide +kernel
theorem dX3_readTenant_130 : decode cX3_readTenant 130 = .ok (.iconst 0, 1) := by decide +kernel
theorem dX3_readTenant_131 : decode cX3_readTenant 131 = .ok (.bipush 99, 2) := by decide +kernel
theorem dX3_readTenant_133 : decode cX3_readTenant 133 = .ok (.invokevirtual 85, 3) := by decide +kernel
theorem dX3_readTenant_136 : decode cX3_readTenant 136 = .ok (.istore_n 2, 1) := by decide +kernel
theorem dX3_readTenant_137 : decode cX3_readTenant 137 = .ok (.aload_n 0, 1) := by decide +kernel
theorem dX3_readTenant_138 : decode cX3_readTenant 138 = .ok (.getfield 12, 3) := by decide +kernel
theorem dX3_readTenant_141 : decode cX3_readTenant 141 = .ok (.getfield 118, 3) := by decide +kernel
theorem dX3_readTenant_144 : decode cX3_readTenant 144 = .ok (.iload_n 1, 1) := by decide +kernel
theorem dX3_readTenant_145 : decode cX3_readTenant 145 = .ok (.aload_n 0, 1) := by decide +kernel
theorem dX3_readTenant_146 : decode cX3_readTenant 146 = .ok (.getfield 89, 3) := by decide +kernel
theorem dX3_readTenant_149 : decode cX3_readTenant 149 = .ok (.iastore, 1) := by decide +kernel
theorem dX3_readTenant_150 : decode cX3_readTenant 150 = .ok (.aload_n 0, 1) := by decide +kernel
theorem dX3_readTenant_151 : decode cX3_readTenant 151 = .ok (.getfield 12, 3) := by decide +kernel
theorem dX3_readTenant_154 : decode cX3_readTenant 154 = .ok (.getfield 121, 3) := by decide +kernel
theorem dX3_readTenant_157 : decode cX3_readTenant 157 = .ok (.iload_n 1, 1) := by decide +kernel
theorem dX3_readTenant_158 : decode cX3_readTenant 158 = .ok (.iconst 0, 1) := by decide +kernel
theorem dX3_readTenant_159 : decode cX3_readTenant 159 = .ok (.iastore, 1) := by decide +kernel
theorem dX3_readTenant_160 : decode cX3_readTenant 160 = .ok (.aload_n 0, 1) := by decide +kernel
theorem dX3_readTenant_161 : decode cX3_readTenant 161 = .ok (.getfield 12, 3) := by decide +kernel
theorem dX3_readTenant_164 : decode cX3_readTenant 164 = .ok (.dup, 1) := by decide +kernel
theorem dX3_readTenant_165 : decode cX3_readTenant 165 = .ok (.getfield 105, 3) := by decide +kernel
theorem dX3_readTenant_168 : decode cX3_readTenant 168 = .ok (.iconst 1, 1) := by decide +kernel
theorem dX3_readTenant_169 : decode cX3_readTenant 169 = .ok (.iadd, 1) := by decide +kernel
theorem dX3_readTenant_170 : decode cX3_readTenant 170 = .ok (.putfield 105, 3) := by decide +kernel
theorem dX3_readTenant_173 : decode cX3_readTenant 173 = .ok (.iload_n 2, 1) := by decide +kernel
theorem dX3_readTenant_174 : decode cX3_readTenant 174 = .ok (.ireturn, 1) := by decide +kernel
def fX3_readTenant_11 (S : Nat → Int32) (V : Nat → Nat → Int32) : Option (Int32 × (Nat → Int32) × (Nat → Nat → Int32)) :=
  lt ((S 1204)) (fun x1 =>
  (if x1 < (6 : Int32) then
  bd1 (fX10_advance_20 S V) (fun S3 =>
  bd2 (fX3_readNumber_11 S3 V (0 : Int32) (20 : Int32)) (fun r5 S6 =>
  (if r5 = 0 then
  lt ((S6 1106)) (fun x9 =>
  gd (ib x1 6) (
  lt (va_up V 13 (upd (V 13) (x1).toNatClampNeg x9)) (fun V11 =>
  bd1 (fX10_kind_20 S6 V11) (fun r12 =>
  (if r12 < (107 : Int32) then
  some ((1 : Int32), S6, V11)
  else
  bd1 (fX10_kind_20 S6 V11) (fun r15 =>
  (if r15 ≤ (109 : Int32) then
  bd1 (fX10_kind_20 S6 V11) (fun r18 =>
  lt ((r18 - (107 : Int32))) (fun x20 =>
  gd (ib x1 6) (
  lt (va_up V11 14 (upd (V11 14) (x1).toNatClampNeg x20)) (fun V22 =>
  bd1 (fX10_advance_20 S6 V22) (fun S23 =>
  bd2 (fX3_readNumber_11 S23 V22 (1 : Int32) (12 : Int32)) (fun r25 S26 =>
  (if r25 = 0 then
  lt ((S26 1106)) (fun x29 =>
  gd (ib x1 6) (
  lt (va_up V22 15 (upd (V22 15) (x1).toNatClampNeg x29)) (fun V31 =>
  bd2 (fX3_readNumber_11 S26 V31 (0 : Int32) (99 : Int32)) (fun r32 S33 =>
  lt ((S33 1106)) (fun x35 =>
  gd (ib x1 6) (
  lt (va_up V31 16 (upd (V31 16) (x1).toNatClampNeg x35)) (fun V37 =>
  gd (ib x1 6) (
  lt (va_up V37 17 (upd (V37 17) (x1).toNatClampNeg (0 : Int32))) (fun V39 =>
  lt (((S33 1204) + (1 : Int32))) (fun x40 =>
  lt (va_up S33 1204 x40) (fun S41 =>
  some (r32, S41, V39))))))))))))
  else
  some (r25, S26, V22))))))))
  else
  some ((1 : Int32), S6, V11))))))))
  else
  some (r5, S6, V))))
  else
  some ((2 : Int32), S, V)))
set_option maxHeartbeats 4000000 in
set_option maxRecDepth 100000 in
theorem kX3_readTenant_11 (l : Launch) (B : jBT) (D : va_G) (ad : Nat → Nat) (cA : Nat → ClassId) (hI : jI ad TC) (S : Nat → Int32) (V : Nat → Nat → Int32) (L : Nat → Int64) (r0 : Int32) (S0 : Nat → Int32) (V0 : Nat → Nat → Int32) (h : fX3_readTenant_11 S V = some (r0, S0, V0)) : jM l yX3_readTenant cX3_readTenant 3 (some .int) ({ frames := 2, cells := 0, slots := 0, locals := 42 }) B D TC ad cA [.ref (ad 11)] S V L (some (.int r0)) S0 V0 L := by
  refine jM_of (plainFor_of_name (by decide)) TC_ok hI (Nat.le_of_ble_eq_true rfl) ?_
  intro p e s m args below meth c C hr hlk
  refine j_lv (lv2 := [(0, .ref (ad 11))]) rfl ?_
  unfold fX3_readTenant_11 at h
  refine j_aload_n C 0 rfl dX3_readTenant_0 rfl ?_
  refine fg_X3_12_TC_11 C dX3_readTenant_1 ?_
  refine fg_X3_105_TC_12 C dX3_readTenant_4 ?_
  refine lt_elim h (fun x1 e_x1 h => ?_)
  refine j_top e_x1 ?_
  refine j_istore_n C [(1, .int x1), (0, .ref (ad 11))] dX3_readTenant_7 rfl (by decide) rfl ?_
  refine j_iload_n C 0 rfl dX3_readTenant_8 rfl ?_
  refine j_bipush C dX3_readTenant_9 cb_6 ?_
  refine j_icmp_lt (tgt := 16) C dX3_readTenant_11 (by decide) (fun c2 => ?_) (fun c2 => ?_)
  · have h := (if_pos c2).symm.trans h
    refine j_aload_n C 1 rfl dX3_readTenant_16 rfl ?_
    refine fg_X3_21_TC_11 C dX3_readTenant_17 ?_
    obtain ⟨S3, h4, h⟩ := bd1_elim h
    refine j_callV (As := []) (rest := []) C (kX10_advance_20 l B D ad cA hI S V L _ h4) mw_X10_advance wd923 wd924 wd922 tc_20 rfl rfl ⟨rfl, rfl, by decide, by decide⟩ ⟨Nat.zero_le _, Nat.zero_le _⟩ rfl rfl (Nat.le_of_ble_eq_true rfl) dX3_readTenant_20 ?_
    refine j_aload_n C 1 rfl dX3_readTenant_23 rfl ?_
    refine j_iconst C dX3_readTenant_24 ci_0 ?_
    refine j_bipush C dX3_readTenant_25 cb_20 ?_
    obtain ⟨r5, S6, h7, h⟩ := bd2_elim h
    refine j_callV (As := [.int (0 : Int32), .int (20 : Int32)]) (rest := []) C (kX3_readNumber_11 l B D ad cA hI S3 V L (0 : Int32) (20 : Int32) _ _ h7) mw_X3_readNumber wd928 wd18 wd926 tc_11 rfl rfl ⟨rfl, rfl, by decide, by decide⟩ ⟨Nat.zero_le _, Nat.zero_le _⟩ rfl rfl (Nat.le_of_ble_eq_true rfl) dX3_readTenant_27 ?_
    refine j_istore_n C [(2, .int r5), (1, .int x1), (0, .ref (ad 11))] dX3_readTenant_30 rfl (by decide) rfl ?_
    refine j_iload_n C 0 rfl dX3_readTenant_31 rfl ?_
    refine j_if_eq (tgt := 37) C dX3_readTenant_32 (by decide) (fun c8 => ?_) (fun c8 => ?_)
    · have h := (if_pos c8).symm.trans h
      refine j_aload_n C 2 rfl dX3_readTenant_37 rfl ?_
      refine fg_X3_12_TC_11 C dX3_readTenant_38 ?_
      refine fg_X3_108_TC_12 C dX3_readTenant_41 ?_
      refine j_iload_n C 1 rfl dX3_readTenant_44 rfl ?_
      refine j_aload_n C 2 rfl dX3_readTenant_45 rfl ?_
      refine fg_X3_89_TC_11 C dX3_readTenant_46 ?_
      refine lt_elim h (fun x9 e_x9 h => ?_)
      refine j_top e_x9 ?_
      obtain ⟨g10, h⟩ := gd_elim h
      refine j_iast C tc_13 (ib_in g10) dX3_readTenant_49 ?_
      refine lt_elim h (fun V11 e_V11 h => ?_)
      refine j_V e_V11 ?_
      refine j_aload_n C 2 rfl dX3_readTenant_50 rfl ?_
      refine fg_X3_21_TC_11 C dX3_readTenant_51 ?_
      obtain ⟨r12, h13, h⟩ := bd1_elim h
      refine j_callV (As := []) (rest := []) C (kX10_kind_20 l B D ad cA hI S6 V11 L _ h13) mw_X10_kind wd911 wd912 wd910 tc_20 rfl rfl ⟨rfl, rfl, by decide, by decide⟩ ⟨Nat.zero_le _, Nat.zero_le _⟩ rfl rfl (Nat.le_of_ble_eq_true rfl) dX3_readTenant_54 ?_
      refine j_bipush C dX3_readTenant_57 cb_107 ?_
      refine j_icmp_lt (tgt := 74) C dX3_readTenant_59 (by decide) (fun c14 => ?_) (fun c14 => ?_)
      · have h := (if_pos c14).symm.trans h
        refine j_iconst C dX3_readTenant_74 ci_1 ?_
        cases h
        exact j_iret C hr hlk rfl dX3_readTenant_75
      · have h := (if_neg c14).symm.trans h
        refine j_aload_n C 2 rfl dX3_readTenant_62 rfl ?_
        refine fg_X3_21_TC_11 C dX3_readTenant_63 ?_
        obtain ⟨r15, h16, h⟩ := bd1_elim h
        refine j_callV (As := []) (rest := []) C (kX10_kind_20 l B D ad cA hI S6 V11 L _ h16) mw_X10_kind wd911 wd912 wd910 tc_20 rfl rfl ⟨rfl, rfl, by decide, by decide⟩ ⟨Nat.zero_le _, Nat.zero_le _⟩ rfl rfl (Nat.le_of_ble_eq_true rfl) dX3_readTenant_66 ?_
        refine j_bipush C dX3_readTenant_69 cb_109 ?_
        refine j_icmp_le (tgt := 76) C dX3_readTenant_71 (by decide) (fun c17 => ?_) (fun c17 => ?_)
        · have h := (if_pos c17).symm.trans h
          refine j_aload_n C 2 rfl dX3_readTenant_76 rfl ?_
          refine fg_X3_12_TC_11 C dX3_readTenant_77 ?_
          refine fg_X3_112_TC_12 C dX3_readTenant_80 ?_
          refine j_iload_n C 1 rfl dX3_readTenant_83 rfl ?_
          refine j_aload_n C 2 rfl dX3_readTenant_84 rfl ?_
          refine fg_X3_21_TC_11 C dX3_readTenant_85 ?_
          obtain ⟨r18, h19, h⟩ := bd1_elim h
          refine j_callV (As := []) (rest := [.int x1, .ref (ad 14)]) C (kX10_kind_20 l B D ad cA hI S6 V11 L _ h19) mw_X10_kind wd911 wd912 wd910 tc_20 rfl rfl ⟨rfl, rfl, by decide, by decide⟩ ⟨Nat.zero_le _, Nat.zero_le _⟩ rfl rfl (Nat.le_of_ble_eq_true rfl) dX3_readTenant_88 ?_
          refine j_bipush C dX3_readTenant_91 cb_107 ?_
          refine j_isub C dX3_readTenant_93 ?_
          refine lt_elim h (fun x20 e_x20 h => ?_)
          refine j_top e_x20 ?_
          obtain ⟨g21, h⟩ := gd_elim h
          refine j_iast C tc_14 (ib_in g21) dX3_readTenant_94 ?_
          refine lt_elim h (fun V22 e_V22 h => ?_)
          refine j_V e_V22 ?_
          refine j_aload_n C 2 rfl dX3_readTenant_95 rfl ?_
          refine fg_X3_21_TC_11 C dX3_readTenant_96 ?_
          obtain ⟨S23, h24, h⟩ := bd1_elim h
          refine j_callV (As := []) (rest := []) C (kX10_advance_20 l B D ad cA hI S6 V22 L _ h24) mw_X10_advance wd923 wd924 wd922 tc_20 rfl rfl ⟨rfl, rfl, by decide, by decide⟩ ⟨Nat.zero_le _, Nat.zero_le _⟩ rfl rfl (Nat.le_of_ble_eq_true rfl) dX3_readTenant_99 ?_
          refine j_aload_n C 2 rfl dX3_readTenant_102 rfl ?_
          refine j_iconst C dX3_readTenant_103 ci_1 ?_
          refine j_bipush C dX3_readTenant_104 cb_12 ?_
          obtain ⟨r25, S26, h27, h⟩ := bd2_elim h
          refine j_callV (As := [.int (1 : Int32), .int (12 : Int32)]) (rest := []) C (kX3_readNumber_11 l B D ad cA hI S23 V22 L (1 : Int32) (12 : Int32) _ _ h27) mw_X3_readNumber wd928 wd18 wd926 tc_11 rfl rfl ⟨rfl, rfl, by decide, by decide⟩ ⟨Nat.zero_le _, Nat.zero_le _⟩ rfl rfl (Nat.le_of_ble_eq_true rfl) dX3_readTenant_106 ?_
          refine j_istore_n C [(2, .int r25), (1, .int x1), (0, .ref (ad 11))] dX3_readTenant_109 rfl (by decide) rfl ?_
          refine j_iload_n C 0 rfl dX3_readTenant_110 rfl ?_
          refine j_if_eq (tgt := 116) C dX3_readTenant_111 (by decide) (fun c28 => ?_) (fun c28 => ?_)
          · have h := (if_pos c28).symm.trans h
            refine j_aload_n C 2 rfl dX3_readTenant_116 rfl ?_
            refine fg_X3_12_TC_11 C dX3_readTenant_117 ?_
            refine fg_X3_115_TC_12 C dX3_readTenant_120 ?_
            refine j_iload_n C 1 rfl dX3_readTenant_123 rfl ?_
            refine j_aload_n C 2 rfl dX3_readTenant_124 rfl ?_
            refine fg_X3_89_TC_11 C dX3_readTenant_125 ?_
            refine lt_elim h (fun x29 e_x29 h => ?_)
            refine j_top e_x29 ?_
            obtain ⟨g30, h⟩ := gd_elim h
            refine j_iast C tc_15 (ib_in g30) dX3_readTenant_128 ?_
            refine lt_elim h (fun V31 e_V31 h => ?_)
            refine j_V e_V31 ?_
            refine j_aload_n C 2 rfl dX3_readTenant_129 rfl ?_
            refine j_iconst C dX3_readTenant_130 ci_0 ?_
            refine j_bipush C dX3_readTenant_131 cb_99 ?_
            obtain ⟨r32, S33, h34, h⟩ := bd2_elim h
            refine j_callV (As := [.int (0 : Int32), .int (99 : Int32)]) (rest := []) C (kX3_readNumber_11 l B D ad cA hI S26 V31 L (0 : Int32) (99 : Int32) _ _ h34) mw_X3_readNumber wd928 wd18 wd926 tc_11 rfl rfl ⟨rfl, rfl, by decide, by decide⟩ ⟨Nat.zero_le _, Nat.zero_le _⟩ rfl rfl (Nat.le_of_ble_eq_true rfl) dX3_readTenant_133 ?_
            refine j_istore_n C [(2, .int r32), (1, .int x1), (0, .ref (ad 11))] dX3_readTenant_136 rfl (by decide) rfl ?_
            refine j_aload_n C 2 rfl dX3_readTenant_137 rfl ?_
            refine fg_X3_12_TC_11 C dX3_readTenant_138 ?_
            refine fg_X3_118_TC_12 C dX3_readTenant_141 ?_
            refine j_iload_n C 1 rfl dX3_readTenant_144 rfl ?_
            refine j_aload_n C 2 rfl dX3_readTenant_145 rfl ?_
            refine fg_X3_89_TC_11 C dX3_readTenant_146 ?_
            refine lt_elim h (fun x35 e_x35 h => ?_)
            refine j_top e_x35 ?_
            obtain ⟨g36, h⟩ := gd_elim h
            refine j_iast C tc_16 (ib_in g36) dX3_readTenant_149 ?_
            refine lt_elim h (fun V37 e_V37 h => ?_)
            refine j_V e_V37 ?_
            refine j_aload_n C 2 rfl dX3_readTenant_150 rfl ?_
            refine fg_X3_12_TC_11 C dX3_readTenant_151 ?_
            refine fg_X3_121_TC_12 C dX3_readTenant_154 ?_
            refine j_iload_n C 1 rfl dX3_readTenant_157 rfl ?_
            refine j_iconst C dX3_readTenant_158 ci_0 ?_
            obtain ⟨g38, h⟩ := gd_elim h
            refine j_iast C tc_17 (ib_in g38) dX3_readTenant_159 ?_
            refine lt_elim h (fun V39 e_V39 h => ?_)
            refine j_V e_V39 ?_
            refine j_aload_n C 2 rfl dX3_readTenant_160 rfl ?_
            refine fg_X3_12_TC_11 C dX3_readTenant_161 ?_
            refine j_dup C dX3_readTenant_164 rfl ?_
            refine fg_X3_105_TC_12 C dX3_readTenant_165 ?_
            refine j_iconst C dX3_readTenant_168 ci_1 ?_
            refine j_iadd C dX3_readTenant_169 ?_
            refine lt_elim h (fun x40 e_x40 h => ?_)
            refine j_top e_x40 ?_
            refine fp_X3_105_TC_12 C dX3_readTenant_170 ?_
            refine lt_elim h (fun S41 e_S41 h => ?_)
            refine j_S e_S41 ?_
            refine j_iload_n C 0 rfl dX3_readTenant_173 rfl ?_
            cases h
            exact j_iret C hr hlk rfl dX3_readTenant_174
          · have h := (if_neg c28).symm.trans h
            refine j_iload_n C 0 rfl dX3_readTenant_114 rfl ?_
            cases h
            exact j_iret C hr hlk rfl dX3_readTenant_115
        · have h := (if_neg c17).symm.trans h
          refine j_iconst C dX3_readTenant_74 ci_1 ?_
          cases h
          exact j_iret C hr hlk rfl dX3_readTenant_75
    · have h := (if_neg c8).symm.trans h
      refine j_iload_n C 0 rfl dX3_readTenant_35 rfl ?_
      cases h
      exact j_iret C hr hlk rfl dX3_readTenant_36
  · have h := (if_neg c2).symm.trans h
    refine j_iconst C dX3_readTenant_14 ci_2 ?_
    cases h
    exact j_iret C hr hlk rfl dX3_readTenant_15
theorem dX3_readStop_0 : decode cX3_readStop 0 = .ok (.aload_n 0, 1) := by decide +kernel
theorem dX3_readStop_1 : decode cX3_readStop 1 = .ok (.getfield 48, 3) := by decide +kernel
theorem dX3_readStop_4 : decode cX3_readStop 4 = .ok (.ifCond .eq 5, 3) := by decide +kernel
theorem dX3_readStop_7 : decode cX3_readStop 7 = .ok (.iconst 5, 1) := by decide +kernel
theorem dX3_readStop_8 : decode cX3_readStop 8 = .ok (.ireturn, 1) := by decide +kernel
theorem dX3_readStop_9 : decode cX3_readStop 9 = .ok (.aload_n 0, 1) := by decide +kernel
theorem dX3_readStop_10 : decode cX3_readStop 10 = .ok (.iconst 1, 1) := by decide +kernel
theorem dX3_readStop_11 : decode cX3_readStop 11 = .ok (.putfield 48, 3) := by decide +kernel
theorem dX3_readStop_14 : decode cX3_readStop 14 = .ok (.aload_n 0, 1) := by decide +kernel
theorem dX3_readStop_15 : decode cX3_readStop 15 = .ok (.getfield 21, 3) := by decide +kernel
theorem dX3_readStop_18 : decode cX3_readStop 18 = .ok (.invokevirtual 64, 3) := by decide +kernel
theorem dX3_readStop_21 : decode cX3_readStop 21 = .ok (.aload_n 0, 1) := by decide +kernel
theorem dX3_readStop_22 : decode cX3_readStop 22 = .ok (.bipush 41, 2) := by decide +kernel
theorem dX3_readStop_24 : decode cX3_readStop 24 = .ok (.sipush 400, 3) := by decide +kernel
theorem dX3_readStop_27 : decode cX3_readStop 27 = .ok (.invokevirtual 85, 3) := by decide +kernel
theorem dX3_readStop_30 : decode cX3_readStop 30 = .ok (.istore_n 1, 1) := by decide +kernel
theorem dX3_readStop_31 : decode cX3_readStop 31 = .ok (.aload_n 0, 1) := by decide +kernel
theorem dX3_readStop_32 : decode cX3_readStop 32 = .ok (.getfield 12, 3) := by decide +kernel
theorem dX3_readStop_35 : decode cX3_readStop 35 = .ok (.aload_n 0, 1) := by decide +kernel
theorem dX3_readStop_36 : decode cX3_readStop 36 = .ok (.getfield 89, 3) := by decide +kernel
theorem dX3_readStop_39 : decode cX3_readStop 39 = .ok (.putfield 102, 3) := by decide +kernel
theorem dX3_readStop_42 : decode cX3_readStop 42 = .ok (.iload_n 1, 1) := by decide +kernel
theorem dX3_readStop_43 : decode cX3_readStop 43 = .ok (.ireturn, 1) := by decide +kernel
def fX3_readStop_11 (S : Nat → Int32) (V : Nat → Nat → Int32) : Option (Int32 × (Nat → Int32)) :=
  (if (S 1105) = 0 then
  lt (va_up S 1105 (1 : Int32)) (fun S2 =>
  bd1 (fX10_advance_20 S2 V) (fun S3 =>
  bd2 (fX3_readNumber_11 S3 V (41 : Int32) (400 : Int32)) (fun r5 S6 =>
  lt ((S6 1106)) (fun x8 =>
  lt (va_up S6 1203 x8) (fun S9 =>
  some (r5, S9))))))
  else
  some ((5 : Int32), S))
set_option maxHeartbeats 4000000 in
set_option maxRecDepth 100000 in
theorem kX3_readStop_11 (l : Launch) (B : jBT) (D : va_G) (ad : Nat → Nat) (cA : Nat → ClassId) (hI : jI ad TC) (S : Nat → Int32) (V : Nat → Nat → Int32) (L : Nat → Int64) (r0 : Int32) (S0 : Nat → Int32) (h : fX3_readStop_11 S V = some (r0, S0)) : jM l yX3_readStop cX3_readStop 2 (some .int) ({ frames := 2, cells := 0, slots := 0, locals := 42 }) B D TC ad cA [.ref (ad 11)] S V L (some (.int r0)) S0 V L := by
  refine jM_of (plainFor_of_name (by decide)) TC_ok hI (Nat.le_of_ble_eq_true rfl) ?_
  intro p e s m args below meth c C hr hlk
  refine j_lv (lv2 := [(0, .ref (ad 11))]) rfl ?_
  unfold fX3_readStop_11 at h
  refine j_aload_n C 0 rfl dX3_readStop_0 rfl ?_
  refine fg_X3_48_TC_11 C dX3_readStop_1 ?_
  refine j_if_eq (tgt := 9) C dX3_readStop_4 (by decide) (fun c1 => ?_) (fun c1 => ?_)
  · have h := (if_pos c1).symm.trans h
    refine j_aload_n C 0 rfl dX3_readStop_9 rfl ?_
    refine j_iconst C dX3_readStop_10 ci_1 ?_
    refine fp_X3_48_TC_11 C rfl rfl dX3_readStop_11 ?_
    refine lt_elim h (fun S2 e_S2 h => ?_)
    refine j_S e_S2 ?_
    refine j_aload_n C 0 rfl dX3_readStop_14 rfl ?_
    refine fg_X3_21_TC_11 C dX3_readStop_15 ?_
    obtain ⟨S3, h4, h⟩ := bd1_elim h
    refine j_callV (As := []) (rest := []) C (kX10_advance_20 l B D ad cA hI S2 V L _ h4) mw_X10_advance wd923 wd924 wd922 tc_20 rfl rfl ⟨rfl, rfl, by decide, by decide⟩ ⟨Nat.zero_le _, Nat.zero_le _⟩ rfl rfl (Nat.le_of_ble_eq_true rfl) dX3_readStop_18 ?_
    refine j_aload_n C 0 rfl dX3_readStop_21 rfl ?_
    refine j_bipush C dX3_readStop_22 cb_41 ?_
    refine j_sipush C dX3_readStop_24 cs_400 ?_
    obtain ⟨r5, S6, h7, h⟩ := bd2_elim h
    refine j_callV (As := [.int (41 : Int32), .int (400 : Int32)]) (rest := []) C (kX3_readNumber_11 l B D ad cA hI S3 V L (41 : Int32) (400 : Int32) _ _ h7) mw_X3_readNumber wd928 wd18 wd926 tc_11 rfl rfl ⟨rfl, rfl, by decide, by decide⟩ ⟨Nat.zero_le _, Nat.zero_le _⟩ rfl rfl (Nat.le_of_ble_eq_true rfl) dX3_readStop_27 ?_
    refine j_istore_n C [(1, .int r5), (0, .ref (ad 11))] dX3_readStop_30 rfl (by decide) rfl ?_
    refine j_aload_n C 1 rfl dX3_readStop_31 rfl ?_
    refine fg_X3_12_TC_11 C dX3_readStop_32 ?_
    refine j_aload_n C 1 rfl dX3_readStop_35 rfl ?_
    refine fg_X3_89_TC_11 C dX3_readStop_36 ?_
    refine lt_elim h (fun x8 e_x8 h => ?_)
    refine j_top e_x8 ?_
    refine fp_X3_102_TC_12 C dX3_readStop_39 ?_
    refine lt_elim h (fun S9 e_S9 h => ?_)
    refine j_S e_S9 ?_
    refine j_iload_n C 0 rfl dX3_readStop_42 rfl ?_
    cases h
    exact j_iret C hr hlk rfl dX3_readStop_43
  · have h := (if_neg c1).symm.trans h
    refine j_iconst C dX3_readStop_7 ci_5 ?_
    cases h
    exact j_iret C hr hlk rfl dX3_readStop_8
theorem dX3_readOil_0 : decode cX3_readOil 0 = .ok (.aload_n 0, 1) := by decide +kernel
theorem dX3_readOil_1 : decode cX3_readOil 1 = .ok (.getfield 45, 3) := by decide +kernel
theorem dX3_readOil_4 : decode cX3_readOil 4 = .ok (.ifCond .eq 5, 3) := by decide +kernel
theorem dX3_readOil_7 : decode cX3_readOil 7 = .ok (.iconst 5, 1) := by decide +kernel
theorem dX3_readOil_8 : decode cX3_readOil 8 = .ok (.ireturn, 1) := by decide +kernel
theorem dX3_readOil_9 : decode cX3_readOil 9 = .ok (.aload_n 0, 1) := by decide +kernel
theorem dX3_readOil_10 : decode cX3_readOil 10 = .ok (.iconst 1, 1) := by decide +kernel
theorem dX3_readOil_11 : decode cX3_readOil 11 = .ok (.putfield 45, 3) := by decide +kernel
theorem dX3_readOil_14 : decode cX3_readOil 14 = .ok (.aload_n 0, 1) := by decide +kernel
theorem dX3_readOil_15 : decode cX3_readOil 15 = .ok (.getfield 21, 3) := by decide +kernel
theorem dX3_readOil_18 : decode cX3_readOil 18 = .ok (.invokevirtual 64, 3) := by decide +kernel
theorem dX3_readOil_21 : decode cX3_readOil 21 = .ok (.aload_n 0, 1) := by decide +kernel
theorem dX3_readOil_22 : decode cX3_readOil 22 = .ok (.iconst 0, 1) := by decide +kernel
theorem dX3_readOil_23 : decode cX3_readOil 23 = .ok (.bipush 30, 2) := by decide +kernel
theorem dX3_readOil_25 : decode cX3_readOil 25 = .ok (.invokevirtual 85, 3) := by decide +kernel
theorem dX3_readOil_28 : decode cX3_readOil 28 = .ok (.istore_n 1, 1) := by decide +kernel
theorem dX3_readOil_29 : decode cX3_readOil 29 = .ok (.iload_n 1, 1) := by decide +kernel
theorem dX3_readOil_30 : decode cX3_readOil 30 = .ok (.ifCond .eq 5, 3) := by decide +kernel
theorem dX3_readOil_33 : decode cX3_readOil 33 = .ok (.iload_n 1, 1) := by decide +kernel
theorem dX3_readOil_34 : decode cX3_readOil 34 = .ok (.ireturn, 1) := by decide +kernel
theorem dX3_readOil_35 : decode cX3_readOil 35 = .ok (.aload_n 0, 1) := by decide +kernel
theorem dX3_readOil_36 : decode cX3_readOil 36 = .ok (.getfield 12, 3) := by decide +kernel
theorem dX3_readOil_39 : decode cX3_readOil 39 = .ok (.aload_n 0, 1) := by decide +kernel
theorem dX3_readOil_40 : decode cX3_readOil 40 = .ok (.getfield 89, 3) := by decide +kernel
theorem dX3_readOil_43 : decode cX3_readOil 43 = .ok (.putfield 96, 3) := by decide +kernel
theorem dX3_readOil_46 : decode cX3_readOil 46 = .ok (.aload_n 0, 1) := by decide +kernel
theorem dX3_readOil_47 : decode cX3_readOil 47 = .ok (.iconst 1, 1) := by decide +kernel
theorem dX3_readOil_48 : decode cX3_readOil 48 = .ok (.bipush 99, 2) := by decide +kernel
theorem dX3_readOil_50 : decode cX3_readOil 50 = .ok (.invokevirtual 85, 3) := by decide +kernel
theorem dX3_readOil_53 : decode cX3_readOil 53 = .ok (.istore_n 1, 1) := by decide +kernel
theorem dX3_readOil_54 : decode cX3_readOil 54 = .ok (.aload_n 0, 1) := by decide +kernel
theorem dX3_readOil_55 : decode cX3_readOil 55 = .ok (.getfield 12, 3) := by decide +kernel
theorem dX3_readOil_58 : decode cX3_readOil 58 = .ok (.aload_n 0, 1) := by decide +kernel
theorem dX3_readOil_59 : decode cX3_readOil 59 = .ok (.getfield 89, 3) := by decide +kernel
theorem dX3_readOil_62 : decode cX3_readOil 62 = .ok (.putfield 99, 3) := by decide +kernel
theorem dX3_readOil_65 : decode cX3_readOil 65 = .ok (.iload_n 1, 1) := by decide +kernel
theorem dX3_readOil_66 : decode cX3_readOil 66 = .ok (.ireturn, 1) := by decide +kernel
def fX3_readOil_11 (S : Nat → Int32) (V : Nat → Nat → Int32) : Option (Int32 × (Nat → Int32)) :=
  (if (S 1104) = 0 then
  lt (va_up S 1104 (1 : Int32)) (fun S2 =>
  bd1 (fX10_advance_20 S2 V) (fun S3 =>
  bd2 (fX3_readNumber_11 S3 V (0 : Int32) (30 : Int32)) (fun r5 S6 =>
  (if r5 = 0 then
  lt ((S6 1106)) (fun x9 =>
  lt (va_up S6 1201 x9) (fun S10 =>
  bd2 (fX3_readNumber_11 S10 V (1 : Int32) (99 : Int32)) (fun r11 S12 =>
  lt ((S12 1106)) (fun x14 =>
  lt (va_up S12 1202 x14) (fun S15 =>
  some (r11, S15))))))
  else
  some (r5, S6)))))
  else
  some ((5 : Int32), S))
set_option maxHeartbeats 4000000 in
set_option maxRecDepth 100000 in
theorem kX3_readOil_11 (l : Launch) (B : jBT) (D : va_G) (ad : Nat → Nat) (cA : Nat → ClassId) (hI : jI ad TC) (S : Nat → Int32) (V : Nat → Nat → Int32) (L : Nat → Int64) (r0 : Int32) (S0 : Nat → Int32) (h : fX3_readOil_11 S V = some (r0, S0)) : jM l yX3_readOil cX3_readOil 2 (some .int) ({ frames := 2, cells := 0, slots := 0, locals := 42 }) B D TC ad cA [.ref (ad 11)] S V L (some (.int r0)) S0 V L := by
  refine jM_of (plainFor_of_name (by decide)) TC_ok hI (Nat.le_of_ble_eq_true rfl) ?_
  intro p e s m args below meth c C hr hlk
  refine j_lv (lv2 := [(0, .ref (ad 11))]) rfl ?_
  unfold fX3_readOil_11 at h
  refine j_aload_n C 0 rfl dX3_readOil_0 rfl ?_
  refine fg_X3_45_TC_11 C dX3_readOil_1 ?_
  refine j_if_eq (tgt := 9) C dX3_readOil_4 (by decide) (fun c1 => ?_) (fun c1 => ?_)
  · have h := (if_pos c1).symm.trans h
    refine j_aload_n C 0 rfl dX3_readOil_9 rfl ?_
    refine j_iconst C dX3_readOil_10 ci_1 ?_
    refine fp_X3_45_TC_11 C rfl rfl dX3_readOil_11 ?_
    refine lt_elim h (fun S2 e_S2 h => ?_)
    refine j_S e_S2 ?_
    refine j_aload_n C 0 rfl dX3_readOil_14 rfl ?_
    refine fg_X3_21_TC_11 C dX3_readOil_15 ?_
    obtain ⟨S3, h4, h⟩ := bd1_elim h
    refine j_callV (As := []) (rest := []) C (kX10_advance_20 l B D ad cA hI S2 V L _ h4) mw_X10_advance wd923 wd924 wd922 tc_20 rfl rfl ⟨rfl, rfl, by decide, by decide⟩ ⟨Nat.zero_le _, Nat.zero_le _⟩ rfl rfl (Nat.le_of_ble_eq_true rfl) dX3_readOil_18 ?_
    refine j_aload_n C 0 rfl dX3_readOil_21 rfl ?_
    refine j_iconst C dX3_readOil_22 ci_0 ?_
    refine j_bipush C dX3_readOil_23 cb_30 ?_
    obtain ⟨r5, S6, h7, h⟩ := bd2_elim h
    refine j_callV (As := [.int (0 : Int32), .int (30 : Int32)]) (rest := []) C (kX3_readNumber_11 l B D ad cA hI S3 V L (0 : Int32) (30 : Int32) _ _ h7) mw_X3_readNumber wd928 wd18 wd926 tc_11 rfl rfl ⟨rfl, rfl, by decide, by decide⟩ ⟨Nat.zero_le _, Nat.zero_le _⟩ rfl rfl (Nat.le_of_ble_eq_true rfl) dX3_readOil_25 ?_
    refine j_istore_n C [(1, .int r5), (0, .ref (ad 11))] dX3_readOil_28 rfl (by decide) rfl ?_
    refine j_iload_n C 0 rfl dX3_readOil_29 rfl ?_
    refine j_if_eq (tgt := 35) C dX3_readOil_30 (by decide) (fun c8 => ?_) (fun c8 => ?_)
    · have h := (if_pos c8).symm.trans h
      refine j_aload_n C 1 rfl dX3_readOil_35 rfl ?_
      refine fg_X3_12_TC_11 C dX3_readOil_36 ?_
      refine j_aload_n C 1 rfl dX3_readOil_39 rfl ?_
      refine fg_X3_89_TC_11 C dX3_readOil_40 ?_
      refine lt_elim h (fun x9 e_x9 h => ?_)
      refine j_top e_x9 ?_
      refine fp_X3_96_TC_12 C dX3_readOil_43 ?_
      refine lt_elim h (fun S10 e_S10 h => ?_)
      refine j_S e_S10 ?_
      refine j_aload_n C 1 rfl dX3_readOil_46 rfl ?_
      refine j_iconst C dX3_readOil_47 ci_1 ?_
      refine j_bipush C dX3_readOil_48 cb_99 ?_
      obtain ⟨r11, S12, h13, h⟩ := bd2_elim h
      refine j_callV (As := [.int (1 : Int32), .int (99 : Int32)]) (rest := []) C (kX3_readNumber_11 l B D ad cA hI S10 V L (1 : Int32) (99 : Int32) _ _ h13) mw_X3_readNumber wd928 wd18 wd926 tc_11 rfl rfl ⟨rfl, rfl, by decide, by decide⟩ ⟨Nat.zero_le _, Nat.zero_le _⟩ rfl rfl (Nat.le_of_ble_eq_true rfl) dX3_readOil_50 ?_
      refine j_istore_n C [(1, .int r11), (0, .ref (ad 11))] dX3_readOil_53 rfl (by decide) rfl ?_
      refine j_aload_n C 1 rfl dX3_readOil_54 rfl ?_
      refine fg_X3_12_TC_11 C dX3_readOil_55 ?_
      refine j_aload_n C 1 rfl dX3_readOil_58 rfl ?_
      refine fg_X3_89_TC_11 C dX3_readOil_59 ?_
      refine lt_elim h (fun x14 e_x14 h => ?_)
      refine j_top e_x14 ?_
      refine fp_X3_99_TC_12 C dX3_readOil_62 ?_
      refine lt_elim h (fun S15 e_S15 h => ?_)
      refine j_S e_S15 ?_
      refine j_iload_n C 0 rfl dX3_readOil_65 rfl ?_
      cases h
      exact j_iret C hr hlk rfl dX3_readOil_66
    · have h := (if_neg c8).symm.trans h
      refine j_iload_n C 0 rfl dX3_readOil_33 rfl ?_
      cases h
      exact j_iret C hr hlk rfl dX3_readOil_34
  · have h := (if_neg c1).symm.trans h
    refine j_iconst C dX3_readOil_7 ci_5 ?_
    cases h
    exact j_iret C hr hlk rfl dX3_readOil_8
theorem dX3_readLine_0 : decode cX3_readLine 0 = .ok (.aload_n 0, 1) := by decide +kernel
theorem dX3_readLine_1 : decode cX3_readLine 1 = .ok (.getfield 21, 3) := by decide +kernel
theorem dX3_readLine_4 : decode cX3_readLine 4 = .ok (.invokevirtual 51, 3) := by decide +kernel
theorem dX3_readLine_7 : decode cX3_readLine 7 = .ok (.tableswitch 67 101 106 #[37, 42, 47, 52, 57, 62], 37) := by decide +kernel
theorem dX3_readLine_44 : decode cX3_readLine 44 = .ok (.aload_n 0, 1) := by decide +kernel
theorem dX3_readLine_45 : decode cX3_readLine 45 = .ok (.invokevirtual 67, 3) := by decide +kernel
theorem dX3_readLine_48 : decode cX3_readLine 48 = .ok (.ireturn, 1) := by decide +kernel
theorem dX3_readLine_49 : decode cX3_readLine 49 = .ok (.aload_n 0, 1) := by decide +kernel
theorem dX3_readLine_50 : decode cX3_readLine 50 = .ok (.invokevirtual 70, 3) := by decide +kernel
theorem dX3_readLine_53 : decode cX3_readLine 53 = .ok (.ireturn, 1) := by decide +kernel
theorem dX3_readLine_54 : decode cX3_readLine 54 = .ok (.aload_n 0, 1) := by decide +kernel
theorem dX3_readLine_55 : decode cX3_readLine 55 = .ok (.invokevirtual 73, 3) := by decide +kernel
theorem dX3_readLine_58 : decode cX3_readLine 58 = .ok (.ireturn, 1) := by decide +kernel
theorem dX3_readLine_59 : decode cX3_readLine 59 = .ok (.aload_n 0, 1) := by decide +kernel
theorem dX3_readLine_60 : decode cX3_readLine 60 = .ok (.invokevirtual 76, 3) := by decide +kernel
theorem dX3_readLine_63 : decode cX3_readLine 63 = .ok (.ireturn, 1) := by decide +kernel
theorem dX3_readLine_64 : decode cX3_readLine 64 = .ok (.aload_n 0, 1) := by decide +kernel
theorem dX3_readLine_65 : decode cX3_readLine 65 = .ok (.invokevirtual 79, 3) := by decide +kernel
theorem dX3_readLine_68 : decode cX3_readLine 68 = .ok (.ireturn, 1) := by decide +kernel
theorem dX3_readLine_69 : decode cX3_readLine 69 = .ok (.aload_n 0, 1) := by decide +kernel
theorem dX3_readLine_70 : decode cX3_readLine 70 = .ok (.invokevirtual 82, 3) := by decide +kernel
theorem dX3_readLine_73 : decode cX3_readLine 73 = .ok (.ireturn, 1) := by decide +kernel
theorem dX3_readLine_74 : decode cX3_readLine 74 = .ok (.iconst 1, 1) := by decide +kernel
theorem dX3_readLine_75 : decode cX3_readLine 75 = .ok (.ireturn, 1) := by decide +kernel
def fX3_readLine_11 (S : Nat → Int32) (V : Nat → Nat → Int32) : Option (Int32 × (Nat → Int32) × (Nat → Nat → Int32)) :=
  bd1 (fX10_kind_20 S V) (fun r1 =>
  (if r1 = (101 : Int32) then
  bd2 (fX3_readBase_11 S V) (fun r4 S5 =>
  some (r4, S5, V))
  else
  (if r1 = (102 : Int32) then
  bd2 (fX3_readOil_11 S V) (fun r8 S9 =>
  some (r8, S9, V))
  else
  (if r1 = (103 : Int32) then
  bd2 (fX3_readStop_11 S V) (fun r12 S13 =>
  some (r12, S13, V))
  else
  (if r1 = (104 : Int32) then
  bd3 (fX3_readTenant_11 S V) (fun r16 S17 V18 =>
  some (r16, S17, V18))
  else
  (if r1 = (105 : Int32) then
  bd3 (fX3_readQuarrel_11 S V) (fun r21 S22 V23 =>
  some (r21, S22, V23))
  else
  (if r1 = (106 : Int32) then
  bd3 (fX3_readRule_11 S V) (fun r26 S27 V28 =>
  some (r26, S27, V28))
  else
  some ((1 : Int32), S, V))))))))
set_option maxHeartbeats 4000000 in
set_option maxRecDepth 100000 in
theorem kX3_readLine_11 (l : Launch) (B : jBT) (D : va_G) (ad : Nat → Nat) (cA : Nat → ClassId) (hI : jI ad TC) (S : Nat → Int32) (V : Nat → Nat → Int32) (L : Nat → Int64) (r0 : Int32) (S0 : Nat → Int32) (V0 : Nat → Nat → Int32) (h : fX3_readLine_11 S V = some (r0, S0, V0)) : jM l yX3_readLine cX3_readLine 1 (some .int) ({ frames := 5, cells := 0, slots := 0, locals := 106 }) B D TC ad cA [.ref (ad 11)] S V L (some (.int r0)) S0 V0 L := by
  refine jM_of (plainFor_of_name (by decide)) TC_ok hI (Nat.le_of_ble_eq_true rfl) ?_
  intro p e s m args below meth c C hr hlk
  refine j_lv (lv2 := [(0, .ref (ad 11))]) rfl ?_
  unfold fX3_readLine_11 at h
  refine j_aload_n C 0 rfl dX3_readLine_0 rfl ?_
  refine fg_X3_21_TC_11 C dX3_readLine_1 ?_
  obtain ⟨r1, h2, h⟩ := bd1_elim h
  refine j_callV (As := []) (rest := []) C (kX10_kind_20 l B D ad cA hI S V L _ h2) mw_X10_kind wd911 wd912 wd910 tc_20 rfl rfl ⟨rfl, rfl, by decide, by decide⟩ ⟨Nat.zero_le _, Nat.zero_le _⟩ rfl rfl (Nat.le_of_ble_eq_true rfl) dX3_readLine_4 ?_
  by_cases c3 : r1 = (101 : Int32)
  · have h := (if_pos c3).symm.trans h
    refine j_tableIn (tgt := 44) C dX3_readLine_7 (by rw [c3]; decide) (by rw [c3]; decide) (by rw [c3]; rfl) (by decide) ?_
    refine j_aload_n C 0 rfl dX3_readLine_44 rfl ?_
    obtain ⟨r4, S5, h6, h⟩ := bd2_elim h
    refine j_callV (As := []) (rest := []) C (kX3_readBase_11 l B D ad cA hI S V L _ _ h6) mw_X3_readBase wd920 wd17 wd918 tc_11 rfl rfl ⟨rfl, rfl, by decide, by decide⟩ ⟨Nat.zero_le _, Nat.zero_le _⟩ rfl rfl (Nat.le_of_ble_eq_true rfl) dX3_readLine_45 ?_
    cases h
    exact j_iret C hr hlk rfl dX3_readLine_48
  have h := (if_neg c3).symm.trans h
  have n_c3 := ne_toInt (z := 101) (by decide) c3
  by_cases c7 : r1 = (102 : Int32)
  · have h := (if_pos c7).symm.trans h
    refine j_tableIn (tgt := 49) C dX3_readLine_7 (by rw [c7]; decide) (by rw [c7]; decide) (by rw [c7]; rfl) (by decide) ?_
    refine j_aload_n C 0 rfl dX3_readLine_49 rfl ?_
    obtain ⟨r8, S9, h10, h⟩ := bd2_elim h
    refine j_callV (As := []) (rest := []) C (kX3_readOil_11 l B D ad cA hI S V L _ _ h10) mw_X3_readOil wd936 wd19 wd934 tc_11 rfl rfl ⟨rfl, rfl, by decide, by decide⟩ ⟨Nat.zero_le _, Nat.zero_le _⟩ rfl rfl (Nat.le_of_ble_eq_true rfl) dX3_readLine_50 ?_
    cases h
    exact j_iret C hr hlk rfl dX3_readLine_53
  have h := (if_neg c7).symm.trans h
  have n_c7 := ne_toInt (z := 102) (by decide) c7
  by_cases c11 : r1 = (103 : Int32)
  · have h := (if_pos c11).symm.trans h
    refine j_tableIn (tgt := 54) C dX3_readLine_7 (by rw [c11]; decide) (by rw [c11]; decide) (by rw [c11]; rfl) (by decide) ?_
    refine j_aload_n C 0 rfl dX3_readLine_54 rfl ?_
    obtain ⟨r12, S13, h14, h⟩ := bd2_elim h
    refine j_callV (As := []) (rest := []) C (kX3_readStop_11 l B D ad cA hI S V L _ _ h14) mw_X3_readStop wd940 wd20 wd938 tc_11 rfl rfl ⟨rfl, rfl, by decide, by decide⟩ ⟨Nat.zero_le _, Nat.zero_le _⟩ rfl rfl (Nat.le_of_ble_eq_true rfl) dX3_readLine_55 ?_
    cases h
    exact j_iret C hr hlk rfl dX3_readLine_58
  have h := (if_neg c11).symm.trans h
  have n_c11 := ne_toInt (z := 103) (by decide) c11
  by_cases c15 : r1 = (104 : Int32)
  · have h := (if_pos c15).symm.trans h
    refine j_tableIn (tgt := 59) C dX3_readLine_7 (by rw [c15]; decide) (by rw [c15]; decide) (by rw [c15]; rfl) (by decide) ?_
    refine j_aload_n C 0 rfl dX3_readLine_59 rfl ?_
    obtain ⟨r16, S17, V18, h19, h⟩ := bd3_elim h
    refine j_callV (As := []) (rest := []) C (kX3_readTenant_11 l B D ad cA hI S V L _ _ _ h19) mw_X3_readTenant wd944 wd21 wd942 tc_11 rfl rfl ⟨rfl, rfl, by decide, by decide⟩ ⟨Nat.zero_le _, Nat.zero_le _⟩ rfl rfl (Nat.le_of_ble_eq_true rfl) dX3_readLine_60 ?_
    cases h
    exact j_iret C hr hlk rfl dX3_readLine_63
  have h := (if_neg c15).symm.trans h
  have n_c15 := ne_toInt (z := 104) (by decide) c15
  by_cases c20 : r1 = (105 : Int32)
  · have h := (if_pos c20).symm.trans h
    refine j_tableIn (tgt := 64) C dX3_readLine_7 (by rw [c20]; decide) (by rw [c20]; decide) (by rw [c20]; rfl) (by decide) ?_
    refine j_aload_n C 0 rfl dX3_readLine_64 rfl ?_
    obtain ⟨r21, S22, V23, h24, h⟩ := bd3_elim h
    refine j_callV (As := []) (rest := []) C (kX3_readQuarrel_11 l B D ad cA hI S V L _ _ _ h24) mw_X3_readQuarrel wd948 wd22 wd946 tc_11 rfl rfl ⟨rfl, rfl, by decide, by decide⟩ ⟨Nat.zero_le _, Nat.zero_le _⟩ rfl rfl (Nat.le_of_ble_eq_true rfl) dX3_readLine_65 ?_
    cases h
    exact j_iret C hr hlk rfl dX3_readLine_68
  have h := (if_neg c20).symm.trans h
  have n_c20 := ne_toInt (z := 105) (by decide) c20
  by_cases c25 : r1 = (106 : Int32)
  · have h := (if_pos c25).symm.trans h
    refine j_tableIn (tgt := 69) C dX3_readLine_7 (by rw [c25]; decide) (by rw [c25]; decide) (by rw [c25]; rfl) (by decide) ?_
    refine j_aload_n C 0 rfl dX3_readLine_69 rfl ?_
    obtain ⟨r26, S27, V28, h29, h⟩ := bd3_elim h
    refine j_callV (As := []) (rest := []) C (kX3_readRule_11 l B D ad cA hI S V L _ _ _ h29) mw_X3_readRule wd958 wd24 wd956 tc_11 rfl rfl ⟨rfl, rfl, by decide, by decide⟩ ⟨Nat.zero_le _, Nat.zero_le _⟩ rfl rfl (Nat.le_of_ble_eq_true rfl) dX3_readLine_70 ?_
    cases h
    exact j_iret C hr hlk rfl dX3_readLine_73
  have h := (if_neg c25).symm.trans h
  have n_c25 := ne_toInt (z := 106) (by decide) c25
  refine j_tableOut (tgt := 74) C dX3_readLine_7 (by omega) (by decide) ?_
  refine j_iconst C dX3_readLine_74 ci_1 ?_
  cases h
  exact j_iret C hr hlk rfl dX3_readLine_75
