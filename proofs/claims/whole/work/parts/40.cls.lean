theorem dJ6_bitCount_0f7a4_0 : decode cJ6_bitCount_0f7a4 0 = .ok (.iload_n 0, 1) := by decide +kernel
theorem dJ6_bitCount_0f7a4_1 : decode cJ6_bitCount_0f7a4 1 = .ok (.iload_n 0, 1) := by decide +kernel
theorem dJ6_bitCount_0f7a4_2 : decode cJ6_bitCount_0f7a4 2 = .ok (.iconst 1, 1) := by decide +kernel
theorem dJ6_bitCount_0f7a4_3 : decode cJ6_bitCount_0f7a4 3 = .ok (.iushr, 1) := by decide +kernel
theorem dJ6_bitCount_0f7a4_4 : decode cJ6_bitCount_0f7a4 4 = .ok (.ldc_w 265, 3) := by decide +kernel
theorem dJ6_bitCount_0f7a4_7 : decode cJ6_bitCount_0f7a4 7 = .ok (.iand, 1) := by decide +kernel
theorem dJ6_bitCount_0f7a4_8 : decode cJ6_bitCount_0f7a4 8 = .ok (.isub, 1) := by decide +kernel
theorem dJ6_bitCount_0f7a4_9 : decode cJ6_bitCount_0f7a4 9 = .ok (.istore_n 0, 1) := by decide +kernel
theorem dJ6_bitCount_0f7a4_10 : decode cJ6_bitCount_0f7a4 10 = .ok (.iload_n 0, 1) := by decide +kernel
theorem dJ6_bitCount_0f7a4_11 : decode cJ6_bitCount_0f7a4 11 = .ok (.ldc_w 266, 3) := by decide +kernel
theorem dJ6_bitCount_0f7a4_14 : decode cJ6_bitCount_0f7a4 14 = .ok (.iand, 1) := by decide +kernel
theorem dJ6_bitCount_0f7a4_15 : decode cJ6_bitCount_0f7a4 15 = .ok (.iload_n 0, 1) := by decide +kernel
theorem dJ6_bitCount_0f7a4_16 : decode cJ6_bitCount_0f7a4 16 = .ok (.iconst 2, 1) := by decide +kernel
theorem dJ6_bitCount_0f7a4_17 : decode cJ6_bitCount_0f7a4 17 = .ok (.iushr, 1) := by decide +kernel
theorem dJ6_bitCount_0f7a4_18 : decode cJ6_bitCount_0f7a4 18 = .ok (.ldc_w 266, 3) := by decide +kernel
theorem dJ6_bitCount_0f7a4_21 : decode cJ6_bitCount_0f7a4 21 = .ok (.iand, 1) := by decide +kernel
theorem dJ6_bitCount_0f7a4_22 : decode cJ6_bitCount_0f7a4 22 = .ok (.iadd, 1) := by decide +kernel
theorem dJ6_bitCount_0f7a4_23 : decode cJ6_bitCount_0f7a4 23 = .ok (.istore_n 0, 1) := by decide +kernel
theorem dJ6_bitCount_0f7a4_24 : decode cJ6_bitCount_0f7a4 24 = .ok (.iload_n 0, 1) := by decide +kernel
theorem dJ6_bitCount_0f7a4_25 : decode cJ6_bitCount_0f7a4 25 = .ok (.iload_n 0, 1) := by decide +kernel
theorem dJ6_bitCount_0f7a4_26 : decode cJ6_bitCount_0f7a4 26 = .ok (.iconst 4, 1) := by decide +kernel
theorem dJ6_bitCount_0f7a4_27 : decode cJ6_bitCount_0f7a4 27 = .ok (.iushr, 1) := by decide +kernel
theorem dJ6_bitCount_0f7a4_28 : decode cJ6_bitCount_0f7a4 28 = .ok (.iadd, 1) := by decide +kernel
theorem dJ6_bitCount_0f7a4_29 : decode cJ6_bitCount_0f7a4 29 = .ok (.ldc_w 267, 3) := by decide +kernel
theorem dJ6_bitCount_0f7a4_32 : decode cJ6_bitCount_0f7a4 32 = .ok (.iand, 1) := by decide +kernel
theorem dJ6_bitCount_0f7a4_33 : decode cJ6_bitCount_0f7a4 33 = .ok (.istore_n 0, 1) := by decide +kernel
theorem dJ6_bitCount_0f7a4_34 : decode cJ6_bitCount_0f7a4 34 = .ok (.iload_n 0, 1) := by decide +kernel
theorem dJ6_bitCount_0f7a4_35 : decode cJ6_bitCount_0f7a4 35 = .ok (.iload_n 0, 1) := by decide +kernel
theorem dJ6_bitCount_0f7a4_36 : decode cJ6_bitCount_0f7a4 36 = .ok (.bipush 8, 2) := by decide +kernel
theorem dJ6_bitCount_0f7a4_38 : decode cJ6_bitCount_0f7a4 38 = .ok (.iushr, 1) := by decide +kernel
theorem dJ6_bitCount_0f7a4_39 : decode cJ6_bitCount_0f7a4 39 = .ok (.iadd, 1) := by decide +kernel
theorem dJ6_bitCount_0f7a4_40 : decode cJ6_bitCount_0f7a4 40 = .ok (.istore_n 0, 1) := by decide +kernel
theorem dJ6_bitCount_0f7a4_41 : decode cJ6_bitCount_0f7a4 41 = .ok (.iload_n 0, 1) := by decide +kernel
theorem dJ6_bitCount_0f7a4_42 : decode cJ6_bitCount_0f7a4 42 = .ok (.iload_n 0, 1) := by decide +kernel
theorem dJ6_bitCount_0f7a4_43 : decode cJ6_bitCount_0f7a4 43 = .ok (.bipush 16, 2) := by decide +kernel
theorem dJ6_bitCount_0f7a4_45 : decode cJ6_bitCount_0f7a4 45 = .ok (.iushr, 1) := by decide +kernel
theorem dJ6_bitCount_0f7a4_46 : decode cJ6_bitCount_0f7a4 46 = .ok (.iadd, 1) := by decide +kernel
theorem dJ6_bitCount_0f7a4_47 : decode cJ6_bitCount_0f7a4 47 = .ok (.istore_n 0, 1) := by decide +kernel
theorem dJ6_bitCount_0f7a4_48 : decode cJ6_bitCount_0f7a4 48 = .ok (.iload_n 0, 1) := by decide +kernel
theorem dJ6_bitCount_0f7a4_49 : decode cJ6_bitCount_0f7a4 49 = .ok (.bipush 63, 2) := by decide +kernel
theorem dJ6_bitCount_0f7a4_51 : decode cJ6_bitCount_0f7a4 51 = .ok (.iand, 1) := by decide +kernel
theorem dJ6_bitCount_0f7a4_52 : decode cJ6_bitCount_0f7a4 52 = .ok (.ireturn, 1) := by decide +kernel
def fJ6_bitCount_0f7a4 (a1 : Int32) : Option (Int32) :=
  lt ((a1 - (((a1).toUInt32 >>> (((1 : Int32)).toUInt32 &&& Int32.toUInt32 31)).toInt32 &&& (1431655765 : Int32)))) (fun x1 =>
  lt (((x1 &&& (858993459 : Int32)) + (((x1).toUInt32 >>> (((2 : Int32)).toUInt32 &&& Int32.toUInt32 31)).toInt32 &&& (858993459 : Int32)))) (fun x2 =>
  lt (((x2 + ((x2).toUInt32 >>> (((4 : Int32)).toUInt32 &&& Int32.toUInt32 31)).toInt32) &&& (252645135 : Int32))) (fun x3 =>
  lt ((x3 + ((x3).toUInt32 >>> (((8 : Int32)).toUInt32 &&& Int32.toUInt32 31)).toInt32)) (fun x4 =>
  lt ((x4 + ((x4).toUInt32 >>> (((16 : Int32)).toUInt32 &&& Int32.toUInt32 31)).toInt32)) (fun x5 =>
  some ((x5 &&& (63 : Int32))))))))
set_option maxHeartbeats 4000000 in
set_option maxRecDepth 100000 in
theorem kJ6_bitCount_0f7a4 (l : Launch) (B : jBT) (D : va_G) (ad : Nat → Nat) (cA : Nat → ClassId) (hI : jI ad TC) (S : Nat → Int32) (V : Nat → Nat → Int32) (L : Nat → Int64) (a1 : Int32) (r0 : Int32) (h : fJ6_bitCount_0f7a4 a1 = some r0) : jM l yJ6_bitCount_0f7a4 cJ6_bitCount_0f7a4 1 (some .int) ({ frames := 0, cells := 0, slots := 0, locals := 0 }) B D TC ad cA [.int a1] S V L (some (.int r0)) S V L := by
  refine jM_of (plainFor_of_name (by decide)) TC_ok hI (Nat.le_of_ble_eq_true rfl) ?_
  intro p e s m args below meth c C hr hlk
  refine j_lv (lv2 := [(0, .int a1)]) rfl ?_
  unfold fJ6_bitCount_0f7a4 at h
  refine j_iload_n C 0 rfl dJ6_bitCount_0f7a4_0 rfl ?_
  refine j_iload_n C 0 rfl dJ6_bitCount_0f7a4_1 rfl ?_
  refine j_iconst C dJ6_bitCount_0f7a4_2 ci_1 ?_
  refine j_iushr C dJ6_bitCount_0f7a4_3 ?_
  refine j_ldcw C wd1094 dJ6_bitCount_0f7a4_4 ?_
  refine j_iand C dJ6_bitCount_0f7a4_7 ?_
  refine j_isub C dJ6_bitCount_0f7a4_8 ?_
  refine lt_elim h (fun x1 e_x1 h => ?_)
  refine j_top e_x1 ?_
  refine j_istore_n C [(0, .int x1)] dJ6_bitCount_0f7a4_9 rfl (by decide) rfl ?_
  refine j_iload_n C 0 rfl dJ6_bitCount_0f7a4_10 rfl ?_
  refine j_ldcw C wd1095 dJ6_bitCount_0f7a4_11 ?_
  refine j_iand C dJ6_bitCount_0f7a4_14 ?_
  refine j_iload_n C 0 rfl dJ6_bitCount_0f7a4_15 rfl ?_
  refine j_iconst C dJ6_bitCount_0f7a4_16 ci_2 ?_
  refine j_iushr C dJ6_bitCount_0f7a4_17 ?_
  refine j_ldcw C wd1095 dJ6_bitCount_0f7a4_18 ?_
  refine j_iand C dJ6_bitCount_0f7a4_21 ?_
  refine j_iadd C dJ6_bitCount_0f7a4_22 ?_
  refine lt_elim h (fun x2 e_x2 h => ?_)
  refine j_top e_x2 ?_
  refine j_istore_n C [(0, .int x2)] dJ6_bitCount_0f7a4_23 rfl (by decide) rfl ?_
  refine j_iload_n C 0 rfl dJ6_bitCount_0f7a4_24 rfl ?_
  refine j_iload_n C 0 rfl dJ6_bitCount_0f7a4_25 rfl ?_
  refine j_iconst C dJ6_bitCount_0f7a4_26 ci_4 ?_
  refine j_iushr C dJ6_bitCount_0f7a4_27 ?_
  refine j_iadd C dJ6_bitCount_0f7a4_28 ?_
  refine j_ldcw C wd1096 dJ6_bitCount_0f7a4_29 ?_
  refine j_iand C dJ6_bitCount_0f7a4_32 ?_
  refine lt_elim h (fun x3 e_x3 h => ?_)
  refine j_top e_x3 ?_
  refine j_istore_n C [(0, .int x3)] dJ6_bitCount_0f7a4_33 rfl (by decide) rfl ?_
  refine j_iload_n C 0 rfl dJ6_bitCount_0f7a4_34 rfl ?_
  refine j_iload_n C 0 rfl dJ6_bitCount_0f7a4_35 rfl ?_
  refine j_bipush C dJ6_bitCount_0f7a4_36 cb_8 ?_
  refine j_iushr C dJ6_bitCount_0f7a4_38 ?_
  refine j_iadd C dJ6_bitCount_0f7a4_39 ?_
  refine lt_elim h (fun x4 e_x4 h => ?_)
  refine j_top e_x4 ?_
  refine j_istore_n C [(0, .int x4)] dJ6_bitCount_0f7a4_40 rfl (by decide) rfl ?_
  refine j_iload_n C 0 rfl dJ6_bitCount_0f7a4_41 rfl ?_
  refine j_iload_n C 0 rfl dJ6_bitCount_0f7a4_42 rfl ?_
  refine j_bipush C dJ6_bitCount_0f7a4_43 cb_16 ?_
  refine j_iushr C dJ6_bitCount_0f7a4_45 ?_
  refine j_iadd C dJ6_bitCount_0f7a4_46 ?_
  refine lt_elim h (fun x5 e_x5 h => ?_)
  refine j_top e_x5 ?_
  refine j_istore_n C [(0, .int x5)] dJ6_bitCount_0f7a4_47 rfl (by decide) rfl ?_
  refine j_iload_n C 0 rfl dJ6_bitCount_0f7a4_48 rfl ?_
  refine j_bipush C dJ6_bitCount_0f7a4_49 cb_63 ?_
  refine j_iand C dJ6_bitCount_0f7a4_51 ?_
  cases h
  exact j_iret C hr hlk rfl dJ6_bitCount_0f7a4_52
theorem dX2_quarrelsOf_0 : decode cX2_quarrelsOf 0 = .ok (.iload_n 1, 1) := by decide +kernel
theorem dX2_quarrelsOf_1 : decode cX2_quarrelsOf 1 = .ok (.iconst (-1), 1) := by decide +kernel
theorem dX2_quarrelsOf_2 : decode cX2_quarrelsOf 2 = .ok (.if_icmp .eq 8, 3) := by decide +kernel
theorem dX2_quarrelsOf_5 : decode cX2_quarrelsOf 5 = .ok (.iload_n 2, 1) := by decide +kernel
theorem dX2_quarrelsOf_6 : decode cX2_quarrelsOf 6 = .ok (.iconst (-1), 1) := by decide +kernel
theorem dX2_quarrelsOf_7 : decode cX2_quarrelsOf 7 = .ok (.if_icmp .ne 7, 3) := by decide +kernel
theorem dX2_quarrelsOf_10 : decode cX2_quarrelsOf 10 = .ok (.iconst 0, 1) := by decide +kernel
theorem dX2_quarrelsOf_11 : decode cX2_quarrelsOf 11 = .ok (.goto 13, 3) := by decide +kernel
theorem dX2_quarrelsOf_14 : decode cX2_quarrelsOf 14 = .ok (.aload_n 0, 1) := by decide +kernel
theorem dX2_quarrelsOf_15 : decode cX2_quarrelsOf 15 = .ok (.getfield 24, 3) := by decide +kernel
theorem dX2_quarrelsOf_18 : decode cX2_quarrelsOf 18 = .ok (.iload_n 1, 1) := by decide +kernel
theorem dX2_quarrelsOf_19 : decode cX2_quarrelsOf 19 = .ok (.iaload, 1) := by decide +kernel
theorem dX2_quarrelsOf_20 : decode cX2_quarrelsOf 20 = .ok (.iload_n 2, 1) := by decide +kernel
theorem dX2_quarrelsOf_21 : decode cX2_quarrelsOf 21 = .ok (.ishr, 1) := by decide +kernel
theorem dX2_quarrelsOf_22 : decode cX2_quarrelsOf 22 = .ok (.iconst 1, 1) := by decide +kernel
theorem dX2_quarrelsOf_23 : decode cX2_quarrelsOf 23 = .ok (.iand, 1) := by decide +kernel
theorem dX2_quarrelsOf_24 : decode cX2_quarrelsOf 24 = .ok (.ireturn, 1) := by decide +kernel
def fX2_quarrelsOf_3 (V : Nat → Nat → Int32) (a1 : Int32) (a2 : Int32) : Option (Int32) :=
  (if a1 = (-1 : Int32) then
  some (0 : Int32)
  else
  (if a2 = (-1 : Int32) then
  some (0 : Int32)
  else
  gd (ib a1 6) (
  some ((((V 8 (a1).toNatClampNeg) >>> (a2 &&& 31)) &&& (1 : Int32))))))
set_option maxHeartbeats 4000000 in
set_option maxRecDepth 100000 in
theorem kX2_quarrelsOf_3 (l : Launch) (B : jBT) (D : va_G) (ad : Nat → Nat) (cA : Nat → ClassId) (hI : jI ad TC) (S : Nat → Int32) (V : Nat → Nat → Int32) (L : Nat → Int64) (a1 : Int32) (a2 : Int32) (r0 : Int32) (h : fX2_quarrelsOf_3 V a1 a2 = some r0) : jM l yX2_quarrelsOf cX2_quarrelsOf 3 (some .int) ({ frames := 0, cells := 0, slots := 0, locals := 0 }) B D TC ad cA [.ref (ad 3), .int a1, .int a2] S V L (some (.int r0)) S V L := by
  refine jM_of (plainFor_of_name (by decide)) TC_ok hI (Nat.le_of_ble_eq_true rfl) ?_
  intro p e s m args below meth c C hr hlk
  refine j_lv (lv2 := [(0, .ref (ad 3)), (1, .int a1), (2, .int a2)]) rfl ?_
  unfold fX2_quarrelsOf_3 at h
  refine j_iload_n C 1 rfl dX2_quarrelsOf_0 rfl ?_
  refine j_iconst C dX2_quarrelsOf_1 ci_m1 ?_
  refine j_icmp_eq (tgt := 10) C dX2_quarrelsOf_2 (by decide) (fun c1 => ?_) (fun c1 => ?_)
  · have h := (if_pos c1).symm.trans h
    refine j_iconst C dX2_quarrelsOf_10 ci_0 ?_
    refine j_goto (tgt := 24) C dX2_quarrelsOf_11 (by decide) ?_
    cases h
    exact j_iret C hr hlk rfl dX2_quarrelsOf_24
  · have h := (if_neg c1).symm.trans h
    refine j_iload_n C 2 rfl dX2_quarrelsOf_5 rfl ?_
    refine j_iconst C dX2_quarrelsOf_6 ci_m1 ?_
    refine j_icmp_ne (tgt := 14) C dX2_quarrelsOf_7 (by decide) (fun c2 => ?_) (fun c2 => ?_)
    · have h := (if_neg c2).symm.trans h
      refine j_aload_n C 0 rfl dX2_quarrelsOf_14 rfl ?_
      refine fg_X2_24_TC_3 C dX2_quarrelsOf_15 ?_
      refine j_iload_n C 1 rfl dX2_quarrelsOf_18 rfl ?_
      obtain ⟨g3, h⟩ := gd_elim h
      refine j_iald C tc_8 (ib_in g3) dX2_quarrelsOf_19 ?_
      refine j_iload_n C 2 rfl dX2_quarrelsOf_20 rfl ?_
      refine j_ishr C dX2_quarrelsOf_21 ?_
      refine j_iconst C dX2_quarrelsOf_22 ci_1 ?_
      refine j_iand C dX2_quarrelsOf_23 ?_
      cases h
      exact j_iret C hr hlk rfl dX2_quarrelsOf_24
    · have h := (if_pos c2).symm.trans h
      refine j_iconst C dX2_quarrelsOf_10 ci_0 ?_
      refine j_goto (tgt := 24) C dX2_quarrelsOf_11 (by decide) ?_
      cases h
      exact j_iret C hr hlk rfl dX2_quarrelsOf_24
theorem dX0_adds_0 : decode cX0_adds 0 = .ok (.aload_n 0, 1) := by decide +kernel
theorem dX0_adds_1 : decode cX0_adds 1 = .ok (.getfield 15, 3) := by decide +kernel
theorem dX0_adds_4 : decode cX0_adds 4 = .ok (.iload_n 1, 1) := by decide +kernel
theorem dX0_adds_5 : decode cX0_adds 5 = .ok (.bipush 16, 2) := by decide +kernel
theorem dX0_adds_7 : decode cX0_adds 7 = .ok (.imul, 1) := by decide +kernel
theorem dX0_adds_8 : decode cX0_adds 8 = .ok (.iload_n 2, 1) := by decide +kernel
theorem dX0_adds_9 : decode cX0_adds 9 = .ok (.iadd, 1) := by decide +kernel
theorem dX0_adds_10 : decode cX0_adds 10 = .ok (.iaload, 1) := by decide +kernel
theorem dX0_adds_11 : decode cX0_adds 11 = .ok (.sipush 4095, 3) := by decide +kernel
theorem dX0_adds_14 : decode cX0_adds 14 = .ok (.iand, 1) := by decide +kernel
theorem dX0_adds_15 : decode cX0_adds 15 = .ok (.istore_n 3, 1) := by decide +kernel
theorem dX0_adds_16 : decode cX0_adds 16 = .ok (.aload_n 0, 1) := by decide +kernel
theorem dX0_adds_17 : decode cX0_adds 17 = .ok (.getfield 36, 3) := by decide +kernel
theorem dX0_adds_20 : decode cX0_adds 20 = .ok (.getfield 76, 3) := by decide +kernel
theorem dX0_adds_23 : decode cX0_adds 23 = .ok (.aload_n 0, 1) := by decide +kernel
theorem dX0_adds_24 : decode cX0_adds 24 = .ok (.getfield 9, 3) := by decide +kernel
theorem dX0_adds_27 : decode cX0_adds 27 = .ok (.iload_n 1, 1) := by decide +kernel
theorem dX0_adds_28 : decode cX0_adds 28 = .ok (.iaload, 1) := by decide +kernel
theorem dX0_adds_29 : decode cX0_adds 29 = .ok (.iaload, 1) := by decide +kernel
theorem dX0_adds_30 : decode cX0_adds 30 = .ok (.iload_n 3, 1) := by decide +kernel
theorem dX0_adds_31 : decode cX0_adds 31 = .ok (.invokestatic 127, 3) := by decide +kernel
theorem dX0_adds_34 : decode cX0_adds 34 = .ok (.imul, 1) := by decide +kernel
theorem dX0_adds_35 : decode cX0_adds 35 = .ok (.istore 4, 2) := by decide +kernel
theorem dX0_adds_37 : decode cX0_adds 37 = .ok (.iconst 0, 1) := by decide +kernel
theorem dX0_adds_38 : decode cX0_adds 38 = .ok (.istore 5, 2) := by decide +kernel
theorem dX0_adds_40 : decode cX0_adds 40 = .ok (.iload 5, 2) := by decide +kernel
theorem dX0_adds_42 : decode cX0_adds 42 = .ok (.iload_n 1, 1) := by decide +kernel
theorem dX0_adds_43 : decode cX0_adds 43 = .ok (.if_icmp .ge 62, 3) := by decide +kernel
theorem dX0_adds_46 : decode cX0_adds 46 = .ok (.aload_n 0, 1) := by decide +kernel
theorem dX0_adds_47 : decode cX0_adds 47 = .ok (.getfield 36, 3) := by decide +kernel
theorem dX0_adds_50 : decode cX0_adds 50 = .ok (.aload_n 0, 1) := by decide +kernel
theorem dX0_adds_51 : decode cX0_adds 51 = .ok (.getfield 9, 3) := by decide +kernel
theorem dX0_adds_54 : decode cX0_adds 54 = .ok (.iload_n 1, 1) := by decide +kernel
theorem dX0_adds_55 : decode cX0_adds 55 = .ok (.iaload, 1) := by decide +kernel
theorem dX0_adds_56 : decode cX0_adds 56 = .ok (.aload_n 0, 1) := by decide +kernel
theorem dX0_adds_57 : decode cX0_adds 57 = .ok (.getfield 9, 3) := by decide +kernel
theorem dX0_adds_60 : decode cX0_adds 60 = .ok (.iload 5, 2) := by decide +kernel
theorem dX0_adds_62 : decode cX0_adds 62 = .ok (.iaload, 1) := by decide +kernel
theorem dX0_adds_63 : decode cX0_adds 63 = .ok (.invokevirtual 79, 3) := by decide +kernel
theorem dX0_adds_66 : decode cX0_adds 66 = .ok (.ifCond .eq 33, 3) := by decide +kernel
theorem dX0_adds_69 : decode cX0_adds 69 = .ok (.iload 4, 2) := by decide +kernel
theorem dX0_adds_71 : decode cX0_adds 71 = .ok (.iconst 3, 1) := by decide +kernel
theorem dX0_adds_72 : decode cX0_adds 72 = .ok (.iload_n 3, 1) := by decide +kernel
theorem dX0_adds_73 : decode cX0_adds 73 = .ok (.aload_n 0, 1) := by decide +kernel
theorem dX0_adds_74 : decode cX0_adds 74 = .ok (.getfield 15, 3) := by decide +kernel
theorem dX0_adds_77 : decode cX0_adds 77 = .ok (.iload 5, 2) := by decide +kernel
theorem dX0_adds_79 : decode cX0_adds 79 = .ok (.bipush 16, 2) := by decide +kernel
theorem dX0_adds_81 : decode cX0_adds 81 = .ok (.imul, 1) := by decide +kernel
theorem dX0_adds_82 : decode cX0_adds 82 = .ok (.aload_n 0, 1) := by decide +kernel
theorem dX0_adds_83 : decode cX0_adds 83 = .ok (.getfield 27, 3) := by decide +kernel
theorem dX0_adds_86 : decode cX0_adds 86 = .ok (.iload 5, 2) := by decide +kernel
theorem dX0_adds_88 : decode cX0_adds 88 = .ok (.iaload, 1) := by decide +kernel
theorem dX0_adds_89 : decode cX0_adds 89 = .ok (.iadd, 1) := by decide +kernel
theorem dX0_adds_90 : decode cX0_adds 90 = .ok (.iaload, 1) := by decide +kernel
theorem dX0_adds_91 : decode cX0_adds 91 = .ok (.iand, 1) := by decide +kernel
theorem dX0_adds_92 : decode cX0_adds 92 = .ok (.invokestatic 127, 3) := by decide +kernel
theorem dX0_adds_95 : decode cX0_adds 95 = .ok (.imul, 1) := by decide +kernel
theorem dX0_adds_96 : decode cX0_adds 96 = .ok (.iadd, 1) := by decide +kernel
theorem dX0_adds_97 : decode cX0_adds 97 = .ok (.istore 4, 2) := by decide +kernel
theorem dX0_adds_99 : decode cX0_adds 99 = .ok (.iinc 5 1, 3) := by decide +kernel
theorem dX0_adds_102 : decode cX0_adds 102 = .ok (.goto (-62), 3) := by decide +kernel
theorem dX0_adds_105 : decode cX0_adds 105 = .ok (.iload 4, 2) := by decide +kernel
theorem dX0_adds_107 : decode cX0_adds 107 = .ok (.ireturn, 1) := by decide +kernel
def fX0_adds_49_L40 (V : Nat → Nat → Int32) : Nat → Int32 → Int32 → Int32 → Int32 → Option (Int32)
  | 0, _, _, _, _ => none
  | n + 1, x10, x11, x12, x13 =>
    (if x10 ≤ x13 then
    some x12
    else
    gd (ib x10 4) (
    gd (ib x13 4) (
    bd1 (fX2_quarrelsOf_3 V ((V 50 (x10).toNatClampNeg)) ((V 50 (x13).toNatClampNeg))) (fun r17 =>
    bk (fun (x20 : Int32) (x21 : Int32) (x22 : Int32) (x23 : Int32) =>
    lt (x23 + (1 : Int32)) (fun x24 =>
    fX0_adds_49_L40 V n x20 x21 x22 x24)) (fun K99_19 =>
    (if r17 = 0 then
    K99_19 x10 x11 x12 x13
    else
    gd (ib x13 4) (
    lt (((x13 * (16 : Int32)) + (V 55 (x13).toNatClampNeg))) (fun x27 =>
    gd (ib x27 64) (
    bd1 (fJ6_bitCount_0f7a4 ((x11 &&& (V 51 (x27).toNatClampNeg)))) (fun r29 =>
    lt ((x12 + ((3 : Int32) * r29))) (fun x31 =>
    K99_19 x10 x11 x31 x13)))))))))))
def fX0_adds_49 (V : Nat → Nat → Int32) (a1 : Int32) (a2 : Int32) : Option (Int32) :=
  lt (((a1 * (16 : Int32)) + a2)) (fun x1 =>
  gd (ib x1 64) (
  lt (((V 51 (x1).toNatClampNeg) &&& (4095 : Int32))) (fun x3 =>
  gd (ib a1 4) (
  lt ((V 50 (a1).toNatClampNeg)) (fun x5 =>
  gd (ib x5 6) (
  bd1 (fJ6_bitCount_0f7a4 x3) (fun r7 =>
  lt (((V 4 (x5).toNatClampNeg) * r7)) (fun x9 =>
  fX0_adds_49_L40 V FU a1 x3 x9 (0 : Int32)))))))))
set_option maxHeartbeats 4000000 in
set_option maxRecDepth 100000 in
theorem kX0_adds_49 (l : Launch) (B : jBT) (D : va_G) (ad : Nat → Nat) (cA : Nat → ClassId) (hI : jI ad TC) (S : Nat → Int32) (V : Nat → Nat → Int32) (L : Nat → Int64) (a1 : Int32) (a2 : Int32) (r0 : Int32) (h : fX0_adds_49 V a1 a2 = some r0) : jM l yX0_adds cX0_adds 6 (some .int) ({ frames := 1, cells := 0, slots := 0, locals := 22 }) B D TC ad cA [.ref (ad 49), .int a1, .int a2] S V L (some (.int r0)) S V L := by
  refine jM_of (plainFor_of_name (by decide)) TC_ok hI (Nat.le_of_ble_eq_true rfl) ?_
  intro p e s m args below meth c C hr hlk
  refine j_lv (lv2 := [(0, .ref (ad 49)), (1, .int a1), (2, .int a2)]) rfl ?_
  unfold fX0_adds_49 at h
  have H_fX0_adds_49_L40 : ∀ (n : Nat) (x10 : Int32) (x11 : Int32) (x12 : Int32) (x13 : Int32), fX0_adds_49_L40 V n x10 x11 x12 x13 = some r0 → jW p l e ({ frames := 1, cells := 0, slots := 0, locals := 22 }) s m args below meth c (MQ below (jQc D TC ad cA (some (.int r0)) s.heap.size S V L) args s 0 0 (jA ad TC s.heap.size)) D TC ad cA (jA ad TC s.heap.size) 6 0 0 40 [(0, .ref (ad 49)), (1, .int x10), (3, .int x11), (4, .int x12), (5, .int x13)] [] S V L := by
    intro n
    induction n with
    | zero =>
      intro x10 x11 x12 x13 h
      cases (show (none : Option (Int32)) = some r0 from h)
    | succ n ih =>
      intro x10 x11 x12 x13 h
      unfold fX0_adds_49_L40 at h
      refine j_iload C 4 rfl dX0_adds_40 ?_
      refine j_iload_n C 1 rfl dX0_adds_42 rfl ?_
      refine j_icmp_ge (tgt := 105) C dX0_adds_43 (by decide) (fun c14 => ?_) (fun c14 => ?_)
      · have h := (if_pos c14).symm.trans h
        refine j_iload C 3 rfl dX0_adds_105 ?_
        cases h
        exact j_iret C hr hlk rfl dX0_adds_107
      · have h := (if_neg c14).symm.trans h
        refine j_aload_n C 0 rfl dX0_adds_46 rfl ?_
        refine fg_X0_36_TC_49 C dX0_adds_47 ?_
        refine j_aload_n C 0 rfl dX0_adds_50 rfl ?_
        refine fg_X0_9_TC_49 C dX0_adds_51 ?_
        refine j_iload_n C 1 rfl dX0_adds_54 rfl ?_
        obtain ⟨g15, h⟩ := gd_elim h
        refine j_iald C tc_50 (ib_in g15) dX0_adds_55 ?_
        refine j_aload_n C 0 rfl dX0_adds_56 rfl ?_
        refine fg_X0_9_TC_49 C dX0_adds_57 ?_
        refine j_iload C 4 rfl dX0_adds_60 ?_
        obtain ⟨g16, h⟩ := gd_elim h
        refine j_iald C tc_50 (ib_in g16) dX0_adds_62 ?_
        obtain ⟨r17, h18, h⟩ := bd1_elim h
        refine j_callV (As := [.int (V 50 (x10).toNatClampNeg), .int (V 50 (x13).toNatClampNeg)]) (rest := []) C (kX2_quarrelsOf_3 l B D ad cA hI S V L ((V 50 (x10).toNatClampNeg)) ((V 50 (x13).toNatClampNeg)) _ h18) mw_X2_quarrelsOf wd620 wd621 wd1194 tc_3 rfl rfl ⟨rfl, rfl, by decide, by decide⟩ ⟨Nat.zero_le _, Nat.zero_le _⟩ rfl rfl (Nat.le_of_ble_eq_true rfl) dX0_adds_63 ?_
        refine bk_elim h (fun K99_19 e_K99_19 h => ?_)
        have HK99_19 : ∀ (x20 : Int32) (x21 : Int32) (x22 : Int32) (x23 : Int32), K99_19 x20 x21 x22 x23 = some r0 → jW p l e ({ frames := 1, cells := 0, slots := 0, locals := 22 }) s m args below meth c (MQ below (jQc D TC ad cA (some (.int r0)) s.heap.size S V L) args s 0 0 (jA ad TC s.heap.size)) D TC ad cA (jA ad TC s.heap.size) 6 0 0 99 [(0, .ref (ad 49)), (1, .int x20), (3, .int x21), (4, .int x22), (5, .int x23)] [] S V L := by
          subst e_K99_19
          intro x20 x21 x22 x23 h
          refine lt_elim h (fun x24 e_x24 h => ?_)
          refine j_iinc C [(5, .int x24), (0, .ref (ad 49)), (1, .int x20), (3, .int x21), (4, .int x22)] 4 dX0_adds_99 rfl ((iinc_eq ci_1).trans e_x24.symm) (by decide) rfl ?_
          refine j_goto (tgt := 40) C dX0_adds_102 (by decide) ?_
          exact j_sub [1, 2, 3, 4, 0] rfl (ih _ _ _ _ h)
        refine j_if_eq (tgt := 99) C dX0_adds_66 (by decide) (fun c25 => ?_) (fun c25 => ?_)
        · have h := (if_pos c25).symm.trans h
          exact j_sub [0, 1, 2, 3, 4] rfl (HK99_19 _ _ _ _ h)
        · have h := (if_neg c25).symm.trans h
          refine j_iload C 3 rfl dX0_adds_69 ?_
          refine j_iconst C dX0_adds_71 ci_3 ?_
          refine j_iload_n C 2 rfl dX0_adds_72 rfl ?_
          refine j_aload_n C 0 rfl dX0_adds_73 rfl ?_
          refine fg_X0_15_TC_49 C dX0_adds_74 ?_
          refine j_iload C 4 rfl dX0_adds_77 ?_
          refine j_bipush C dX0_adds_79 cb_16 ?_
          refine j_imul C dX0_adds_81 ?_
          refine j_aload_n C 0 rfl dX0_adds_82 rfl ?_
          refine fg_X0_27_TC_49 C dX0_adds_83 ?_
          refine j_iload C 4 rfl dX0_adds_86 ?_
          obtain ⟨g26, h⟩ := gd_elim h
          refine j_iald C tc_55 (ib_in g26) dX0_adds_88 ?_
          refine j_iadd C dX0_adds_89 ?_
          refine lt_elim h (fun x27 e_x27 h => ?_)
          refine j_top e_x27 ?_
          obtain ⟨g28, h⟩ := gd_elim h
          refine j_iald C tc_51 (ib_in g28) dX0_adds_90 ?_
          refine j_iand C dX0_adds_91 ?_
          obtain ⟨r29, h30, h⟩ := bd1_elim h
          refine j_callS (As := [.int (x11 &&& (V 51 (x27).toNatClampNeg))]) (rest := [.int (3 : Int32), .int x12]) C (kJ6_bitCount_0f7a4 l B D ad cA hI S V L ((x11 &&& (V 51 (x27).toNatClampNeg))) _ h30) mw_J6_bitCount_0f7a4 wd1092 wd1236 ⟨rfl, rfl, by decide, by decide⟩ ⟨Nat.zero_le _, Nat.zero_le _⟩ rfl rfl (Nat.le_of_ble_eq_true rfl) dX0_adds_92 ?_
          refine j_imul C dX0_adds_95 ?_
          refine j_iadd C dX0_adds_96 ?_
          refine lt_elim h (fun x31 e_x31 h => ?_)
          refine j_top e_x31 ?_
          refine j_istore C [(4, .int x31), (0, .ref (ad 49)), (1, .int x10), (3, .int x11), (5, .int x13)] dX0_adds_97 (by decide) rfl ?_
          exact j_sub [1, 2, 3, 0, 4] rfl (HK99_19 _ _ _ _ h)
  refine j_aload_n C 0 rfl dX0_adds_0 rfl ?_
  refine fg_X0_15_TC_49 C dX0_adds_1 ?_
  refine j_iload_n C 1 rfl dX0_adds_4 rfl ?_
  refine j_bipush C dX0_adds_5 cb_16 ?_
  refine j_imul C dX0_adds_7 ?_
  refine j_iload_n C 2 rfl dX0_adds_8 rfl ?_
  refine j_iadd C dX0_adds_9 ?_
  refine lt_elim h (fun x1 e_x1 h => ?_)
  refine j_top e_x1 ?_
  obtain ⟨g2, h⟩ := gd_elim h
  refine j_iald C tc_51 (ib_in g2) dX0_adds_10 ?_
  refine j_sipush C dX0_adds_11 cs_4095 ?_
  refine j_iand C dX0_adds_14 ?_
  refine lt_elim h (fun x3 e_x3 h => ?_)
  refine j_top e_x3 ?_
  refine j_istore_n C [(3, .int x3), (0, .ref (ad 49)), (1, .int a1), (2, .int a2)] dX0_adds_15 rfl (by decide) rfl ?_
  refine j_aload_n C 1 rfl dX0_adds_16 rfl ?_
  refine fg_X0_36_TC_49 C dX0_adds_17 ?_
  refine fg_X0_76_TC_3 C dX0_adds_20 ?_
  refine j_aload_n C 1 rfl dX0_adds_23 rfl ?_
  refine fg_X0_9_TC_49 C dX0_adds_24 ?_
  refine j_iload_n C 2 rfl dX0_adds_27 rfl ?_
  obtain ⟨g4, h⟩ := gd_elim h
  refine j_iald C tc_50 (ib_in g4) dX0_adds_28 ?_
  refine lt_elim h (fun x5 e_x5 h => ?_)
  refine j_top e_x5 ?_
  obtain ⟨g6, h⟩ := gd_elim h
  refine j_iald C tc_4 (ib_in g6) dX0_adds_29 ?_
  refine j_iload_n C 0 rfl dX0_adds_30 rfl ?_
  obtain ⟨r7, h8, h⟩ := bd1_elim h
  refine j_callS (As := [.int x3]) (rest := [.int (V 4 (x5).toNatClampNeg)]) C (kJ6_bitCount_0f7a4 l B D ad cA hI S V L x3 _ h8) mw_J6_bitCount_0f7a4 wd1092 wd1236 ⟨rfl, rfl, by decide, by decide⟩ ⟨Nat.zero_le _, Nat.zero_le _⟩ rfl rfl (Nat.le_of_ble_eq_true rfl) dX0_adds_31 ?_
  refine j_imul C dX0_adds_34 ?_
  refine lt_elim h (fun x9 e_x9 h => ?_)
  refine j_top e_x9 ?_
  refine j_istore C [(4, .int x9), (3, .int x3), (0, .ref (ad 49)), (1, .int a1), (2, .int a2)] dX0_adds_35 (by decide) rfl ?_
  refine j_iconst C dX0_adds_37 ci_0 ?_
  refine j_istore C [(5, .int (0 : Int32)), (4, .int x9), (3, .int x3), (0, .ref (ad 49)), (1, .int a1), (2, .int a2)] dX0_adds_38 (by decide) rfl ?_
  exact j_sub [3, 4, 2, 1, 0] rfl (H_fX0_adds_49_L40 FU _ _ _ _ h)
