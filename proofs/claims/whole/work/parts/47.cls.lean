theorem dX2_oilLeft_0 : decode cX2_oilLeft 0 = .ok (.aload_n 0, 1) := by decide +kernel
theorem dX2_oilLeft_1 : decode cX2_oilLeft 1 = .ok (.getfield 37, 3) := by decide +kernel
theorem dX2_oilLeft_4 : decode cX2_oilLeft 4 = .ok (.ifCond .le 12, 3) := by decide +kernel
theorem dX2_oilLeft_7 : decode cX2_oilLeft 7 = .ok (.iload_n 1, 1) := by decide +kernel
theorem dX2_oilLeft_8 : decode cX2_oilLeft 8 = .ok (.aload_n 0, 1) := by decide +kernel
theorem dX2_oilLeft_9 : decode cX2_oilLeft 9 = .ok (.getfield 37, 3) := by decide +kernel
theorem dX2_oilLeft_12 : decode cX2_oilLeft 12 = .ok (.idiv, 1) := by decide +kernel
theorem dX2_oilLeft_13 : decode cX2_oilLeft 13 = .ok (.goto 4, 3) := by decide +kernel
theorem dX2_oilLeft_16 : decode cX2_oilLeft 16 = .ok (.iconst 0, 1) := by decide +kernel
theorem dX2_oilLeft_17 : decode cX2_oilLeft 17 = .ok (.istore_n 2, 1) := by decide +kernel
theorem dX2_oilLeft_18 : decode cX2_oilLeft 18 = .ok (.iconst 0, 1) := by decide +kernel
theorem dX2_oilLeft_19 : decode cX2_oilLeft 19 = .ok (.aload_n 0, 1) := by decide +kernel
theorem dX2_oilLeft_20 : decode cX2_oilLeft 20 = .ok (.getfield 43, 3) := by decide +kernel
theorem dX2_oilLeft_23 : decode cX2_oilLeft 23 = .ok (.iload_n 2, 1) := by decide +kernel
theorem dX2_oilLeft_24 : decode cX2_oilLeft 24 = .ok (.isub, 1) := by decide +kernel
theorem dX2_oilLeft_25 : decode cX2_oilLeft 25 = .ok (.invokestatic 64, 3) := by decide +kernel
theorem dX2_oilLeft_28 : decode cX2_oilLeft 28 = .ok (.ireturn, 1) := by decide +kernel
def fX2_oilLeft_3 (S : Nat → Int32) (a1 : Int32) : Option (Int32) :=
  bk (fun (x2 : Int32) =>
  bd1 (fJ9_max_7cf53 (0 : Int32) (((S 301) - x2))) (fun r3 =>
  some r3)) (fun K17_1 =>
  (if (S 302) ≤ 0 then
  K17_1 (0 : Int32)
  else
  lt ((S 302)) (fun x6 =>
  gd (nz x6) (
  K17_1 ((a1 / x6))))))
set_option maxHeartbeats 4000000 in
set_option maxRecDepth 100000 in
theorem kX2_oilLeft_3 (l : Launch) (B : jBT) (D : va_G) (ad : Nat → Nat) (cA : Nat → ClassId) (hI : jI ad TC) (S : Nat → Int32) (V : Nat → Nat → Int32) (L : Nat → Int64) (a1 : Int32) (r0 : Int32) (h : fX2_oilLeft_3 S a1 = some r0) : jM l yX2_oilLeft cX2_oilLeft 3 (some .int) ({ frames := 1, cells := 0, slots := 0, locals := 21 }) B D TC ad cA [.ref (ad 3), .int a1] S V L (some (.int r0)) S V L := by
  refine jM_of (plainFor_of_name (by decide)) TC_ok hI (Nat.le_of_ble_eq_true rfl) ?_
  intro p e s m args below meth c C hr hlk
  refine j_lv (lv2 := [(0, .ref (ad 3)), (1, .int a1)]) rfl ?_
  unfold fX2_oilLeft_3 at h
  refine j_aload_n C 0 rfl dX2_oilLeft_0 rfl ?_
  refine fg_X2_37_TC_3 C dX2_oilLeft_1 ?_
  refine bk_elim h (fun K17_1 e_K17_1 h => ?_)
  have HK17_1 : ∀ (x2 : Int32), K17_1 x2 = some r0 → jW p l e ({ frames := 1, cells := 0, slots := 0, locals := 21 }) s m args below meth c (MQ below (jQc D TC ad cA (some (.int r0)) s.heap.size S V L) args s 0 0 (jA ad TC s.heap.size)) D TC ad cA (jA ad TC s.heap.size) 3 0 0 17 [(0, .ref (ad 3))] [.int x2] S V L := by
    subst e_K17_1
    intro x2 h
    refine j_istore_n C [(2, .int x2), (0, .ref (ad 3))] dX2_oilLeft_17 rfl (by decide) rfl ?_
    refine j_iconst C dX2_oilLeft_18 ci_0 ?_
    refine j_aload_n C 1 rfl dX2_oilLeft_19 rfl ?_
    refine fg_X2_43_TC_3 C dX2_oilLeft_20 ?_
    refine j_iload_n C 0 rfl dX2_oilLeft_23 rfl ?_
    refine j_isub C dX2_oilLeft_24 ?_
    obtain ⟨r3, h4, h⟩ := bd1_elim h
    refine j_callS (As := [.int (0 : Int32), .int ((S 301) - x2)]) (rest := []) C (kJ9_max_7cf53 l B D ad cA hI S V L (0 : Int32) (((S 301) - x2)) _ h4) mw_J9_max_7cf53 wd770 wd1131 ⟨rfl, rfl, by decide, by decide⟩ ⟨Nat.zero_le _, Nat.zero_le _⟩ rfl rfl (Nat.le_of_ble_eq_true rfl) dX2_oilLeft_25 ?_
    cases h
    exact j_iret C hr hlk rfl dX2_oilLeft_28
  refine j_if_le (tgt := 16) C dX2_oilLeft_4 (by decide) (fun c5 => ?_) (fun c5 => ?_)
  · have h := (if_pos c5).symm.trans h
    refine j_iconst C dX2_oilLeft_16 ci_0 ?_
    exact j_sub [0] rfl (HK17_1 _ h)
  · have h := (if_neg c5).symm.trans h
    refine j_iload_n C 1 rfl dX2_oilLeft_7 rfl ?_
    refine j_aload_n C 0 rfl dX2_oilLeft_8 rfl ?_
    refine fg_X2_37_TC_3 C dX2_oilLeft_9 ?_
    refine lt_elim h (fun x6 e_x6 h => ?_)
    refine j_top e_x6 ?_
    obtain ⟨g7, h⟩ := gd_elim h
    refine j_idiv C dX2_oilLeft_12 (nz_ne g7) ?_
    refine j_goto (tgt := 17) C dX2_oilLeft_13 (by decide) ?_
    exact j_sub [0] rfl (HK17_1 _ h)
theorem dX1_lookAt_0 : decode cX1_lookAt 0 = .ok (.aload_n 0, 1) := by decide +kernel
theorem dX1_lookAt_1 : decode cX1_lookAt 1 = .ok (.getfield 9, 3) := by decide +kernel
theorem dX1_lookAt_4 : decode cX1_lookAt 4 = .ok (.iload_n 1, 1) := by decide +kernel
theorem dX1_lookAt_5 : decode cX1_lookAt 5 = .ok (.iload_n 2, 1) := by decide +kernel
theorem dX1_lookAt_6 : decode cX1_lookAt 6 = .ok (.iload_n 3, 1) := by decide +kernel
theorem dX1_lookAt_7 : decode cX1_lookAt 7 = .ok (.aload_n 0, 1) := by decide +kernel
theorem dX1_lookAt_8 : decode cX1_lookAt 8 = .ok (.getfield 9, 3) := by decide +kernel
theorem dX1_lookAt_11 : decode cX1_lookAt 11 = .ok (.iconst 0, 1) := by decide +kernel
theorem dX1_lookAt_12 : decode cX1_lookAt 12 = .ok (.invokevirtual 52, 3) := by decide +kernel
theorem dX1_lookAt_15 : decode cX1_lookAt 15 = .ok (.invokevirtual 56, 3) := by decide +kernel
theorem dX1_lookAt_18 : decode cX1_lookAt 18 = .ok (.aload_n 0, 1) := by decide +kernel
theorem dX1_lookAt_19 : decode cX1_lookAt 19 = .ok (.getfield 15, 3) := by decide +kernel
theorem dX1_lookAt_22 : decode cX1_lookAt 22 = .ok (.if_icmp .eq 4, 3) := by decide +kernel
theorem dX1_lookAt_25 : decode cX1_lookAt 25 = .ok (.return_, 1) := by decide +kernel
theorem dX1_lookAt_26 : decode cX1_lookAt 26 = .ok (.iload_n 1, 1) := by decide +kernel
theorem dX1_lookAt_27 : decode cX1_lookAt 27 = .ok (.invokestatic 60, 3) := by decide +kernel
theorem dX1_lookAt_30 : decode cX1_lookAt 30 = .ok (.iload_n 2, 1) := by decide +kernel
theorem dX1_lookAt_31 : decode cX1_lookAt 31 = .ok (.invokestatic 60, 3) := by decide +kernel
theorem dX1_lookAt_34 : decode cX1_lookAt 34 = .ok (.ior, 1) := by decide +kernel
theorem dX1_lookAt_35 : decode cX1_lookAt 35 = .ok (.iload_n 3, 1) := by decide +kernel
theorem dX1_lookAt_36 : decode cX1_lookAt 36 = .ok (.invokestatic 60, 3) := by decide +kernel
theorem dX1_lookAt_39 : decode cX1_lookAt 39 = .ok (.ior, 1) := by decide +kernel
theorem dX1_lookAt_40 : decode cX1_lookAt 40 = .ok (.istore 4, 2) := by decide +kernel
theorem dX1_lookAt_42 : decode cX1_lookAt 42 = .ok (.aload_n 0, 1) := by decide +kernel
theorem dX1_lookAt_43 : decode cX1_lookAt 43 = .ok (.getfield 19, 3) := by decide +kernel
theorem dX1_lookAt_46 : decode cX1_lookAt 46 = .ok (.ifCond .ne 30, 3) := by decide +kernel
theorem dX1_lookAt_49 : decode cX1_lookAt 49 = .ok (.aload_n 0, 1) := by decide +kernel
theorem dX1_lookAt_50 : decode cX1_lookAt 50 = .ok (.bipush 100, 2) := by decide +kernel
theorem dX1_lookAt_52 : decode cX1_lookAt 52 = .ok (.iload_n 1, 1) := by decide +kernel
theorem dX1_lookAt_53 : decode cX1_lookAt 53 = .ok (.iconst 1, 1) := by decide +kernel
theorem dX1_lookAt_54 : decode cX1_lookAt 54 = .ok (.iadd, 1) := by decide +kernel
theorem dX1_lookAt_55 : decode cX1_lookAt 55 = .ok (.imul, 1) := by decide +kernel
theorem dX1_lookAt_56 : decode cX1_lookAt 56 = .ok (.bipush 10, 2) := by decide +kernel
theorem dX1_lookAt_58 : decode cX1_lookAt 58 = .ok (.iload_n 2, 1) := by decide +kernel
theorem dX1_lookAt_59 : decode cX1_lookAt 59 = .ok (.iconst 1, 1) := by decide +kernel
theorem dX1_lookAt_60 : decode cX1_lookAt 60 = .ok (.iadd, 1) := by decide +kernel
theorem dX1_lookAt_61 : decode cX1_lookAt 61 = .ok (.imul, 1) := by decide +kernel
theorem dX1_lookAt_62 : decode cX1_lookAt 62 = .ok (.iadd, 1) := by decide +kernel
theorem dX1_lookAt_63 : decode cX1_lookAt 63 = .ok (.iload_n 3, 1) := by decide +kernel
theorem dX1_lookAt_64 : decode cX1_lookAt 64 = .ok (.iadd, 1) := by decide +kernel
theorem dX1_lookAt_65 : decode cX1_lookAt 65 = .ok (.iconst 1, 1) := by decide +kernel
theorem dX1_lookAt_66 : decode cX1_lookAt 66 = .ok (.iadd, 1) := by decide +kernel
theorem dX1_lookAt_67 : decode cX1_lookAt 67 = .ok (.putfield 28, 3) := by decide +kernel
theorem dX1_lookAt_70 : decode cX1_lookAt 70 = .ok (.aload_n 0, 1) := by decide +kernel
theorem dX1_lookAt_71 : decode cX1_lookAt 71 = .ok (.iload 4, 2) := by decide +kernel
theorem dX1_lookAt_73 : decode cX1_lookAt 73 = .ok (.putfield 22, 3) := by decide +kernel
theorem dX1_lookAt_76 : decode cX1_lookAt 76 = .ok (.aload_n 0, 1) := by decide +kernel
theorem dX1_lookAt_77 : decode cX1_lookAt 77 = .ok (.dup, 1) := by decide +kernel
theorem dX1_lookAt_78 : decode cX1_lookAt 78 = .ok (.getfield 22, 3) := by decide +kernel
theorem dX1_lookAt_81 : decode cX1_lookAt 81 = .ok (.iload 4, 2) := by decide +kernel
theorem dX1_lookAt_83 : decode cX1_lookAt 83 = .ok (.iand, 1) := by decide +kernel
theorem dX1_lookAt_84 : decode cX1_lookAt 84 = .ok (.putfield 22, 3) := by decide +kernel
theorem dX1_lookAt_87 : decode cX1_lookAt 87 = .ok (.aload_n 0, 1) := by decide +kernel
theorem dX1_lookAt_88 : decode cX1_lookAt 88 = .ok (.dup, 1) := by decide +kernel
theorem dX1_lookAt_89 : decode cX1_lookAt 89 = .ok (.getfield 25, 3) := by decide +kernel
theorem dX1_lookAt_92 : decode cX1_lookAt 92 = .ok (.iload 4, 2) := by decide +kernel
theorem dX1_lookAt_94 : decode cX1_lookAt 94 = .ok (.ior, 1) := by decide +kernel
theorem dX1_lookAt_95 : decode cX1_lookAt 95 = .ok (.putfield 25, 3) := by decide +kernel
theorem dX1_lookAt_98 : decode cX1_lookAt 98 = .ok (.aload_n 0, 1) := by decide +kernel
theorem dX1_lookAt_99 : decode cX1_lookAt 99 = .ok (.dup, 1) := by decide +kernel
theorem dX1_lookAt_100 : decode cX1_lookAt 100 = .ok (.getfield 19, 3) := by decide +kernel
theorem dX1_lookAt_103 : decode cX1_lookAt 103 = .ok (.iconst 1, 1) := by decide +kernel
theorem dX1_lookAt_104 : decode cX1_lookAt 104 = .ok (.iadd, 1) := by decide +kernel
theorem dX1_lookAt_105 : decode cX1_lookAt 105 = .ok (.putfield 19, 3) := by decide +kernel
theorem dX1_lookAt_108 : decode cX1_lookAt 108 = .ok (.return_, 1) := by decide +kernel
def fX1_lookAt_58 (S : Nat → Int32) (V : Nat → Nat → Int32) (a1 : Int32) (a2 : Int32) (a3 : Int32) : Option ((Nat → Int32)) :=
  bd1 (fX2_oilLeft_3 S (0 : Int32)) (fun r1 =>
  bd1 (fX2_swingOf_3 S V a1 a2 a3 r1) (fun r3 =>
  (if r3 = (S 5801) then
  bd1 (fX1_bitOf a1) (fun r6 =>
  bd1 (fX1_bitOf a2) (fun r8 =>
  bd1 (fX1_bitOf a3) (fun r10 =>
  lt (((r6 ||| r8) ||| r10)) (fun x12 =>
  bk (fun (x14 : Int32) (S15 : Nat → Int32) =>
  lt (((S15 5803) &&& x14)) (fun x16 =>
  lt (va_up S15 5803 x16) (fun S17 =>
  lt (((S17 5804) ||| x14)) (fun x18 =>
  lt (va_up S17 5804 x18) (fun S19 =>
  lt (((S19 5802) + (1 : Int32))) (fun x20 =>
  lt (va_up S19 5802 x20) (fun S21 =>
  some S21))))))) (fun K76_13 =>
  (if (S 5802) = 0 then
  lt ((((((100 : Int32) * (a1 + (1 : Int32))) + ((10 : Int32) * (a2 + (1 : Int32)))) + a3) + (1 : Int32))) (fun x23 =>
  lt (va_up S 5805 x23) (fun S24 =>
  lt (va_up S24 5803 x12) (fun S25 =>
  K76_13 x12 S25)))
  else
  K76_13 x12 S))))))
  else
  some S)))
set_option maxHeartbeats 4000000 in
set_option maxRecDepth 100000 in
theorem kX1_lookAt_58 (l : Launch) (B : jBT) (D : va_G) (ad : Nat → Nat) (cA : Nat → ClassId) (hI : jI ad TC) (S : Nat → Int32) (V : Nat → Nat → Int32) (L : Nat → Int64) (a1 : Int32) (a2 : Int32) (a3 : Int32) (S0 : Nat → Int32) (h : fX1_lookAt_58 S V a1 a2 a3 = some S0) : jM l yX1_lookAt cX1_lookAt 5 none ({ frames := 2, cells := 0, slots := 0, locals := 48 }) B D TC ad cA [.ref (ad 58), .int a1, .int a2, .int a3] S V L none S0 V L := by
  refine jM_of (plainFor_of_name (by decide)) TC_ok hI (Nat.le_of_ble_eq_true rfl) ?_
  intro p e s m args below meth c C hr hlk
  refine j_lv (lv2 := [(0, .ref (ad 58)), (1, .int a1), (2, .int a2), (3, .int a3)]) rfl ?_
  unfold fX1_lookAt_58 at h
  refine j_aload_n C 0 rfl dX1_lookAt_0 rfl ?_
  refine fg_X1_9_TC_58 C dX1_lookAt_1 ?_
  refine j_iload_n C 1 rfl dX1_lookAt_4 rfl ?_
  refine j_iload_n C 2 rfl dX1_lookAt_5 rfl ?_
  refine j_iload_n C 3 rfl dX1_lookAt_6 rfl ?_
  refine j_aload_n C 0 rfl dX1_lookAt_7 rfl ?_
  refine fg_X1_9_TC_58 C dX1_lookAt_8 ?_
  refine j_iconst C dX1_lookAt_11 ci_0 ?_
  obtain ⟨r1, h2, h⟩ := bd1_elim h
  refine j_callV (As := [.int (0 : Int32)]) (rest := [.int a3, .int a2, .int a1, .ref (ad 3)]) C (kX2_oilLeft_3 l B D ad cA hI S V L (0 : Int32) _ h2) mw_X2_oilLeft wd1128 wd1129 wd1275 tc_3 rfl rfl ⟨rfl, rfl, by decide, by decide⟩ ⟨Nat.zero_le _, Nat.zero_le _⟩ rfl rfl (Nat.le_of_ble_eq_true rfl) dX1_lookAt_12 ?_
  obtain ⟨r3, h4, h⟩ := bd1_elim h
  refine j_callV (As := [.int a1, .int a2, .int a3, .int r1]) (rest := []) C (kX2_swingOf_3 l B D ad cA hI S V L a1 a2 a3 r1 _ h4) mw_X2_swingOf wd1142 wd1143 wd1276 tc_3 rfl rfl ⟨rfl, rfl, by decide, by decide⟩ ⟨Nat.zero_le _, Nat.zero_le _⟩ rfl rfl (Nat.le_of_ble_eq_true rfl) dX1_lookAt_15 ?_
  refine j_aload_n C 0 rfl dX1_lookAt_18 rfl ?_
  refine fg_X1_15_TC_58 C dX1_lookAt_19 ?_
  refine j_icmp_eq (tgt := 26) C dX1_lookAt_22 (by decide) (fun c5 => ?_) (fun c5 => ?_)
  · have h := (if_pos c5).symm.trans h
    refine j_iload_n C 1 rfl dX1_lookAt_26 rfl ?_
    obtain ⟨r6, h7, h⟩ := bd1_elim h
    refine j_callS (As := [.int a1]) (rest := []) C (kX1_bitOf l B D ad cA hI S V L a1 _ h7) mw_X1_bitOf wd1278 wd1277 ⟨rfl, rfl, by decide, by decide⟩ ⟨Nat.zero_le _, Nat.zero_le _⟩ rfl rfl (Nat.le_of_ble_eq_true rfl) dX1_lookAt_27 ?_
    refine j_iload_n C 2 rfl dX1_lookAt_30 rfl ?_
    obtain ⟨r8, h9, h⟩ := bd1_elim h
    refine j_callS (As := [.int a2]) (rest := [.int r6]) C (kX1_bitOf l B D ad cA hI S V L a2 _ h9) mw_X1_bitOf wd1278 wd1277 ⟨rfl, rfl, by decide, by decide⟩ ⟨Nat.zero_le _, Nat.zero_le _⟩ rfl rfl (Nat.le_of_ble_eq_true rfl) dX1_lookAt_31 ?_
    refine j_ior C dX1_lookAt_34 ?_
    refine j_iload_n C 3 rfl dX1_lookAt_35 rfl ?_
    obtain ⟨r10, h11, h⟩ := bd1_elim h
    refine j_callS (As := [.int a3]) (rest := [.int (r6 ||| r8)]) C (kX1_bitOf l B D ad cA hI S V L a3 _ h11) mw_X1_bitOf wd1278 wd1277 ⟨rfl, rfl, by decide, by decide⟩ ⟨Nat.zero_le _, Nat.zero_le _⟩ rfl rfl (Nat.le_of_ble_eq_true rfl) dX1_lookAt_36 ?_
    refine j_ior C dX1_lookAt_39 ?_
    refine lt_elim h (fun x12 e_x12 h => ?_)
    refine j_top e_x12 ?_
    refine j_istore C [(4, .int x12), (0, .ref (ad 58)), (1, .int a1), (2, .int a2), (3, .int a3)] dX1_lookAt_40 (by decide) rfl ?_
    refine j_aload_n C 1 rfl dX1_lookAt_42 rfl ?_
    refine fg_X1_19_TC_58 C dX1_lookAt_43 ?_
    refine bk_elim h (fun K76_13 e_K76_13 h => ?_)
    have HK76_13 : ∀ (x14 : Int32) (S15 : Nat → Int32), K76_13 x14 S15 = some S0 → jW p l e ({ frames := 2, cells := 0, slots := 0, locals := 48 }) s m args below meth c (MQ below (jQc D TC ad cA none s.heap.size S0 V L) args s 0 0 (jA ad TC s.heap.size)) D TC ad cA (jA ad TC s.heap.size) 5 0 0 76 [(0, .ref (ad 58)), (4, .int x14)] [] S15 V L := by
      subst e_K76_13
      intro x14 S15 h
      refine j_aload_n C 0 rfl dX1_lookAt_76 rfl ?_
      refine j_dup C dX1_lookAt_77 rfl ?_
      refine fg_X1_22_TC_58 C dX1_lookAt_78 ?_
      refine j_iload C 1 rfl dX1_lookAt_81 ?_
      refine j_iand C dX1_lookAt_83 ?_
      refine lt_elim h (fun x16 e_x16 h => ?_)
      refine j_top e_x16 ?_
      refine fp_X1_22_TC_58 C dX1_lookAt_84 ?_
      refine lt_elim h (fun S17 e_S17 h => ?_)
      refine j_S e_S17 ?_
      refine j_aload_n C 0 rfl dX1_lookAt_87 rfl ?_
      refine j_dup C dX1_lookAt_88 rfl ?_
      refine fg_X1_25_TC_58 C dX1_lookAt_89 ?_
      refine j_iload C 1 rfl dX1_lookAt_92 ?_
      refine j_ior C dX1_lookAt_94 ?_
      refine lt_elim h (fun x18 e_x18 h => ?_)
      refine j_top e_x18 ?_
      refine fp_X1_25_TC_58 C dX1_lookAt_95 ?_
      refine lt_elim h (fun S19 e_S19 h => ?_)
      refine j_S e_S19 ?_
      refine j_aload_n C 0 rfl dX1_lookAt_98 rfl ?_
      refine j_dup C dX1_lookAt_99 rfl ?_
      refine fg_X1_19_TC_58 C dX1_lookAt_100 ?_
      refine j_iconst C dX1_lookAt_103 ci_1 ?_
      refine j_iadd C dX1_lookAt_104 ?_
      refine lt_elim h (fun x20 e_x20 h => ?_)
      refine j_top e_x20 ?_
      refine fp_X1_19_TC_58 C dX1_lookAt_105 ?_
      refine lt_elim h (fun S21 e_S21 h => ?_)
      refine j_S e_S21 ?_
      cases h
      exact j_vret C hr hlk rfl dX1_lookAt_108
    refine j_if_ne (tgt := 76) C dX1_lookAt_46 (by decide) (fun c22 => ?_) (fun c22 => ?_)
    · have h := (if_neg c22).symm.trans h
      exact j_sub [1, 0] rfl (HK76_13 _ _ h)
    · have h := (if_pos c22).symm.trans h
      refine j_aload_n C 1 rfl dX1_lookAt_49 rfl ?_
      refine j_bipush C dX1_lookAt_50 cb_100 ?_
      refine j_iload_n C 2 rfl dX1_lookAt_52 rfl ?_
      refine j_iconst C dX1_lookAt_53 ci_1 ?_
      refine j_iadd C dX1_lookAt_54 ?_
      refine j_imul C dX1_lookAt_55 ?_
      refine j_bipush C dX1_lookAt_56 cb_10 ?_
      refine j_iload_n C 3 rfl dX1_lookAt_58 rfl ?_
      refine j_iconst C dX1_lookAt_59 ci_1 ?_
      refine j_iadd C dX1_lookAt_60 ?_
      refine j_imul C dX1_lookAt_61 ?_
      refine j_iadd C dX1_lookAt_62 ?_
      refine j_iload_n C 4 rfl dX1_lookAt_63 rfl ?_
      refine j_iadd C dX1_lookAt_64 ?_
      refine j_iconst C dX1_lookAt_65 ci_1 ?_
      refine j_iadd C dX1_lookAt_66 ?_
      refine lt_elim h (fun x23 e_x23 h => ?_)
      refine j_top e_x23 ?_
      refine fp_X1_28_TC_58 C dX1_lookAt_67 ?_
      refine lt_elim h (fun S24 e_S24 h => ?_)
      refine j_S e_S24 ?_
      refine j_aload_n C 1 rfl dX1_lookAt_70 rfl ?_
      refine j_iload C 0 rfl dX1_lookAt_71 ?_
      refine fp_X1_22_TC_58 C dX1_lookAt_73 ?_
      refine lt_elim h (fun S25 e_S25 h => ?_)
      refine j_S e_S25 ?_
      exact j_sub [1, 0] rfl (HK76_13 _ _ h)
  · have h := (if_neg c5).symm.trans h
    cases h
    exact j_vret C hr hlk rfl dX1_lookAt_25
theorem dX1_gatherWithHalves_0 : decode cX1_gatherWithHalves 0 = .ok (.aload_n 0, 1) := by decide +kernel
theorem dX1_gatherWithHalves_1 : decode cX1_gatherWithHalves 1 = .ok (.iload_n 1, 1) := by decide +kernel
theorem dX1_gatherWithHalves_2 : decode cX1_gatherWithHalves 2 = .ok (.iload_n 2, 1) := by decide +kernel
theorem dX1_gatherWithHalves_3 : decode cX1_gatherWithHalves 3 = .ok (.iconst (-1), 1) := by decide +kernel
theorem dX1_gatherWithHalves_4 : decode cX1_gatherWithHalves 4 = .ok (.invokevirtual 48, 3) := by decide +kernel
theorem dX1_gatherWithHalves_7 : decode cX1_gatherWithHalves 7 = .ok (.iload_n 1, 1) := by decide +kernel
theorem dX1_gatherWithHalves_8 : decode cX1_gatherWithHalves 8 = .ok (.iconst (-1), 1) := by decide +kernel
theorem dX1_gatherWithHalves_9 : decode cX1_gatherWithHalves 9 = .ok (.if_icmp .eq 8, 3) := by decide +kernel
theorem dX1_gatherWithHalves_12 : decode cX1_gatherWithHalves 12 = .ok (.iload_n 2, 1) := by decide +kernel
theorem dX1_gatherWithHalves_13 : decode cX1_gatherWithHalves 13 = .ok (.iconst (-1), 1) := by decide +kernel
theorem dX1_gatherWithHalves_14 : decode cX1_gatherWithHalves 14 = .ok (.if_icmp .ne 4, 3) := by decide +kernel
theorem dX1_gatherWithHalves_17 : decode cX1_gatherWithHalves 17 = .ok (.return_, 1) := by decide +kernel
theorem dX1_gatherWithHalves_18 : decode cX1_gatherWithHalves 18 = .ok (.iconst 0, 1) := by decide +kernel
theorem dX1_gatherWithHalves_19 : decode cX1_gatherWithHalves 19 = .ok (.istore_n 3, 1) := by decide +kernel
theorem dX1_gatherWithHalves_20 : decode cX1_gatherWithHalves 20 = .ok (.iload_n 3, 1) := by decide +kernel
theorem dX1_gatherWithHalves_21 : decode cX1_gatherWithHalves 21 = .ok (.aload_n 0, 1) := by decide +kernel
theorem dX1_gatherWithHalves_22 : decode cX1_gatherWithHalves 22 = .ok (.getfield 9, 3) := by decide +kernel
theorem dX1_gatherWithHalves_25 : decode cX1_gatherWithHalves 25 = .ok (.getfield 31, 3) := by decide +kernel
theorem dX1_gatherWithHalves_28 : decode cX1_gatherWithHalves 28 = .ok (.if_icmp .ge 26, 3) := by decide +kernel
theorem dX1_gatherWithHalves_31 : decode cX1_gatherWithHalves 31 = .ok (.iload_n 3, 1) := by decide +kernel
theorem dX1_gatherWithHalves_32 : decode cX1_gatherWithHalves 32 = .ok (.iload_n 1, 1) := by decide +kernel
theorem dX1_gatherWithHalves_33 : decode cX1_gatherWithHalves 33 = .ok (.if_icmp .eq 15, 3) := by decide +kernel
theorem dX1_gatherWithHalves_36 : decode cX1_gatherWithHalves 36 = .ok (.iload_n 3, 1) := by decide +kernel
theorem dX1_gatherWithHalves_37 : decode cX1_gatherWithHalves 37 = .ok (.iload_n 2, 1) := by decide +kernel
theorem dX1_gatherWithHalves_38 : decode cX1_gatherWithHalves 38 = .ok (.if_icmp .eq 10, 3) := by decide +kernel
theorem dX1_gatherWithHalves_41 : decode cX1_gatherWithHalves 41 = .ok (.aload_n 0, 1) := by decide +kernel
theorem dX1_gatherWithHalves_42 : decode cX1_gatherWithHalves 42 = .ok (.iload_n 1, 1) := by decide +kernel
theorem dX1_gatherWithHalves_43 : decode cX1_gatherWithHalves 43 = .ok (.iload_n 2, 1) := by decide +kernel
theorem dX1_gatherWithHalves_44 : decode cX1_gatherWithHalves 44 = .ok (.iload_n 3, 1) := by decide +kernel
theorem dX1_gatherWithHalves_45 : decode cX1_gatherWithHalves 45 = .ok (.invokevirtual 48, 3) := by decide +kernel
theorem dX1_gatherWithHalves_48 : decode cX1_gatherWithHalves 48 = .ok (.iinc 3 1, 3) := by decide +kernel
theorem dX1_gatherWithHalves_51 : decode cX1_gatherWithHalves 51 = .ok (.goto (-31), 3) := by decide +kernel
theorem dX1_gatherWithHalves_54 : decode cX1_gatherWithHalves 54 = .ok (.return_, 1) := by decide +kernel
def fX1_gatherWithHalves_58_L20 (V : Nat → Nat → Int32) : Nat → Int32 → Int32 → Int32 → (Nat → Int32) → Option ((Nat → Int32))
  | 0, _, _, _, _ => none
  | n + 1, x5, x6, x7, S8 =>
    (if (S8 304) ≤ x7 then
    some S8
    else
    bk (fun (x11 : Int32) (x12 : Int32) (x13 : Int32) (S14 : Nat → Int32) =>
    lt (x13 + (1 : Int32)) (fun x15 =>
    fX1_gatherWithHalves_58_L20 V n x11 x12 x15 S14)) (fun K48_10 =>
    (if x7 = x5 then
    K48_10 x5 x6 x7 S8
    else
    (if x7 = x6 then
    K48_10 x5 x6 x7 S8
    else
    bd1 (fX1_lookAt_58 S8 V x5 x6 x7) (fun S18 =>
    K48_10 x5 x6 x7 S18)))))
def fX1_gatherWithHalves_58 (S : Nat → Int32) (V : Nat → Nat → Int32) (a1 : Int32) (a2 : Int32) : Option ((Nat → Int32)) :=
  bd1 (fX1_lookAt_58 S V a1 a2 (-1 : Int32)) (fun S1 =>
  (if a1 = (-1 : Int32) then
  some S1
  else
  (if a2 = (-1 : Int32) then
  some S1
  else
  fX1_gatherWithHalves_58_L20 V FU a1 a2 (0 : Int32) S1)))
set_option maxHeartbeats 4000000 in
set_option maxRecDepth 100000 in
theorem kX1_gatherWithHalves_58 (l : Launch) (B : jBT) (D : va_G) (ad : Nat → Nat) (cA : Nat → ClassId) (hI : jI ad TC) (S : Nat → Int32) (V : Nat → Nat → Int32) (L : Nat → Int64) (a1 : Int32) (a2 : Int32) (S0 : Nat → Int32) (h : fX1_gatherWithHalves_58 S V a1 a2 = some S0) : jM l yX1_gatherWithHalves cX1_gatherWithHalves 4 none ({ frames := 3, cells := 0, slots := 0, locals := 72 }) B D TC ad cA [.ref (ad 58), .int a1, .int a2] S V L none S0 V L := by
  refine jM_of (plainFor_of_name (by decide)) TC_ok hI (Nat.le_of_ble_eq_true rfl) ?_
  intro p e s m args below meth c C hr hlk
  refine j_lv (lv2 := [(0, .ref (ad 58)), (1, .int a1), (2, .int a2)]) rfl ?_
  unfold fX1_gatherWithHalves_58 at h
  have H_fX1_gatherWithHalves_58_L20 : ∀ (n : Nat) (x5 : Int32) (x6 : Int32) (x7 : Int32) (S8 : Nat → Int32), fX1_gatherWithHalves_58_L20 V n x5 x6 x7 S8 = some S0 → jW p l e ({ frames := 3, cells := 0, slots := 0, locals := 72 }) s m args below meth c (MQ below (jQc D TC ad cA none s.heap.size S0 V L) args s 0 0 (jA ad TC s.heap.size)) D TC ad cA (jA ad TC s.heap.size) 4 0 0 20 [(0, .ref (ad 58)), (1, .int x5), (2, .int x6), (3, .int x7)] [] S8 V L := by
    intro n
    induction n with
    | zero =>
      intro x5 x6 x7 S8 h
      cases (show (none : Option ((Nat → Int32))) = some S0 from h)
    | succ n ih =>
      intro x5 x6 x7 S8 h
      unfold fX1_gatherWithHalves_58_L20 at h
      refine j_iload_n C 3 rfl dX1_gatherWithHalves_20 rfl ?_
      refine j_aload_n C 0 rfl dX1_gatherWithHalves_21 rfl ?_
      refine fg_X1_9_TC_58 C dX1_gatherWithHalves_22 ?_
      refine fg_X1_31_TC_3 C dX1_gatherWithHalves_25 ?_
      refine j_icmp_ge (tgt := 54) C dX1_gatherWithHalves_28 (by decide) (fun c9 => ?_) (fun c9 => ?_)
      · have h := (if_pos c9).symm.trans h
        cases h
        exact j_vret C hr hlk rfl dX1_gatherWithHalves_54
      · have h := (if_neg c9).symm.trans h
        refine j_iload_n C 3 rfl dX1_gatherWithHalves_31 rfl ?_
        refine j_iload_n C 1 rfl dX1_gatherWithHalves_32 rfl ?_
        refine bk_elim h (fun K48_10 e_K48_10 h => ?_)
        have HK48_10 : ∀ (x11 : Int32) (x12 : Int32) (x13 : Int32) (S14 : Nat → Int32), K48_10 x11 x12 x13 S14 = some S0 → jW p l e ({ frames := 3, cells := 0, slots := 0, locals := 72 }) s m args below meth c (MQ below (jQc D TC ad cA none s.heap.size S0 V L) args s 0 0 (jA ad TC s.heap.size)) D TC ad cA (jA ad TC s.heap.size) 4 0 0 48 [(0, .ref (ad 58)), (1, .int x11), (2, .int x12), (3, .int x13)] [] S14 V L := by
          subst e_K48_10
          intro x11 x12 x13 S14 h
          refine lt_elim h (fun x15 e_x15 h => ?_)
          refine j_iinc C [(3, .int x15), (0, .ref (ad 58)), (1, .int x11), (2, .int x12)] 3 dX1_gatherWithHalves_48 rfl ((iinc_eq ci_1).trans e_x15.symm) (by decide) rfl ?_
          refine j_goto (tgt := 20) C dX1_gatherWithHalves_51 (by decide) ?_
          exact j_sub [1, 2, 3, 0] rfl (ih _ _ _ _ h)
        refine j_icmp_eq (tgt := 48) C dX1_gatherWithHalves_33 (by decide) (fun c16 => ?_) (fun c16 => ?_)
        · have h := (if_pos c16).symm.trans h
          exact j_sub [0, 1, 2, 3] rfl (HK48_10 _ _ _ _ h)
        · have h := (if_neg c16).symm.trans h
          refine j_iload_n C 3 rfl dX1_gatherWithHalves_36 rfl ?_
          refine j_iload_n C 2 rfl dX1_gatherWithHalves_37 rfl ?_
          refine j_icmp_eq (tgt := 48) C dX1_gatherWithHalves_38 (by decide) (fun c17 => ?_) (fun c17 => ?_)
          · have h := (if_pos c17).symm.trans h
            exact j_sub [0, 1, 2, 3] rfl (HK48_10 _ _ _ _ h)
          · have h := (if_neg c17).symm.trans h
            refine j_aload_n C 0 rfl dX1_gatherWithHalves_41 rfl ?_
            refine j_iload_n C 1 rfl dX1_gatherWithHalves_42 rfl ?_
            refine j_iload_n C 2 rfl dX1_gatherWithHalves_43 rfl ?_
            refine j_iload_n C 3 rfl dX1_gatherWithHalves_44 rfl ?_
            obtain ⟨S18, h19, h⟩ := bd1_elim h
            refine j_callV (As := [.int x5, .int x6, .int x7]) (rest := []) C (kX1_lookAt_58 l B D ad cA hI S8 V L x5 x6 x7 _ h19) mw_X1_lookAt wd1273 wd49 wd1271 tc_58 rfl rfl ⟨rfl, rfl, by decide, by decide⟩ ⟨Nat.zero_le _, Nat.zero_le _⟩ rfl rfl (Nat.le_of_ble_eq_true rfl) dX1_gatherWithHalves_45 ?_
            exact j_sub [0, 1, 2, 3] rfl (HK48_10 _ _ _ _ h)
  refine j_aload_n C 0 rfl dX1_gatherWithHalves_0 rfl ?_
  refine j_iload_n C 1 rfl dX1_gatherWithHalves_1 rfl ?_
  refine j_iload_n C 2 rfl dX1_gatherWithHalves_2 rfl ?_
  refine j_iconst C dX1_gatherWithHalves_3 ci_m1 ?_
  obtain ⟨S1, h2, h⟩ := bd1_elim h
  refine j_callV (As := [.int a1, .int a2, .int (-1 : Int32)]) (rest := []) C (kX1_lookAt_58 l B D ad cA hI S V L a1 a2 (-1 : Int32) _ h2) mw_X1_lookAt wd1273 wd49 wd1271 tc_58 rfl rfl ⟨rfl, rfl, by decide, by decide⟩ ⟨Nat.zero_le _, Nat.zero_le _⟩ rfl rfl (Nat.le_of_ble_eq_true rfl) dX1_gatherWithHalves_4 ?_
  refine j_iload_n C 1 rfl dX1_gatherWithHalves_7 rfl ?_
  refine j_iconst C dX1_gatherWithHalves_8 ci_m1 ?_
  refine j_icmp_eq (tgt := 17) C dX1_gatherWithHalves_9 (by decide) (fun c3 => ?_) (fun c3 => ?_)
  · have h := (if_pos c3).symm.trans h
    cases h
    exact j_vret C hr hlk rfl dX1_gatherWithHalves_17
  · have h := (if_neg c3).symm.trans h
    refine j_iload_n C 2 rfl dX1_gatherWithHalves_12 rfl ?_
    refine j_iconst C dX1_gatherWithHalves_13 ci_m1 ?_
    refine j_icmp_ne (tgt := 18) C dX1_gatherWithHalves_14 (by decide) (fun c4 => ?_) (fun c4 => ?_)
    · have h := (if_neg c4).symm.trans h
      refine j_iconst C dX1_gatherWithHalves_18 ci_0 ?_
      refine j_istore_n C [(3, .int (0 : Int32)), (0, .ref (ad 58)), (1, .int a1), (2, .int a2)] dX1_gatherWithHalves_19 rfl (by decide) rfl ?_
      exact j_sub [1, 2, 3, 0] rfl (H_fX1_gatherWithHalves_58_L20 FU _ _ _ _ h)
    · have h := (if_pos c4).symm.trans h
      cases h
      exact j_vret C hr hlk rfl dX1_gatherWithHalves_17
theorem dX1_gatherWithLeft_0 : decode cX1_gatherWithLeft 0 = .ok (.iconst (-1), 1) := by decide +kernel
theorem dX1_gatherWithLeft_1 : decode cX1_gatherWithLeft 1 = .ok (.istore_n 2, 1) := by decide +kernel
theorem dX1_gatherWithLeft_2 : decode cX1_gatherWithLeft 2 = .ok (.iload_n 2, 1) := by decide +kernel
theorem dX1_gatherWithLeft_3 : decode cX1_gatherWithLeft 3 = .ok (.aload_n 0, 1) := by decide +kernel
theorem dX1_gatherWithLeft_4 : decode cX1_gatherWithLeft 4 = .ok (.getfield 9, 3) := by decide +kernel
theorem dX1_gatherWithLeft_7 : decode cX1_gatherWithLeft 7 = .ok (.getfield 31, 3) := by decide +kernel
theorem dX1_gatherWithLeft_10 : decode cX1_gatherWithLeft 10 = .ok (.if_icmp .ge 37, 3) := by decide +kernel
theorem dX1_gatherWithLeft_13 : decode cX1_gatherWithLeft 13 = .ok (.iload_n 2, 1) := by decide +kernel
theorem dX1_gatherWithLeft_14 : decode cX1_gatherWithLeft 14 = .ok (.iconst (-1), 1) := by decide +kernel
theorem dX1_gatherWithLeft_15 : decode cX1_gatherWithLeft 15 = .ok (.if_icmp .eq 20, 3) := by decide +kernel
theorem dX1_gatherWithLeft_18 : decode cX1_gatherWithLeft 18 = .ok (.iload_n 2, 1) := by decide +kernel
theorem dX1_gatherWithLeft_19 : decode cX1_gatherWithLeft 19 = .ok (.iload_n 1, 1) := by decide +kernel
theorem dX1_gatherWithLeft_20 : decode cX1_gatherWithLeft 20 = .ok (.if_icmp .eq 21, 3) := by decide +kernel
theorem dX1_gatherWithLeft_23 : decode cX1_gatherWithLeft 23 = .ok (.aload_n 0, 1) := by decide +kernel
theorem dX1_gatherWithLeft_24 : decode cX1_gatherWithLeft 24 = .ok (.getfield 9, 3) := by decide +kernel
theorem dX1_gatherWithLeft_27 : decode cX1_gatherWithLeft 27 = .ok (.iload_n 2, 1) := by decide +kernel
theorem dX1_gatherWithLeft_28 : decode cX1_gatherWithLeft 28 = .ok (.iconst 1, 1) := by decide +kernel
theorem dX1_gatherWithLeft_29 : decode cX1_gatherWithLeft 29 = .ok (.invokevirtual 36, 3) := by decide +kernel
theorem dX1_gatherWithLeft_32 : decode cX1_gatherWithLeft 32 = .ok (.ifCond .eq 9, 3) := by decide +kernel
theorem dX1_gatherWithLeft_35 : decode cX1_gatherWithLeft 35 = .ok (.aload_n 0, 1) := by decide +kernel
theorem dX1_gatherWithLeft_36 : decode cX1_gatherWithLeft 36 = .ok (.iload_n 1, 1) := by decide +kernel
theorem dX1_gatherWithLeft_37 : decode cX1_gatherWithLeft 37 = .ok (.iload_n 2, 1) := by decide +kernel
theorem dX1_gatherWithLeft_38 : decode cX1_gatherWithLeft 38 = .ok (.invokevirtual 44, 3) := by decide +kernel
theorem dX1_gatherWithLeft_41 : decode cX1_gatherWithLeft 41 = .ok (.iinc 2 1, 3) := by decide +kernel
theorem dX1_gatherWithLeft_44 : decode cX1_gatherWithLeft 44 = .ok (.goto (-42), 3) := by decide +kernel
theorem dX1_gatherWithLeft_47 : decode cX1_gatherWithLeft 47 = .ok (.return_, 1) := by decide +kernel
def fX1_gatherWithLeft_58_L2 (V : Nat → Nat → Int32) : Nat → Int32 → Int32 → (Nat → Int32) → Option ((Nat → Int32))
  | 0, _, _, _ => none
  | n + 1, x1, x2, S3 =>
    (if (S3 304) ≤ x2 then
    some S3
    else
    bk (fun (x6 : Int32) (x7 : Int32) (S8 : Nat → Int32) =>
    lt (x7 + (1 : Int32)) (fun x9 =>
    fX1_gatherWithLeft_58_L2 V n x6 x9 S8)) (fun K41_5 =>
    bk (fun (x11 : Int32) (x12 : Int32) (S13 : Nat → Int32) =>
    bd1 (fX1_gatherWithHalves_58 S13 V x11 x12) (fun S14 =>
    K41_5 x11 x12 S14)) (fun K35_10 =>
    (if x2 = (-1 : Int32) then
    K35_10 x1 x2 S3
    else
    (if x2 = x1 then
    K41_5 x1 x2 S3
    else
    bd1 (fX2_breathLets_3 V x2 (1 : Int32)) (fun r18 =>
    (if r18 = 0 then
    K41_5 x1 x2 S3
    else
    K35_10 x1 x2 S3)))))))
def fX1_gatherWithLeft_58 (S : Nat → Int32) (V : Nat → Nat → Int32) (a1 : Int32) : Option ((Nat → Int32)) :=
  fX1_gatherWithLeft_58_L2 V FU a1 (-1 : Int32) S
set_option maxHeartbeats 4000000 in
set_option maxRecDepth 100000 in
theorem kX1_gatherWithLeft_58 (l : Launch) (B : jBT) (D : va_G) (ad : Nat → Nat) (cA : Nat → ClassId) (hI : jI ad TC) (S : Nat → Int32) (V : Nat → Nat → Int32) (L : Nat → Int64) (a1 : Int32) (S0 : Nat → Int32) (h : fX1_gatherWithLeft_58 S V a1 = some S0) : jM l yX1_gatherWithLeft cX1_gatherWithLeft 3 none ({ frames := 4, cells := 0, slots := 0, locals := 95 }) B D TC ad cA [.ref (ad 58), .int a1] S V L none S0 V L := by
  refine jM_of (plainFor_of_name (by decide)) TC_ok hI (Nat.le_of_ble_eq_true rfl) ?_
  intro p e s m args below meth c C hr hlk
  refine j_lv (lv2 := [(0, .ref (ad 58)), (1, .int a1)]) rfl ?_
  unfold fX1_gatherWithLeft_58 at h
  have H_fX1_gatherWithLeft_58_L2 : ∀ (n : Nat) (x1 : Int32) (x2 : Int32) (S3 : Nat → Int32), fX1_gatherWithLeft_58_L2 V n x1 x2 S3 = some S0 → jW p l e ({ frames := 4, cells := 0, slots := 0, locals := 95 }) s m args below meth c (MQ below (jQc D TC ad cA none s.heap.size S0 V L) args s 0 0 (jA ad TC s.heap.size)) D TC ad cA (jA ad TC s.heap.size) 3 0 0 2 [(0, .ref (ad 58)), (1, .int x1), (2, .int x2)] [] S3 V L := by
    intro n
    induction n with
    | zero =>
      intro x1 x2 S3 h
      cases (show (none : Option ((Nat → Int32))) = some S0 from h)
    | succ n ih =>
      intro x1 x2 S3 h
      unfold fX1_gatherWithLeft_58_L2 at h
      refine j_iload_n C 2 rfl dX1_gatherWithLeft_2 rfl ?_
      refine j_aload_n C 0 rfl dX1_gatherWithLeft_3 rfl ?_
      refine fg_X1_9_TC_58 C dX1_gatherWithLeft_4 ?_
      refine fg_X1_31_TC_3 C dX1_gatherWithLeft_7 ?_
      refine j_icmp_ge (tgt := 47) C dX1_gatherWithLeft_10 (by decide) (fun c4 => ?_) (fun c4 => ?_)
      · have h := (if_pos c4).symm.trans h
        cases h
        exact j_vret C hr hlk rfl dX1_gatherWithLeft_47
      · have h := (if_neg c4).symm.trans h
        refine j_iload_n C 2 rfl dX1_gatherWithLeft_13 rfl ?_
        refine j_iconst C dX1_gatherWithLeft_14 ci_m1 ?_
        refine bk_elim h (fun K41_5 e_K41_5 h => ?_)
        have HK41_5 : ∀ (x6 : Int32) (x7 : Int32) (S8 : Nat → Int32), K41_5 x6 x7 S8 = some S0 → jW p l e ({ frames := 4, cells := 0, slots := 0, locals := 95 }) s m args below meth c (MQ below (jQc D TC ad cA none s.heap.size S0 V L) args s 0 0 (jA ad TC s.heap.size)) D TC ad cA (jA ad TC s.heap.size) 3 0 0 41 [(0, .ref (ad 58)), (1, .int x6), (2, .int x7)] [] S8 V L := by
          subst e_K41_5
          intro x6 x7 S8 h
          refine lt_elim h (fun x9 e_x9 h => ?_)
          refine j_iinc C [(2, .int x9), (0, .ref (ad 58)), (1, .int x6)] 2 dX1_gatherWithLeft_41 rfl ((iinc_eq ci_1).trans e_x9.symm) (by decide) rfl ?_
          refine j_goto (tgt := 2) C dX1_gatherWithLeft_44 (by decide) ?_
          exact j_sub [1, 2, 0] rfl (ih _ _ _ h)
        refine bk_elim h (fun K35_10 e_K35_10 h => ?_)
        have HK35_10 : ∀ (x11 : Int32) (x12 : Int32) (S13 : Nat → Int32), K35_10 x11 x12 S13 = some S0 → jW p l e ({ frames := 4, cells := 0, slots := 0, locals := 95 }) s m args below meth c (MQ below (jQc D TC ad cA none s.heap.size S0 V L) args s 0 0 (jA ad TC s.heap.size)) D TC ad cA (jA ad TC s.heap.size) 3 0 0 35 [(0, .ref (ad 58)), (1, .int x11), (2, .int x12)] [] S13 V L := by
          subst e_K35_10
          intro x11 x12 S13 h
          refine j_aload_n C 0 rfl dX1_gatherWithLeft_35 rfl ?_
          refine j_iload_n C 1 rfl dX1_gatherWithLeft_36 rfl ?_
          refine j_iload_n C 2 rfl dX1_gatherWithLeft_37 rfl ?_
          obtain ⟨S14, h15, h⟩ := bd1_elim h
          refine j_callV (As := [.int x11, .int x12]) (rest := []) C (kX1_gatherWithHalves_58 l B D ad cA hI S13 V L x11 x12 _ h15) mw_X1_gatherWithHalves wd1269 wd48 wd1267 tc_58 rfl rfl ⟨rfl, rfl, by decide, by decide⟩ ⟨Nat.zero_le _, Nat.zero_le _⟩ rfl rfl (Nat.le_of_ble_eq_true rfl) dX1_gatherWithLeft_38 ?_
          exact j_sub [0, 1, 2] rfl (HK41_5 _ _ _ h)
        refine j_icmp_eq (tgt := 35) C dX1_gatherWithLeft_15 (by decide) (fun c16 => ?_) (fun c16 => ?_)
        · have h := (if_pos c16).symm.trans h
          exact j_sub [0, 1, 2] rfl (HK35_10 _ _ _ h)
        · have h := (if_neg c16).symm.trans h
          refine j_iload_n C 2 rfl dX1_gatherWithLeft_18 rfl ?_
          refine j_iload_n C 1 rfl dX1_gatherWithLeft_19 rfl ?_
          refine j_icmp_eq (tgt := 41) C dX1_gatherWithLeft_20 (by decide) (fun c17 => ?_) (fun c17 => ?_)
          · have h := (if_pos c17).symm.trans h
            exact j_sub [0, 1, 2] rfl (HK41_5 _ _ _ h)
          · have h := (if_neg c17).symm.trans h
            refine j_aload_n C 0 rfl dX1_gatherWithLeft_23 rfl ?_
            refine fg_X1_9_TC_58 C dX1_gatherWithLeft_24 ?_
            refine j_iload_n C 2 rfl dX1_gatherWithLeft_27 rfl ?_
            refine j_iconst C dX1_gatherWithLeft_28 ci_1 ?_
            obtain ⟨r18, h19, h⟩ := bd1_elim h
            refine j_callV (As := [.int x2, .int (1 : Int32)]) (rest := []) C (kX2_breathLets_3 l B D ad cA hI S3 V L x2 (1 : Int32) _ h19) mw_X2_breathLets wd581 wd582 wd1262 tc_3 rfl rfl ⟨rfl, rfl, by decide, by decide⟩ ⟨Nat.zero_le _, Nat.zero_le _⟩ rfl rfl (Nat.le_of_ble_eq_true rfl) dX1_gatherWithLeft_29 ?_
            refine j_if_eq (tgt := 41) C dX1_gatherWithLeft_32 (by decide) (fun c20 => ?_) (fun c20 => ?_)
            · have h := (if_pos c20).symm.trans h
              exact j_sub [0, 1, 2] rfl (HK41_5 _ _ _ h)
            · have h := (if_neg c20).symm.trans h
              exact j_sub [0, 1, 2] rfl (HK35_10 _ _ _ h)
  refine j_iconst C dX1_gatherWithLeft_0 ci_m1 ?_
  refine j_istore_n C [(2, .int (-1 : Int32)), (0, .ref (ad 58)), (1, .int a1)] dX1_gatherWithLeft_1 rfl (by decide) rfl ?_
  exact j_sub [1, 2, 0] rfl (H_fX1_gatherWithLeft_58_L2 FU _ _ _ h)
theorem dX1_gather_0 : decode cX1_gather 0 = .ok (.aload_n 0, 1) := by decide +kernel
theorem dX1_gather_1 : decode cX1_gather 1 = .ok (.iload_n 1, 1) := by decide +kernel
theorem dX1_gather_2 : decode cX1_gather 2 = .ok (.putfield 15, 3) := by decide +kernel
theorem dX1_gather_5 : decode cX1_gather 5 = .ok (.aload_n 0, 1) := by decide +kernel
theorem dX1_gather_6 : decode cX1_gather 6 = .ok (.iconst 0, 1) := by decide +kernel
theorem dX1_gather_7 : decode cX1_gather 7 = .ok (.putfield 19, 3) := by decide +kernel
theorem dX1_gather_10 : decode cX1_gather 10 = .ok (.aload_n 0, 1) := by decide +kernel
theorem dX1_gather_11 : decode cX1_gather 11 = .ok (.iconst 0, 1) := by decide +kernel
theorem dX1_gather_12 : decode cX1_gather 12 = .ok (.putfield 22, 3) := by decide +kernel
theorem dX1_gather_15 : decode cX1_gather 15 = .ok (.aload_n 0, 1) := by decide +kernel
theorem dX1_gather_16 : decode cX1_gather 16 = .ok (.iconst 0, 1) := by decide +kernel
theorem dX1_gather_17 : decode cX1_gather 17 = .ok (.putfield 25, 3) := by decide +kernel
theorem dX1_gather_20 : decode cX1_gather 20 = .ok (.aload_n 0, 1) := by decide +kernel
theorem dX1_gather_21 : decode cX1_gather 21 = .ok (.iconst (-1), 1) := by decide +kernel
theorem dX1_gather_22 : decode cX1_gather 22 = .ok (.putfield 28, 3) := by decide +kernel
theorem dX1_gather_25 : decode cX1_gather 25 = .ok (.iconst (-1), 1) := by decide +kernel
theorem dX1_gather_26 : decode cX1_gather 26 = .ok (.istore_n 2, 1) := by decide +kernel
theorem dX1_gather_27 : decode cX1_gather 27 = .ok (.iload_n 2, 1) := by decide +kernel
theorem dX1_gather_28 : decode cX1_gather 28 = .ok (.aload_n 0, 1) := by decide +kernel
theorem dX1_gather_29 : decode cX1_gather 29 = .ok (.getfield 9, 3) := by decide +kernel
theorem dX1_gather_32 : decode cX1_gather 32 = .ok (.getfield 31, 3) := by decide +kernel
theorem dX1_gather_35 : decode cX1_gather 35 = .ok (.if_icmp .ge 31, 3) := by decide +kernel
theorem dX1_gather_38 : decode cX1_gather 38 = .ok (.iload_n 2, 1) := by decide +kernel
theorem dX1_gather_39 : decode cX1_gather 39 = .ok (.iconst (-1), 1) := by decide +kernel
theorem dX1_gather_40 : decode cX1_gather 40 = .ok (.if_icmp .eq 15, 3) := by decide +kernel
theorem dX1_gather_43 : decode cX1_gather 43 = .ok (.aload_n 0, 1) := by decide +kernel
theorem dX1_gather_44 : decode cX1_gather 44 = .ok (.getfield 9, 3) := by decide +kernel
theorem dX1_gather_47 : decode cX1_gather 47 = .ok (.iload_n 2, 1) := by decide +kernel
theorem dX1_gather_48 : decode cX1_gather 48 = .ok (.iconst 0, 1) := by decide +kernel
theorem dX1_gather_49 : decode cX1_gather 49 = .ok (.invokevirtual 36, 3) := by decide +kernel
theorem dX1_gather_52 : decode cX1_gather 52 = .ok (.ifCond .eq 8, 3) := by decide +kernel
theorem dX1_gather_55 : decode cX1_gather 55 = .ok (.aload_n 0, 1) := by decide +kernel
theorem dX1_gather_56 : decode cX1_gather 56 = .ok (.iload_n 2, 1) := by decide +kernel
theorem dX1_gather_57 : decode cX1_gather 57 = .ok (.invokevirtual 40, 3) := by decide +kernel
theorem dX1_gather_60 : decode cX1_gather 60 = .ok (.iinc 2 1, 3) := by decide +kernel
theorem dX1_gather_63 : decode cX1_gather 63 = .ok (.goto (-36), 3) := by decide +kernel
theorem dX1_gather_66 : decode cX1_gather 66 = .ok (.return_, 1) := by decide +kernel
def fX1_gather_58_L27 (V : Nat → Nat → Int32) : Nat → Int32 → (Nat → Int32) → Option ((Nat → Int32))
  | 0, _, _ => none
  | n + 1, x6, S7 =>
    (if (S7 304) ≤ x6 then
    some S7
    else
    bk (fun (x10 : Int32) (S11 : Nat → Int32) =>
    lt (x10 + (1 : Int32)) (fun x12 =>
    fX1_gather_58_L27 V n x12 S11)) (fun K60_9 =>
    bk (fun (x14 : Int32) (S15 : Nat → Int32) =>
    bd1 (fX1_gatherWithLeft_58 S15 V x14) (fun S16 =>
    K60_9 x14 S16)) (fun K55_13 =>
    (if x6 = (-1 : Int32) then
    K55_13 x6 S7
    else
    bd1 (fX2_breathLets_3 V x6 (0 : Int32)) (fun r19 =>
    (if r19 = 0 then
    K60_9 x6 S7
    else
    K55_13 x6 S7))))))
def fX1_gather_58 (S : Nat → Int32) (V : Nat → Nat → Int32) (a1 : Int32) : Option ((Nat → Int32)) :=
  lt (va_up S 5801 a1) (fun S1 =>
  lt (va_up S1 5802 (0 : Int32)) (fun S2 =>
  lt (va_up S2 5803 (0 : Int32)) (fun S3 =>
  lt (va_up S3 5804 (0 : Int32)) (fun S4 =>
  lt (va_up S4 5805 (-1 : Int32)) (fun S5 =>
  fX1_gather_58_L27 V FU (-1 : Int32) S5)))))
set_option maxHeartbeats 4000000 in
set_option maxRecDepth 100000 in
theorem kX1_gather_58 (l : Launch) (B : jBT) (D : va_G) (ad : Nat → Nat) (cA : Nat → ClassId) (hI : jI ad TC) (S : Nat → Int32) (V : Nat → Nat → Int32) (L : Nat → Int64) (a1 : Int32) (S0 : Nat → Int32) (h : fX1_gather_58 S V a1 = some S0) : jM l yX1_gather cX1_gather 3 none ({ frames := 5, cells := 0, slots := 0, locals := 117 }) B D TC ad cA [.ref (ad 58), .int a1] S V L none S0 V L := by
  refine jM_of (plainFor_of_name (by decide)) TC_ok hI (Nat.le_of_ble_eq_true rfl) ?_
  intro p e s m args below meth c C hr hlk
  refine j_lv (lv2 := [(0, .ref (ad 58)), (1, .int a1)]) rfl ?_
  unfold fX1_gather_58 at h
  have H_fX1_gather_58_L27 : ∀ (n : Nat) (x6 : Int32) (S7 : Nat → Int32), fX1_gather_58_L27 V n x6 S7 = some S0 → jW p l e ({ frames := 5, cells := 0, slots := 0, locals := 117 }) s m args below meth c (MQ below (jQc D TC ad cA none s.heap.size S0 V L) args s 0 0 (jA ad TC s.heap.size)) D TC ad cA (jA ad TC s.heap.size) 3 0 0 27 [(0, .ref (ad 58)), (2, .int x6)] [] S7 V L := by
    intro n
    induction n with
    | zero =>
      intro x6 S7 h
      cases (show (none : Option ((Nat → Int32))) = some S0 from h)
    | succ n ih =>
      intro x6 S7 h
      unfold fX1_gather_58_L27 at h
      refine j_iload_n C 1 rfl dX1_gather_27 rfl ?_
      refine j_aload_n C 0 rfl dX1_gather_28 rfl ?_
      refine fg_X1_9_TC_58 C dX1_gather_29 ?_
      refine fg_X1_31_TC_3 C dX1_gather_32 ?_
      refine j_icmp_ge (tgt := 66) C dX1_gather_35 (by decide) (fun c8 => ?_) (fun c8 => ?_)
      · have h := (if_pos c8).symm.trans h
        cases h
        exact j_vret C hr hlk rfl dX1_gather_66
      · have h := (if_neg c8).symm.trans h
        refine j_iload_n C 1 rfl dX1_gather_38 rfl ?_
        refine j_iconst C dX1_gather_39 ci_m1 ?_
        refine bk_elim h (fun K60_9 e_K60_9 h => ?_)
        have HK60_9 : ∀ (x10 : Int32) (S11 : Nat → Int32), K60_9 x10 S11 = some S0 → jW p l e ({ frames := 5, cells := 0, slots := 0, locals := 117 }) s m args below meth c (MQ below (jQc D TC ad cA none s.heap.size S0 V L) args s 0 0 (jA ad TC s.heap.size)) D TC ad cA (jA ad TC s.heap.size) 3 0 0 60 [(0, .ref (ad 58)), (2, .int x10)] [] S11 V L := by
          subst e_K60_9
          intro x10 S11 h
          refine lt_elim h (fun x12 e_x12 h => ?_)
          refine j_iinc C [(2, .int x12), (0, .ref (ad 58))] 1 dX1_gather_60 rfl ((iinc_eq ci_1).trans e_x12.symm) (by decide) rfl ?_
          refine j_goto (tgt := 27) C dX1_gather_63 (by decide) ?_
          exact j_sub [1, 0] rfl (ih _ _ h)
        refine bk_elim h (fun K55_13 e_K55_13 h => ?_)
        have HK55_13 : ∀ (x14 : Int32) (S15 : Nat → Int32), K55_13 x14 S15 = some S0 → jW p l e ({ frames := 5, cells := 0, slots := 0, locals := 117 }) s m args below meth c (MQ below (jQc D TC ad cA none s.heap.size S0 V L) args s 0 0 (jA ad TC s.heap.size)) D TC ad cA (jA ad TC s.heap.size) 3 0 0 55 [(0, .ref (ad 58)), (2, .int x14)] [] S15 V L := by
          subst e_K55_13
          intro x14 S15 h
          refine j_aload_n C 0 rfl dX1_gather_55 rfl ?_
          refine j_iload_n C 1 rfl dX1_gather_56 rfl ?_
          obtain ⟨S16, h17, h⟩ := bd1_elim h
          refine j_callV (As := [.int x14]) (rest := []) C (kX1_gatherWithLeft_58 l B D ad cA hI S15 V L x14 _ h17) mw_X1_gatherWithLeft wd1265 wd47 wd1263 tc_58 rfl rfl ⟨rfl, rfl, by decide, by decide⟩ ⟨Nat.zero_le _, Nat.zero_le _⟩ rfl rfl (Nat.le_of_ble_eq_true rfl) dX1_gather_57 ?_
          exact j_sub [0, 1] rfl (HK60_9 _ _ h)
        refine j_icmp_eq (tgt := 55) C dX1_gather_40 (by decide) (fun c18 => ?_) (fun c18 => ?_)
        · have h := (if_pos c18).symm.trans h
          exact j_sub [0, 1] rfl (HK55_13 _ _ h)
        · have h := (if_neg c18).symm.trans h
          refine j_aload_n C 0 rfl dX1_gather_43 rfl ?_
          refine fg_X1_9_TC_58 C dX1_gather_44 ?_
          refine j_iload_n C 1 rfl dX1_gather_47 rfl ?_
          refine j_iconst C dX1_gather_48 ci_0 ?_
          obtain ⟨r19, h20, h⟩ := bd1_elim h
          refine j_callV (As := [.int x6, .int (0 : Int32)]) (rest := []) C (kX2_breathLets_3 l B D ad cA hI S7 V L x6 (0 : Int32) _ h20) mw_X2_breathLets wd581 wd582 wd1262 tc_3 rfl rfl ⟨rfl, rfl, by decide, by decide⟩ ⟨Nat.zero_le _, Nat.zero_le _⟩ rfl rfl (Nat.le_of_ble_eq_true rfl) dX1_gather_49 ?_
          refine j_if_eq (tgt := 60) C dX1_gather_52 (by decide) (fun c21 => ?_) (fun c21 => ?_)
          · have h := (if_pos c21).symm.trans h
            exact j_sub [0, 1] rfl (HK60_9 _ _ h)
          · have h := (if_neg c21).symm.trans h
            exact j_sub [0, 1] rfl (HK55_13 _ _ h)
  refine j_aload_n C 0 rfl dX1_gather_0 rfl ?_
  refine j_iload_n C 1 rfl dX1_gather_1 rfl ?_
  refine fp_X1_15_TC_58 C dX1_gather_2 ?_
  refine lt_elim h (fun S1 e_S1 h => ?_)
  refine j_S e_S1 ?_
  refine j_aload_n C 0 rfl dX1_gather_5 rfl ?_
  refine j_iconst C dX1_gather_6 ci_0 ?_
  refine fp_X1_19_TC_58 C dX1_gather_7 ?_
  refine lt_elim h (fun S2 e_S2 h => ?_)
  refine j_S e_S2 ?_
  refine j_aload_n C 0 rfl dX1_gather_10 rfl ?_
  refine j_iconst C dX1_gather_11 ci_0 ?_
  refine fp_X1_22_TC_58 C dX1_gather_12 ?_
  refine lt_elim h (fun S3 e_S3 h => ?_)
  refine j_S e_S3 ?_
  refine j_aload_n C 0 rfl dX1_gather_15 rfl ?_
  refine j_iconst C dX1_gather_16 ci_0 ?_
  refine fp_X1_25_TC_58 C dX1_gather_17 ?_
  refine lt_elim h (fun S4 e_S4 h => ?_)
  refine j_S e_S4 ?_
  refine j_aload_n C 0 rfl dX1_gather_20 rfl ?_
  refine j_iconst C dX1_gather_21 ci_m1 ?_
  refine fp_X1_28_TC_58 C dX1_gather_22 ?_
  refine lt_elim h (fun S5 e_S5 h => ?_)
  refine j_S e_S5 ?_
  refine j_iconst C dX1_gather_25 ci_m1 ?_
  refine j_istore_n C [(2, .int (-1 : Int32)), (0, .ref (ad 58)), (1, .int a1)] dX1_gather_26 rfl (by decide) rfl ?_
  exact j_sub [1, 0] rfl (H_fX1_gather_58_L27 FU _ _ h)
theorem dX2_addCode_0 : decode cX2_addCode 0 = .ok (.aload_n 0, 1) := by decide +kernel
theorem dX2_addCode_1 : decode cX2_addCode 1 = .ok (.getfield 55, 3) := by decide +kernel
theorem dX2_addCode_4 : decode cX2_addCode 4 = .ok (.sipush 600, 3) := by decide +kernel
theorem dX2_addCode_7 : decode cX2_addCode 7 = .ok (.if_icmp .ge 23, 3) := by decide +kernel
theorem dX2_addCode_10 : decode cX2_addCode 10 = .ok (.aload_n 0, 1) := by decide +kernel
theorem dX2_addCode_11 : decode cX2_addCode 11 = .ok (.getfield 27, 3) := by decide +kernel
theorem dX2_addCode_14 : decode cX2_addCode 14 = .ok (.aload_n 0, 1) := by decide +kernel
theorem dX2_addCode_15 : decode cX2_addCode 15 = .ok (.getfield 55, 3) := by decide +kernel
theorem dX2_addCode_18 : decode cX2_addCode 18 = .ok (.iload_n 1, 1) := by decide +kernel
theorem dX2_addCode_19 : decode cX2_addCode 19 = .ok (.iastore, 1) := by decide +kernel
theorem dX2_addCode_20 : decode cX2_addCode 20 = .ok (.aload_n 0, 1) := by decide +kernel
theorem dX2_addCode_21 : decode cX2_addCode 21 = .ok (.dup, 1) := by decide +kernel
theorem dX2_addCode_22 : decode cX2_addCode 22 = .ok (.getfield 55, 3) := by decide +kernel
theorem dX2_addCode_25 : decode cX2_addCode 25 = .ok (.iconst 1, 1) := by decide +kernel
theorem dX2_addCode_26 : decode cX2_addCode 26 = .ok (.iadd, 1) := by decide +kernel
theorem dX2_addCode_27 : decode cX2_addCode 27 = .ok (.putfield 55, 3) := by decide +kernel
theorem dX2_addCode_30 : decode cX2_addCode 30 = .ok (.return_, 1) := by decide +kernel
def fX2_addCode_3 (S : Nat → Int32) (V : Nat → Nat → Int32) (a1 : Int32) : Option ((Nat → Int32) × (Nat → Nat → Int32)) :=
  (if (600 : Int32) ≤ (S 313) then
  some (S, V)
  else
  lt ((S 313)) (fun x2 =>
  gd (ib x2 600) (
  lt (va_up V 9 (upd (V 9) (x2).toNatClampNeg a1)) (fun V4 =>
  lt (((S 313) + (1 : Int32))) (fun x5 =>
  lt (va_up S 313 x5) (fun S6 =>
  some (S6, V4)))))))
set_option maxHeartbeats 4000000 in
set_option maxRecDepth 100000 in
theorem kX2_addCode_3 (l : Launch) (B : jBT) (D : va_G) (ad : Nat → Nat) (cA : Nat → ClassId) (hI : jI ad TC) (S : Nat → Int32) (V : Nat → Nat → Int32) (L : Nat → Int64) (a1 : Int32) (S0 : Nat → Int32) (V0 : Nat → Nat → Int32) (h : fX2_addCode_3 S V a1 = some (S0, V0)) : jM l yX2_addCode cX2_addCode 2 none ({ frames := 0, cells := 0, slots := 0, locals := 0 }) B D TC ad cA [.ref (ad 3), .int a1] S V L none S0 V0 L := by
  refine jM_of (plainFor_of_name (by decide)) TC_ok hI (Nat.le_of_ble_eq_true rfl) ?_
  intro p e s m args below meth c C hr hlk
  refine j_lv (lv2 := [(0, .ref (ad 3)), (1, .int a1)]) rfl ?_
  unfold fX2_addCode_3 at h
  refine j_aload_n C 0 rfl dX2_addCode_0 rfl ?_
  refine fg_X2_55_TC_3 C dX2_addCode_1 ?_
  refine j_sipush C dX2_addCode_4 cs_600 ?_
  refine j_icmp_ge (tgt := 30) C dX2_addCode_7 (by decide) (fun c1 => ?_) (fun c1 => ?_)
  · have h := (if_pos c1).symm.trans h
    cases h
    exact j_vret C hr hlk rfl dX2_addCode_30
  · have h := (if_neg c1).symm.trans h
    refine j_aload_n C 0 rfl dX2_addCode_10 rfl ?_
    refine fg_X2_27_TC_3 C dX2_addCode_11 ?_
    refine j_aload_n C 0 rfl dX2_addCode_14 rfl ?_
    refine fg_X2_55_TC_3 C dX2_addCode_15 ?_
    refine j_iload_n C 1 rfl dX2_addCode_18 rfl ?_
    refine lt_elim h (fun x2 e_x2 h => ?_)
    refine j_top2 e_x2 ?_
    obtain ⟨g3, h⟩ := gd_elim h
    refine j_iast C tc_9 (ib_in g3) dX2_addCode_19 ?_
    refine lt_elim h (fun V4 e_V4 h => ?_)
    refine j_V e_V4 ?_
    refine j_aload_n C 0 rfl dX2_addCode_20 rfl ?_
    refine j_dup C dX2_addCode_21 rfl ?_
    refine fg_X2_55_TC_3 C dX2_addCode_22 ?_
    refine j_iconst C dX2_addCode_25 ci_1 ?_
    refine j_iadd C dX2_addCode_26 ?_
    refine lt_elim h (fun x5 e_x5 h => ?_)
    refine j_top e_x5 ?_
    refine fp_X2_55_TC_3 C dX2_addCode_27 ?_
    refine lt_elim h (fun S6 e_S6 h => ?_)
    refine j_S e_S6 ?_
    cases h
    exact j_vret C hr hlk rfl dX2_addCode_30
theorem dX2_clear_0 : decode cX2_clear 0 = .ok (.aload_n 0, 1) := by decide +kernel
theorem dX2_clear_1 : decode cX2_clear 1 = .ok (.bipush 30, 2) := by decide +kernel
theorem dX2_clear_3 : decode cX2_clear 3 = .ok (.putfield 33, 3) := by decide +kernel
theorem dX2_clear_6 : decode cX2_clear 6 = .ok (.aload_n 0, 1) := by decide +kernel
theorem dX2_clear_7 : decode cX2_clear 7 = .ok (.iconst 0, 1) := by decide +kernel
theorem dX2_clear_8 : decode cX2_clear 8 = .ok (.putfield 43, 3) := by decide +kernel
theorem dX2_clear_11 : decode cX2_clear 11 = .ok (.aload_n 0, 1) := by decide +kernel
theorem dX2_clear_12 : decode cX2_clear 12 = .ok (.bipush 7, 2) := by decide +kernel
theorem dX2_clear_14 : decode cX2_clear 14 = .ok (.putfield 37, 3) := by decide +kernel
theorem dX2_clear_17 : decode cX2_clear 17 = .ok (.aload_n 0, 1) := by decide +kernel
theorem dX2_clear_18 : decode cX2_clear 18 = .ok (.sipush 200, 3) := by decide +kernel
theorem dX2_clear_21 : decode cX2_clear 21 = .ok (.putfield 40, 3) := by decide +kernel
theorem dX2_clear_24 : decode cX2_clear 24 = .ok (.aload_n 0, 1) := by decide +kernel
theorem dX2_clear_25 : decode cX2_clear 25 = .ok (.iconst 0, 1) := by decide +kernel
theorem dX2_clear_26 : decode cX2_clear 26 = .ok (.putfield 46, 3) := by decide +kernel
theorem dX2_clear_29 : decode cX2_clear 29 = .ok (.aload_n 0, 1) := by decide +kernel
theorem dX2_clear_30 : decode cX2_clear 30 = .ok (.iconst 0, 1) := by decide +kernel
theorem dX2_clear_31 : decode cX2_clear 31 = .ok (.putfield 49, 3) := by decide +kernel
theorem dX2_clear_34 : decode cX2_clear 34 = .ok (.aload_n 0, 1) := by decide +kernel
theorem dX2_clear_35 : decode cX2_clear 35 = .ok (.iconst 0, 1) := by decide +kernel
theorem dX2_clear_36 : decode cX2_clear 36 = .ok (.putfield 52, 3) := by decide +kernel
theorem dX2_clear_39 : decode cX2_clear 39 = .ok (.aload_n 0, 1) := by decide +kernel
theorem dX2_clear_40 : decode cX2_clear 40 = .ok (.iconst 0, 1) := by decide +kernel
theorem dX2_clear_41 : decode cX2_clear 41 = .ok (.putfield 55, 3) := by decide +kernel
theorem dX2_clear_44 : decode cX2_clear 44 = .ok (.return_, 1) := by decide +kernel
def fX2_clear_3 (S : Nat → Int32) : Option ((Nat → Int32)) :=
  lt (va_up S 300 (30 : Int32)) (fun S1 =>
  lt (va_up S1 301 (0 : Int32)) (fun S2 =>
  lt (va_up S2 302 (7 : Int32)) (fun S3 =>
  lt (va_up S3 303 (200 : Int32)) (fun S4 =>
  lt (va_up S4 304 (0 : Int32)) (fun S5 =>
  lt (va_up S5 305 (0 : Int32)) (fun S6 =>
  lt (va_up S6 306 (0 : Int32)) (fun S7 =>
  lt (va_up S7 313 (0 : Int32)) (fun S8 =>
  some S8))))))))
set_option maxHeartbeats 4000000 in
set_option maxRecDepth 100000 in
theorem kX2_clear_3 (l : Launch) (B : jBT) (D : va_G) (ad : Nat → Nat) (cA : Nat → ClassId) (hI : jI ad TC) (S : Nat → Int32) (V : Nat → Nat → Int32) (L : Nat → Int64) (S0 : Nat → Int32) (h : fX2_clear_3 S = some S0) : jM l yX2_clear cX2_clear 1 none ({ frames := 0, cells := 0, slots := 0, locals := 0 }) B D TC ad cA [.ref (ad 3)] S V L none S0 V L := by
  refine jM_of (plainFor_of_name (by decide)) TC_ok hI (Nat.le_of_ble_eq_true rfl) ?_
  intro p e s m args below meth c C hr hlk
  refine j_lv (lv2 := [(0, .ref (ad 3))]) rfl ?_
  unfold fX2_clear_3 at h
  refine j_aload_n C 0 rfl dX2_clear_0 rfl ?_
  refine j_bipush C dX2_clear_1 cb_30 ?_
  refine fp_X2_33_TC_3 C dX2_clear_3 ?_
  refine lt_elim h (fun S1 e_S1 h => ?_)
  refine j_S e_S1 ?_
  refine j_aload_n C 0 rfl dX2_clear_6 rfl ?_
  refine j_iconst C dX2_clear_7 ci_0 ?_
  refine fp_X2_43_TC_3 C dX2_clear_8 ?_
  refine lt_elim h (fun S2 e_S2 h => ?_)
  refine j_S e_S2 ?_
  refine j_aload_n C 0 rfl dX2_clear_11 rfl ?_
  refine j_bipush C dX2_clear_12 cb_7 ?_
  refine fp_X2_37_TC_3 C dX2_clear_14 ?_
  refine lt_elim h (fun S3 e_S3 h => ?_)
  refine j_S e_S3 ?_
  refine j_aload_n C 0 rfl dX2_clear_17 rfl ?_
  refine j_sipush C dX2_clear_18 cs_200 ?_
  refine fp_X2_40_TC_3 C dX2_clear_21 ?_
  refine lt_elim h (fun S4 e_S4 h => ?_)
  refine j_S e_S4 ?_
  refine j_aload_n C 0 rfl dX2_clear_24 rfl ?_
  refine j_iconst C dX2_clear_25 ci_0 ?_
  refine fp_X2_46_TC_3 C dX2_clear_26 ?_
  refine lt_elim h (fun S5 e_S5 h => ?_)
  refine j_S e_S5 ?_
  refine j_aload_n C 0 rfl dX2_clear_29 rfl ?_
  refine j_iconst C dX2_clear_30 ci_0 ?_
  refine fp_X2_49_TC_3 C dX2_clear_31 ?_
  refine lt_elim h (fun S6 e_S6 h => ?_)
  refine j_S e_S6 ?_
  refine j_aload_n C 0 rfl dX2_clear_34 rfl ?_
  refine j_iconst C dX2_clear_35 ci_0 ?_
  refine fp_X2_52_TC_3 C dX2_clear_36 ?_
  refine lt_elim h (fun S7 e_S7 h => ?_)
  refine j_S e_S7 ?_
  refine j_aload_n C 0 rfl dX2_clear_39 rfl ?_
  refine j_iconst C dX2_clear_40 ci_0 ?_
  refine fp_X2_55_TC_3 C dX2_clear_41 ?_
  refine lt_elim h (fun S8 e_S8 h => ?_)
  refine j_S e_S8 ?_
  cases h
  exact j_vret C hr hlk rfl dX2_clear_44
theorem dX2_dayOfLessOil_0 : decode cX2_dayOfLessOil 0 = .ok (.aload_n 0, 1) := by decide +kernel
theorem dX2_dayOfLessOil_1 : decode cX2_dayOfLessOil 1 = .ok (.iload_n 1, 1) := by decide +kernel
theorem dX2_dayOfLessOil_2 : decode cX2_dayOfLessOil 2 = .ok (.invokevirtual 70, 3) := by decide +kernel
theorem dX2_dayOfLessOil_5 : decode cX2_dayOfLessOil 5 = .ok (.ifCond .eq 10, 3) := by decide +kernel
theorem dX2_dayOfLessOil_8 : decode cX2_dayOfLessOil 8 = .ok (.aload_n 0, 1) := by decide +kernel
theorem dX2_dayOfLessOil_9 : decode cX2_dayOfLessOil 9 = .ok (.getfield 37, 3) := by decide +kernel
theorem dX2_dayOfLessOil_12 : decode cX2_dayOfLessOil 12 = .ok (.ifCond .gt 7, 3) := by decide +kernel
theorem dX2_dayOfLessOil_15 : decode cX2_dayOfLessOil 15 = .ok (.sipush 10000, 3) := by decide +kernel
theorem dX2_dayOfLessOil_18 : decode cX2_dayOfLessOil 18 = .ok (.ireturn, 1) := by decide +kernel
theorem dX2_dayOfLessOil_19 : decode cX2_dayOfLessOil 19 = .ok (.iload_n 1, 1) := by decide +kernel
theorem dX2_dayOfLessOil_20 : decode cX2_dayOfLessOil 20 = .ok (.aload_n 0, 1) := by decide +kernel
theorem dX2_dayOfLessOil_21 : decode cX2_dayOfLessOil 21 = .ok (.getfield 37, 3) := by decide +kernel
theorem dX2_dayOfLessOil_24 : decode cX2_dayOfLessOil 24 = .ok (.idiv, 1) := by decide +kernel
theorem dX2_dayOfLessOil_25 : decode cX2_dayOfLessOil 25 = .ok (.iconst 1, 1) := by decide +kernel
theorem dX2_dayOfLessOil_26 : decode cX2_dayOfLessOil 26 = .ok (.iadd, 1) := by decide +kernel
theorem dX2_dayOfLessOil_27 : decode cX2_dayOfLessOil 27 = .ok (.aload_n 0, 1) := by decide +kernel
theorem dX2_dayOfLessOil_28 : decode cX2_dayOfLessOil 28 = .ok (.getfield 37, 3) := by decide +kernel
theorem dX2_dayOfLessOil_31 : decode cX2_dayOfLessOil 31 = .ok (.imul, 1) := by decide +kernel
theorem dX2_dayOfLessOil_32 : decode cX2_dayOfLessOil 32 = .ok (.ireturn, 1) := by decide +kernel
def fX2_dayOfLessOil_3 (S : Nat → Int32) (a1 : Int32) : Option (Int32) :=
  bd1 (fX2_oilLeft_3 S a1) (fun r1 =>
  (if r1 = 0 then
  some (10000 : Int32)
  else
  (if 0 < (S 302) then
  lt ((S 302)) (fun x5 =>
  gd (nz x5) (
  some ((((a1 / x5) + (1 : Int32)) * (S 302)))))
  else
  some (10000 : Int32))))
set_option maxHeartbeats 4000000 in
set_option maxRecDepth 100000 in
theorem kX2_dayOfLessOil_3 (l : Launch) (B : jBT) (D : va_G) (ad : Nat → Nat) (cA : Nat → ClassId) (hI : jI ad TC) (S : Nat → Int32) (V : Nat → Nat → Int32) (L : Nat → Int64) (a1 : Int32) (r0 : Int32) (h : fX2_dayOfLessOil_3 S a1 = some r0) : jM l yX2_dayOfLessOil cX2_dayOfLessOil 2 (some .int) ({ frames := 2, cells := 0, slots := 0, locals := 43 }) B D TC ad cA [.ref (ad 3), .int a1] S V L (some (.int r0)) S V L := by
  refine jM_of (plainFor_of_name (by decide)) TC_ok hI (Nat.le_of_ble_eq_true rfl) ?_
  intro p e s m args below meth c C hr hlk
  refine j_lv (lv2 := [(0, .ref (ad 3)), (1, .int a1)]) rfl ?_
  unfold fX2_dayOfLessOil_3 at h
  refine j_aload_n C 0 rfl dX2_dayOfLessOil_0 rfl ?_
  refine j_iload_n C 1 rfl dX2_dayOfLessOil_1 rfl ?_
  obtain ⟨r1, h2, h⟩ := bd1_elim h
  refine j_callV (As := [.int a1]) (rest := []) C (kX2_oilLeft_3 l B D ad cA hI S V L a1 _ h2) mw_X2_oilLeft wd1128 wd1129 wd1396 tc_3 rfl rfl ⟨rfl, rfl, by decide, by decide⟩ ⟨Nat.zero_le _, Nat.zero_le _⟩ rfl rfl (Nat.le_of_ble_eq_true rfl) dX2_dayOfLessOil_2 ?_
  refine j_if_eq (tgt := 15) C dX2_dayOfLessOil_5 (by decide) (fun c3 => ?_) (fun c3 => ?_)
  · have h := (if_pos c3).symm.trans h
    refine j_sipush C dX2_dayOfLessOil_15 cs_10000 ?_
    cases h
    exact j_iret C hr hlk rfl dX2_dayOfLessOil_18
  · have h := (if_neg c3).symm.trans h
    refine j_aload_n C 0 rfl dX2_dayOfLessOil_8 rfl ?_
    refine fg_X2_37_TC_3 C dX2_dayOfLessOil_9 ?_
    refine j_if_gt (tgt := 19) C dX2_dayOfLessOil_12 (by decide) (fun c4 => ?_) (fun c4 => ?_)
    · have h := (if_pos c4).symm.trans h
      refine j_iload_n C 1 rfl dX2_dayOfLessOil_19 rfl ?_
      refine j_aload_n C 0 rfl dX2_dayOfLessOil_20 rfl ?_
      refine fg_X2_37_TC_3 C dX2_dayOfLessOil_21 ?_
      refine lt_elim h (fun x5 e_x5 h => ?_)
      refine j_top e_x5 ?_
      obtain ⟨g6, h⟩ := gd_elim h
      refine j_idiv C dX2_dayOfLessOil_24 (nz_ne g6) ?_
      refine j_iconst C dX2_dayOfLessOil_25 ci_1 ?_
      refine j_iadd C dX2_dayOfLessOil_26 ?_
      refine j_aload_n C 0 rfl dX2_dayOfLessOil_27 rfl ?_
      refine fg_X2_37_TC_3 C dX2_dayOfLessOil_28 ?_
      refine j_imul C dX2_dayOfLessOil_31 ?_
      cases h
      exact j_iret C hr hlk rfl dX2_dayOfLessOil_32
    · have h := (if_neg c4).symm.trans h
      refine j_sipush C dX2_dayOfLessOil_15 cs_10000 ?_
      cases h
      exact j_iret C hr hlk rfl dX2_dayOfLessOil_18
theorem dX3_place_0 : decode cX3_place 0 = .ok (.aload_n 0, 1) := by decide +kernel
theorem dX3_place_1 : decode cX3_place 1 = .ok (.getfield 21, 3) := by decide +kernel
theorem dX3_place_4 : decode cX3_place 4 = .ok (.invokevirtual 61, 3) := by decide +kernel
theorem dX3_place_7 : decode cX3_place 7 = .ok (.ireturn, 1) := by decide +kernel
def fX3_place_11 (S : Nat → Int32) (V : Nat → Nat → Int32) : Option (Int32) :=
  bd1 (fX10_place_20 S V) (fun r1 =>
  some r1)
set_option maxHeartbeats 4000000 in
set_option maxRecDepth 100000 in
theorem kX3_place_11 (l : Launch) (B : jBT) (D : va_G) (ad : Nat → Nat) (cA : Nat → ClassId) (hI : jI ad TC) (S : Nat → Int32) (V : Nat → Nat → Int32) (L : Nat → Int64) (r0 : Int32) (h : fX3_place_11 S V = some r0) : jM l yX3_place cX3_place 1 (some .int) ({ frames := 1, cells := 0, slots := 0, locals := 20 }) B D TC ad cA [.ref (ad 11)] S V L (some (.int r0)) S V L := by
  refine jM_of (plainFor_of_name (by decide)) TC_ok hI (Nat.le_of_ble_eq_true rfl) ?_
  intro p e s m args below meth c C hr hlk
  refine j_lv (lv2 := [(0, .ref (ad 11))]) rfl ?_
  unfold fX3_place_11 at h
  refine j_aload_n C 0 rfl dX3_place_0 rfl ?_
  refine fg_X3_21_TC_11 C dX3_place_1 ?_
  obtain ⟨r1, h2, h⟩ := bd1_elim h
  refine j_callV (As := []) (rest := []) C (kX10_place_20 l B D ad cA hI S V L _ h2) mw_X10_place wd1026 wd1027 wd1025 tc_20 rfl rfl ⟨rfl, rfl, by decide, by decide⟩ ⟨Nat.zero_le _, Nat.zero_le _⟩ rfl rfl (Nat.le_of_ble_eq_true rfl) dX3_place_4 ?_
  cases h
  exact j_iret C hr hlk rfl dX3_place_7
