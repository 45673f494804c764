theorem dX12_lets_0 : decode cX12_lets 0 = .ok (.iload_n 2, 1) := by decide +kernel
theorem dX12_lets_1 : decode cX12_lets 1 = .ok (.iconst 2, 1) := by decide +kernel
theorem dX12_lets_2 : decode cX12_lets 2 = .ok (.if_icmp .eq 31, 3) := by decide +kernel
theorem dX12_lets_5 : decode cX12_lets 5 = .ok (.aload_n 0, 1) := by decide +kernel
theorem dX12_lets_6 : decode cX12_lets 6 = .ok (.getfield 19, 3) := by decide +kernel
theorem dX12_lets_9 : decode cX12_lets 9 = .ok (.iconst 4, 1) := by decide +kernel
theorem dX12_lets_10 : decode cX12_lets 10 = .ok (.iload_n 1, 1) := by decide +kernel
theorem dX12_lets_11 : decode cX12_lets 11 = .ok (.imul, 1) := by decide +kernel
theorem dX12_lets_12 : decode cX12_lets 12 = .ok (.iconst 1, 1) := by decide +kernel
theorem dX12_lets_13 : decode cX12_lets 13 = .ok (.iadd, 1) := by decide +kernel
theorem dX12_lets_14 : decode cX12_lets 14 = .ok (.iaload, 1) := by decide +kernel
theorem dX12_lets_15 : decode cX12_lets 15 = .ok (.iconst 2, 1) := by decide +kernel
theorem dX12_lets_16 : decode cX12_lets 16 = .ok (.if_icmp .eq 17, 3) := by decide +kernel
theorem dX12_lets_19 : decode cX12_lets 19 = .ok (.aload_n 0, 1) := by decide +kernel
theorem dX12_lets_20 : decode cX12_lets 20 = .ok (.getfield 19, 3) := by decide +kernel
theorem dX12_lets_23 : decode cX12_lets 23 = .ok (.iconst 4, 1) := by decide +kernel
theorem dX12_lets_24 : decode cX12_lets 24 = .ok (.iload_n 1, 1) := by decide +kernel
theorem dX12_lets_25 : decode cX12_lets 25 = .ok (.imul, 1) := by decide +kernel
theorem dX12_lets_26 : decode cX12_lets 26 = .ok (.iconst 1, 1) := by decide +kernel
theorem dX12_lets_27 : decode cX12_lets 27 = .ok (.iadd, 1) := by decide +kernel
theorem dX12_lets_28 : decode cX12_lets 28 = .ok (.iaload, 1) := by decide +kernel
theorem dX12_lets_29 : decode cX12_lets 29 = .ok (.iload_n 2, 1) := by decide +kernel
theorem dX12_lets_30 : decode cX12_lets 30 = .ok (.if_icmp .ne 7, 3) := by decide +kernel
theorem dX12_lets_33 : decode cX12_lets 33 = .ok (.iconst 1, 1) := by decide +kernel
theorem dX12_lets_34 : decode cX12_lets 34 = .ok (.goto 4, 3) := by decide +kernel
theorem dX12_lets_37 : decode cX12_lets 37 = .ok (.iconst 0, 1) := by decide +kernel
theorem dX12_lets_38 : decode cX12_lets 38 = .ok (.ireturn, 1) := by decide +kernel
def fX12_lets_0 (V : Nat → Nat → Int32) (a1 : Int32) (a2 : Int32) : Option (Int32) :=
  (if a2 = (2 : Int32) then
  some (1 : Int32)
  else
  lt ((((4 : Int32) * a1) + (1 : Int32))) (fun x2 =>
  gd (ib x2 24) (
  (if (V 1 (x2).toNatClampNeg) = (2 : Int32) then
  some (1 : Int32)
  else
  lt ((((4 : Int32) * a1) + (1 : Int32))) (fun x5 =>
  gd (ib x5 24) (
  (if (V 1 (x5).toNatClampNeg) = a2 then
  some (1 : Int32)
  else
  some (0 : Int32))))))))
set_option maxHeartbeats 4000000 in
set_option maxRecDepth 100000 in
theorem kX12_lets_0 (l : Launch) (B : jBT) (D : va_G) (ad : Nat → Nat) (cA : Nat → ClassId) (hI : jI ad TR) (S : Nat → Int32) (V : Nat → Nat → Int32) (L : Nat → Int64) (a1 : Int32) (a2 : Int32) (r0 : Int32) (h : fX12_lets_0 V a1 a2 = some r0) : jM l yX12_lets cX12_lets 3 (some .boolean) ({ frames := 0, cells := 0, slots := 0, locals := 0 }) B D TR ad cA [.ref (ad 0), .int a1, .int a2] S V L (some (.int r0)) S V L := by
  refine jM_of (plainFor_of_name (by decide)) TR_ok hI (Nat.le_of_ble_eq_true rfl) ?_
  intro p e s m args below meth c C hr hlk
  refine j_lv (lv2 := [(0, .ref (ad 0)), (1, .int a1), (2, .int a2)]) rfl ?_
  unfold fX12_lets_0 at h
  refine j_iload_n C 2 rfl dX12_lets_0 rfl ?_
  refine j_iconst C dX12_lets_1 ci_2 ?_
  refine j_icmp_eq (tgt := 33) C dX12_lets_2 (by decide) (fun c1 => ?_) (fun c1 => ?_)
  · have h := (if_pos c1).symm.trans h
    refine j_iconst C dX12_lets_33 ci_1 ?_
    refine j_goto (tgt := 38) C dX12_lets_34 (by decide) ?_
    cases h
    exact j_zret C hr hlk rfl rfl dX12_lets_38
  · have h := (if_neg c1).symm.trans h
    refine j_aload_n C 0 rfl dX12_lets_5 rfl ?_
    refine fg_X12_19_TR_0 C dX12_lets_6 ?_
    refine j_iconst C dX12_lets_9 ci_4 ?_
    refine j_iload_n C 1 rfl dX12_lets_10 rfl ?_
    refine j_imul C dX12_lets_11 ?_
    refine j_iconst C dX12_lets_12 ci_1 ?_
    refine j_iadd C dX12_lets_13 ?_
    refine lt_elim h (fun x2 e_x2 h => ?_)
    refine j_top e_x2 ?_
    obtain ⟨g3, h⟩ := gd_elim h
    refine j_iald C tr_1 (ib_in g3) dX12_lets_14 ?_
    refine j_iconst C dX12_lets_15 ci_2 ?_
    refine j_icmp_eq (tgt := 33) C dX12_lets_16 (by decide) (fun c4 => ?_) (fun c4 => ?_)
    · have h := (if_pos c4).symm.trans h
      refine j_iconst C dX12_lets_33 ci_1 ?_
      refine j_goto (tgt := 38) C dX12_lets_34 (by decide) ?_
      cases h
      exact j_zret C hr hlk rfl rfl dX12_lets_38
    · have h := (if_neg c4).symm.trans h
      refine j_aload_n C 0 rfl dX12_lets_19 rfl ?_
      refine fg_X12_19_TR_0 C dX12_lets_20 ?_
      refine j_iconst C dX12_lets_23 ci_4 ?_
      refine j_iload_n C 1 rfl dX12_lets_24 rfl ?_
      refine j_imul C dX12_lets_25 ?_
      refine j_iconst C dX12_lets_26 ci_1 ?_
      refine j_iadd C dX12_lets_27 ?_
      refine lt_elim h (fun x5 e_x5 h => ?_)
      refine j_top e_x5 ?_
      obtain ⟨g6, h⟩ := gd_elim h
      refine j_iald C tr_1 (ib_in g6) dX12_lets_28 ?_
      refine j_iload_n C 2 rfl dX12_lets_29 rfl ?_
      refine j_icmp_ne (tgt := 37) C dX12_lets_30 (by decide) (fun c7 => ?_) (fun c7 => ?_)
      · have h := (if_neg c7).symm.trans h
        refine j_iconst C dX12_lets_37 ci_0 ?_
        cases h
        exact j_zret C hr hlk rfl rfl dX12_lets_38
      · have h := (if_pos c7).symm.trans h
        refine j_iconst C dX12_lets_33 ci_1 ?_
        refine j_goto (tgt := 38) C dX12_lets_34 (by decide) ?_
        cases h
        exact j_zret C hr hlk rfl rfl dX12_lets_38
theorem dX12_isCase_0 : decode cX12_isCase 0 = .ok (.iload_n 1, 1) := by decide +kernel
theorem dX12_isCase_1 : decode cX12_isCase 1 = .ok (.bipush 49, 2) := by decide +kernel
theorem dX12_isCase_3 : decode cX12_isCase 3 = .ok (.idiv, 1) := by decide +kernel
theorem dX12_isCase_4 : decode cX12_isCase 4 = .ok (.iconst 1, 1) := by decide +kernel
theorem dX12_isCase_5 : decode cX12_isCase 5 = .ok (.isub, 1) := by decide +kernel
theorem dX12_isCase_6 : decode cX12_isCase 6 = .ok (.istore_n 2, 1) := by decide +kernel
theorem dX12_isCase_7 : decode cX12_isCase 7 = .ok (.iload_n 1, 1) := by decide +kernel
theorem dX12_isCase_8 : decode cX12_isCase 8 = .ok (.bipush 7, 2) := by decide +kernel
theorem dX12_isCase_10 : decode cX12_isCase 10 = .ok (.idiv, 1) := by decide +kernel
theorem dX12_isCase_11 : decode cX12_isCase 11 = .ok (.bipush 7, 2) := by decide +kernel
theorem dX12_isCase_13 : decode cX12_isCase 13 = .ok (.irem, 1) := by decide +kernel
theorem dX12_isCase_14 : decode cX12_isCase 14 = .ok (.iconst 1, 1) := by decide +kernel
theorem dX12_isCase_15 : decode cX12_isCase 15 = .ok (.isub, 1) := by decide +kernel
theorem dX12_isCase_16 : decode cX12_isCase 16 = .ok (.istore_n 3, 1) := by decide +kernel
theorem dX12_isCase_17 : decode cX12_isCase 17 = .ok (.iload_n 1, 1) := by decide +kernel
theorem dX12_isCase_18 : decode cX12_isCase 18 = .ok (.bipush 7, 2) := by decide +kernel
theorem dX12_isCase_20 : decode cX12_isCase 20 = .ok (.irem, 1) := by decide +kernel
theorem dX12_isCase_21 : decode cX12_isCase 21 = .ok (.iconst 1, 1) := by decide +kernel
theorem dX12_isCase_22 : decode cX12_isCase 22 = .ok (.isub, 1) := by decide +kernel
theorem dX12_isCase_23 : decode cX12_isCase 23 = .ok (.istore 4, 2) := by decide +kernel
theorem dX12_isCase_25 : decode cX12_isCase 25 = .ok (.iload_n 2, 1) := by decide +kernel
theorem dX12_isCase_26 : decode cX12_isCase 26 = .ok (.aload_n 0, 1) := by decide +kernel
theorem dX12_isCase_27 : decode cX12_isCase 27 = .ok (.getfield 265, 3) := by decide +kernel
theorem dX12_isCase_30 : decode cX12_isCase 30 = .ok (.if_icmp .ge 20, 3) := by decide +kernel
theorem dX12_isCase_33 : decode cX12_isCase 33 = .ok (.iload_n 3, 1) := by decide +kernel
theorem dX12_isCase_34 : decode cX12_isCase 34 = .ok (.aload_n 0, 1) := by decide +kernel
theorem dX12_isCase_35 : decode cX12_isCase 35 = .ok (.getfield 265, 3) := by decide +kernel
theorem dX12_isCase_38 : decode cX12_isCase 38 = .ok (.if_icmp .ge 12, 3) := by decide +kernel
theorem dX12_isCase_41 : decode cX12_isCase 41 = .ok (.iload 4, 2) := by decide +kernel
theorem dX12_isCase_43 : decode cX12_isCase 43 = .ok (.aload_n 0, 1) := by decide +kernel
theorem dX12_isCase_44 : decode cX12_isCase 44 = .ok (.getfield 265, 3) := by decide +kernel
theorem dX12_isCase_47 : decode cX12_isCase 47 = .ok (.if_icmp .lt 5, 3) := by decide +kernel
theorem dX12_isCase_50 : decode cX12_isCase 50 = .ok (.iconst 0, 1) := by decide +kernel
theorem dX12_isCase_51 : decode cX12_isCase 51 = .ok (.ireturn, 1) := by decide +kernel
theorem dX12_isCase_52 : decode cX12_isCase 52 = .ok (.iload_n 2, 1) := by decide +kernel
theorem dX12_isCase_53 : decode cX12_isCase 53 = .ok (.iconst (-1), 1) := by decide +kernel
theorem dX12_isCase_54 : decode cX12_isCase 54 = .ok (.if_icmp .eq 12, 3) := by decide +kernel
theorem dX12_isCase_57 : decode cX12_isCase 57 = .ok (.aload_n 0, 1) := by decide +kernel
theorem dX12_isCase_58 : decode cX12_isCase 58 = .ok (.iload_n 2, 1) := by decide +kernel
theorem dX12_isCase_59 : decode cX12_isCase 59 = .ok (.iconst 0, 1) := by decide +kernel
theorem dX12_isCase_60 : decode cX12_isCase 60 = .ok (.invokevirtual 323, 3) := by decide +kernel
theorem dX12_isCase_63 : decode cX12_isCase 63 = .ok (.ifCond .eq 17, 3) := by decide +kernel
theorem dX12_isCase_66 : decode cX12_isCase 66 = .ok (.iload_n 3, 1) := by decide +kernel
theorem dX12_isCase_67 : decode cX12_isCase 67 = .ok (.iconst (-1), 1) := by decide +kernel
theorem dX12_isCase_68 : decode cX12_isCase 68 = .ok (.if_icmp .eq 14, 3) := by decide +kernel
theorem dX12_isCase_71 : decode cX12_isCase 71 = .ok (.aload_n 0, 1) := by decide +kernel
theorem dX12_isCase_72 : decode cX12_isCase 72 = .ok (.iload_n 3, 1) := by decide +kernel
theorem dX12_isCase_73 : decode cX12_isCase 73 = .ok (.iconst 1, 1) := by decide +kernel
theorem dX12_isCase_74 : decode cX12_isCase 74 = .ok (.invokevirtual 323, 3) := by decide +kernel
theorem dX12_isCase_77 : decode cX12_isCase 77 = .ok (.ifCond .ne 5, 3) := by decide +kernel
theorem dX12_isCase_80 : decode cX12_isCase 80 = .ok (.iconst 0, 1) := by decide +kernel
theorem dX12_isCase_81 : decode cX12_isCase 81 = .ok (.ireturn, 1) := by decide +kernel
theorem dX12_isCase_82 : decode cX12_isCase 82 = .ok (.iload 4, 2) := by decide +kernel
theorem dX12_isCase_84 : decode cX12_isCase 84 = .ok (.iconst (-1), 1) := by decide +kernel
theorem dX12_isCase_85 : decode cX12_isCase 85 = .ok (.if_icmp .eq 15, 3) := by decide +kernel
theorem dX12_isCase_88 : decode cX12_isCase 88 = .ok (.iload_n 2, 1) := by decide +kernel
theorem dX12_isCase_89 : decode cX12_isCase 89 = .ok (.iconst (-1), 1) := by decide +kernel
theorem dX12_isCase_90 : decode cX12_isCase 90 = .ok (.if_icmp .eq 8, 3) := by decide +kernel
theorem dX12_isCase_93 : decode cX12_isCase 93 = .ok (.iload_n 3, 1) := by decide +kernel
theorem dX12_isCase_94 : decode cX12_isCase 94 = .ok (.iconst (-1), 1) := by decide +kernel
theorem dX12_isCase_95 : decode cX12_isCase 95 = .ok (.if_icmp .ne 5, 3) := by decide +kernel
theorem dX12_isCase_98 : decode cX12_isCase 98 = .ok (.iconst 0, 1) := by decide +kernel
theorem dX12_isCase_99 : decode cX12_isCase 99 = .ok (.ireturn, 1) := by decide +kernel
theorem dX12_isCase_100 : decode cX12_isCase 100 = .ok (.iload_n 2, 1) := by decide +kernel
theorem dX12_isCase_101 : decode cX12_isCase 101 = .ok (.iconst (-1), 1) := by decide +kernel
theorem dX12_isCase_102 : decode cX12_isCase 102 = .ok (.if_icmp .eq 8, 3) := by decide +kernel
theorem dX12_isCase_105 : decode cX12_isCase 105 = .ok (.iload_n 2, 1) := by decide +kernel
theorem dX12_isCase_106 : decode cX12_isCase 106 = .ok (.iload_n 3, 1) := by decide +kernel
theorem dX12_isCase_107 : decode cX12_isCase 107 = .ok (.if_icmp .eq 25, 3) := by decide +kernel
theorem dX12_isCase_110 : decode cX12_isCase 110 = .ok (.iload 4, 2) := by decide +kernel
theorem dX12_isCase_112 : decode cX12_isCase 112 = .ok (.iconst (-1), 1) := by decide +kernel
theorem dX12_isCase_113 : decode cX12_isCase 113 = .ok (.if_icmp .eq 15, 3) := by decide +kernel
theorem dX12_isCase_116 : decode cX12_isCase 116 = .ok (.iload 4, 2) := by decide +kernel
theorem dX12_isCase_118 : decode cX12_isCase 118 = .ok (.iload_n 2, 1) := by decide +kernel
theorem dX12_isCase_119 : decode cX12_isCase 119 = .ok (.if_icmp .eq 13, 3) := by decide +kernel
theorem dX12_isCase_122 : decode cX12_isCase 122 = .ok (.iload 4, 2) := by decide +kernel
theorem dX12_isCase_124 : decode cX12_isCase 124 = .ok (.iload_n 3, 1) := by decide +kernel
theorem dX12_isCase_125 : decode cX12_isCase 125 = .ok (.if_icmp .eq 7, 3) := by decide +kernel
theorem dX12_isCase_128 : decode cX12_isCase 128 = .ok (.iconst 1, 1) := by decide +kernel
theorem dX12_isCase_129 : decode cX12_isCase 129 = .ok (.goto 4, 3) := by decide +kernel
theorem dX12_isCase_132 : decode cX12_isCase 132 = .ok (.iconst 0, 1) := by decide +kernel
theorem dX12_isCase_133 : decode cX12_isCase 133 = .ok (.ireturn, 1) := by decide +kernel
def fX12_isCase_0 (S : Nat → Int32) (V : Nat → Nat → Int32) (a1 : Int32) : Option (Int32) :=
  lt (((a1 / (49 : Int32)) - (1 : Int32))) (fun x1 =>
  lt ((a1 / (7 : Int32))) (fun x2 =>
  lt (((x2 - x2 / (7 : Int32) * (7 : Int32)) - (1 : Int32))) (fun x3 =>
  lt (((a1 - a1 / (7 : Int32) * (7 : Int32)) - (1 : Int32))) (fun x4 =>
  (if (S 5) ≤ x1 then
  some (0 : Int32)
  else
  (if (S 5) ≤ x3 then
  some (0 : Int32)
  else
  (if x4 < (S 5) then
  bk (fun (x9 : Int32) (x10 : Int32) (x11 : Int32) =>
  bk (fun (x13 : Int32) (x14 : Int32) (x15 : Int32) =>
  bk (fun (x17 : Int32) (x18 : Int32) (x19 : Int32) =>
  bk (fun (x21 : Int32) (x22 : Int32) (x23 : Int32) =>
  (if x23 = (-1 : Int32) then
  some (1 : Int32)
  else
  (if x23 = x21 then
  some (0 : Int32)
  else
  (if x23 = x22 then
  some (0 : Int32)
  else
  some (1 : Int32))))) (fun K110_20 =>
  (if x17 = (-1 : Int32) then
  K110_20 x17 x18 x19
  else
  (if x17 = x18 then
  some (0 : Int32)
  else
  K110_20 x17 x18 x19)))) (fun K100_16 =>
  (if x15 = (-1 : Int32) then
  K100_16 x13 x14 x15
  else
  (if x13 = (-1 : Int32) then
  some (0 : Int32)
  else
  (if x14 = (-1 : Int32) then
  some (0 : Int32)
  else
  K100_16 x13 x14 x15))))) (fun K82_12 =>
  (if x10 = (-1 : Int32) then
  K82_12 x9 x10 x11
  else
  bd1 (fX12_lets_0 V x10 (1 : Int32)) (fun r33 =>
  (if r33 = 0 then
  some (0 : Int32)
  else
  K82_12 x9 x10 x11))))) (fun K66_8 =>
  (if x1 = (-1 : Int32) then
  K66_8 x1 x3 x4
  else
  bd1 (fX12_lets_0 V x1 (0 : Int32)) (fun r37 =>
  (if r37 = 0 then
  some (0 : Int32)
  else
  K66_8 x1 x3 x4))))
  else
  some (0 : Int32))))))))
set_option maxHeartbeats 4000000 in
set_option maxRecDepth 100000 in
theorem kX12_isCase_0 (l : Launch) (B : jBT) (D : va_G) (ad : Nat → Nat) (cA : Nat → ClassId) (hI : jI ad TR) (S : Nat → Int32) (V : Nat → Nat → Int32) (L : Nat → Int64) (a1 : Int32) (r0 : Int32) (h : fX12_isCase_0 S V a1 = some r0) : jM l yX12_isCase cX12_isCase 5 (some .boolean) ({ frames := 1, cells := 0, slots := 0, locals := 22 }) B D TR ad cA [.ref (ad 0), .int a1] S V L (some (.int r0)) S V L := by
  refine jM_of (plainFor_of_name (by decide)) TR_ok hI (Nat.le_of_ble_eq_true rfl) ?_
  intro p e s m args below meth c C hr hlk
  refine j_lv (lv2 := [(0, .ref (ad 0)), (1, .int a1)]) rfl ?_
  unfold fX12_isCase_0 at h
  refine j_iload_n C 1 rfl dX12_isCase_0 rfl ?_
  refine j_bipush C dX12_isCase_1 cb_49 ?_
  refine j_idiv C dX12_isCase_3 (by decide) ?_
  refine j_iconst C dX12_isCase_4 ci_1 ?_
  refine j_isub C dX12_isCase_5 ?_
  refine lt_elim h (fun x1 e_x1 h => ?_)
  refine j_top e_x1 ?_
  refine j_istore_n C [(2, .int x1), (0, .ref (ad 0)), (1, .int a1)] dX12_isCase_6 rfl (by decide) rfl ?_
  refine j_iload_n C 2 rfl dX12_isCase_7 rfl ?_
  refine j_bipush C dX12_isCase_8 cb_7 ?_
  refine j_idiv C dX12_isCase_10 (by decide) ?_
  refine j_bipush C dX12_isCase_11 cb_7 ?_
  refine lt_elim h (fun x2 e_x2 h => ?_)
  refine j_top2 e_x2 ?_
  refine j_irem C dX12_isCase_13 (by decide) ?_
  refine j_iconst C dX12_isCase_14 ci_1 ?_
  refine j_isub C dX12_isCase_15 ?_
  refine lt_elim h (fun x3 e_x3 h => ?_)
  refine j_top e_x3 ?_
  refine j_istore_n C [(3, .int x3), (2, .int x1), (0, .ref (ad 0)), (1, .int a1)] dX12_isCase_16 rfl (by decide) rfl ?_
  refine j_iload_n C 3 rfl dX12_isCase_17 rfl ?_
  refine j_bipush C dX12_isCase_18 cb_7 ?_
  refine j_irem C dX12_isCase_20 (by decide) ?_
  refine j_iconst C dX12_isCase_21 ci_1 ?_
  refine j_isub C dX12_isCase_22 ?_
  refine lt_elim h (fun x4 e_x4 h => ?_)
  refine j_top e_x4 ?_
  refine j_istore C [(4, .int x4), (3, .int x3), (2, .int x1), (0, .ref (ad 0)), (1, .int a1)] dX12_isCase_23 (by decide) rfl ?_
  refine j_iload_n C 2 rfl dX12_isCase_25 rfl ?_
  refine j_aload_n C 3 rfl dX12_isCase_26 rfl ?_
  refine fg_X12_265_TR_0 C dX12_isCase_27 ?_
  refine j_icmp_ge (tgt := 50) C dX12_isCase_30 (by decide) (fun c5 => ?_) (fun c5 => ?_)
  · have h := (if_pos c5).symm.trans h
    refine j_iconst C dX12_isCase_50 ci_0 ?_
    cases h
    exact j_zret C hr hlk rfl rfl dX12_isCase_51
  · have h := (if_neg c5).symm.trans h
    refine j_iload_n C 1 rfl dX12_isCase_33 rfl ?_
    refine j_aload_n C 3 rfl dX12_isCase_34 rfl ?_
    refine fg_X12_265_TR_0 C dX12_isCase_35 ?_
    refine j_icmp_ge (tgt := 50) C dX12_isCase_38 (by decide) (fun c6 => ?_) (fun c6 => ?_)
    · have h := (if_pos c6).symm.trans h
      refine j_iconst C dX12_isCase_50 ci_0 ?_
      cases h
      exact j_zret C hr hlk rfl rfl dX12_isCase_51
    · have h := (if_neg c6).symm.trans h
      refine j_iload C 0 rfl dX12_isCase_41 ?_
      refine j_aload_n C 3 rfl dX12_isCase_43 rfl ?_
      refine fg_X12_265_TR_0 C dX12_isCase_44 ?_
      refine j_icmp_lt (tgt := 52) C dX12_isCase_47 (by decide) (fun c7 => ?_) (fun c7 => ?_)
      · have h := (if_pos c7).symm.trans h
        refine j_iload_n C 2 rfl dX12_isCase_52 rfl ?_
        refine j_iconst C dX12_isCase_53 ci_m1 ?_
        refine bk_elim h (fun K66_8 e_K66_8 h => ?_)
        have HK66_8 : ∀ (x9 : Int32) (x10 : Int32) (x11 : Int32), K66_8 x9 x10 x11 = some r0 → jW p l e ({ frames := 1, cells := 0, slots := 0, locals := 22 }) s m args below meth c (MQ below (jQc D TR ad cA (some (.int r0)) s.heap.size S V L) args s 0 0 (jA ad TR s.heap.size)) D TR ad cA (jA ad TR s.heap.size) 5 0 0 66 [(0, .ref (ad 0)), (2, .int x9), (3, .int x10), (4, .int x11)] [] S V L := by
          subst e_K66_8
          intro x9 x10 x11 h
          refine j_iload_n C 2 rfl dX12_isCase_66 rfl ?_
          refine j_iconst C dX12_isCase_67 ci_m1 ?_
          refine bk_elim h (fun K82_12 e_K82_12 h => ?_)
          have HK82_12 : ∀ (x13 : Int32) (x14 : Int32) (x15 : Int32), K82_12 x13 x14 x15 = some r0 → jW p l e ({ frames := 1, cells := 0, slots := 0, locals := 22 }) s m args below meth c (MQ below (jQc D TR ad cA (some (.int r0)) s.heap.size S V L) args s 0 0 (jA ad TR s.heap.size)) D TR ad cA (jA ad TR s.heap.size) 5 0 0 82 [(2, .int x13), (3, .int x14), (4, .int x15)] [] S V L := by
            subst e_K82_12
            intro x13 x14 x15 h
            refine j_iload C 2 rfl dX12_isCase_82 ?_
            refine j_iconst C dX12_isCase_84 ci_m1 ?_
            refine bk_elim h (fun K100_16 e_K100_16 h => ?_)
            have HK100_16 : ∀ (x17 : Int32) (x18 : Int32) (x19 : Int32), K100_16 x17 x18 x19 = some r0 → jW p l e ({ frames := 1, cells := 0, slots := 0, locals := 22 }) s m args below meth c (MQ below (jQc D TR ad cA (some (.int r0)) s.heap.size S V L) args s 0 0 (jA ad TR s.heap.size)) D TR ad cA (jA ad TR s.heap.size) 5 0 0 100 [(2, .int x17), (3, .int x18), (4, .int x19)] [] S V L := by
              subst e_K100_16
              intro x17 x18 x19 h
              refine j_iload_n C 0 rfl dX12_isCase_100 rfl ?_
              refine j_iconst C dX12_isCase_101 ci_m1 ?_
              refine bk_elim h (fun K110_20 e_K110_20 h => ?_)
              have HK110_20 : ∀ (x21 : Int32) (x22 : Int32) (x23 : Int32), K110_20 x21 x22 x23 = some r0 → jW p l e ({ frames := 1, cells := 0, slots := 0, locals := 22 }) s m args below meth c (MQ below (jQc D TR ad cA (some (.int r0)) s.heap.size S V L) args s 0 0 (jA ad TR s.heap.size)) D TR ad cA (jA ad TR s.heap.size) 5 0 0 110 [(2, .int x21), (3, .int x22), (4, .int x23)] [] S V L := by
                subst e_K110_20
                intro x21 x22 x23 h
                refine j_iload C 2 rfl dX12_isCase_110 ?_
                refine j_iconst C dX12_isCase_112 ci_m1 ?_
                refine j_icmp_eq (tgt := 128) C dX12_isCase_113 (by decide) (fun c24 => ?_) (fun c24 => ?_)
                · have h := (if_pos c24).symm.trans h
                  refine j_iconst C dX12_isCase_128 ci_1 ?_
                  refine j_goto (tgt := 133) C dX12_isCase_129 (by decide) ?_
                  cases h
                  exact j_zret C hr hlk rfl rfl dX12_isCase_133
                · have h := (if_neg c24).symm.trans h
                  refine j_iload C 2 rfl dX12_isCase_116 ?_
                  refine j_iload_n C 0 rfl dX12_isCase_118 rfl ?_
                  refine j_icmp_eq (tgt := 132) C dX12_isCase_119 (by decide) (fun c25 => ?_) (fun c25 => ?_)
                  · have h := (if_pos c25).symm.trans h
                    refine j_iconst C dX12_isCase_132 ci_0 ?_
                    cases h
                    exact j_zret C hr hlk rfl rfl dX12_isCase_133
                  · have h := (if_neg c25).symm.trans h
                    refine j_iload C 2 rfl dX12_isCase_122 ?_
                    refine j_iload_n C 1 rfl dX12_isCase_124 rfl ?_
                    refine j_icmp_eq (tgt := 132) C dX12_isCase_125 (by decide) (fun c26 => ?_) (fun c26 => ?_)
                    · have h := (if_pos c26).symm.trans h
                      refine j_iconst C dX12_isCase_132 ci_0 ?_
                      cases h
                      exact j_zret C hr hlk rfl rfl dX12_isCase_133
                    · have h := (if_neg c26).symm.trans h
                      refine j_iconst C dX12_isCase_128 ci_1 ?_
                      refine j_goto (tgt := 133) C dX12_isCase_129 (by decide) ?_
                      cases h
                      exact j_zret C hr hlk rfl rfl dX12_isCase_133
              refine j_icmp_eq (tgt := 110) C dX12_isCase_102 (by decide) (fun c27 => ?_) (fun c27 => ?_)
              · have h := (if_pos c27).symm.trans h
                exact j_sub [0, 1, 2] rfl (HK110_20 _ _ _ h)
              · have h := (if_neg c27).symm.trans h
                refine j_iload_n C 0 rfl dX12_isCase_105 rfl ?_
                refine j_iload_n C 1 rfl dX12_isCase_106 rfl ?_
                refine j_icmp_eq (tgt := 132) C dX12_isCase_107 (by decide) (fun c28 => ?_) (fun c28 => ?_)
                · have h := (if_pos c28).symm.trans h
                  refine j_iconst C dX12_isCase_132 ci_0 ?_
                  cases h
                  exact j_zret C hr hlk rfl rfl dX12_isCase_133
                · have h := (if_neg c28).symm.trans h
                  exact j_sub [0, 1, 2] rfl (HK110_20 _ _ _ h)
            refine j_icmp_eq (tgt := 100) C dX12_isCase_85 (by decide) (fun c29 => ?_) (fun c29 => ?_)
            · have h := (if_pos c29).symm.trans h
              exact j_sub [0, 1, 2] rfl (HK100_16 _ _ _ h)
            · have h := (if_neg c29).symm.trans h
              refine j_iload_n C 0 rfl dX12_isCase_88 rfl ?_
              refine j_iconst C dX12_isCase_89 ci_m1 ?_
              refine j_icmp_eq (tgt := 98) C dX12_isCase_90 (by decide) (fun c30 => ?_) (fun c30 => ?_)
              · have h := (if_pos c30).symm.trans h
                refine j_iconst C dX12_isCase_98 ci_0 ?_
                cases h
                exact j_zret C hr hlk rfl rfl dX12_isCase_99
              · have h := (if_neg c30).symm.trans h
                refine j_iload_n C 1 rfl dX12_isCase_93 rfl ?_
                refine j_iconst C dX12_isCase_94 ci_m1 ?_
                refine j_icmp_ne (tgt := 100) C dX12_isCase_95 (by decide) (fun c31 => ?_) (fun c31 => ?_)
                · have h := (if_neg c31).symm.trans h
                  exact j_sub [0, 1, 2] rfl (HK100_16 _ _ _ h)
                · have h := (if_pos c31).symm.trans h
                  refine j_iconst C dX12_isCase_98 ci_0 ?_
                  cases h
                  exact j_zret C hr hlk rfl rfl dX12_isCase_99
          refine j_icmp_eq (tgt := 82) C dX12_isCase_68 (by decide) (fun c32 => ?_) (fun c32 => ?_)
          · have h := (if_pos c32).symm.trans h
            exact j_sub [1, 2, 3] rfl (HK82_12 _ _ _ h)
          · have h := (if_neg c32).symm.trans h
            refine j_aload_n C 0 rfl dX12_isCase_71 rfl ?_
            refine j_iload_n C 2 rfl dX12_isCase_72 rfl ?_
            refine j_iconst C dX12_isCase_73 ci_1 ?_
            obtain ⟨r33, h34, h⟩ := bd1_elim h
            refine j_callV (As := [.int x10, .int (1 : Int32)]) (rest := []) C (kX12_lets_0 l B D ad cA hI S V L x10 (1 : Int32) _ h34) mw_X12_lets wd1772 wd81 wd1770 tr_0 rfl rfl ⟨rfl, rfl, by decide, by decide⟩ ⟨Nat.zero_le _, Nat.zero_le _⟩ rfl rfl (Nat.le_of_ble_eq_true rfl) dX12_isCase_74 ?_
            refine j_if_ne (tgt := 82) C dX12_isCase_77 (by decide) (fun c35 => ?_) (fun c35 => ?_)
            · have h := (if_neg c35).symm.trans h
              exact j_sub [1, 2, 3] rfl (HK82_12 _ _ _ h)
            · have h := (if_pos c35).symm.trans h
              refine j_iconst C dX12_isCase_80 ci_0 ?_
              cases h
              exact j_zret C hr hlk rfl rfl dX12_isCase_81
        refine j_icmp_eq (tgt := 66) C dX12_isCase_54 (by decide) (fun c36 => ?_) (fun c36 => ?_)
        · have h := (if_pos c36).symm.trans h
          exact j_sub [3, 2, 1, 0] rfl (HK66_8 _ _ _ h)
        · have h := (if_neg c36).symm.trans h
          refine j_aload_n C 3 rfl dX12_isCase_57 rfl ?_
          refine j_iload_n C 2 rfl dX12_isCase_58 rfl ?_
          refine j_iconst C dX12_isCase_59 ci_0 ?_
          obtain ⟨r37, h38, h⟩ := bd1_elim h
          refine j_callV (As := [.int x1, .int (0 : Int32)]) (rest := []) C (kX12_lets_0 l B D ad cA hI S V L x1 (0 : Int32) _ h38) mw_X12_lets wd1772 wd81 wd1770 tr_0 rfl rfl ⟨rfl, rfl, by decide, by decide⟩ ⟨Nat.zero_le _, Nat.zero_le _⟩ rfl rfl (Nat.le_of_ble_eq_true rfl) dX12_isCase_60 ?_
          refine j_if_eq (tgt := 80) C dX12_isCase_63 (by decide) (fun c39 => ?_) (fun c39 => ?_)
          · have h := (if_pos c39).symm.trans h
            refine j_iconst C dX12_isCase_80 ci_0 ?_
            cases h
            exact j_zret C hr hlk rfl rfl dX12_isCase_81
          · have h := (if_neg c39).symm.trans h
            exact j_sub [3, 2, 1, 0] rfl (HK66_8 _ _ _ h)
      · have h := (if_neg c7).symm.trans h
        refine j_iconst C dX12_isCase_50 ci_0 ?_
        cases h
        exact j_zret C hr hlk rfl rfl dX12_isCase_51
theorem dX12_setOf_0 : decode cX12_setOf 0 = .ok (.iconst 0, 1) := by decide +kernel
theorem dX12_setOf_1 : decode cX12_setOf 1 = .ok (.istore_n 1, 1) := by decide +kernel
theorem dX12_setOf_2 : decode cX12_setOf 2 = .ok (.iload_n 0, 1) := by decide +kernel
theorem dX12_setOf_3 : decode cX12_setOf 3 = .ok (.istore_n 2, 1) := by decide +kernel
theorem dX12_setOf_4 : decode cX12_setOf 4 = .ok (.iconst 0, 1) := by decide +kernel
theorem dX12_setOf_5 : decode cX12_setOf 5 = .ok (.istore_n 3, 1) := by decide +kernel
theorem dX12_setOf_6 : decode cX12_setOf 6 = .ok (.iload_n 3, 1) := by decide +kernel
theorem dX12_setOf_7 : decode cX12_setOf 7 = .ok (.iconst 3, 1) := by decide +kernel
theorem dX12_setOf_8 : decode cX12_setOf 8 = .ok (.if_icmp .ge 36, 3) := by decide +kernel
theorem dX12_setOf_11 : decode cX12_setOf 11 = .ok (.iload_n 1, 1) := by decide +kernel
theorem dX12_setOf_12 : decode cX12_setOf 12 = .ok (.iload_n 2, 1) := by decide +kernel
theorem dX12_setOf_13 : decode cX12_setOf 13 = .ok (.bipush 7, 2) := by decide +kernel
theorem dX12_setOf_15 : decode cX12_setOf 15 = .ok (.irem, 1) := by decide +kernel
theorem dX12_setOf_16 : decode cX12_setOf 16 = .ok (.ifCond .ne 7, 3) := by decide +kernel
theorem dX12_setOf_19 : decode cX12_setOf 19 = .ok (.iconst 0, 1) := by decide +kernel
theorem dX12_setOf_20 : decode cX12_setOf 20 = .ok (.goto 11, 3) := by decide +kernel
theorem dX12_setOf_23 : decode cX12_setOf 23 = .ok (.iconst 1, 1) := by decide +kernel
theorem dX12_setOf_24 : decode cX12_setOf 24 = .ok (.iload_n 2, 1) := by decide +kernel
theorem dX12_setOf_25 : decode cX12_setOf 25 = .ok (.bipush 7, 2) := by decide +kernel
theorem dX12_setOf_27 : decode cX12_setOf 27 = .ok (.irem, 1) := by decide +kernel
theorem dX12_setOf_28 : decode cX12_setOf 28 = .ok (.iconst 1, 1) := by decide +kernel
theorem dX12_setOf_29 : decode cX12_setOf 29 = .ok (.isub, 1) := by decide +kernel
theorem dX12_setOf_30 : decode cX12_setOf 30 = .ok (.ishl, 1) := by decide +kernel
theorem dX12_setOf_31 : decode cX12_setOf 31 = .ok (.ior, 1) := by decide +kernel
theorem dX12_setOf_32 : decode cX12_setOf 32 = .ok (.istore_n 1, 1) := by decide +kernel
theorem dX12_setOf_33 : decode cX12_setOf 33 = .ok (.iload_n 2, 1) := by decide +kernel
theorem dX12_setOf_34 : decode cX12_setOf 34 = .ok (.bipush 7, 2) := by decide +kernel
theorem dX12_setOf_36 : decode cX12_setOf 36 = .ok (.idiv, 1) := by decide +kernel
theorem dX12_setOf_37 : decode cX12_setOf 37 = .ok (.istore_n 2, 1) := by decide +kernel
theorem dX12_setOf_38 : decode cX12_setOf 38 = .ok (.iinc 3 1, 3) := by decide +kernel
theorem dX12_setOf_41 : decode cX12_setOf 41 = .ok (.goto (-35), 3) := by decide +kernel
theorem dX12_setOf_44 : decode cX12_setOf 44 = .ok (.iload_n 1, 1) := by decide +kernel
theorem dX12_setOf_45 : decode cX12_setOf 45 = .ok (.ireturn, 1) := by decide +kernel
def fX12_setOf_L6 : Nat → Int32 → Int32 → Int32 → Option (Int32)
  | 0, _, _, _ => none
  | n + 1, x1, x2, x3 =>
    (if (3 : Int32) ≤ x3 then
    some x1
    else
    bk (fun (x6 : Int32) (x7 : Int32) (x8 : Int32) (x9 : Int32) =>
    lt ((x9 ||| x8)) (fun x10 =>
    lt ((x6 / (7 : Int32))) (fun x11 =>
    lt (x7 + (1 : Int32)) (fun x12 =>
    fX12_setOf_L6 n x10 x11 x12)))) (fun K31_5 =>
    (if (x2 - x2 / (7 : Int32) * (7 : Int32)) = 0 then
    K31_5 x2 x3 (0 : Int32) x1
    else
    K31_5 x2 x3 (((1 : Int32) <<< (((x2 - x2 / (7 : Int32) * (7 : Int32)) - (1 : Int32)) &&& 31))) x1)))
def fX12_setOf (a1 : Int32) : Option (Int32) :=
  fX12_setOf_L6 FU (0 : Int32) a1 (0 : Int32)
set_option maxHeartbeats 4000000 in
set_option maxRecDepth 100000 in
theorem kX12_setOf (l : Launch) (B : jBT) (D : va_G) (ad : Nat → Nat) (cA : Nat → ClassId) (hI : jI ad TR) (S : Nat → Int32) (V : Nat → Nat → Int32) (L : Nat → Int64) (a1 : Int32) (r0 : Int32) (h : fX12_setOf a1 = some r0) : jM l yX12_setOf cX12_setOf 4 (some .int) ({ frames := 0, cells := 0, slots := 0, locals := 0 }) B D TR ad cA [.int a1] S V L (some (.int r0)) S V L := by
  refine jM_of (plainFor_of_name (by decide)) TR_ok hI (Nat.le_of_ble_eq_true rfl) ?_
  intro p e s m args below meth c C hr hlk
  refine j_lv (lv2 := [(0, .int a1)]) rfl ?_
  unfold fX12_setOf at h
  have H_fX12_setOf_L6 : ∀ (n : Nat) (x1 : Int32) (x2 : Int32) (x3 : Int32), fX12_setOf_L6 n x1 x2 x3 = some r0 → jW p l e ({ frames := 0, cells := 0, slots := 0, locals := 0 }) s m args below meth c (MQ below (jQc D TR ad cA (some (.int r0)) s.heap.size S V L) args s 0 0 (jA ad TR s.heap.size)) D TR ad cA (jA ad TR s.heap.size) 4 0 0 6 [(1, .int x1), (2, .int x2), (3, .int x3)] [] S V L := by
    intro n
    induction n with
    | zero =>
      intro x1 x2 x3 h
      cases (show (none : Option (Int32)) = some r0 from h)
    | succ n ih =>
      intro x1 x2 x3 h
      unfold fX12_setOf_L6 at h
      refine j_iload_n C 2 rfl dX12_setOf_6 rfl ?_
      refine j_iconst C dX12_setOf_7 ci_3 ?_
      refine j_icmp_ge (tgt := 44) C dX12_setOf_8 (by decide) (fun c4 => ?_) (fun c4 => ?_)
      · have h := (if_pos c4).symm.trans h
        refine j_iload_n C 0 rfl dX12_setOf_44 rfl ?_
        cases h
        exact j_iret C hr hlk rfl dX12_setOf_45
      · have h := (if_neg c4).symm.trans h
        refine j_iload_n C 0 rfl dX12_setOf_11 rfl ?_
        refine j_iload_n C 1 rfl dX12_setOf_12 rfl ?_
        refine j_bipush C dX12_setOf_13 cb_7 ?_
        refine j_irem C dX12_setOf_15 (by decide) ?_
        refine bk_elim h (fun K31_5 e_K31_5 h => ?_)
        have HK31_5 : ∀ (x6 : Int32) (x7 : Int32) (x8 : Int32) (x9 : Int32), K31_5 x6 x7 x8 x9 = some r0 → jW p l e ({ frames := 0, cells := 0, slots := 0, locals := 0 }) s m args below meth c (MQ below (jQc D TR ad cA (some (.int r0)) s.heap.size S V L) args s 0 0 (jA ad TR s.heap.size)) D TR ad cA (jA ad TR s.heap.size) 4 0 0 31 [(2, .int x6), (3, .int x7)] [.int x8, .int x9] S V L := by
          subst e_K31_5
          intro x6 x7 x8 x9 h
          refine j_ior C dX12_setOf_31 ?_
          refine lt_elim h (fun x10 e_x10 h => ?_)
          refine j_top e_x10 ?_
          refine j_istore_n C [(1, .int x10), (2, .int x6), (3, .int x7)] dX12_setOf_32 rfl (by decide) rfl ?_
          refine j_iload_n C 1 rfl dX12_setOf_33 rfl ?_
          refine j_bipush C dX12_setOf_34 cb_7 ?_
          refine j_idiv C dX12_setOf_36 (by decide) ?_
          refine lt_elim h (fun x11 e_x11 h => ?_)
          refine j_top e_x11 ?_
          refine j_istore_n C [(2, .int x11), (1, .int x10), (3, .int x7)] dX12_setOf_37 rfl (by decide) rfl ?_
          refine lt_elim h (fun x12 e_x12 h => ?_)
          refine j_iinc C [(3, .int x12), (2, .int x11), (1, .int x10)] 2 dX12_setOf_38 rfl ((iinc_eq ci_1).trans e_x12.symm) (by decide) rfl ?_
          refine j_goto (tgt := 6) C dX12_setOf_41 (by decide) ?_
          exact j_sub [2, 1, 0] rfl (ih _ _ _ h)
        refine j_if_ne (tgt := 23) C dX12_setOf_16 (by decide) (fun c13 => ?_) (fun c13 => ?_)
        · have h := (if_neg c13).symm.trans h
          refine j_iconst C dX12_setOf_23 ci_1 ?_
          refine j_iload_n C 1 rfl dX12_setOf_24 rfl ?_
          refine j_bipush C dX12_setOf_25 cb_7 ?_
          refine j_irem C dX12_setOf_27 (by decide) ?_
          refine j_iconst C dX12_setOf_28 ci_1 ?_
          refine j_isub C dX12_setOf_29 ?_
          refine j_ishl C dX12_setOf_30 ?_
          exact j_sub [1, 2] rfl (HK31_5 _ _ _ _ h)
        · have h := (if_pos c13).symm.trans h
          refine j_iconst C dX12_setOf_19 ci_0 ?_
          refine j_goto (tgt := 31) C dX12_setOf_20 (by decide) ?_
          exact j_sub [1, 2] rfl (HK31_5 _ _ _ _ h)
  refine j_iconst C dX12_setOf_0 ci_0 ?_
  refine j_istore_n C [(1, .int (0 : Int32)), (0, .int a1)] dX12_setOf_1 rfl (by decide) rfl ?_
  refine j_iload_n C 1 rfl dX12_setOf_2 rfl ?_
  refine j_istore_n C [(2, .int a1), (1, .int (0 : Int32)), (0, .int a1)] dX12_setOf_3 rfl (by decide) rfl ?_
  refine j_iconst C dX12_setOf_4 ci_0 ?_
  refine j_istore_n C [(3, .int (0 : Int32)), (2, .int a1), (1, .int (0 : Int32)), (0, .int a1)] dX12_setOf_5 rfl (by decide) rfl ?_
  exact j_sub [2, 1, 0] rfl (H_fX12_setOf_L6 FU _ _ _ h)
theorem dX12_cuckoo_0 : decode cX12_cuckoo 0 = .ok (.aload_n 0, 1) := by decide +kernel
theorem dX12_cuckoo_1 : decode cX12_cuckoo 1 = .ok (.iconst 0, 1) := by decide +kernel
theorem dX12_cuckoo_2 : decode cX12_cuckoo 2 = .ok (.putfield 93, 3) := by decide +kernel
theorem dX12_cuckoo_5 : decode cX12_cuckoo 5 = .ok (.aload_n 0, 1) := by decide +kernel
theorem dX12_cuckoo_6 : decode cX12_cuckoo 6 = .ok (.iload_n 2, 1) := by decide +kernel
theorem dX12_cuckoo_7 : decode cX12_cuckoo 7 = .ok (.iconst 0, 1) := by decide +kernel
theorem dX12_cuckoo_8 : decode cX12_cuckoo 8 = .ok (.iconst 3, 1) := by decide +kernel
theorem dX12_cuckoo_9 : decode cX12_cuckoo 9 = .ok (.invokestatic 294, 3) := by decide +kernel
theorem dX12_cuckoo_12 : decode cX12_cuckoo 12 = .ok (.iconst 1, 1) := by decide +kernel
theorem dX12_cuckoo_13 : decode cX12_cuckoo 13 = .ok (.invokevirtual 255, 3) := by decide +kernel
theorem dX12_cuckoo_16 : decode cX12_cuckoo 16 = .ok (.ifCond .ne 5, 3) := by decide +kernel
theorem dX12_cuckoo_19 : decode cX12_cuckoo 19 = .ok (.iconst 0, 1) := by decide +kernel
theorem dX12_cuckoo_20 : decode cX12_cuckoo 20 = .ok (.ireturn, 1) := by decide +kernel
theorem dX12_cuckoo_21 : decode cX12_cuckoo 21 = .ok (.iconst 0, 1) := by decide +kernel
theorem dX12_cuckoo_22 : decode cX12_cuckoo 22 = .ok (.istore_n 3, 1) := by decide +kernel
theorem dX12_cuckoo_23 : decode cX12_cuckoo 23 = .ok (.iconst (-1), 1) := by decide +kernel
theorem dX12_cuckoo_24 : decode cX12_cuckoo 24 = .ok (.istore 4, 2) := by decide +kernel
theorem dX12_cuckoo_26 : decode cX12_cuckoo 26 = .ok (.iconst 0, 1) := by decide +kernel
theorem dX12_cuckoo_27 : decode cX12_cuckoo 27 = .ok (.istore 5, 2) := by decide +kernel
theorem dX12_cuckoo_29 : decode cX12_cuckoo 29 = .ok (.iconst (-1), 1) := by decide +kernel
theorem dX12_cuckoo_30 : decode cX12_cuckoo 30 = .ok (.istore 6, 2) := by decide +kernel
theorem dX12_cuckoo_32 : decode cX12_cuckoo 32 = .ok (.iconst 0, 1) := by decide +kernel
theorem dX12_cuckoo_33 : decode cX12_cuckoo 33 = .ok (.istore 7, 2) := by decide +kernel
theorem dX12_cuckoo_35 : decode cX12_cuckoo 35 = .ok (.iload 7, 2) := by decide +kernel
theorem dX12_cuckoo_37 : decode cX12_cuckoo 37 = .ok (.sipush 343, 3) := by decide +kernel
theorem dX12_cuckoo_40 : decode cX12_cuckoo 40 = .ok (.if_icmp .ge 92, 3) := by decide +kernel
theorem dX12_cuckoo_43 : decode cX12_cuckoo 43 = .ok (.aload_n 0, 1) := by decide +kernel
theorem dX12_cuckoo_44 : decode cX12_cuckoo 44 = .ok (.iload 7, 2) := by decide +kernel
theorem dX12_cuckoo_46 : decode cX12_cuckoo 46 = .ok (.invokevirtual 370, 3) := by decide +kernel
theorem dX12_cuckoo_49 : decode cX12_cuckoo 49 = .ok (.ifCond .eq 77, 3) := by decide +kernel
theorem dX12_cuckoo_52 : decode cX12_cuckoo 52 = .ok (.aload_n 0, 1) := by decide +kernel
theorem dX12_cuckoo_53 : decode cX12_cuckoo 53 = .ok (.iload 7, 2) := by decide +kernel
theorem dX12_cuckoo_55 : decode cX12_cuckoo 55 = .ok (.invokestatic 373, 3) := by decide +kernel
theorem dX12_cuckoo_58 : decode cX12_cuckoo 58 = .ok (.iconst 0, 1) := by decide +kernel
theorem dX12_cuckoo_59 : decode cX12_cuckoo 59 = .ok (.invokevirtual 348, 3) := by decide +kernel
theorem dX12_cuckoo_62 : decode cX12_cuckoo 62 = .ok (.iload_n 1, 1) := by decide +kernel
theorem dX12_cuckoo_63 : decode cX12_cuckoo 63 = .ok (.if_icmp .eq 6, 3) := by decide +kernel
theorem dX12_cuckoo_66 : decode cX12_cuckoo 66 = .ok (.goto 60, 3) := by decide +kernel
theorem dX12_cuckoo_69 : decode cX12_cuckoo 69 = .ok (.iinc 3 1, 3) := by decide +kernel
theorem dX12_cuckoo_72 : decode cX12_cuckoo 72 = .ok (.iload 4, 2) := by decide +kernel
theorem dX12_cuckoo_74 : decode cX12_cuckoo 74 = .ok (.iload 7, 2) := by decide +kernel
theorem dX12_cuckoo_76 : decode cX12_cuckoo 76 = .ok (.invokestatic 373, 3) := by decide +kernel
theorem dX12_cuckoo_79 : decode cX12_cuckoo 79 = .ok (.iand, 1) := by decide +kernel
theorem dX12_cuckoo_80 : decode cX12_cuckoo 80 = .ok (.istore 4, 2) := by decide +kernel
theorem dX12_cuckoo_82 : decode cX12_cuckoo 82 = .ok (.iload 5, 2) := by decide +kernel
theorem dX12_cuckoo_84 : decode cX12_cuckoo 84 = .ok (.iload 7, 2) := by decide +kernel
theorem dX12_cuckoo_86 : decode cX12_cuckoo 86 = .ok (.invokestatic 373, 3) := by decide +kernel
theorem dX12_cuckoo_89 : decode cX12_cuckoo 89 = .ok (.ior, 1) := by decide +kernel
theorem dX12_cuckoo_90 : decode cX12_cuckoo 90 = .ok (.istore 5, 2) := by decide +kernel
theorem dX12_cuckoo_92 : decode cX12_cuckoo 92 = .ok (.iload 6, 2) := by decide +kernel
theorem dX12_cuckoo_94 : decode cX12_cuckoo 94 = .ok (.iconst (-1), 1) := by decide +kernel
theorem dX12_cuckoo_95 : decode cX12_cuckoo 95 = .ok (.if_icmp .ne 31, 3) := by decide +kernel
theorem dX12_cuckoo_98 : decode cX12_cuckoo 98 = .ok (.bipush 100, 2) := by decide +kernel
theorem dX12_cuckoo_100 : decode cX12_cuckoo 100 = .ok (.iload 7, 2) := by decide +kernel
theorem dX12_cuckoo_102 : decode cX12_cuckoo 102 = .ok (.bipush 49, 2) := by decide +kernel
theorem dX12_cuckoo_104 : decode cX12_cuckoo 104 = .ok (.idiv, 1) := by decide +kernel
theorem dX12_cuckoo_105 : decode cX12_cuckoo 105 = .ok (.imul, 1) := by decide +kernel
theorem dX12_cuckoo_106 : decode cX12_cuckoo 106 = .ok (.bipush 10, 2) := by decide +kernel
theorem dX12_cuckoo_108 : decode cX12_cuckoo 108 = .ok (.iload 7, 2) := by decide +kernel
theorem dX12_cuckoo_110 : decode cX12_cuckoo 110 = .ok (.bipush 7, 2) := by decide +kernel
theorem dX12_cuckoo_112 : decode cX12_cuckoo 112 = .ok (.idiv, 1) := by decide +kernel
theorem dX12_cuckoo_113 : decode cX12_cuckoo 113 = .ok (.bipush 7, 2) := by decide +kernel
theorem dX12_cuckoo_115 : decode cX12_cuckoo 115 = .ok (.irem, 1) := by decide +kernel
theorem dX12_cuckoo_116 : decode cX12_cuckoo 116 = .ok (.imul, 1) := by decide +kernel
theorem dX12_cuckoo_117 : decode cX12_cuckoo 117 = .ok (.iadd, 1) := by decide +kernel
theorem dX12_cuckoo_118 : decode cX12_cuckoo 118 = .ok (.iload 7, 2) := by decide +kernel
theorem dX12_cuckoo_120 : decode cX12_cuckoo 120 = .ok (.bipush 7, 2) := by decide +kernel
theorem dX12_cuckoo_122 : decode cX12_cuckoo 122 = .ok (.irem, 1) := by decide +kernel
theorem dX12_cuckoo_123 : decode cX12_cuckoo 123 = .ok (.iadd, 1) := by decide +kernel
theorem dX12_cuckoo_124 : decode cX12_cuckoo 124 = .ok (.istore 6, 2) := by decide +kernel
theorem dX12_cuckoo_126 : decode cX12_cuckoo 126 = .ok (.iinc 7 1, 3) := by decide +kernel
theorem dX12_cuckoo_129 : decode cX12_cuckoo 129 = .ok (.goto (-94), 3) := by decide +kernel
theorem dX12_cuckoo_132 : decode cX12_cuckoo 132 = .ok (.iload_n 2, 1) := by decide +kernel
theorem dX12_cuckoo_133 : decode cX12_cuckoo 133 = .ok (.ifCond .ne 7, 3) := by decide +kernel
theorem dX12_cuckoo_136 : decode cX12_cuckoo 136 = .ok (.iload_n 3, 1) := by decide +kernel
theorem dX12_cuckoo_137 : decode cX12_cuckoo 137 = .ok (.goto 33, 3) := by decide +kernel
theorem dX12_cuckoo_140 : decode cX12_cuckoo 140 = .ok (.iload_n 2, 1) := by decide +kernel
theorem dX12_cuckoo_141 : decode cX12_cuckoo 141 = .ok (.iconst 1, 1) := by decide +kernel
theorem dX12_cuckoo_142 : decode cX12_cuckoo 142 = .ok (.if_icmp .ne 16, 3) := by decide +kernel
theorem dX12_cuckoo_145 : decode cX12_cuckoo 145 = .ok (.iload_n 3, 1) := by decide +kernel
theorem dX12_cuckoo_146 : decode cX12_cuckoo 146 = .ok (.ifCond .ne 7, 3) := by decide +kernel
theorem dX12_cuckoo_149 : decode cX12_cuckoo 149 = .ok (.iconst 0, 1) := by decide +kernel
theorem dX12_cuckoo_150 : decode cX12_cuckoo 150 = .ok (.goto 20, 3) := by decide +kernel
theorem dX12_cuckoo_153 : decode cX12_cuckoo 153 = .ok (.iload 4, 2) := by decide +kernel
theorem dX12_cuckoo_155 : decode cX12_cuckoo 155 = .ok (.goto 15, 3) := by decide +kernel
theorem dX12_cuckoo_158 : decode cX12_cuckoo 158 = .ok (.iload_n 2, 1) := by decide +kernel
theorem dX12_cuckoo_159 : decode cX12_cuckoo 159 = .ok (.iconst 2, 1) := by decide +kernel
theorem dX12_cuckoo_160 : decode cX12_cuckoo 160 = .ok (.if_icmp .ne 8, 3) := by decide +kernel
theorem dX12_cuckoo_163 : decode cX12_cuckoo 163 = .ok (.iload 5, 2) := by decide +kernel
theorem dX12_cuckoo_165 : decode cX12_cuckoo 165 = .ok (.goto 5, 3) := by decide +kernel
theorem dX12_cuckoo_168 : decode cX12_cuckoo 168 = .ok (.iload 6, 2) := by decide +kernel
theorem dX12_cuckoo_170 : decode cX12_cuckoo 170 = .ok (.ireturn, 1) := by decide +kernel
def fX12_cuckoo_0_L35 (E132 : Int32 → Int32 → Int32 → Int32 → Int32 → (Nat → Int32) → Option (Int32 × (Nat → Int32))) (V : Nat → Nat → Int32) : Nat → Int32 → Int32 → Int32 → Int32 → Int32 → Int32 → Int32 → (Nat → Int32) → Option (Int32 × (Nat → Int32))
  | 0, _, _, _, _, _, _, _, _ => none
  | n + 1, x8, x9, x10, x11, x12, x13, x14, S15 =>
    (if (343 : Int32) ≤ x14 then
    E132 x9 x10 x11 x12 x13 S15
    else
    bd1 (fX12_isCase_0 S15 V x14) (fun r17 =>
    bk (fun (x20 : Int32) (x21 : Int32) (x22 : Int32) (x23 : Int32) (x24 : Int32) (x25 : Int32) (x26 : Int32) (S27 : Nat → Int32) =>
    lt (x26 + (1 : Int32)) (fun x28 =>
    fX12_cuckoo_0_L35 E132 V n x20 x21 x22 x23 x24 x25 x28 S27)) (fun K126_19 =>
    (if r17 = 0 then
    K126_19 x8 x9 x10 x11 x12 x13 x14 S15
    else
    bd1 (fX12_setOf x14) (fun r30 =>
    bd1 (fX12_swingBy_0 S15 V r30 (0 : Int32)) (fun r32 =>
    (if r32 = x8 then
    lt (x10 + (1 : Int32)) (fun x35 =>
    bd1 (fX12_setOf x14) (fun r36 =>
    lt ((x11 &&& r36)) (fun x38 =>
    bd1 (fX12_setOf x14) (fun r39 =>
    lt ((x12 ||| r39)) (fun x41 =>
    (if x13 = (-1 : Int32) then
    lt ((x14 / (7 : Int32))) (fun x43 =>
    lt (((((100 : Int32) * (x14 / (49 : Int32))) + ((10 : Int32) * (x43 - x43 / (7 : Int32) * (7 : Int32)))) + (x14 - x14 / (7 : Int32) * (7 : Int32)))) (fun x44 =>
    K126_19 x8 x9 x35 x38 x41 x44 x14 S15))
    else
    K126_19 x8 x9 x35 x38 x41 x13 x14 S15))))))
    else
    K126_19 x8 x9 x10 x11 x12 x13 x14 S15)))))))
def fX12_cuckoo_0 (S : Nat → Int32) (V : Nat → Nat → Int32) (a1 : Int32) (a2 : Int32) : Option (Int32 × (Nat → Int32)) :=
  lt (va_up S 0 (0 : Int32)) (fun S1 =>
  bd1 (fX12_within a2 (0 : Int32) (3 : Int32)) (fun r2 =>
  bd2 (fX12_right_0 S1 r2 (1 : Int32)) (fun r4 S5 =>
  (if r4 = 0 then
  some ((0 : Int32), S5)
  else
  bk (fun (x52 : Int32) (x53 : Int32) (x54 : Int32) (x55 : Int32) (x56 : Int32) (S57 : Nat → Int32) =>
  (if x52 = 0 then
  some (x53, S57)
  else
  (if x52 = (1 : Int32) then
  (if x53 = 0 then
  some ((0 : Int32), S57)
  else
  some (x54, S57))
  else
  (if x52 = (2 : Int32) then
  some (x55, S57)
  else
  some (x56, S57))))) (fun X132_51 =>
  fX12_cuckoo_0_L35 X132_51 V FU a1 a2 (0 : Int32) (-1 : Int32) (0 : Int32) (-1 : Int32) (0 : Int32) S5)))))
set_option maxHeartbeats 4000000 in
set_option maxRecDepth 100000 in
theorem kX12_cuckoo_0 (l : Launch) (B : jBT) (D : va_G) (ad : Nat → Nat) (cA : Nat → ClassId) (hI : jI ad TR) (S : Nat → Int32) (V : Nat → Nat → Int32) (L : Nat → Int64) (a1 : Int32) (a2 : Int32) (r0 : Int32) (S0 : Nat → Int32) (h : fX12_cuckoo_0 S V a1 a2 = some (r0, S0)) : jM l yX12_cuckoo cX12_cuckoo 8 (some .int) ({ frames := 2, cells := 0, slots := 0, locals := 47 }) B D TR ad cA [.ref (ad 0), .int a1, .int a2] S V L (some (.int r0)) S0 V L := by
  refine jM_of (plainFor_of_name (by decide)) TR_ok hI (Nat.le_of_ble_eq_true rfl) ?_
  intro p e s m args below meth c C hr hlk
  refine j_lv (lv2 := [(0, .ref (ad 0)), (1, .int a1), (2, .int a2)]) rfl ?_
  unfold fX12_cuckoo_0 at h
  have H_fX12_cuckoo_0_L35 : ∀ (E132 : Int32 → Int32 → Int32 → Int32 → Int32 → (Nat → Int32) → Option (Int32 × (Nat → Int32))) (_ : ∀ (x45 : Int32) (x46 : Int32) (x47 : Int32) (x48 : Int32) (x49 : Int32) (S50 : Nat → Int32), E132 x45 x46 x47 x48 x49 S50 = some (r0, S0) → jW p l e ({ frames := 2, cells := 0, slots := 0, locals := 47 }) s m args below meth c (MQ below (jQc D TR ad cA (some (.int r0)) s.heap.size S0 V L) args s 0 0 (jA ad TR s.heap.size)) D TR ad cA (jA ad TR s.heap.size) 8 0 0 132 [(2, .int x45), (3, .int x46), (4, .int x47), (5, .int x48), (6, .int x49)] [] S50 V L) (n : Nat) (x8 : Int32) (x9 : Int32) (x10 : Int32) (x11 : Int32) (x12 : Int32) (x13 : Int32) (x14 : Int32) (S15 : Nat → Int32), fX12_cuckoo_0_L35 E132 V n x8 x9 x10 x11 x12 x13 x14 S15 = some (r0, S0) → jW p l e ({ frames := 2, cells := 0, slots := 0, locals := 47 }) s m args below meth c (MQ below (jQc D TR ad cA (some (.int r0)) s.heap.size S0 V L) args s 0 0 (jA ad TR s.heap.size)) D TR ad cA (jA ad TR s.heap.size) 8 0 0 35 [(0, .ref (ad 0)), (1, .int x8), (2, .int x9), (3, .int x10), (4, .int x11), (5, .int x12), (6, .int x13), (7, .int x14)] [] S15 V L := by
    intro E132 HE132
    intro n
    induction n with
    | zero =>
      intro x8 x9 x10 x11 x12 x13 x14 S15 h
      cases (show (none : Option (Int32 × (Nat → Int32))) = some (r0, S0) from h)
    | succ n ih =>
      intro x8 x9 x10 x11 x12 x13 x14 S15 h
      unfold fX12_cuckoo_0_L35 at h
      refine j_iload C 7 rfl dX12_cuckoo_35 ?_
      refine j_sipush C dX12_cuckoo_37 cs_343 ?_
      refine j_icmp_ge (tgt := 132) C dX12_cuckoo_40 (by decide) (fun c16 => ?_) (fun c16 => ?_)
      · have h := (if_pos c16).symm.trans h
        exact j_sub [2, 3, 4, 5, 6] rfl (HE132 _ _ _ _ _ _ h)
      · have h := (if_neg c16).symm.trans h
        refine j_aload_n C 0 rfl dX12_cuckoo_43 rfl ?_
        refine j_iload C 7 rfl dX12_cuckoo_44 ?_
        obtain ⟨r17, h18, h⟩ := bd1_elim h
        refine j_callV (As := [.int x14]) (rest := []) C (kX12_isCase_0 l B D ad cA hI S15 V L x14 _ h18) mw_X12_isCase wd1887 wd96 wd1885 tr_0 rfl rfl ⟨rfl, rfl, by decide, by decide⟩ ⟨Nat.zero_le _, Nat.zero_le _⟩ rfl rfl (Nat.le_of_ble_eq_true rfl) dX12_cuckoo_46 ?_
        refine bk_elim h (fun K126_19 e_K126_19 h => ?_)
        have HK126_19 : ∀ (x20 : Int32) (x21 : Int32) (x22 : Int32) (x23 : Int32) (x24 : Int32) (x25 : Int32) (x26 : Int32) (S27 : Nat → Int32), K126_19 x20 x21 x22 x23 x24 x25 x26 S27 = some (r0, S0) → jW p l e ({ frames := 2, cells := 0, slots := 0, locals := 47 }) s m args below meth c (MQ below (jQc D TR ad cA (some (.int r0)) s.heap.size S0 V L) args s 0 0 (jA ad TR s.heap.size)) D TR ad cA (jA ad TR s.heap.size) 8 0 0 126 [(0, .ref (ad 0)), (1, .int x20), (2, .int x21), (3, .int x22), (4, .int x23), (5, .int x24), (6, .int x25), (7, .int x26)] [] S27 V L := by
          subst e_K126_19
          intro x20 x21 x22 x23 x24 x25 x26 S27 h
          refine lt_elim h (fun x28 e_x28 h => ?_)
          refine j_iinc C [(7, .int x28), (0, .ref (ad 0)), (1, .int x20), (2, .int x21), (3, .int x22), (4, .int x23), (5, .int x24), (6, .int x25)] 7 dX12_cuckoo_126 rfl ((iinc_eq ci_1).trans e_x28.symm) (by decide) rfl ?_
          refine j_goto (tgt := 35) C dX12_cuckoo_129 (by decide) ?_
          exact j_sub [1, 2, 3, 4, 5, 6, 7, 0] rfl (ih _ _ _ _ _ _ _ _ h)
        refine j_if_eq (tgt := 126) C dX12_cuckoo_49 (by decide) (fun c29 => ?_) (fun c29 => ?_)
        · have h := (if_pos c29).symm.trans h
          exact j_sub [0, 1, 2, 3, 4, 5, 6, 7] rfl (HK126_19 _ _ _ _ _ _ _ _ h)
        · have h := (if_neg c29).symm.trans h
          refine j_aload_n C 0 rfl dX12_cuckoo_52 rfl ?_
          refine j_iload C 7 rfl dX12_cuckoo_53 ?_
          obtain ⟨r30, h31, h⟩ := bd1_elim h
          refine j_callS (As := [.int x14]) (rest := [.ref (ad 0)]) C (kX12_setOf l B D ad cA hI S15 V L x14 _ h31) mw_X12_setOf wd1890 wd1889 ⟨rfl, rfl, by decide, by decide⟩ ⟨Nat.zero_le _, Nat.zero_le _⟩ rfl rfl (Nat.le_of_ble_eq_true rfl) dX12_cuckoo_55 ?_
          refine j_iconst C dX12_cuckoo_58 ci_0 ?_
          obtain ⟨r32, h33, h⟩ := bd1_elim h
          refine j_callV (As := [.int r30, .int (0 : Int32)]) (rest := []) C (kX12_swingBy_0 l B D ad cA hI S15 V L r30 (0 : Int32) _ h33) mw_X12_swingBy wd1844 wd91 wd1842 tr_0 rfl rfl ⟨rfl, rfl, by decide, by decide⟩ ⟨Nat.zero_le _, Nat.zero_le _⟩ rfl rfl (Nat.le_of_ble_eq_true rfl) dX12_cuckoo_59 ?_
          refine j_iload_n C 1 rfl dX12_cuckoo_62 rfl ?_
          refine j_icmp_eq (tgt := 69) C dX12_cuckoo_63 (by decide) (fun c34 => ?_) (fun c34 => ?_)
          · have h := (if_pos c34).symm.trans h
            refine lt_elim h (fun x35 e_x35 h => ?_)
            refine j_iinc C [(3, .int x35), (0, .ref (ad 0)), (1, .int x8), (2, .int x9), (4, .int x11), (5, .int x12), (6, .int x13), (7, .int x14)] 3 dX12_cuckoo_69 rfl ((iinc_eq ci_1).trans e_x35.symm) (by decide) rfl ?_
            refine j_iload C 4 rfl dX12_cuckoo_72 ?_
            refine j_iload C 7 rfl dX12_cuckoo_74 ?_
            obtain ⟨r36, h37, h⟩ := bd1_elim h
            refine j_callS (As := [.int x14]) (rest := [.int x11]) C (kX12_setOf l B D ad cA hI S15 V L x14 _ h37) mw_X12_setOf wd1890 wd1889 ⟨rfl, rfl, by decide, by decide⟩ ⟨Nat.zero_le _, Nat.zero_le _⟩ rfl rfl (Nat.le_of_ble_eq_true rfl) dX12_cuckoo_76 ?_
            refine j_iand C dX12_cuckoo_79 ?_
            refine lt_elim h (fun x38 e_x38 h => ?_)
            refine j_top e_x38 ?_
            refine j_istore C [(4, .int x38), (3, .int x35), (0, .ref (ad 0)), (1, .int x8), (2, .int x9), (5, .int x12), (6, .int x13), (7, .int x14)] dX12_cuckoo_80 (by decide) rfl ?_
            refine j_iload C 5 rfl dX12_cuckoo_82 ?_
            refine j_iload C 7 rfl dX12_cuckoo_84 ?_
            obtain ⟨r39, h40, h⟩ := bd1_elim h
            refine j_callS (As := [.int x14]) (rest := [.int x12]) C (kX12_setOf l B D ad cA hI S15 V L x14 _ h40) mw_X12_setOf wd1890 wd1889 ⟨rfl, rfl, by decide, by decide⟩ ⟨Nat.zero_le _, Nat.zero_le _⟩ rfl rfl (Nat.le_of_ble_eq_true rfl) dX12_cuckoo_86 ?_
            refine j_ior C dX12_cuckoo_89 ?_
            refine lt_elim h (fun x41 e_x41 h => ?_)
            refine j_top e_x41 ?_
            refine j_istore C [(5, .int x41), (4, .int x38), (3, .int x35), (0, .ref (ad 0)), (1, .int x8), (2, .int x9), (6, .int x13), (7, .int x14)] dX12_cuckoo_90 (by decide) rfl ?_
            refine j_iload C 6 rfl dX12_cuckoo_92 ?_
            refine j_iconst C dX12_cuckoo_94 ci_m1 ?_
            refine j_icmp_ne (tgt := 126) C dX12_cuckoo_95 (by decide) (fun c42 => ?_) (fun c42 => ?_)
            · have h := (if_neg c42).symm.trans h
              exact j_sub [3, 4, 5, 2, 1, 0, 6, 7] rfl (HK126_19 _ _ _ _ _ _ _ _ h)
            · have h := (if_pos c42).symm.trans h
              refine j_bipush C dX12_cuckoo_98 cb_100 ?_
              refine j_iload C 7 rfl dX12_cuckoo_100 ?_
              refine j_bipush C dX12_cuckoo_102 cb_49 ?_
              refine j_idiv C dX12_cuckoo_104 (by decide) ?_
              refine j_imul C dX12_cuckoo_105 ?_
              refine j_bipush C dX12_cuckoo_106 cb_10 ?_
              refine j_iload C 7 rfl dX12_cuckoo_108 ?_
              refine j_bipush C dX12_cuckoo_110 cb_7 ?_
              refine j_idiv C dX12_cuckoo_112 (by decide) ?_
              refine j_bipush C dX12_cuckoo_113 cb_7 ?_
              refine lt_elim h (fun x43 e_x43 h => ?_)
              refine j_top2 e_x43 ?_
              refine j_irem C dX12_cuckoo_115 (by decide) ?_
              refine j_imul C dX12_cuckoo_116 ?_
              refine j_iadd C dX12_cuckoo_117 ?_
              refine j_iload C 7 rfl dX12_cuckoo_118 ?_
              refine j_bipush C dX12_cuckoo_120 cb_7 ?_
              refine j_irem C dX12_cuckoo_122 (by decide) ?_
              refine j_iadd C dX12_cuckoo_123 ?_
              refine lt_elim h (fun x44 e_x44 h => ?_)
              refine j_top e_x44 ?_
              refine j_istore C [(6, .int x44), (5, .int x41), (4, .int x38), (3, .int x35), (0, .ref (ad 0)), (1, .int x8), (2, .int x9), (7, .int x14)] dX12_cuckoo_124 (by decide) rfl ?_
              exact j_sub [4, 5, 6, 3, 2, 1, 0, 7] rfl (HK126_19 _ _ _ _ _ _ _ _ h)
          · have h := (if_neg c34).symm.trans h
            refine j_goto (tgt := 126) C dX12_cuckoo_66 (by decide) ?_
            exact j_sub [0, 1, 2, 3, 4, 5, 6, 7] rfl (HK126_19 _ _ _ _ _ _ _ _ h)
  refine j_aload_n C 0 rfl dX12_cuckoo_0 rfl ?_
  refine j_iconst C dX12_cuckoo_1 ci_0 ?_
  refine fp_X12_93_TR_0 C dX12_cuckoo_2 ?_
  refine lt_elim h (fun S1 e_S1 h => ?_)
  refine j_S e_S1 ?_
  refine j_aload_n C 0 rfl dX12_cuckoo_5 rfl ?_
  refine j_iload_n C 2 rfl dX12_cuckoo_6 rfl ?_
  refine j_iconst C dX12_cuckoo_7 ci_0 ?_
  refine j_iconst C dX12_cuckoo_8 ci_3 ?_
  obtain ⟨r2, h3, h⟩ := bd1_elim h
  refine j_callS (As := [.int a2, .int (0 : Int32), .int (3 : Int32)]) (rest := [.ref (ad 0)]) C (kX12_within l B D ad cA hI S1 V L a2 (0 : Int32) (3 : Int32) _ h3) mw_X12_within wd1760 wd1759 ⟨rfl, rfl, by decide, by decide⟩ ⟨Nat.zero_le _, Nat.zero_le _⟩ rfl rfl (Nat.le_of_ble_eq_true rfl) dX12_cuckoo_9 ?_
  refine j_iconst C dX12_cuckoo_12 ci_1 ?_
  obtain ⟨r4, S5, h6, h⟩ := bd2_elim h
  refine j_callV (As := [.int r2, .int (1 : Int32)]) (rest := []) C (kX12_right_0 l B D ad cA hI S1 V L r2 (1 : Int32) _ _ h6) mw_X12_right wd1638 wd56 wd1636 tr_0 rfl rfl ⟨rfl, rfl, by decide, by decide⟩ ⟨Nat.zero_le _, Nat.zero_le _⟩ rfl rfl (Nat.le_of_ble_eq_true rfl) dX12_cuckoo_13 ?_
  refine j_if_ne (tgt := 21) C dX12_cuckoo_16 (by decide) (fun c7 => ?_) (fun c7 => ?_)
  · have h := (if_neg c7).symm.trans h
    refine j_iconst C dX12_cuckoo_21 ci_0 ?_
    refine j_istore_n C [(3, .int (0 : Int32)), (0, .ref (ad 0)), (1, .int a1), (2, .int a2)] dX12_cuckoo_22 rfl (by decide) rfl ?_
    refine j_iconst C dX12_cuckoo_23 ci_m1 ?_
    refine j_istore C [(4, .int (-1 : Int32)), (3, .int (0 : Int32)), (0, .ref (ad 0)), (1, .int a1), (2, .int a2)] dX12_cuckoo_24 (by decide) rfl ?_
    refine j_iconst C dX12_cuckoo_26 ci_0 ?_
    refine j_istore C [(5, .int (0 : Int32)), (4, .int (-1 : Int32)), (3, .int (0 : Int32)), (0, .ref (ad 0)), (1, .int a1), (2, .int a2)] dX12_cuckoo_27 (by decide) rfl ?_
    refine j_iconst C dX12_cuckoo_29 ci_m1 ?_
    refine j_istore C [(6, .int (-1 : Int32)), (5, .int (0 : Int32)), (4, .int (-1 : Int32)), (3, .int (0 : Int32)), (0, .ref (ad 0)), (1, .int a1), (2, .int a2)] dX12_cuckoo_30 (by decide) rfl ?_
    refine j_iconst C dX12_cuckoo_32 ci_0 ?_
    refine j_istore C [(7, .int (0 : Int32)), (6, .int (-1 : Int32)), (5, .int (0 : Int32)), (4, .int (-1 : Int32)), (3, .int (0 : Int32)), (0, .ref (ad 0)), (1, .int a1), (2, .int a2)] dX12_cuckoo_33 (by decide) rfl ?_
    refine bk_elim h (fun X132_51 e_X132_51 h => ?_)
    have HX132_51 : ∀ (x52 : Int32) (x53 : Int32) (x54 : Int32) (x55 : Int32) (x56 : Int32) (S57 : Nat → Int32), X132_51 x52 x53 x54 x55 x56 S57 = some (r0, S0) → jW p l e ({ frames := 2, cells := 0, slots := 0, locals := 47 }) s m args below meth c (MQ below (jQc D TR ad cA (some (.int r0)) s.heap.size S0 V L) args s 0 0 (jA ad TR s.heap.size)) D TR ad cA (jA ad TR s.heap.size) 8 0 0 132 [(2, .int x52), (3, .int x53), (4, .int x54), (5, .int x55), (6, .int x56)] [] S57 V L := by
      subst e_X132_51
      intro x52 x53 x54 x55 x56 S57 h
      refine j_iload_n C 0 rfl dX12_cuckoo_132 rfl ?_
      refine j_if_ne (tgt := 140) C dX12_cuckoo_133 (by decide) (fun c58 => ?_) (fun c58 => ?_)
      · have h := (if_neg c58).symm.trans h
        refine j_iload_n C 0 rfl dX12_cuckoo_140 rfl ?_
        refine j_iconst C dX12_cuckoo_141 ci_1 ?_
        refine j_icmp_ne (tgt := 158) C dX12_cuckoo_142 (by decide) (fun c59 => ?_) (fun c59 => ?_)
        · have h := (if_neg c59).symm.trans h
          refine j_iload_n C 0 rfl dX12_cuckoo_158 rfl ?_
          refine j_iconst C dX12_cuckoo_159 ci_2 ?_
          refine j_icmp_ne (tgt := 168) C dX12_cuckoo_160 (by decide) (fun c60 => ?_) (fun c60 => ?_)
          · have h := (if_neg c60).symm.trans h
            refine j_iload C 4 rfl dX12_cuckoo_168 ?_
            cases h
            exact j_iret C hr hlk rfl dX12_cuckoo_170
          · have h := (if_pos c60).symm.trans h
            refine j_iload C 3 rfl dX12_cuckoo_163 ?_
            refine j_goto (tgt := 170) C dX12_cuckoo_165 (by decide) ?_
            cases h
            exact j_iret C hr hlk rfl dX12_cuckoo_170
        · have h := (if_pos c59).symm.trans h
          refine j_iload_n C 1 rfl dX12_cuckoo_145 rfl ?_
          refine j_if_ne (tgt := 153) C dX12_cuckoo_146 (by decide) (fun c61 => ?_) (fun c61 => ?_)
          · have h := (if_neg c61).symm.trans h
            refine j_iload C 2 rfl dX12_cuckoo_153 ?_
            refine j_goto (tgt := 170) C dX12_cuckoo_155 (by decide) ?_
            cases h
            exact j_iret C hr hlk rfl dX12_cuckoo_170
          · have h := (if_pos c61).symm.trans h
            refine j_iconst C dX12_cuckoo_149 ci_0 ?_
            refine j_goto (tgt := 170) C dX12_cuckoo_150 (by decide) ?_
            cases h
            exact j_iret C hr hlk rfl dX12_cuckoo_170
      · have h := (if_pos c58).symm.trans h
        refine j_iload_n C 1 rfl dX12_cuckoo_136 rfl ?_
        refine j_goto (tgt := 170) C dX12_cuckoo_137 (by decide) ?_
        cases h
        exact j_iret C hr hlk rfl dX12_cuckoo_170
    exact j_sub [5, 6, 7, 4, 3, 2, 1, 0] rfl (H_fX12_cuckoo_0_L35 _ HX132_51 FU _ _ _ _ _ _ _ _ h)
  · have h := (if_pos c7).symm.trans h
    refine j_iconst C dX12_cuckoo_19 ci_0 ?_
    cases h
    exact j_iret C hr hlk rfl dX12_cuckoo_20
