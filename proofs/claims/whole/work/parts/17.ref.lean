theorem dX12_spelled_0 : decode cX12_spelled 0 = .ok (.iload_n 0, 1) := by decide +kernel
theorem dX12_spelled_1 : decode cX12_spelled 1 = .ok (.i2l, 1) := by decide +kernel
theorem dX12_spelled_2 : decode cX12_spelled 2 = .ok (.ldc2_w 139, 3) := by decide +kernel
theorem dX12_spelled_5 : decode cX12_spelled 5 = .ok (.lsub, 1) := by decide +kernel
theorem dX12_spelled_6 : decode cX12_spelled 6 = .ok (.iconst 5, 1) := by decide +kernel
theorem dX12_spelled_7 : decode cX12_spelled 7 = .ok (.lshl, 1) := by decide +kernel
theorem dX12_spelled_8 : decode cX12_spelled 8 = .ok (.iload_n 1, 1) := by decide +kernel
theorem dX12_spelled_9 : decode cX12_spelled 9 = .ok (.bipush 96, 2) := by decide +kernel
theorem dX12_spelled_11 : decode cX12_spelled 11 = .ok (.isub, 1) := by decide +kernel
theorem dX12_spelled_12 : decode cX12_spelled 12 = .ok (.i2l, 1) := by decide +kernel
theorem dX12_spelled_13 : decode cX12_spelled 13 = .ok (.lor, 1) := by decide +kernel
theorem dX12_spelled_14 : decode cX12_spelled 14 = .ok (.lstore 8, 2) := by decide +kernel
theorem dX12_spelled_16 : decode cX12_spelled 16 = .ok (.iload_n 2, 1) := by decide +kernel
theorem dX12_spelled_17 : decode cX12_spelled 17 = .ok (.ifCond .eq 15, 3) := by decide +kernel
theorem dX12_spelled_20 : decode cX12_spelled 20 = .ok (.lload 8, 2) := by decide +kernel
theorem dX12_spelled_22 : decode cX12_spelled 22 = .ok (.iconst 5, 1) := by decide +kernel
theorem dX12_spelled_23 : decode cX12_spelled 23 = .ok (.lshl, 1) := by decide +kernel
theorem dX12_spelled_24 : decode cX12_spelled 24 = .ok (.iload_n 2, 1) := by decide +kernel
theorem dX12_spelled_25 : decode cX12_spelled 25 = .ok (.bipush 96, 2) := by decide +kernel
theorem dX12_spelled_27 : decode cX12_spelled 27 = .ok (.isub, 1) := by decide +kernel
theorem dX12_spelled_28 : decode cX12_spelled 28 = .ok (.i2l, 1) := by decide +kernel
theorem dX12_spelled_29 : decode cX12_spelled 29 = .ok (.lor, 1) := by decide +kernel
theorem dX12_spelled_30 : decode cX12_spelled 30 = .ok (.lstore 8, 2) := by decide +kernel
theorem dX12_spelled_32 : decode cX12_spelled 32 = .ok (.iload_n 3, 1) := by decide +kernel
theorem dX12_spelled_33 : decode cX12_spelled 33 = .ok (.ifCond .eq 15, 3) := by decide +kernel
theorem dX12_spelled_36 : decode cX12_spelled 36 = .ok (.lload 8, 2) := by decide +kernel
theorem dX12_spelled_38 : decode cX12_spelled 38 = .ok (.iconst 5, 1) := by decide +kernel
theorem dX12_spelled_39 : decode cX12_spelled 39 = .ok (.lshl, 1) := by decide +kernel
theorem dX12_spelled_40 : decode cX12_spelled 40 = .ok (.iload_n 3, 1) := by decide +kernel
theorem dX12_spelled_41 : decode cX12_spelled 41 = .ok (.bipush 96, 2) := by decide +kernel
theorem dX12_spelled_43 : decode cX12_spelled 43 = .ok (.isub, 1) := by decide +kernel
theorem dX12_spelled_44 : decode cX12_spelled 44 = .ok (.i2l, 1) := by decide +kernel
theorem dX12_spelled_45 : decode cX12_spelled 45 = .ok (.lor, 1) := by decide +kernel
theorem dX12_spelled_46 : decode cX12_spelled 46 = .ok (.lstore 8, 2) := by decide +kernel
theorem dX12_spelled_48 : decode cX12_spelled 48 = .ok (.iload 4, 2) := by decide +kernel
theorem dX12_spelled_50 : decode cX12_spelled 50 = .ok (.ifCond .eq 16, 3) := by decide +kernel
theorem dX12_spelled_53 : decode cX12_spelled 53 = .ok (.lload 8, 2) := by decide +kernel
theorem dX12_spelled_55 : decode cX12_spelled 55 = .ok (.iconst 5, 1) := by decide +kernel
theorem dX12_spelled_56 : decode cX12_spelled 56 = .ok (.lshl, 1) := by decide +kernel
theorem dX12_spelled_57 : decode cX12_spelled 57 = .ok (.iload 4, 2) := by decide +kernel
theorem dX12_spelled_59 : decode cX12_spelled 59 = .ok (.bipush 96, 2) := by decide +kernel
theorem dX12_spelled_61 : decode cX12_spelled 61 = .ok (.isub, 1) := by decide +kernel
theorem dX12_spelled_62 : decode cX12_spelled 62 = .ok (.i2l, 1) := by decide +kernel
theorem dX12_spelled_63 : decode cX12_spelled 63 = .ok (.lor, 1) := by decide +kernel
theorem dX12_spelled_64 : decode cX12_spelled 64 = .ok (.lstore 8, 2) := by decide +kernel
theorem dX12_spelled_66 : decode cX12_spelled 66 = .ok (.iload 5, 2) := by decide +kernel
theorem dX12_spelled_68 : decode cX12_spelled 68 = .ok (.ifCond .eq 16, 3) := by decide +kernel
theorem dX12_spelled_71 : decode cX12_spelled 71 = .ok (.lload 8, 2) := by decide +kernel
theorem dX12_spelled_73 : decode cX12_spelled 73 = .ok (.iconst 5, 1) := by decide +kernel
theorem dX12_spelled_74 : decode cX12_spelled 74 = .ok (.lshl, 1) := by decide +kernel
theorem dX12_spelled_75 : decode cX12_spelled 75 = .ok (.iload 5, 2) := by decide +kernel
theorem dX12_spelled_77 : decode cX12_spelled 77 = .ok (.bipush 96, 2) := by decide +kernel
theorem dX12_spelled_79 : decode cX12_spelled 79 = .ok (.isub, 1) := by decide +kernel
theorem dX12_spelled_80 : decode cX12_spelled 80 = .ok (.i2l, 1) := by decide +kernel
theorem dX12_spelled_81 : decode cX12_spelled 81 = .ok (.lor, 1) := by decide +kernel
theorem dX12_spelled_82 : decode cX12_spelled 82 = .ok (.lstore 8, 2) := by decide +kernel
theorem dX12_spelled_84 : decode cX12_spelled 84 = .ok (.iload 6, 2) := by decide +kernel
theorem dX12_spelled_86 : decode cX12_spelled 86 = .ok (.ifCond .eq 16, 3) := by decide +kernel
theorem dX12_spelled_89 : decode cX12_spelled 89 = .ok (.lload 8, 2) := by decide +kernel
theorem dX12_spelled_91 : decode cX12_spelled 91 = .ok (.iconst 5, 1) := by decide +kernel
theorem dX12_spelled_92 : decode cX12_spelled 92 = .ok (.lshl, 1) := by decide +kernel
theorem dX12_spelled_93 : decode cX12_spelled 93 = .ok (.iload 6, 2) := by decide +kernel
theorem dX12_spelled_95 : decode cX12_spelled 95 = .ok (.bipush 96, 2) := by decide +kernel
theorem dX12_spelled_97 : decode cX12_spelled 97 = .ok (.isub, 1) := by decide +kernel
theorem dX12_spelled_98 : decode cX12_spelled 98 = .ok (.i2l, 1) := by decide +kernel
theorem dX12_spelled_99 : decode cX12_spelled 99 = .ok (.lor, 1) := by decide +kernel
theorem dX12_spelled_100 : decode cX12_spelled 100 = .ok (.lstore 8, 2) := by decide +kernel
theorem dX12_spelled_102 : decode cX12_spelled 102 = .ok (.iload 7, 2) := by decide +kernel
theorem dX12_spelled_104 : decode cX12_spelled 104 = .ok (.ifCond .eq 16, 3) := by decide +kernel
theorem dX12_spelled_107 : decode cX12_spelled 107 = .ok (.lload 8, 2) := by decide +kernel
theorem dX12_spelled_109 : decode cX12_spelled 109 = .ok (.iconst 5, 1) := by decide +kernel
theorem dX12_spelled_110 : decode cX12_spelled 110 = .ok (.lshl, 1) := by decide +kernel
theorem dX12_spelled_111 : decode cX12_spelled 111 = .ok (.iload 7, 2) := by decide +kernel
theorem dX12_spelled_113 : decode cX12_spelled 113 = .ok (.bipush 96, 2) := by decide +kernel
theorem dX12_spelled_115 : decode cX12_spelled 115 = .ok (.isub, 1) := by decide +kernel
theorem dX12_spelled_116 : decode cX12_spelled 116 = .ok (.i2l, 1) := by decide +kernel
theorem dX12_spelled_117 : decode cX12_spelled 117 = .ok (.lor, 1) := by decide +kernel
theorem dX12_spelled_118 : decode cX12_spelled 118 = .ok (.lstore 8, 2) := by decide +kernel
theorem dX12_spelled_120 : decode cX12_spelled 120 = .ok (.lload 8, 2) := by decide +kernel
theorem dX12_spelled_122 : decode cX12_spelled 122 = .ok (.lreturn, 1) := by decide +kernel
def fX12_spelled (a1 : Int32) (a2 : Int32) (a3 : Int32) (a4 : Int32) (a5 : Int32) (a6 : Int32) (a7 : Int32) (a8 : Int32) : Option (Int64) :=
  lt ((((((a1).toInt64) - (96 : Int64)) <<< (((5 : Int32)).toInt64 &&& 63)) ||| (((a2 - (96 : Int32))).toInt64))) (fun y1 =>
  bk (fun (x3 : Int32) (x4 : Int32) (x5 : Int32) (x6 : Int32) (x7 : Int32) (y8 : Int64) =>
  bk (fun (x10 : Int32) (x11 : Int32) (x12 : Int32) (x13 : Int32) (y14 : Int64) =>
  bk (fun (x16 : Int32) (x17 : Int32) (x18 : Int32) (y19 : Int64) =>
  bk (fun (x21 : Int32) (x22 : Int32) (y23 : Int64) =>
  bk (fun (x25 : Int32) (y26 : Int64) =>
  (if x25 = 0 then
  some y26
  else
  lt (((y26 <<< (((5 : Int32)).toInt64 &&& 63)) ||| (((x25 - (96 : Int32))).toInt64))) (fun y28 =>
  some y28))) (fun K102_24 =>
  (if x21 = 0 then
  K102_24 x22 y23
  else
  lt (((y23 <<< (((5 : Int32)).toInt64 &&& 63)) ||| (((x21 - (96 : Int32))).toInt64))) (fun y30 =>
  K102_24 x22 y30)))) (fun K84_20 =>
  (if x16 = 0 then
  K84_20 x17 x18 y19
  else
  lt (((y19 <<< (((5 : Int32)).toInt64 &&& 63)) ||| (((x16 - (96 : Int32))).toInt64))) (fun y32 =>
  K84_20 x17 x18 y32)))) (fun K66_15 =>
  (if x10 = 0 then
  K66_15 x11 x12 x13 y14
  else
  lt (((y14 <<< (((5 : Int32)).toInt64 &&& 63)) ||| (((x10 - (96 : Int32))).toInt64))) (fun y34 =>
  K66_15 x11 x12 x13 y34)))) (fun K48_9 =>
  (if x3 = 0 then
  K48_9 x4 x5 x6 x7 y8
  else
  lt (((y8 <<< (((5 : Int32)).toInt64 &&& 63)) ||| (((x3 - (96 : Int32))).toInt64))) (fun y36 =>
  K48_9 x4 x5 x6 x7 y36)))) (fun K32_2 =>
  (if a3 = 0 then
  K32_2 a4 a5 a6 a7 a8 y1
  else
  lt (((y1 <<< (((5 : Int32)).toInt64 &&& 63)) ||| (((a3 - (96 : Int32))).toInt64))) (fun y38 =>
  K32_2 a4 a5 a6 a7 a8 y38))))
set_option maxHeartbeats 4000000 in
set_option maxRecDepth 100000 in
theorem kX12_spelled (l : Launch) (B : jBT) (D : va_G) (ad : Nat → Nat) (cA : Nat → ClassId) (hI : jI ad TR) (S : Nat → Int32) (V : Nat → Nat → Int32) (L : Nat → Int64) (a1 : Int32) (a2 : Int32) (a3 : Int32) (a4 : Int32) (a5 : Int32) (a6 : Int32) (a7 : Int32) (a8 : Int32) (r0 : Int64) (h : fX12_spelled a1 a2 a3 a4 a5 a6 a7 a8 = some r0) : jM l yX12_spelled cX12_spelled 10 (some .long) ({ frames := 0, cells := 0, slots := 0, locals := 0 }) B D TR ad cA [.int a1, .int a2, .int a3, .int a4, .int a5, .int a6, .int a7, .int a8] S V L (some (.long r0)) S V L := by
  refine jM_of (plainFor_of_name (by decide)) TR_ok hI (Nat.le_of_ble_eq_true rfl) ?_
  intro p e s m args below meth c C hr hlk
  refine j_lv (lv2 := [(0, .int a1), (1, .int a2), (2, .int a3), (3, .int a4), (4, .int a5), (5, .int a6), (6, .int a7), (7, .int a8)]) rfl ?_
  unfold fX12_spelled at h
  refine j_iload_n C 0 rfl dX12_spelled_0 rfl ?_
  refine j_i2l C dX12_spelled_1 ?_
  refine j_ldc2 C wd1672 dX12_spelled_2 ?_
  refine j_lsub C dX12_spelled_5 ?_
  refine j_iconst C dX12_spelled_6 ci_5 ?_
  refine j_lshl C dX12_spelled_7 ?_
  refine j_iload_n C 1 rfl dX12_spelled_8 rfl ?_
  refine j_bipush C dX12_spelled_9 cb_96 ?_
  refine j_isub C dX12_spelled_11 ?_
  refine j_i2l C dX12_spelled_12 ?_
  refine j_lor C dX12_spelled_13 ?_
  refine lt_elim h (fun y1 e_y1 h => ?_)
  refine j_topl e_y1 ?_
  refine j_lstore C [(8, .long y1), (0, .int a1), (1, .int a2), (2, .int a3), (3, .int a4), (4, .int a5), (5, .int a6), (6, .int a7), (7, .int a8)] dX12_spelled_14 (by decide) rfl ?_
  refine j_iload_n C 3 rfl dX12_spelled_16 rfl ?_
  refine bk_elim h (fun K32_2 e_K32_2 h => ?_)
  have HK32_2 : ∀ (x3 : Int32) (x4 : Int32) (x5 : Int32) (x6 : Int32) (x7 : Int32) (y8 : Int64), K32_2 x3 x4 x5 x6 x7 y8 = some r0 → jW p l e ({ frames := 0, cells := 0, slots := 0, locals := 0 }) s m args below meth c (MQ below (jQc D TR ad cA (some (.long r0)) s.heap.size S V L) args s 0 0 (jA ad TR s.heap.size)) D TR ad cA (jA ad TR s.heap.size) 10 0 0 32 [(3, .int x3), (4, .int x4), (5, .int x5), (6, .int x6), (7, .int x7), (8, .long y8)] [] S V L := by
    subst e_K32_2
    intro x3 x4 x5 x6 x7 y8 h
    refine j_iload_n C 0 rfl dX12_spelled_32 rfl ?_
    refine bk_elim h (fun K48_9 e_K48_9 h => ?_)
    have HK48_9 : ∀ (x10 : Int32) (x11 : Int32) (x12 : Int32) (x13 : Int32) (y14 : Int64), K48_9 x10 x11 x12 x13 y14 = some r0 → jW p l e ({ frames := 0, cells := 0, slots := 0, locals := 0 }) s m args below meth c (MQ below (jQc D TR ad cA (some (.long r0)) s.heap.size S V L) args s 0 0 (jA ad TR s.heap.size)) D TR ad cA (jA ad TR s.heap.size) 10 0 0 48 [(4, .int x10), (5, .int x11), (6, .int x12), (7, .int x13), (8, .long y14)] [] S V L := by
      subst e_K48_9
      intro x10 x11 x12 x13 y14 h
      refine j_iload C 0 rfl dX12_spelled_48 ?_
      refine bk_elim h (fun K66_15 e_K66_15 h => ?_)
      have HK66_15 : ∀ (x16 : Int32) (x17 : Int32) (x18 : Int32) (y19 : Int64), K66_15 x16 x17 x18 y19 = some r0 → jW p l e ({ frames := 0, cells := 0, slots := 0, locals := 0 }) s m args below meth c (MQ below (jQc D TR ad cA (some (.long r0)) s.heap.size S V L) args s 0 0 (jA ad TR s.heap.size)) D TR ad cA (jA ad TR s.heap.size) 10 0 0 66 [(5, .int x16), (6, .int x17), (7, .int x18), (8, .long y19)] [] S V L := by
        subst e_K66_15
        intro x16 x17 x18 y19 h
        refine j_iload C 0 rfl dX12_spelled_66 ?_
        refine bk_elim h (fun K84_20 e_K84_20 h => ?_)
        have HK84_20 : ∀ (x21 : Int32) (x22 : Int32) (y23 : Int64), K84_20 x21 x22 y23 = some r0 → jW p l e ({ frames := 0, cells := 0, slots := 0, locals := 0 }) s m args below meth c (MQ below (jQc D TR ad cA (some (.long r0)) s.heap.size S V L) args s 0 0 (jA ad TR s.heap.size)) D TR ad cA (jA ad TR s.heap.size) 10 0 0 84 [(6, .int x21), (7, .int x22), (8, .long y23)] [] S V L := by
          subst e_K84_20
          intro x21 x22 y23 h
          refine j_iload C 0 rfl dX12_spelled_84 ?_
          refine bk_elim h (fun K102_24 e_K102_24 h => ?_)
          have HK102_24 : ∀ (x25 : Int32) (y26 : Int64), K102_24 x25 y26 = some r0 → jW p l e ({ frames := 0, cells := 0, slots := 0, locals := 0 }) s m args below meth c (MQ below (jQc D TR ad cA (some (.long r0)) s.heap.size S V L) args s 0 0 (jA ad TR s.heap.size)) D TR ad cA (jA ad TR s.heap.size) 10 0 0 102 [(7, .int x25), (8, .long y26)] [] S V L := by
            subst e_K102_24
            intro x25 y26 h
            refine j_iload C 0 rfl dX12_spelled_102 ?_
            refine j_if_eq (tgt := 120) C dX12_spelled_104 (by decide) (fun c27 => ?_) (fun c27 => ?_)
            · have h := (if_pos c27).symm.trans h
              refine j_lload C 1 rfl dX12_spelled_120 ?_
              cases h
              exact j_lret C hr hlk rfl dX12_spelled_122
            · have h := (if_neg c27).symm.trans h
              refine j_lload C 1 rfl dX12_spelled_107 ?_
              refine j_iconst C dX12_spelled_109 ci_5 ?_
              refine j_lshl C dX12_spelled_110 ?_
              refine j_iload C 0 rfl dX12_spelled_111 ?_
              refine j_bipush C dX12_spelled_113 cb_96 ?_
              refine j_isub C dX12_spelled_115 ?_
              refine j_i2l C dX12_spelled_116 ?_
              refine j_lor C dX12_spelled_117 ?_
              refine lt_elim h (fun y28 e_y28 h => ?_)
              refine j_topl e_y28 ?_
              refine j_lstore C [(8, .long y28), (7, .int x25)] dX12_spelled_118 (by decide) rfl ?_
              refine j_lload C 0 rfl dX12_spelled_120 ?_
              cases h
              exact j_lret C hr hlk rfl dX12_spelled_122
          refine j_if_eq (tgt := 102) C dX12_spelled_86 (by decide) (fun c29 => ?_) (fun c29 => ?_)
          · have h := (if_pos c29).symm.trans h
            exact j_sub [1, 2] rfl (HK102_24 _ _ h)
          · have h := (if_neg c29).symm.trans h
            refine j_lload C 2 rfl dX12_spelled_89 ?_
            refine j_iconst C dX12_spelled_91 ci_5 ?_
            refine j_lshl C dX12_spelled_92 ?_
            refine j_iload C 0 rfl dX12_spelled_93 ?_
            refine j_bipush C dX12_spelled_95 cb_96 ?_
            refine j_isub C dX12_spelled_97 ?_
            refine j_i2l C dX12_spelled_98 ?_
            refine j_lor C dX12_spelled_99 ?_
            refine lt_elim h (fun y30 e_y30 h => ?_)
            refine j_topl e_y30 ?_
            refine j_lstore C [(8, .long y30), (6, .int x21), (7, .int x22)] dX12_spelled_100 (by decide) rfl ?_
            exact j_sub [2, 0] rfl (HK102_24 _ _ h)
        refine j_if_eq (tgt := 84) C dX12_spelled_68 (by decide) (fun c31 => ?_) (fun c31 => ?_)
        · have h := (if_pos c31).symm.trans h
          exact j_sub [1, 2, 3] rfl (HK84_20 _ _ _ h)
        · have h := (if_neg c31).symm.trans h
          refine j_lload C 3 rfl dX12_spelled_71 ?_
          refine j_iconst C dX12_spelled_73 ci_5 ?_
          refine j_lshl C dX12_spelled_74 ?_
          refine j_iload C 0 rfl dX12_spelled_75 ?_
          refine j_bipush C dX12_spelled_77 cb_96 ?_
          refine j_isub C dX12_spelled_79 ?_
          refine j_i2l C dX12_spelled_80 ?_
          refine j_lor C dX12_spelled_81 ?_
          refine lt_elim h (fun y32 e_y32 h => ?_)
          refine j_topl e_y32 ?_
          refine j_lstore C [(8, .long y32), (5, .int x16), (6, .int x17), (7, .int x18)] dX12_spelled_82 (by decide) rfl ?_
          exact j_sub [2, 3, 0] rfl (HK84_20 _ _ _ h)
      refine j_if_eq (tgt := 66) C dX12_spelled_50 (by decide) (fun c33 => ?_) (fun c33 => ?_)
      · have h := (if_pos c33).symm.trans h
        exact j_sub [1, 2, 3, 4] rfl (HK66_15 _ _ _ _ h)
      · have h := (if_neg c33).symm.trans h
        refine j_lload C 4 rfl dX12_spelled_53 ?_
        refine j_iconst C dX12_spelled_55 ci_5 ?_
        refine j_lshl C dX12_spelled_56 ?_
        refine j_iload C 0 rfl dX12_spelled_57 ?_
        refine j_bipush C dX12_spelled_59 cb_96 ?_
        refine j_isub C dX12_spelled_61 ?_
        refine j_i2l C dX12_spelled_62 ?_
        refine j_lor C dX12_spelled_63 ?_
        refine lt_elim h (fun y34 e_y34 h => ?_)
        refine j_topl e_y34 ?_
        refine j_lstore C [(8, .long y34), (4, .int x10), (5, .int x11), (6, .int x12), (7, .int x13)] dX12_spelled_64 (by decide) rfl ?_
        exact j_sub [2, 3, 4, 0] rfl (HK66_15 _ _ _ _ h)
    refine j_if_eq (tgt := 48) C dX12_spelled_33 (by decide) (fun c35 => ?_) (fun c35 => ?_)
    · have h := (if_pos c35).symm.trans h
      exact j_sub [1, 2, 3, 4, 5] rfl (HK48_9 _ _ _ _ _ h)
    · have h := (if_neg c35).symm.trans h
      refine j_lload C 5 rfl dX12_spelled_36 ?_
      refine j_iconst C dX12_spelled_38 ci_5 ?_
      refine j_lshl C dX12_spelled_39 ?_
      refine j_iload_n C 0 rfl dX12_spelled_40 rfl ?_
      refine j_bipush C dX12_spelled_41 cb_96 ?_
      refine j_isub C dX12_spelled_43 ?_
      refine j_i2l C dX12_spelled_44 ?_
      refine j_lor C dX12_spelled_45 ?_
      refine lt_elim h (fun y36 e_y36 h => ?_)
      refine j_topl e_y36 ?_
      refine j_lstore C [(8, .long y36), (3, .int x3), (4, .int x4), (5, .int x5), (6, .int x6), (7, .int x7)] dX12_spelled_46 (by decide) rfl ?_
      exact j_sub [2, 3, 4, 5, 0] rfl (HK48_9 _ _ _ _ _ h)
  refine j_if_eq (tgt := 32) C dX12_spelled_17 (by decide) (fun c37 => ?_) (fun c37 => ?_)
  · have h := (if_pos c37).symm.trans h
    exact j_sub [4, 5, 6, 7, 8, 0] rfl (HK32_2 _ _ _ _ _ _ h)
  · have h := (if_neg c37).symm.trans h
    refine j_lload C 0 rfl dX12_spelled_20 ?_
    refine j_iconst C dX12_spelled_22 ci_5 ?_
    refine j_lshl C dX12_spelled_23 ?_
    refine j_iload_n C 3 rfl dX12_spelled_24 rfl ?_
    refine j_bipush C dX12_spelled_25 cb_96 ?_
    refine j_isub C dX12_spelled_27 ?_
    refine j_i2l C dX12_spelled_28 ?_
    refine j_lor C dX12_spelled_29 ?_
    refine lt_elim h (fun y38 e_y38 h => ?_)
    refine j_topl e_y38 ?_
    refine j_lstore C [(8, .long y38), (0, .int a1), (1, .int a2), (2, .int a3), (3, .int a4), (4, .int a5), (5, .int a6), (6, .int a7), (7, .int a8)] dX12_spelled_30 (by decide) rfl ?_
    exact j_sub [4, 5, 6, 7, 8, 0] rfl (HK32_2 _ _ _ _ _ _ h)
theorem dX12_letters_0 : decode cX12_letters 0 = .ok (.iload_n 0, 1) := by decide +kernel
theorem dX12_letters_1 : decode cX12_letters 1 = .ok (.tableswitch 365 0 16 #[83, 101, 117, 133, 150, 167, 187, 203, 220, 236, 252, 267, 283, 301, 320, 336, 351], 83) := by decide +kernel
theorem dX12_letters_84 : decode cX12_letters 84 = .ok (.bipush 119, 2) := by decide +kernel
theorem dX12_letters_86 : decode cX12_letters 86 = .ok (.bipush 101, 2) := by decide +kernel
theorem dX12_letters_88 : decode cX12_letters 88 = .ok (.bipush 105, 2) := by decide +kernel
theorem dX12_letters_90 : decode cX12_letters 90 = .ok (.bipush 103, 2) := by decide +kernel
theorem dX12_letters_92 : decode cX12_letters 92 = .ok (.bipush 104, 2) := by decide +kernel
theorem dX12_letters_94 : decode cX12_letters 94 = .ok (.bipush 116, 2) := by decide +kernel
theorem dX12_letters_96 : decode cX12_letters 96 = .ok (.iconst 0, 1) := by decide +kernel
theorem dX12_letters_97 : decode cX12_letters 97 = .ok (.iconst 0, 1) := by decide +kernel
theorem dX12_letters_98 : decode cX12_letters 98 = .ok (.invokestatic 141, 3) := by decide +kernel
theorem dX12_letters_101 : decode cX12_letters 101 = .ok (.lreturn, 1) := by decide +kernel
theorem dX12_letters_102 : decode cX12_letters 102 = .ok (.bipush 104, 2) := by decide +kernel
theorem dX12_letters_104 : decode cX12_letters 104 = .ok (.bipush 97, 2) := by decide +kernel
theorem dX12_letters_106 : decode cX12_letters 106 = .ok (.bipush 108, 2) := by decide +kernel
theorem dX12_letters_108 : decode cX12_letters 108 = .ok (.bipush 102, 2) := by decide +kernel
theorem dX12_letters_110 : decode cX12_letters 110 = .ok (.iconst 0, 1) := by decide +kernel
theorem dX12_letters_111 : decode cX12_letters 111 = .ok (.iconst 0, 1) := by decide +kernel
theorem dX12_letters_112 : decode cX12_letters 112 = .ok (.iconst 0, 1) := by decide +kernel
theorem dX12_letters_113 : decode cX12_letters 113 = .ok (.iconst 0, 1) := by decide +kernel
theorem dX12_letters_114 : decode cX12_letters 114 = .ok (.invokestatic 141, 3) := by decide +kernel
theorem dX12_letters_117 : decode cX12_letters 117 = .ok (.lreturn, 1) := by decide +kernel
theorem dX12_letters_118 : decode cX12_letters 118 = .ok (.bipush 104, 2) := by decide +kernel
theorem dX12_letters_120 : decode cX12_letters 120 = .ok (.bipush 111, 2) := by decide +kernel
theorem dX12_letters_122 : decode cX12_letters 122 = .ok (.bipush 117, 2) := by decide +kernel
theorem dX12_letters_124 : decode cX12_letters 124 = .ok (.bipush 114, 2) := by decide +kernel
theorem dX12_letters_126 : decode cX12_letters 126 = .ok (.iconst 0, 1) := by decide +kernel
theorem dX12_letters_127 : decode cX12_letters 127 = .ok (.iconst 0, 1) := by decide +kernel
theorem dX12_letters_128 : decode cX12_letters 128 = .ok (.iconst 0, 1) := by decide +kernel
theorem dX12_letters_129 : decode cX12_letters 129 = .ok (.iconst 0, 1) := by decide +kernel
theorem dX12_letters_130 : decode cX12_letters 130 = .ok (.invokestatic 141, 3) := by decide +kernel
theorem dX12_letters_133 : decode cX12_letters 133 = .ok (.lreturn, 1) := by decide +kernel
theorem dX12_letters_134 : decode cX12_letters 134 = .ok (.bipush 104, 2) := by decide +kernel
theorem dX12_letters_136 : decode cX12_letters 136 = .ok (.bipush 111, 2) := by decide +kernel
theorem dX12_letters_138 : decode cX12_letters 138 = .ok (.bipush 117, 2) := by decide +kernel
theorem dX12_letters_140 : decode cX12_letters 140 = .ok (.bipush 114, 2) := by decide +kernel
theorem dX12_letters_142 : decode cX12_letters 142 = .ok (.bipush 115, 2) := by decide +kernel
theorem dX12_letters_144 : decode cX12_letters 144 = .ok (.iconst 0, 1) := by decide +kernel
theorem dX12_letters_145 : decode cX12_letters 145 = .ok (.iconst 0, 1) := by decide +kernel
theorem dX12_letters_146 : decode cX12_letters 146 = .ok (.iconst 0, 1) := by decide +kernel
theorem dX12_letters_147 : decode cX12_letters 147 = .ok (.invokestatic 141, 3) := by decide +kernel
theorem dX12_letters_150 : decode cX12_letters 150 = .ok (.lreturn, 1) := by decide +kernel
theorem dX12_letters_151 : decode cX12_letters 151 = .ok (.bipush 111, 2) := by decide +kernel
theorem dX12_letters_153 : decode cX12_letters 153 = .ok (.bipush 116, 2) := by decide +kernel
theorem dX12_letters_155 : decode cX12_letters 155 = .ok (.bipush 104, 2) := by decide +kernel
theorem dX12_letters_157 : decode cX12_letters 157 = .ok (.bipush 101, 2) := by decide +kernel
theorem dX12_letters_159 : decode cX12_letters 159 = .ok (.bipush 114, 2) := by decide +kernel
theorem dX12_letters_161 : decode cX12_letters 161 = .ok (.iconst 0, 1) := by decide +kernel
theorem dX12_letters_162 : decode cX12_letters 162 = .ok (.iconst 0, 1) := by decide +kernel
theorem dX12_letters_163 : decode cX12_letters 163 = .ok (.iconst 0, 1) := by decide +kernel
theorem dX12_letters_164 : decode cX12_letters 164 = .ok (.invokestatic 141, 3) := by decide +kernel
theorem dX12_letters_167 : decode cX12_letters 167 = .ok (.lreturn, 1) := by decide +kernel
theorem dX12_letters_168 : decode cX12_letters 168 = .ok (.bipush 113, 2) := by decide +kernel
theorem dX12_letters_170 : decode cX12_letters 170 = .ok (.bipush 117, 2) := by decide +kernel
theorem dX12_letters_172 : decode cX12_letters 172 = .ok (.bipush 97, 2) := by decide +kernel
theorem dX12_letters_174 : decode cX12_letters 174 = .ok (.bipush 114, 2) := by decide +kernel
theorem dX12_letters_176 : decode cX12_letters 176 = .ok (.bipush 114, 2) := by decide +kernel
theorem dX12_letters_178 : decode cX12_letters 178 = .ok (.bipush 101, 2) := by decide +kernel
theorem dX12_letters_180 : decode cX12_letters 180 = .ok (.bipush 108, 2) := by decide +kernel
theorem dX12_letters_182 : decode cX12_letters 182 = .ok (.bipush 115, 2) := by decide +kernel
theorem dX12_letters_184 : decode cX12_letters 184 = .ok (.invokestatic 141, 3) := by decide +kernel
theorem dX12_letters_187 : decode cX12_letters 187 = .ok (.lreturn, 1) := by decide +kernel
theorem dX12_letters_188 : decode cX12_letters 188 = .ok (.bipush 108, 2) := by decide +kernel
theorem dX12_letters_190 : decode cX12_letters 190 = .ok (.bipush 101, 2) := by decide +kernel
theorem dX12_letters_192 : decode cX12_letters 192 = .ok (.bipush 102, 2) := by decide +kernel
theorem dX12_letters_194 : decode cX12_letters 194 = .ok (.bipush 116, 2) := by decide +kernel
theorem dX12_letters_196 : decode cX12_letters 196 = .ok (.iconst 0, 1) := by decide +kernel
theorem dX12_letters_197 : decode cX12_letters 197 = .ok (.iconst 0, 1) := by decide +kernel
theorem dX12_letters_198 : decode cX12_letters 198 = .ok (.iconst 0, 1) := by decide +kernel
theorem dX12_letters_199 : decode cX12_letters 199 = .ok (.iconst 0, 1) := by decide +kernel
theorem dX12_letters_200 : decode cX12_letters 200 = .ok (.invokestatic 141, 3) := by decide +kernel
theorem dX12_letters_203 : decode cX12_letters 203 = .ok (.lreturn, 1) := by decide +kernel
theorem dX12_letters_204 : decode cX12_letters 204 = .ok (.bipush 114, 2) := by decide +kernel
theorem dX12_letters_206 : decode cX12_letters 206 = .ok (.bipush 105, 2) := by decide +kernel
theorem dX12_letters_208 : decode cX12_letters 208 = .ok (.bipush 103, 2) := by decide +kernel
theorem dX12_letters_210 : decode cX12_letters 210 = .ok (.bipush 104, 2) := by decide +kernel
theorem dX12_letters_212 : decode cX12_letters 212 = .ok (.bipush 116, 2) := by decide +kernel
theorem dX12_letters_214 : decode cX12_letters 214 = .ok (.iconst 0, 1) := by decide +kernel
theorem dX12_letters_215 : decode cX12_letters 215 = .ok (.iconst 0, 1) := by decide +kernel
theorem dX12_letters_216 : decode cX12_letters 216 = .ok (.iconst 0, 1) := by decide +kernel
theorem dX12_letters_217 : decode cX12_letters 217 = .ok (.invokestatic 141, 3) := by decide +kernel
theorem dX12_letters_220 : decode cX12_letters 220 = .ok (.lreturn, 1) := by decide +kernel
theorem dX12_letters_221 : decode cX12_letters 221 = .ok (.bipush 98, 2) := by decide +kernel
theorem dX12_letters_223 : decode cX12_letters 223 = .ok (.bipush 111, 2) := by decide +kernel
theorem dX12_letters_225 : decode cX12_letters 225 = .ok (.bipush 116, 2) := by decide +kernel
theorem dX12_letters_227 : decode cX12_letters 227 = .ok (.bipush 104, 2) := by decide +kernel
theorem dX12_letters_229 : decode cX12_letters 229 = .ok (.iconst 0, 1) := by decide +kernel
theorem dX12_letters_230 : decode cX12_letters 230 = .ok (.iconst 0, 1) := by decide +kernel
theorem dX12_letters_231 : decode cX12_letters 231 = .ok (.iconst 0, 1) := by decide +kernel
theorem dX12_letters_232 : decode cX12_letters 232 = .ok (.iconst 0, 1) := by decide +kernel
theorem dX12_letters_233 : decode cX12_letters 233 = .ok (.invokestatic 141, 3) := by decide +kernel
theorem dX12_letters_236 : decode cX12_letters 236 = .ok (.lreturn, 1) := by decide +kernel
theorem dX12_letters_237 : decode cX12_letters 237 = .ok (.bipush 98, 2) := by decide +kernel
theorem dX12_letters_239 : decode cX12_letters 239 = .ok (.bipush 97, 2) := by decide +kernel
theorem dX12_letters_241 : decode cX12_letters 241 = .ok (.bipush 115, 2) := by decide +kernel
theorem dX12_letters_243 : decode cX12_letters 243 = .ok (.bipush 101, 2) := by decide +kernel
theorem dX12_letters_245 : decode cX12_letters 245 = .ok (.iconst 0, 1) := by decide +kernel
theorem dX12_letters_246 : decode cX12_letters 246 = .ok (.iconst 0, 1) := by decide +kernel
theorem dX12_letters_247 : decode cX12_letters 247 = .ok (.iconst 0, 1) := by decide +kernel
theorem dX12_letters_248 : decode cX12_letters 248 = .ok (.iconst 0, 1) := by decide +kernel
theorem dX12_letters_249 : decode cX12_letters 249 = .ok (.invokestatic 141, 3) := by decide +kernel
theorem dX12_letters_252 : decode cX12_letters 252 = .ok (.lreturn, 1) := by decide +kernel
theorem dX12_letters_253 : decode cX12_letters 253 = .ok (.bipush 111, 2) := by decide +kernel
theorem dX12_letters_255 : decode cX12_letters 255 = .ok (.bipush 105, 2) := by decide +kernel
theorem dX12_letters_257 : decode cX12_letters 257 = .ok (.bipush 108, 2) := by decide +kernel
theorem dX12_letters_259 : decode cX12_letters 259 = .ok (.iconst 0, 1) := by decide +kernel
theorem dX12_letters_260 : decode cX12_letters 260 = .ok (.iconst 0, 1) := by decide +kernel
theorem dX12_letters_261 : decode cX12_letters 261 = .ok (.iconst 0, 1) := by decide +kernel
theorem dX12_letters_262 : decode cX12_letters 262 = .ok (.iconst 0, 1) := by decide +kernel
theorem dX12_letters_263 : decode cX12_letters 263 = .ok (.iconst 0, 1) := by decide +kernel
theorem dX12_letters_264 : decode cX12_letters 264 = .ok (.invokestatic 141, 3) := by decide +kernel
theorem dX12_letters_267 : decode cX12_letters 267 = .ok (.lreturn, 1) := by decide +kernel
theorem dX12_letters_268 : decode cX12_letters 268 = .ok (.bipush 115, 2) := by decide +kernel
theorem dX12_letters_270 : decode cX12_letters 270 = .ok (.bipush 116, 2) := by decide +kernel
theorem dX12_letters_272 : decode cX12_letters 272 = .ok (.bipush 111, 2) := by decide +kernel
theorem dX12_letters_274 : decode cX12_letters 274 = .ok (.bipush 112, 2) := by decide +kernel
theorem dX12_letters_276 : decode cX12_letters 276 = .ok (.iconst 0, 1) := by decide +kernel
theorem dX12_letters_277 : decode cX12_letters 277 = .ok (.iconst 0, 1) := by decide +kernel
theorem dX12_letters_278 : decode cX12_letters 278 = .ok (.iconst 0, 1) := by decide +kernel
theorem dX12_letters_279 : decode cX12_letters 279 = .ok (.iconst 0, 1) := by decide +kernel
theorem dX12_letters_280 : decode cX12_letters 280 = .ok (.invokestatic 141, 3) := by decide +kernel
theorem dX12_letters_283 : decode cX12_letters 283 = .ok (.lreturn, 1) := by decide +kernel
theorem dX12_letters_284 : decode cX12_letters 284 = .ok (.bipush 116, 2) := by decide +kernel
theorem dX12_letters_286 : decode cX12_letters 286 = .ok (.bipush 101, 2) := by decide +kernel
theorem dX12_letters_288 : decode cX12_letters 288 = .ok (.bipush 110, 2) := by decide +kernel
theorem dX12_letters_290 : decode cX12_letters 290 = .ok (.bipush 97, 2) := by decide +kernel
theorem dX12_letters_292 : decode cX12_letters 292 = .ok (.bipush 110, 2) := by decide +kernel
theorem dX12_letters_294 : decode cX12_letters 294 = .ok (.bipush 116, 2) := by decide +kernel
theorem dX12_letters_296 : decode cX12_letters 296 = .ok (.iconst 0, 1) := by decide +kernel
theorem dX12_letters_297 : decode cX12_letters 297 = .ok (.iconst 0, 1) := by decide +kernel
theorem dX12_letters_298 : decode cX12_letters 298 = .ok (.invokestatic 141, 3) := by decide +kernel
theorem dX12_letters_301 : decode cX12_letters 301 = .ok (.lreturn, 1) := by decide +kernel
theorem dX12_letters_302 : decode cX12_letters 302 = .ok (.bipush 113, 2) := by decide +kernel
theorem dX12_letters_304 : decode cX12_letters 304 = .ok (.bipush 117, 2) := by decide +kernel
theorem dX12_letters_306 : decode cX12_letters 306 = .ok (.bipush 97, 2) := by decide +kernel
theorem dX12_letters_308 : decode cX12_letters 308 = .ok (.bipush 114, 2) := by decide +kernel
theorem dX12_letters_310 : decode cX12_letters 310 = .ok (.bipush 114, 2) := by decide +kernel
theorem dX12_letters_312 : decode cX12_letters 312 = .ok (.bipush 101, 2) := by decide +kernel
theorem dX12_letters_314 : decode cX12_letters 314 = .ok (.bipush 108, 2) := by decide +kernel
theorem dX12_letters_316 : decode cX12_letters 316 = .ok (.iconst 0, 1) := by decide +kernel
theorem dX12_letters_317 : decode cX12_letters 317 = .ok (.invokestatic 141, 3) := by decide +kernel
theorem dX12_letters_320 : decode cX12_letters 320 = .ok (.lreturn, 1) := by decide +kernel
theorem dX12_letters_321 : decode cX12_letters 321 = .ok (.bipush 114, 2) := by decide +kernel
theorem dX12_letters_323 : decode cX12_letters 323 = .ok (.bipush 117, 2) := by decide +kernel
theorem dX12_letters_325 : decode cX12_letters 325 = .ok (.bipush 108, 2) := by decide +kernel
theorem dX12_letters_327 : decode cX12_letters 327 = .ok (.bipush 101, 2) := by decide +kernel
theorem dX12_letters_329 : decode cX12_letters 329 = .ok (.iconst 0, 1) := by decide +kernel
theorem dX12_letters_330 : decode cX12_letters 330 = .ok (.iconst 0, 1) := by decide +kernel
theorem dX12_letters_331 : decode cX12_letters 331 = .ok (.iconst 0, 1) := by decide +kernel
theorem dX12_letters_332 : decode cX12_letters 332 = .ok (.iconst 0, 1) := by decide +kernel
theorem dX12_letters_333 : decode cX12_letters 333 = .ok (.invokestatic 141, 3) := by decide +kernel
theorem dX12_letters_336 : decode cX12_letters 336 = .ok (.lreturn, 1) := by decide +kernel
theorem dX12_letters_337 : decode cX12_letters 337 = .ok (.bipush 97, 2) := by decide +kernel
theorem dX12_letters_339 : decode cX12_letters 339 = .ok (.bipush 110, 2) := by decide +kernel
theorem dX12_letters_341 : decode cX12_letters 341 = .ok (.bipush 100, 2) := by decide +kernel
theorem dX12_letters_343 : decode cX12_letters 343 = .ok (.iconst 0, 1) := by decide +kernel
theorem dX12_letters_344 : decode cX12_letters 344 = .ok (.iconst 0, 1) := by decide +kernel
theorem dX12_letters_345 : decode cX12_letters 345 = .ok (.iconst 0, 1) := by decide +kernel
theorem dX12_letters_346 : decode cX12_letters 346 = .ok (.iconst 0, 1) := by decide +kernel
theorem dX12_letters_347 : decode cX12_letters 347 = .ok (.iconst 0, 1) := by decide +kernel
theorem dX12_letters_348 : decode cX12_letters 348 = .ok (.invokestatic 141, 3) := by decide +kernel
theorem dX12_letters_351 : decode cX12_letters 351 = .ok (.lreturn, 1) := by decide +kernel
theorem dX12_letters_352 : decode cX12_letters 352 = .ok (.bipush 111, 2) := by decide +kernel
theorem dX12_letters_354 : decode cX12_letters 354 = .ok (.bipush 114, 2) := by decide +kernel
theorem dX12_letters_356 : decode cX12_letters 356 = .ok (.iconst 0, 1) := by decide +kernel
theorem dX12_letters_357 : decode cX12_letters 357 = .ok (.iconst 0, 1) := by decide +kernel
theorem dX12_letters_358 : decode cX12_letters 358 = .ok (.iconst 0, 1) := by decide +kernel
theorem dX12_letters_359 : decode cX12_letters 359 = .ok (.iconst 0, 1) := by decide +kernel
theorem dX12_letters_360 : decode cX12_letters 360 = .ok (.iconst 0, 1) := by decide +kernel
theorem dX12_letters_361 : decode cX12_letters 361 = .ok (.iconst 0, 1) := by decide +kernel
theorem dX12_letters_362 : decode cX12_letters 362 = .ok (.invokestatic 141, 3) := by decide +kernel
theorem dX12_letters_365 : decode cX12_letters 365 = .ok (.lreturn, 1) := by decide +kernel
theorem dX12_letters_366 : decode cX12_letters 366 = .ok (.bipush 110, 2) := by decide +kernel
theorem dX12_letters_368 : decode cX12_letters 368 = .ok (.bipush 111, 2) := by decide +kernel
theorem dX12_letters_370 : decode cX12_letters 370 = .ok (.bipush 116, 2) := by decide +kernel
theorem dX12_letters_372 : decode cX12_letters 372 = .ok (.iconst 0, 1) := by decide +kernel
theorem dX12_letters_373 : decode cX12_letters 373 = .ok (.iconst 0, 1) := by decide +kernel
theorem dX12_letters_374 : decode cX12_letters 374 = .ok (.iconst 0, 1) := by decide +kernel
theorem dX12_letters_375 : decode cX12_letters 375 = .ok (.iconst 0, 1) := by decide +kernel
theorem dX12_letters_376 : decode cX12_letters 376 = .ok (.iconst 0, 1) := by decide +kernel
theorem dX12_letters_377 : decode cX12_letters 377 = .ok (.invokestatic 141, 3) := by decide +kernel
theorem dX12_letters_380 : decode cX12_letters 380 = .ok (.lreturn, 1) := by decide +kernel
def fX12_letters (a1 : Int32) : Option (Int64) :=
  (if a1 = (0 : Int32) then
  bd1 (fX12_spelled (119 : Int32) (101 : Int32) (105 : Int32) (103 : Int32) (104 : Int32) (116 : Int32) (0 : Int32) (0 : Int32)) (fun r2 =>
  some r2)
  else
  (if a1 = (1 : Int32) then
  bd1 (fX12_spelled (104 : Int32) (97 : Int32) (108 : Int32) (102 : Int32) (0 : Int32) (0 : Int32) (0 : Int32) (0 : Int32)) (fun r5 =>
  some r5)
  else
  (if a1 = (2 : Int32) then
  bd1 (fX12_spelled (104 : Int32) (111 : Int32) (117 : Int32) (114 : Int32) (0 : Int32) (0 : Int32) (0 : Int32) (0 : Int32)) (fun r8 =>
  some r8)
  else
  (if a1 = (3 : Int32) then
  bd1 (fX12_spelled (104 : Int32) (111 : Int32) (117 : Int32) (114 : Int32) (115 : Int32) (0 : Int32) (0 : Int32) (0 : Int32)) (fun r11 =>
  some r11)
  else
  (if a1 = (4 : Int32) then
  bd1 (fX12_spelled (111 : Int32) (116 : Int32) (104 : Int32) (101 : Int32) (114 : Int32) (0 : Int32) (0 : Int32) (0 : Int32)) (fun r14 =>
  some r14)
  else
  (if a1 = (5 : Int32) then
  bd1 (fX12_spelled (113 : Int32) (117 : Int32) (97 : Int32) (114 : Int32) (114 : Int32) (101 : Int32) (108 : Int32) (115 : Int32)) (fun r17 =>
  some r17)
  else
  (if a1 = (6 : Int32) then
  bd1 (fX12_spelled (108 : Int32) (101 : Int32) (102 : Int32) (116 : Int32) (0 : Int32) (0 : Int32) (0 : Int32) (0 : Int32)) (fun r20 =>
  some r20)
  else
  (if a1 = (7 : Int32) then
  bd1 (fX12_spelled (114 : Int32) (105 : Int32) (103 : Int32) (104 : Int32) (116 : Int32) (0 : Int32) (0 : Int32) (0 : Int32)) (fun r23 =>
  some r23)
  else
  (if a1 = (8 : Int32) then
  bd1 (fX12_spelled (98 : Int32) (111 : Int32) (116 : Int32) (104 : Int32) (0 : Int32) (0 : Int32) (0 : Int32) (0 : Int32)) (fun r26 =>
  some r26)
  else
  (if a1 = (9 : Int32) then
  bd1 (fX12_spelled (98 : Int32) (97 : Int32) (115 : Int32) (101 : Int32) (0 : Int32) (0 : Int32) (0 : Int32) (0 : Int32)) (fun r29 =>
  some r29)
  else
  (if a1 = (10 : Int32) then
  bd1 (fX12_spelled (111 : Int32) (105 : Int32) (108 : Int32) (0 : Int32) (0 : Int32) (0 : Int32) (0 : Int32) (0 : Int32)) (fun r32 =>
  some r32)
  else
  (if a1 = (11 : Int32) then
  bd1 (fX12_spelled (115 : Int32) (116 : Int32) (111 : Int32) (112 : Int32) (0 : Int32) (0 : Int32) (0 : Int32) (0 : Int32)) (fun r35 =>
  some r35)
  else
  (if a1 = (12 : Int32) then
  bd1 (fX12_spelled (116 : Int32) (101 : Int32) (110 : Int32) (97 : Int32) (110 : Int32) (116 : Int32) (0 : Int32) (0 : Int32)) (fun r38 =>
  some r38)
  else
  (if a1 = (13 : Int32) then
  bd1 (fX12_spelled (113 : Int32) (117 : Int32) (97 : Int32) (114 : Int32) (114 : Int32) (101 : Int32) (108 : Int32) (0 : Int32)) (fun r41 =>
  some r41)
  else
  (if a1 = (14 : Int32) then
  bd1 (fX12_spelled (114 : Int32) (117 : Int32) (108 : Int32) (101 : Int32) (0 : Int32) (0 : Int32) (0 : Int32) (0 : Int32)) (fun r44 =>
  some r44)
  else
  (if a1 = (15 : Int32) then
  bd1 (fX12_spelled (97 : Int32) (110 : Int32) (100 : Int32) (0 : Int32) (0 : Int32) (0 : Int32) (0 : Int32) (0 : Int32)) (fun r47 =>
  some r47)
  else
  (if a1 = (16 : Int32) then
  bd1 (fX12_spelled (111 : Int32) (114 : Int32) (0 : Int32) (0 : Int32) (0 : Int32) (0 : Int32) (0 : Int32) (0 : Int32)) (fun r50 =>
  some r50)
  else
  bd1 (fX12_spelled (110 : Int32) (111 : Int32) (116 : Int32) (0 : Int32) (0 : Int32) (0 : Int32) (0 : Int32) (0 : Int32)) (fun r52 =>
  some r52))))))))))))))))))
set_option maxHeartbeats 4000000 in
set_option maxRecDepth 100000 in
theorem kX12_letters (l : Launch) (B : jBT) (D : va_G) (ad : Nat → Nat) (cA : Nat → ClassId) (hI : jI ad TR) (S : Nat → Int32) (V : Nat → Nat → Int32) (L : Nat → Int64) (a1 : Int32) (r0 : Int64) (h : fX12_letters a1 = some r0) : jM l yX12_letters cX12_letters 1 (some .long) ({ frames := 1, cells := 0, slots := 0, locals := 29 }) B D TR ad cA [.int a1] S V L (some (.long r0)) S V L := by
  refine jM_of (plainFor_of_name (by decide)) TR_ok hI (Nat.le_of_ble_eq_true rfl) ?_
  intro p e s m args below meth c C hr hlk
  refine j_lv (lv2 := [(0, .int a1)]) rfl ?_
  unfold fX12_letters at h
  refine j_iload_n C 0 rfl dX12_letters_0 rfl ?_
  by_cases c1 : a1 = (0 : Int32)
  · have h := (if_pos c1).symm.trans h
    refine j_tableIn (tgt := 84) C dX12_letters_1 (by rw [c1]; decide) (by rw [c1]; decide) (by rw [c1]; rfl) (by decide) ?_
    refine j_bipush C dX12_letters_84 cb_119 ?_
    refine j_bipush C dX12_letters_86 cb_101 ?_
    refine j_bipush C dX12_letters_88 cb_105 ?_
    refine j_bipush C dX12_letters_90 cb_103 ?_
    refine j_bipush C dX12_letters_92 cb_104 ?_
    refine j_bipush C dX12_letters_94 cb_116 ?_
    refine j_iconst C dX12_letters_96 ci_0 ?_
    refine j_iconst C dX12_letters_97 ci_0 ?_
    obtain ⟨r2, h3, h⟩ := bd1_elim h
    refine j_callS (As := [.int (119 : Int32), .int (101 : Int32), .int (105 : Int32), .int (103 : Int32), .int (104 : Int32), .int (116 : Int32), .int (0 : Int32), .int (0 : Int32)]) (rest := []) C (kX12_spelled l B D ad cA hI S V L (119 : Int32) (101 : Int32) (105 : Int32) (103 : Int32) (104 : Int32) (116 : Int32) (0 : Int32) (0 : Int32) _ h3) mw_X12_spelled wd1670 wd1669 ⟨rfl, rfl, by decide, by decide⟩ ⟨Nat.zero_le _, Nat.zero_le _⟩ rfl rfl (Nat.le_of_ble_eq_true rfl) dX12_letters_98 ?_
    cases h
    exact j_lret C hr hlk rfl dX12_letters_101
  have h := (if_neg c1).symm.trans h
  have n_c1 := ne_toInt (z := 0) (by decide) c1
  by_cases c4 : a1 = (1 : Int32)
  · have h := (if_pos c4).symm.trans h
    refine j_tableIn (tgt := 102) C dX12_letters_1 (by rw [c4]; decide) (by rw [c4]; decide) (by rw [c4]; rfl) (by decide) ?_
    refine j_bipush C dX12_letters_102 cb_104 ?_
    refine j_bipush C dX12_letters_104 cb_97 ?_
    refine j_bipush C dX12_letters_106 cb_108 ?_
    refine j_bipush C dX12_letters_108 cb_102 ?_
    refine j_iconst C dX12_letters_110 ci_0 ?_
    refine j_iconst C dX12_letters_111 ci_0 ?_
    refine j_iconst C dX12_letters_112 ci_0 ?_
    refine j_iconst C dX12_letters_113 ci_0 ?_
    obtain ⟨r5, h6, h⟩ := bd1_elim h
    refine j_callS (As := [.int (104 : Int32), .int (97 : Int32), .int (108 : Int32), .int (102 : Int32), .int (0 : Int32), .int (0 : Int32), .int (0 : Int32), .int (0 : Int32)]) (rest := []) C (kX12_spelled l B D ad cA hI S V L (104 : Int32) (97 : Int32) (108 : Int32) (102 : Int32) (0 : Int32) (0 : Int32) (0 : Int32) (0 : Int32) _ h6) mw_X12_spelled wd1670 wd1669 ⟨rfl, rfl, by decide, by decide⟩ ⟨Nat.zero_le _, Nat.zero_le _⟩ rfl rfl (Nat.le_of_ble_eq_true rfl) dX12_letters_114 ?_
    cases h
    exact j_lret C hr hlk rfl dX12_letters_117
  have h := (if_neg c4).symm.trans h
  have n_c4 := ne_toInt (z := 1) (by decide) c4
  by_cases c7 : a1 = (2 : Int32)
  · have h := (if_pos c7).symm.trans h
    refine j_tableIn (tgt := 118) C dX12_letters_1 (by rw [c7]; decide) (by rw [c7]; decide) (by rw [c7]; rfl) (by decide) ?_
    refine j_bipush C dX12_letters_118 cb_104 ?_
    refine j_bipush C dX12_letters_120 cb_111 ?_
    refine j_bipush C dX12_letters_122 cb_117 ?_
    refine j_bipush C dX12_letters_124 cb_114 ?_
    refine j_iconst C dX12_letters_126 ci_0 ?_
    refine j_iconst C dX12_letters_127 ci_0 ?_
    refine j_iconst C dX12_letters_128 ci_0 ?_
    refine j_iconst C dX12_letters_129 ci_0 ?_
    obtain ⟨r8, h9, h⟩ := bd1_elim h
    refine j_callS (As := [.int (104 : Int32), .int (111 : Int32), .int (117 : Int32), .int (114 : Int32), .int (0 : Int32), .int (0 : Int32), .int (0 : Int32), .int (0 : Int32)]) (rest := []) C (kX12_spelled l B D ad cA hI S V L (104 : Int32) (111 : Int32) (117 : Int32) (114 : Int32) (0 : Int32) (0 : Int32) (0 : Int32) (0 : Int32) _ h9) mw_X12_spelled wd1670 wd1669 ⟨rfl, rfl, by decide, by decide⟩ ⟨Nat.zero_le _, Nat.zero_le _⟩ rfl rfl (Nat.le_of_ble_eq_true rfl) dX12_letters_130 ?_
    cases h
    exact j_lret C hr hlk rfl dX12_letters_133
  have h := (if_neg c7).symm.trans h
  have n_c7 := ne_toInt (z := 2) (by decide) c7
  by_cases c10 : a1 = (3 : Int32)
  · have h := (if_pos c10).symm.trans h
    refine j_tableIn (tgt := 134) C dX12_letters_1 (by rw [c10]; decide) (by rw [c10]; decide) (by rw [c10]; rfl) (by decide) ?_
    refine j_bipush C dX12_letters_134 cb_104 ?_
    refine j_bipush C dX12_letters_136 cb_111 ?_
    refine j_bipush C dX12_letters_138 cb_117 ?_
    refine j_bipush C dX12_letters_140 cb_114 ?_
    refine j_bipush C dX12_letters_142 cb_115 ?_
    refine j_iconst C dX12_letters_144 ci_0 ?_
    refine j_iconst C dX12_letters_145 ci_0 ?_
    refine j_iconst C dX12_letters_146 ci_0 ?_
    obtain ⟨r11, h12, h⟩ := bd1_elim h
    refine j_callS (As := [.int (104 : Int32), .int (111 : Int32), .int (117 : Int32), .int (114 : Int32), .int (115 : Int32), .int (0 : Int32), .int (0 : Int32), .int (0 : Int32)]) (rest := []) C (kX12_spelled l B D ad cA hI S V L (104 : Int32) (111 : Int32) (117 : Int32) (114 : Int32) (115 : Int32) (0 : Int32) (0 : Int32) (0 : Int32) _ h12) mw_X12_spelled wd1670 wd1669 ⟨rfl, rfl, by decide, by decide⟩ ⟨Nat.zero_le _, Nat.zero_le _⟩ rfl rfl (Nat.le_of_ble_eq_true rfl) dX12_letters_147 ?_
    cases h
    exact j_lret C hr hlk rfl dX12_letters_150
  have h := (if_neg c10).symm.trans h
  have n_c10 := ne_toInt (z := 3) (by decide) c10
  by_cases c13 : a1 = (4 : Int32)
  · have h := (if_pos c13).symm.trans h
    refine j_tableIn (tgt := 151) C dX12_letters_1 (by rw [c13]; decide) (by rw [c13]; decide) (by rw [c13]; rfl) (by decide) ?_
    refine j_bipush C dX12_letters_151 cb_111 ?_
    refine j_bipush C dX12_letters_153 cb_116 ?_
    refine j_bipush C dX12_letters_155 cb_104 ?_
    refine j_bipush C dX12_letters_157 cb_101 ?_
    refine j_bipush C dX12_letters_159 cb_114 ?_
    refine j_iconst C dX12_letters_161 ci_0 ?_
    refine j_iconst C dX12_letters_162 ci_0 ?_
    refine j_iconst C dX12_letters_163 ci_0 ?_
    obtain ⟨r14, h15, h⟩ := bd1_elim h
    refine j_callS (As := [.int (111 : Int32), .int (116 : Int32), .int (104 : Int32), .int (101 : Int32), .int (114 : Int32), .int (0 : Int32), .int (0 : Int32), .int (0 : Int32)]) (rest := []) C (kX12_spelled l B D ad cA hI S V L (111 : Int32) (116 : Int32) (104 : Int32) (101 : Int32) (114 : Int32) (0 : Int32) (0 : Int32) (0 : Int32) _ h15) mw_X12_spelled wd1670 wd1669 ⟨rfl, rfl, by decide, by decide⟩ ⟨Nat.zero_le _, Nat.zero_le _⟩ rfl rfl (Nat.le_of_ble_eq_true rfl) dX12_letters_164 ?_
    cases h
    exact j_lret C hr hlk rfl dX12_letters_167
  have h := (if_neg c13).symm.trans h
  have n_c13 := ne_toInt (z := 4) (by decide) c13
  by_cases c16 : a1 = (5 : Int32)
  · have h := (if_pos c16).symm.trans h
    refine j_tableIn (tgt := 168) C dX12_letters_1 (by rw [c16]; decide) (by rw [c16]; decide) (by rw [c16]; rfl) (by decide) ?_
    refine j_bipush C dX12_letters_168 cb_113 ?_
    refine j_bipush C dX12_letters_170 cb_117 ?_
    refine j_bipush C dX12_letters_172 cb_97 ?_
    refine j_bipush C dX12_letters_174 cb_114 ?_
    refine j_bipush C dX12_letters_176 cb_114 ?_
    refine j_bipush C dX12_letters_178 cb_101 ?_
    refine j_bipush C dX12_letters_180 cb_108 ?_
    refine j_bipush C dX12_letters_182 cb_115 ?_
    obtain ⟨r17, h18, h⟩ := bd1_elim h
    refine j_callS (As := [.int (113 : Int32), .int (117 : Int32), .int (97 : Int32), .int (114 : Int32), .int (114 : Int32), .int (101 : Int32), .int (108 : Int32), .int (115 : Int32)]) (rest := []) C (kX12_spelled l B D ad cA hI S V L (113 : Int32) (117 : Int32) (97 : Int32) (114 : Int32) (114 : Int32) (101 : Int32) (108 : Int32) (115 : Int32) _ h18) mw_X12_spelled wd1670 wd1669 ⟨rfl, rfl, by decide, by decide⟩ ⟨Nat.zero_le _, Nat.zero_le _⟩ rfl rfl (Nat.le_of_ble_eq_true rfl) dX12_letters_184 ?_
    cases h
    exact j_lret C hr hlk rfl dX12_letters_187
  have h := (if_neg c16).symm.trans h
  have n_c16 := ne_toInt (z := 5) (by decide) c16
  by_cases c19 : a1 = (6 : Int32)
  · have h := (if_pos c19).symm.trans h
    refine j_tableIn (tgt := 188) C dX12_letters_1 (by rw [c19]; decide) (by rw [c19]; decide) (by rw [c19]; rfl) (by decide) ?_
    refine j_bipush C dX12_letters_188 cb_108 ?_
    refine j_bipush C dX12_letters_190 cb_101 ?_
    refine j_bipush C dX12_letters_192 cb_102 ?_
    refine j_bipush C dX12_letters_194 cb_116 ?_
    refine j_iconst C dX12_letters_196 ci_0 ?_
    refine j_iconst C dX12_letters_197 ci_0 ?_
    refine j_iconst C dX12_letters_198 ci_0 ?_
    refine j_iconst C dX12_letters_199 ci_0 ?_
    obtain ⟨r20, h21, h⟩ := bd1_elim h
    refine j_callS (As := [.int (108 : Int32), .int (101 : Int32), .int (102 : Int32), .int (116 : Int32), .int (0 : Int32), .int (0 : Int32), .int (0 : Int32), .int (0 : Int32)]) (rest := []) C (kX12_spelled l B D ad cA hI S V L (108 : Int32) (101 : Int32) (102 : Int32) (116 : Int32) (0 : Int32) (0 : Int32) (0 : Int32) (0 : Int32) _ h21) mw_X12_spelled wd1670 wd1669 ⟨rfl, rfl, by decide, by decide⟩ ⟨Nat.zero_le _, Nat.zero_le _⟩ rfl rfl (Nat.le_of_ble_eq_true rfl) dX12_letters_200 ?_
    cases h
    exact j_lret C hr hlk rfl dX12_letters_203
  have h := (if_neg c19).symm.trans h
  have n_c19 := ne_toInt (z := 6) (by decide) c19
  by_cases c22 : a1 = (7 : Int32)
  · have h := (if_pos c22).symm.trans h
    refine j_tableIn (tgt := 204) C dX12_letters_1 (by rw [c22]; decide) (by rw [c22]; decide) (by rw [c22]; rfl) (by decide) ?_
    refine j_bipush C dX12_letters_204 cb_114 ?_
    refine j_bipush C dX12_letters_206 cb_105 ?_
    refine j_bipush C dX12_letters_208 cb_103 ?_
    refine j_bipush C dX12_letters_210 cb_104 ?_
    refine j_bipush C dX12_letters_212 cb_116 ?_
    refine j_iconst C dX12_letters_214 ci_0 ?_
    refine j_iconst C dX12_letters_215 ci_0 ?_
    refine j_iconst C dX12_letters_216 ci_0 ?_
    obtain ⟨r23, h24, h⟩ := bd1_elim h
    refine j_callS (As := [.int (114 : Int32), .int (105 : Int32), .int (103 : Int32), .int (104 : Int32), .int (116 : Int32), .int (0 : Int32), .int (0 : Int32), .int (0 : Int32)]) (rest := []) C (kX12_spelled l B D ad cA hI S V L (114 : Int32) (105 : Int32) (103 : Int32) (104 : Int32) (116 : Int32) (0 : Int32) (0 : Int32) (0 : Int32) _ h24) mw_X12_spelled wd1670 wd1669 ⟨rfl, rfl, by decide, by decide⟩ ⟨Nat.zero_le _, Nat.zero_le _⟩ rfl rfl (Nat.le_of_ble_eq_true rfl) dX12_letters_217 ?_
    cases h
    exact j_lret C hr hlk rfl dX12_letters_220
  have h := (if_neg c22).symm.trans h
  have n_c22 := ne_toInt (z := 7) (by decide) c22
  by_cases c25 : a1 = (8 : Int32)
  · have h := (if_pos c25).symm.trans h
    refine j_tableIn (tgt := 221) C dX12_letters_1 (by rw [c25]; decide) (by rw [c25]; decide) (by rw [c25]; rfl) (by decide) ?_
    refine j_bipush C dX12_letters_221 cb_98 ?_
    refine j_bipush C dX12_letters_223 cb_111 ?_
    refine j_bipush C dX12_letters_225 cb_116 ?_
    refine j_bipush C dX12_letters_227 cb_104 ?_
    refine j_iconst C dX12_letters_229 ci_0 ?_
    refine j_iconst C dX12_letters_230 ci_0 ?_
    refine j_iconst C dX12_letters_231 ci_0 ?_
    refine j_iconst C dX12_letters_232 ci_0 ?_
    obtain ⟨r26, h27, h⟩ := bd1_elim h
    refine j_callS (As := [.int (98 : Int32), .int (111 : Int32), .int (116 : Int32), .int (104 : Int32), .int (0 : Int32), .int (0 : Int32), .int (0 : Int32), .int (0 : Int32)]) (rest := []) C (kX12_spelled l B D ad cA hI S V L (98 : Int32) (111 : Int32) (116 : Int32) (104 : Int32) (0 : Int32) (0 : Int32) (0 : Int32) (0 : Int32) _ h27) mw_X12_spelled wd1670 wd1669 ⟨rfl, rfl, by decide, by decide⟩ ⟨Nat.zero_le _, Nat.zero_le _⟩ rfl rfl (Nat.le_of_ble_eq_true rfl) dX12_letters_233 ?_
    cases h
    exact j_lret C hr hlk rfl dX12_letters_236
  have h := (if_neg c25).symm.trans h
  have n_c25 := ne_toInt (z := 8) (by decide) c25
  by_cases c28 : a1 = (9 : Int32)
  · have h := (if_pos c28).symm.trans h
    refine j_tableIn (tgt := 237) C dX12_letters_1 (by rw [c28]; decide) (by rw [c28]; decide) (by rw [c28]; rfl) (by decide) ?_
    refine j_bipush C dX12_letters_237 cb_98 ?_
    refine j_bipush C dX12_letters_239 cb_97 ?_
    refine j_bipush C dX12_letters_241 cb_115 ?_
    refine j_bipush C dX12_letters_243 cb_101 ?_
    refine j_iconst C dX12_letters_245 ci_0 ?_
    refine j_iconst C dX12_letters_246 ci_0 ?_
    refine j_iconst C dX12_letters_247 ci_0 ?_
    refine j_iconst C dX12_letters_248 ci_0 ?_
    obtain ⟨r29, h30, h⟩ := bd1_elim h
    refine j_callS (As := [.int (98 : Int32), .int (97 : Int32), .int (115 : Int32), .int (101 : Int32), .int (0 : Int32), .int (0 : Int32), .int (0 : Int32), .int (0 : Int32)]) (rest := []) C (kX12_spelled l B D ad cA hI S V L (98 : Int32) (97 : Int32) (115 : Int32) (101 : Int32) (0 : Int32) (0 : Int32) (0 : Int32) (0 : Int32) _ h30) mw_X12_spelled wd1670 wd1669 ⟨rfl, rfl, by decide, by decide⟩ ⟨Nat.zero_le _, Nat.zero_le _⟩ rfl rfl (Nat.le_of_ble_eq_true rfl) dX12_letters_249 ?_
    cases h
    exact j_lret C hr hlk rfl dX12_letters_252
  have h := (if_neg c28).symm.trans h
  have n_c28 := ne_toInt (z := 9) (by decide) c28
  by_cases c31 : a1 = (10 : Int32)
  · have h := (if_pos c31).symm.trans h
    refine j_tableIn (tgt := 253) C dX12_letters_1 (by rw [c31]; decide) (by rw [c31]; decide) (by rw [c31]; rfl) (by decide) ?_
    refine j_bipush C dX12_letters_253 cb_111 ?_
    refine j_bipush C dX12_letters_255 cb_105 ?_
    refine j_bipush C dX12_letters_257 cb_108 ?_
    refine j_iconst C dX12_letters_259 ci_0 ?_
    refine j_iconst C dX12_letters_260 ci_0 ?_
    refine j_iconst C dX12_letters_261 ci_0 ?_
    refine j_iconst C dX12_letters_262 ci_0 ?_
    refine j_iconst C dX12_letters_263 ci_0 ?_
    obtain ⟨r32, h33, h⟩ := bd1_elim h
    refine j_callS (As := [.int (111 : Int32), .int (105 : Int32), .int (108 : Int32), .int (0 : Int32), .int (0 : Int32), .int (0 : Int32), .int (0 : Int32), .int (0 : Int32)]) (rest := []) C (kX12_spelled l B D ad cA hI S V L (111 : Int32) (105 : Int32) (108 : Int32) (0 : Int32) (0 : Int32) (0 : Int32) (0 : Int32) (0 : Int32) _ h33) mw_X12_spelled wd1670 wd1669 ⟨rfl, rfl, by decide, by decide⟩ ⟨Nat.zero_le _, Nat.zero_le _⟩ rfl rfl (Nat.le_of_ble_eq_true rfl) dX12_letters_264 ?_
    cases h
    exact j_lret C hr hlk rfl dX12_letters_267
  have h := (if_neg c31).symm.trans h
  have n_c31 := ne_toInt (z := 10) (by decide) c31
  by_cases c34 : a1 = (11 : Int32)
  · have h := (if_pos c34).symm.trans h
    refine j_tableIn (tgt := 268) C dX12_letters_1 (by rw [c34]; decide) (by rw [c34]; decide) (by rw [c34]; rfl) (by decide) ?_
    refine j_bipush C dX12_letters_268 cb_115 ?_
    refine j_bipush C dX12_letters_270 cb_116 ?_
    refine j_bipush C dX12_letters_272 cb_111 ?_
    refine j_bipush C dX12_letters_274 cb_112 ?_
    refine j_iconst C dX12_letters_276 ci_0 ?_
    refine j_iconst C dX12_letters_277 ci_0 ?_
    refine j_iconst C dX12_letters_278 ci_0 ?_
    refine j_iconst C dX12_letters_279 ci_0 ?_
    obtain ⟨r35, h36, h⟩ := bd1_elim h
    refine j_callS (As := [.int (115 : Int32), .int (116 : Int32), .int (111 : Int32), .int (112 : Int32), .int (0 : Int32), .int (0 : Int32), .int (0 : Int32), .int (0 : Int32)]) (rest := []) C (kX12_spelled l B D ad cA hI S V L (115 : Int32) (116 : Int32) (111 : Int32) (112 : Int32) (0 : Int32) (0 : Int32) (0 : Int32) (0 : Int32) _ h36) mw_X12_spelled wd1670 wd1669 ⟨rfl, rfl, by decide, by decide⟩ ⟨Nat.zero_le _, Nat.zero_le _⟩ rfl rfl (Nat.le_of_ble_eq_true rfl) dX12_letters_280 ?_
    cases h
    exact j_lret C hr hlk rfl dX12_letters_283
  have h := (if_neg c34).symm.trans h
  have n_c34 := ne_toInt (z := 11) (by decide) c34
  by_cases c37 : a1 = (12 : Int32)
  · have h := (if_pos c37).symm.trans h
    refine j_tableIn (tgt := 284) C dX12_letters_1 (by rw [c37]; decide) (by rw [c37]; decide) (by rw [c37]; rfl) (by decide) ?_
    refine j_bipush C dX12_letters_284 cb_116 ?_
    refine j_bipush C dX12_letters_286 cb_101 ?_
    refine j_bipush C dX12_letters_288 cb_110 ?_
    refine j_bipush C dX12_letters_290 cb_97 ?_
    refine j_bipush C dX12_letters_292 cb_110 ?_
    refine j_bipush C dX12_letters_294 cb_116 ?_
    refine j_iconst C dX12_letters_296 ci_0 ?_
    refine j_iconst C dX12_letters_297 ci_0 ?_
    obtain ⟨r38, h39, h⟩ := bd1_elim h
    refine j_callS (As := [.int (116 : Int32), .int (101 : Int32), .int (110 : Int32), .int (97 : Int32), .int (110 : Int32), .int (116 : Int32), .int (0 : Int32), .int (0 : Int32)]) (rest := []) C (kX12_spelled l B D ad cA hI S V L (116 : Int32) (101 : Int32) (110 : Int32) (97 : Int32) (110 : Int32) (116 : Int32) (0 : Int32) (0 : Int32) _ h39) mw_X12_spelled wd1670 wd1669 ⟨rfl, rfl, by decide, by decide⟩ ⟨Nat.zero_le _, Nat.zero_le _⟩ rfl rfl (Nat.le_of_ble_eq_true rfl) dX12_letters_298 ?_
    cases h
    exact j_lret C hr hlk rfl dX12_letters_301
  have h := (if_neg c37).symm.trans h
  have n_c37 := ne_toInt (z := 12) (by decide) c37
  by_cases c40 : a1 = (13 : Int32)
  · have h := (if_pos c40).symm.trans h
    refine j_tableIn (tgt := 302) C dX12_letters_1 (by rw [c40]; decide) (by rw [c40]; decide) (by rw [c40]; rfl) (by decide) ?_
    refine j_bipush C dX12_letters_302 cb_113 ?_
    refine j_bipush C dX12_letters_304 cb_117 ?_
    refine j_bipush C dX12_letters_306 cb_97 ?_
    refine j_bipush C dX12_letters_308 cb_114 ?_
    refine j_bipush C dX12_letters_310 cb_114 ?_
    refine j_bipush C dX12_letters_312 cb_101 ?_
    refine j_bipush C dX12_letters_314 cb_108 ?_
    refine j_iconst C dX12_letters_316 ci_0 ?_
    obtain ⟨r41, h42, h⟩ := bd1_elim h
    refine j_callS (As := [.int (113 : Int32), .int (117 : Int32), .int (97 : Int32), .int (114 : Int32), .int (114 : Int32), .int (101 : Int32), .int (108 : Int32), .int (0 : Int32)]) (rest := []) C (kX12_spelled l B D ad cA hI S V L (113 : Int32) (117 : Int32) (97 : Int32) (114 : Int32) (114 : Int32) (101 : Int32) (108 : Int32) (0 : Int32) _ h42) mw_X12_spelled wd1670 wd1669 ⟨rfl, rfl, by decide, by decide⟩ ⟨Nat.zero_le _, Nat.zero_le _⟩ rfl rfl (Nat.le_of_ble_eq_true rfl) dX12_letters_317 ?_
    cases h
    exact j_lret C hr hlk rfl dX12_letters_320
  have h := (if_neg c40).symm.trans h
  have n_c40 := ne_toInt (z := 13) (by decide) c40
  by_cases c43 : a1 = (14 : Int32)
  · have h := (if_pos c43).symm.trans h
    refine j_tableIn (tgt := 321) C dX12_letters_1 (by rw [c43]; decide) (by rw [c43]; decide) (by rw [c43]; rfl) (by decide) ?_
    refine j_bipush C dX12_letters_321 cb_114 ?_
    refine j_bipush C dX12_letters_323 cb_117 ?_
    refine j_bipush C dX12_letters_325 cb_108 ?_
    refine j_bipush C dX12_letters_327 cb_101 ?_
    refine j_iconst C dX12_letters_329 ci_0 ?_
    refine j_iconst C dX12_letters_330 ci_0 ?_
    refine j_iconst C dX12_letters_331 ci_0 ?_
    refine j_iconst C dX12_letters_332 ci_0 ?_
    obtain ⟨r44, h45, h⟩ := bd1_elim h
    refine j_callS (As := [.int (114 : Int32), .int (117 : Int32), .int (108 : Int32), .int (101 : Int32), .int (0 : Int32), .int (0 : Int32), .int (0 : Int32), .int (0 : Int32)]) (rest := []) C (kX12_spelled l B D ad cA hI S V L (114 : Int32) (117 : Int32) (108 : Int32) (101 : Int32) (0 : Int32) (0 : Int32) (0 : Int32) (0 : Int32) _ h45) mw_X12_spelled wd1670 wd1669 ⟨rfl, rfl, by decide, by decide⟩ ⟨Nat.zero_le _, Nat.zero_le _⟩ rfl rfl (Nat.le_of_ble_eq_true rfl) dX12_letters_333 ?_
    cases h
    exact j_lret C hr hlk rfl dX12_letters_336
  have h := (if_neg c43).symm.trans h
  have n_c43 := ne_toInt (z := 14) (by decide) c43
  by_cases c46 : a1 = (15 : Int32)
  · have h := (if_pos c46).symm.trans h
    refine j_tableIn (tgt := 337) C dX12_letters_1 (by rw [c46]; decide) (by rw [c46]; decide) (by rw [c46]; rfl) (by decide) ?_
    refine j_bipush C dX12_letters_337 cb_97 ?_
    refine j_bipush C dX12_letters_339 cb_110 ?_
    refine j_bipush C dX12_letters_341 cb_100 ?_
    refine j_iconst C dX12_letters_343 ci_0 ?_
    refine j_iconst C dX12_letters_344 ci_0 ?_
    refine j_iconst C dX12_letters_345 ci_0 ?_
    refine j_iconst C dX12_letters_346 ci_0 ?_
    refine j_iconst C dX12_letters_347 ci_0 ?_
    obtain ⟨r47, h48, h⟩ := bd1_elim h
    refine j_callS (As := [.int (97 : Int32), .int (110 : Int32), .int (100 : Int32), .int (0 : Int32), .int (0 : Int32), .int (0 : Int32), .int (0 : Int32), .int (0 : Int32)]) (rest := []) C (kX12_spelled l B D ad cA hI S V L (97 : Int32) (110 : Int32) (100 : Int32) (0 : Int32) (0 : Int32) (0 : Int32) (0 : Int32) (0 : Int32) _ h48) mw_X12_spelled wd1670 wd1669 ⟨rfl, rfl, by decide, by decide⟩ ⟨Nat.zero_le _, Nat.zero_le _⟩ rfl rfl (Nat.le_of_ble_eq_true rfl) dX12_letters_348 ?_
    cases h
    exact j_lret C hr hlk rfl dX12_letters_351
  have h := (if_neg c46).symm.trans h
  have n_c46 := ne_toInt (z := 15) (by decide) c46
  by_cases c49 : a1 = (16 : Int32)
  · have h := (if_pos c49).symm.trans h
    refine j_tableIn (tgt := 352) C dX12_letters_1 (by rw [c49]; decide) (by rw [c49]; decide) (by rw [c49]; rfl) (by decide) ?_
    refine j_bipush C dX12_letters_352 cb_111 ?_
    refine j_bipush C dX12_letters_354 cb_114 ?_
    refine j_iconst C dX12_letters_356 ci_0 ?_
    refine j_iconst C dX12_letters_357 ci_0 ?_
    refine j_iconst C dX12_letters_358 ci_0 ?_
    refine j_iconst C dX12_letters_359 ci_0 ?_
    refine j_iconst C dX12_letters_360 ci_0 ?_
    refine j_iconst C dX12_letters_361 ci_0 ?_
    obtain ⟨r50, h51, h⟩ := bd1_elim h
    refine j_callS (As := [.int (111 : Int32), .int (114 : Int32), .int (0 : Int32), .int (0 : Int32), .int (0 : Int32), .int (0 : Int32), .int (0 : Int32), .int (0 : Int32)]) (rest := []) C (kX12_spelled l B D ad cA hI S V L (111 : Int32) (114 : Int32) (0 : Int32) (0 : Int32) (0 : Int32) (0 : Int32) (0 : Int32) (0 : Int32) _ h51) mw_X12_spelled wd1670 wd1669 ⟨rfl, rfl, by decide, by decide⟩ ⟨Nat.zero_le _, Nat.zero_le _⟩ rfl rfl (Nat.le_of_ble_eq_true rfl) dX12_letters_362 ?_
    cases h
    exact j_lret C hr hlk rfl dX12_letters_365
  have h := (if_neg c49).symm.trans h
  have n_c49 := ne_toInt (z := 16) (by decide) c49
  refine j_tableOut (tgt := 366) C dX12_letters_1 (by omega) (by decide) ?_
  refine j_bipush C dX12_letters_366 cb_110 ?_
  refine j_bipush C dX12_letters_368 cb_111 ?_
  refine j_bipush C dX12_letters_370 cb_116 ?_
  refine j_iconst C dX12_letters_372 ci_0 ?_
  refine j_iconst C dX12_letters_373 ci_0 ?_
  refine j_iconst C dX12_letters_374 ci_0 ?_
  refine j_iconst C dX12_letters_375 ci_0 ?_
  refine j_iconst C dX12_letters_376 ci_0 ?_
  obtain ⟨r52, h53, h⟩ := bd1_elim h
  refine j_callS (As := [.int (110 : Int32), .int (111 : Int32), .int (116 : Int32), .int (0 : Int32), .int (0 : Int32), .int (0 : Int32), .int (0 : Int32), .int (0 : Int32)]) (rest := []) C (kX12_spelled l B D ad cA hI S V L (110 : Int32) (111 : Int32) (116 : Int32) (0 : Int32) (0 : Int32) (0 : Int32) (0 : Int32) (0 : Int32) _ h53) mw_X12_spelled wd1670 wd1669 ⟨rfl, rfl, by decide, by decide⟩ ⟨Nat.zero_le _, Nat.zero_le _⟩ rfl rfl (Nat.le_of_ble_eq_true rfl) dX12_letters_377 ?_
  cases h
  exact j_lret C hr hlk rfl dX12_letters_380
theorem dX12_knownWord_0 : decode cX12_knownWord 0 = .ok (.aload_n 0, 1) := by decide +kernel
theorem dX12_knownWord_1 : decode cX12_knownWord 1 = .ok (.getfield 126, 3) := by decide +kernel
theorem dX12_knownWord_4 : decode cX12_knownWord 4 = .ok (.iconst 1, 1) := by decide +kernel
theorem dX12_knownWord_5 : decode cX12_knownWord 5 = .ok (.if_icmp .ne 12, 3) := by decide +kernel
theorem dX12_knownWord_8 : decode cX12_knownWord 8 = .ok (.aload_n 0, 1) := by decide +kernel
theorem dX12_knownWord_9 : decode cX12_knownWord 9 = .ok (.getfield 136, 3) := by decide +kernel
theorem dX12_knownWord_12 : decode cX12_knownWord 12 = .ok (.bipush 8, 2) := by decide +kernel
theorem dX12_knownWord_14 : decode cX12_knownWord 14 = .ok (.if_icmp .le 5, 3) := by decide +kernel
theorem dX12_knownWord_17 : decode cX12_knownWord 17 = .ok (.iconst (-1), 1) := by decide +kernel
theorem dX12_knownWord_18 : decode cX12_knownWord 18 = .ok (.ireturn, 1) := by decide +kernel
theorem dX12_knownWord_19 : decode cX12_knownWord 19 = .ok (.iconst 0, 1) := by decide +kernel
theorem dX12_knownWord_20 : decode cX12_knownWord 20 = .ok (.istore_n 1, 1) := by decide +kernel
theorem dX12_knownWord_21 : decode cX12_knownWord 21 = .ok (.iload_n 1, 1) := by decide +kernel
theorem dX12_knownWord_22 : decode cX12_knownWord 22 = .ok (.bipush 18, 2) := by decide +kernel
theorem dX12_knownWord_24 : decode cX12_knownWord 24 = .ok (.if_icmp .ge 23, 3) := by decide +kernel
theorem dX12_knownWord_27 : decode cX12_knownWord 27 = .ok (.iload_n 1, 1) := by decide +kernel
theorem dX12_knownWord_28 : decode cX12_knownWord 28 = .ok (.invokestatic 145, 3) := by decide +kernel
theorem dX12_knownWord_31 : decode cX12_knownWord 31 = .ok (.aload_n 0, 1) := by decide +kernel
theorem dX12_knownWord_32 : decode cX12_knownWord 32 = .ok (.getfield 116, 3) := by decide +kernel
theorem dX12_knownWord_35 : decode cX12_knownWord 35 = .ok (.lcmp, 1) := by decide +kernel
theorem dX12_knownWord_36 : decode cX12_knownWord 36 = .ok (.ifCond .ne 5, 3) := by decide +kernel
theorem dX12_knownWord_39 : decode cX12_knownWord 39 = .ok (.iload_n 1, 1) := by decide +kernel
theorem dX12_knownWord_40 : decode cX12_knownWord 40 = .ok (.ireturn, 1) := by decide +kernel
theorem dX12_knownWord_41 : decode cX12_knownWord 41 = .ok (.iinc 1 1, 3) := by decide +kernel
theorem dX12_knownWord_44 : decode cX12_knownWord 44 = .ok (.goto (-23), 3) := by decide +kernel
theorem dX12_knownWord_47 : decode cX12_knownWord 47 = .ok (.iconst (-1), 1) := by decide +kernel
theorem dX12_knownWord_48 : decode cX12_knownWord 48 = .ok (.ireturn, 1) := by decide +kernel
def fX12_knownWord_0_L21 (S : Nat → Int32) (L : Nat → Int64) : Nat → Int32 → Option (Int32)
  | 0, _ => none
  | n + 1, x3 =>
    (if (18 : Int32) ≤ x3 then
    some (-1 : Int32)
    else
    bd1 (fX12_letters x3) (fun r5 =>
    (if (lg_cmp r5 (L 24)) = 0 then
    some x3
    else
    lt (x3 + (1 : Int32)) (fun x8 =>
    fX12_knownWord_0_L21 S L n x8))))
def fX12_knownWord_0 (S : Nat → Int32) (L : Nat → Int64) : Option (Int32) :=
  (if (S 19) = (1 : Int32) then
  (if (S 21) ≤ (8 : Int32) then
  fX12_knownWord_0_L21 S L FU (0 : Int32)
  else
  some (-1 : Int32))
  else
  some (-1 : Int32))
set_option maxHeartbeats 4000000 in
set_option maxRecDepth 100000 in
theorem kX12_knownWord_0 (l : Launch) (B : jBT) (D : va_G) (ad : Nat → Nat) (cA : Nat → ClassId) (hI : jI ad TR) (S : Nat → Int32) (V : Nat → Nat → Int32) (L : Nat → Int64) (r0 : Int32) (h : fX12_knownWord_0 S L = some r0) : jM l yX12_knownWord cX12_knownWord 2 (some .int) ({ frames := 2, cells := 0, slots := 0, locals := 49 }) B D TR ad cA [.ref (ad 0)] S V L (some (.int r0)) S V L := by
  refine jM_of (plainFor_of_name (by decide)) TR_ok hI (Nat.le_of_ble_eq_true rfl) ?_
  intro p e s m args below meth c C hr hlk
  refine j_lv (lv2 := [(0, .ref (ad 0))]) rfl ?_
  unfold fX12_knownWord_0 at h
  have H_fX12_knownWord_0_L21 : ∀ (n : Nat) (x3 : Int32), fX12_knownWord_0_L21 S L n x3 = some r0 → jW p l e ({ frames := 2, cells := 0, slots := 0, locals := 49 }) s m args below meth c (MQ below (jQc D TR ad cA (some (.int r0)) s.heap.size S V L) args s 0 0 (jA ad TR s.heap.size)) D TR ad cA (jA ad TR s.heap.size) 2 0 0 21 [(0, .ref (ad 0)), (1, .int x3)] [] S V L := by
    intro n
    induction n with
    | zero =>
      intro x3 h
      cases (show (none : Option (Int32)) = some r0 from h)
    | succ n ih =>
      intro x3 h
      unfold fX12_knownWord_0_L21 at h
      refine j_iload_n C 1 rfl dX12_knownWord_21 rfl ?_
      refine j_bipush C dX12_knownWord_22 cb_18 ?_
      refine j_icmp_ge (tgt := 47) C dX12_knownWord_24 (by decide) (fun c4 => ?_) (fun c4 => ?_)
      · have h := (if_pos c4).symm.trans h
        refine j_iconst C dX12_knownWord_47 ci_m1 ?_
        cases h
        exact j_iret C hr hlk rfl dX12_knownWord_48
      · have h := (if_neg c4).symm.trans h
        refine j_iload_n C 1 rfl dX12_knownWord_27 rfl ?_
        obtain ⟨r5, h6, h⟩ := bd1_elim h
        refine j_callS (As := [.int x3]) (rest := []) C (kX12_letters l B D ad cA hI S V L x3 _ h6) mw_X12_letters wd1667 wd1666 ⟨rfl, rfl, by decide, by decide⟩ ⟨Nat.zero_le _, Nat.zero_le _⟩ rfl rfl (Nat.le_of_ble_eq_true rfl) dX12_knownWord_28 ?_
        refine j_aload_n C 0 rfl dX12_knownWord_31 rfl ?_
        refine fg_X12_116_TR_0 C dX12_knownWord_32 ?_
        refine j_lcmp C dX12_knownWord_35 ?_
        refine j_if_ne (tgt := 41) C dX12_knownWord_36 (by decide) (fun c7 => ?_) (fun c7 => ?_)
        · have h := (if_neg c7).symm.trans h
          refine lt_elim h (fun x8 e_x8 h => ?_)
          refine j_iinc C [(1, .int x8), (0, .ref (ad 0))] 1 dX12_knownWord_41 rfl ((iinc_eq ci_1).trans e_x8.symm) (by decide) rfl ?_
          refine j_goto (tgt := 21) C dX12_knownWord_44 (by decide) ?_
          exact j_sub [1, 0] rfl (ih _ h)
        · have h := (if_pos c7).symm.trans h
          refine j_iload_n C 1 rfl dX12_knownWord_39 rfl ?_
          cases h
          exact j_iret C hr hlk rfl dX12_knownWord_40
  refine j_aload_n C 0 rfl dX12_knownWord_0 rfl ?_
  refine fg_X12_126_TR_0 C dX12_knownWord_1 ?_
  refine j_iconst C dX12_knownWord_4 ci_1 ?_
  refine j_icmp_ne (tgt := 17) C dX12_knownWord_5 (by decide) (fun c1 => ?_) (fun c1 => ?_)
  · have h := (if_neg c1).symm.trans h
    refine j_iconst C dX12_knownWord_17 ci_m1 ?_
    cases h
    exact j_iret C hr hlk rfl dX12_knownWord_18
  · have h := (if_pos c1).symm.trans h
    refine j_aload_n C 0 rfl dX12_knownWord_8 rfl ?_
    refine fg_X12_136_TR_0 C dX12_knownWord_9 ?_
    refine j_bipush C dX12_knownWord_12 cb_8 ?_
    refine j_icmp_le (tgt := 19) C dX12_knownWord_14 (by decide) (fun c2 => ?_) (fun c2 => ?_)
    · have h := (if_pos c2).symm.trans h
      refine j_iconst C dX12_knownWord_19 ci_0 ?_
      refine j_istore_n C [(1, .int (0 : Int32)), (0, .ref (ad 0))] dX12_knownWord_20 rfl (by decide) rfl ?_
      exact j_sub [1, 0] rfl (H_fX12_knownWord_0_L21 FU _ h)
    · have h := (if_neg c2).symm.trans h
      refine j_iconst C dX12_knownWord_17 ci_m1 ?_
      cases h
      exact j_iret C hr hlk rfl dX12_knownWord_18
theorem dX12_part_0 : decode cX12_part 0 = .ok (.aload_n 0, 1) := by decide +kernel
theorem dX12_part_1 : decode cX12_part 1 = .ok (.invokevirtual 152, 3) := by decide +kernel
theorem dX12_part_4 : decode cX12_part 4 = .ok (.ifCond .ne 4, 3) := by decide +kernel
theorem dX12_part_7 : decode cX12_part 7 = .ok (.return_, 1) := by decide +kernel
theorem dX12_part_8 : decode cX12_part 8 = .ok (.aload_n 0, 1) := by decide +kernel
theorem dX12_part_9 : decode cX12_part 9 = .ok (.getfield 126, 3) := by decide +kernel
theorem dX12_part_12 : decode cX12_part 12 = .ok (.iconst 2, 1) := by decide +kernel
theorem dX12_part_13 : decode cX12_part 13 = .ok (.if_icmp .ne 32, 3) := by decide +kernel
theorem dX12_part_16 : decode cX12_part 16 = .ok (.aload_n 0, 1) := by decide +kernel
theorem dX12_part_17 : decode cX12_part 17 = .ok (.getfield 136, 3) := by decide +kernel
theorem dX12_part_20 : decode cX12_part 20 = .ok (.iconst 4, 1) := by decide +kernel
theorem dX12_part_21 : decode cX12_part 21 = .ok (.if_icmp .le 8, 3) := by decide +kernel
theorem dX12_part_24 : decode cX12_part 24 = .ok (.aload_n 0, 1) := by decide +kernel
theorem dX12_part_25 : decode cX12_part 25 = .ok (.iconst 2, 1) := by decide +kernel
theorem dX12_part_26 : decode cX12_part 26 = .ok (.invokevirtual 159, 3) := by decide +kernel
theorem dX12_part_29 : decode cX12_part 29 = .ok (.aload_n 0, 1) := by decide +kernel
theorem dX12_part_30 : decode cX12_part 30 = .ok (.iconst 1, 1) := by decide +kernel
theorem dX12_part_31 : decode cX12_part 31 = .ok (.invokevirtual 174, 3) := by decide +kernel
theorem dX12_part_34 : decode cX12_part 34 = .ok (.aload_n 0, 1) := by decide +kernel
theorem dX12_part_35 : decode cX12_part 35 = .ok (.aload_n 0, 1) := by decide +kernel
theorem dX12_part_36 : decode cX12_part 36 = .ok (.getfield 120, 3) := by decide +kernel
theorem dX12_part_39 : decode cX12_part 39 = .ok (.invokevirtual 174, 3) := by decide +kernel
theorem dX12_part_42 : decode cX12_part 42 = .ok (.goto 48, 3) := by decide +kernel
theorem dX12_part_45 : decode cX12_part 45 = .ok (.aload_n 0, 1) := by decide +kernel
theorem dX12_part_46 : decode cX12_part 46 = .ok (.getfield 126, 3) := by decide +kernel
theorem dX12_part_49 : decode cX12_part 49 = .ok (.iconst 1, 1) := by decide +kernel
theorem dX12_part_50 : decode cX12_part 50 = .ok (.if_icmp .ne 35, 3) := by decide +kernel
theorem dX12_part_53 : decode cX12_part 53 = .ok (.aload_n 0, 1) := by decide +kernel
theorem dX12_part_54 : decode cX12_part 54 = .ok (.invokevirtual 177, 3) := by decide +kernel
theorem dX12_part_57 : decode cX12_part 57 = .ok (.istore_n 1, 1) := by decide +kernel
theorem dX12_part_58 : decode cX12_part 58 = .ok (.iload_n 1, 1) := by decide +kernel
theorem dX12_part_59 : decode cX12_part 59 = .ok (.ifCond .lt 8, 3) := by decide +kernel
theorem dX12_part_62 : decode cX12_part 62 = .ok (.iload_n 1, 1) := by decide +kernel
theorem dX12_part_63 : decode cX12_part 63 = .ok (.iconst 5, 1) := by decide +kernel
theorem dX12_part_64 : decode cX12_part 64 = .ok (.if_icmp .le 8, 3) := by decide +kernel
theorem dX12_part_67 : decode cX12_part 67 = .ok (.aload_n 0, 1) := by decide +kernel
theorem dX12_part_68 : decode cX12_part 68 = .ok (.iconst 3, 1) := by decide +kernel
theorem dX12_part_69 : decode cX12_part 69 = .ok (.invokevirtual 159, 3) := by decide +kernel
theorem dX12_part_72 : decode cX12_part 72 = .ok (.aload_n 0, 1) := by decide +kernel
theorem dX12_part_73 : decode cX12_part 73 = .ok (.iconst 2, 1) := by decide +kernel
theorem dX12_part_74 : decode cX12_part 74 = .ok (.invokevirtual 174, 3) := by decide +kernel
theorem dX12_part_77 : decode cX12_part 77 = .ok (.aload_n 0, 1) := by decide +kernel
theorem dX12_part_78 : decode cX12_part 78 = .ok (.iload_n 1, 1) := by decide +kernel
theorem dX12_part_79 : decode cX12_part 79 = .ok (.invokevirtual 174, 3) := by decide +kernel
theorem dX12_part_82 : decode cX12_part 82 = .ok (.goto 8, 3) := by decide +kernel
theorem dX12_part_85 : decode cX12_part 85 = .ok (.aload_n 0, 1) := by decide +kernel
theorem dX12_part_86 : decode cX12_part 86 = .ok (.iconst 1, 1) := by decide +kernel
theorem dX12_part_87 : decode cX12_part 87 = .ok (.invokevirtual 159, 3) := by decide +kernel
theorem dX12_part_90 : decode cX12_part 90 = .ok (.aload_n 0, 1) := by decide +kernel
theorem dX12_part_91 : decode cX12_part 91 = .ok (.invokevirtual 152, 3) := by decide +kernel
theorem dX12_part_94 : decode cX12_part 94 = .ok (.ifCond .eq 7, 3) := by decide +kernel
theorem dX12_part_97 : decode cX12_part 97 = .ok (.aload_n 0, 1) := by decide +kernel
theorem dX12_part_98 : decode cX12_part 98 = .ok (.invokevirtual 156, 3) := by decide +kernel
theorem dX12_part_101 : decode cX12_part 101 = .ok (.return_, 1) := by decide +kernel
def fX12_part_0 (S : Nat → Int32) (V : Nat → Nat → Int32) (L : Nat → Int64) : Option ((Nat → Int32) × (Nat → Nat → Int32) × (Nat → Int64)) :=
  bd1 (fX12_isGood_0 S) (fun r1 =>
  (if r1 = 0 then
  some (S, V, L)
  else
  bk (fun (S5 : Nat → Int32) (V6 : Nat → Nat → Int32) (L7 : Nat → Int64) =>
  bd1 (fX12_isGood_0 S5) (fun r8 =>
  (if r8 = 0 then
  some (S5, V6, L7)
  else
  bd2 (fX12_goes_0 S5 V6 L7) (fun S11 L12 =>
  some (S11, V6, L12))))) (fun K90_4 =>
  (if (S 19) = (2 : Int32) then
  bk (fun (S41 : Nat → Int32) (V42 : Nat → Nat → Int32) (L43 : Nat → Int64) =>
  bd2 (fX12_puts_0 S41 V42 (1 : Int32)) (fun S44 V45 =>
  bd2 (fX12_puts_0 S44 V45 ((S44 22))) (fun S47 V48 =>
  K90_4 S47 V48 L43))) (fun K29_40 =>
  (if (S 21) ≤ (4 : Int32) then
  K29_40 S V L
  else
  bd1 (fX12_wrong_0 S (2 : Int32)) (fun S51 =>
  K29_40 S51 V L)))
  else
  (if (S 19) = (1 : Int32) then
  bd1 (fX12_knownWord_0 S L) (fun r18 =>
  bk (fun (x21 : Int32) (S22 : Nat → Int32) (V23 : Nat → Nat → Int32) (L24 : Nat → Int64) =>
  bd2 (fX12_puts_0 S22 V23 (2 : Int32)) (fun S25 V26 =>
  bd2 (fX12_puts_0 S25 V26 x21) (fun S28 V29 =>
  K90_4 S28 V29 L24))) (fun K72_20 =>
  bk (fun (x32 : Int32) (S33 : Nat → Int32) (V34 : Nat → Nat → Int32) (L35 : Nat → Int64) =>
  bd1 (fX12_wrong_0 S33 (3 : Int32)) (fun S36 =>
  K72_20 x32 S36 V34 L35)) (fun K67_31 =>
  (if r18 < 0 then
  K67_31 r18 S V L
  else
  (if r18 ≤ (5 : Int32) then
  K72_20 r18 S V L
  else
  K67_31 r18 S V L)))))
  else
  bd1 (fX12_wrong_0 S (1 : Int32)) (fun S16 =>
  K90_4 S16 V L))))))
set_option maxHeartbeats 4000000 in
set_option maxRecDepth 100000 in
theorem kX12_part_0 (l : Launch) (B : jBT) (D : va_G) (ad : Nat → Nat) (cA : Nat → ClassId) (hI : jI ad TR) (S : Nat → Int32) (V : Nat → Nat → Int32) (L : Nat → Int64) (S0 : Nat → Int32) (V0 : Nat → Nat → Int32) (L0 : Nat → Int64) (h : fX12_part_0 S V L = some (S0, V0, L0)) : jM l yX12_part cX12_part 2 none ({ frames := 3, cells := 0, slots := 0, locals := 70 }) B D TR ad cA [.ref (ad 0)] S V L none S0 V0 L0 := by
  refine jM_of (plainFor_of_name (by decide)) TR_ok hI (Nat.le_of_ble_eq_true rfl) ?_
  intro p e s m args below meth c C hr hlk
  refine j_lv (lv2 := [(0, .ref (ad 0))]) rfl ?_
  unfold fX12_part_0 at h
  refine j_aload_n C 0 rfl dX12_part_0 rfl ?_
  obtain ⟨r1, h2, h⟩ := bd1_elim h
  refine j_callV (As := []) (rest := []) C (kX12_isGood_0 l B D ad cA hI S V L _ h2) mw_X12_isGood wd1656 wd59 wd1654 tr_0 rfl rfl ⟨rfl, rfl, by decide, by decide⟩ ⟨Nat.zero_le _, Nat.zero_le _⟩ rfl rfl (Nat.le_of_ble_eq_true rfl) dX12_part_1 ?_
  refine j_if_ne (tgt := 8) C dX12_part_4 (by decide) (fun c3 => ?_) (fun c3 => ?_)
  · have h := (if_neg c3).symm.trans h
    refine j_aload_n C 0 rfl dX12_part_8 rfl ?_
    refine fg_X12_126_TR_0 C dX12_part_9 ?_
    refine j_iconst C dX12_part_12 ci_2 ?_
    refine bk_elim h (fun K90_4 e_K90_4 h => ?_)
    have HK90_4 : ∀ (S5 : Nat → Int32) (V6 : Nat → Nat → Int32) (L7 : Nat → Int64), K90_4 S5 V6 L7 = some (S0, V0, L0) → jW p l e ({ frames := 3, cells := 0, slots := 0, locals := 70 }) s m args below meth c (MQ below (jQc D TR ad cA none s.heap.size S0 V0 L0) args s 0 0 (jA ad TR s.heap.size)) D TR ad cA (jA ad TR s.heap.size) 2 0 0 90 [(0, .ref (ad 0))] [] S5 V6 L7 := by
      subst e_K90_4
      intro S5 V6 L7 h
      refine j_aload_n C 0 rfl dX12_part_90 rfl ?_
      obtain ⟨r8, h9, h⟩ := bd1_elim h
      refine j_callV (As := []) (rest := []) C (kX12_isGood_0 l B D ad cA hI S5 V6 L7 _ h9) mw_X12_isGood wd1656 wd59 wd1654 tr_0 rfl rfl ⟨rfl, rfl, by decide, by decide⟩ ⟨Nat.zero_le _, Nat.zero_le _⟩ rfl rfl (Nat.le_of_ble_eq_true rfl) dX12_part_91 ?_
      refine j_if_eq (tgt := 101) C dX12_part_94 (by decide) (fun c10 => ?_) (fun c10 => ?_)
      · have h := (if_pos c10).symm.trans h
        cases h
        exact j_vret C hr hlk rfl dX12_part_101
      · have h := (if_neg c10).symm.trans h
        refine j_aload_n C 0 rfl dX12_part_97 rfl ?_
        obtain ⟨S11, L12, h13, h⟩ := bd2_elim h
        refine j_callV (As := []) (rest := []) C (kX12_goes_0 l B D ad cA hI S5 V6 L7 _ _ h13) mw_X12_goes wd1642 wd57 wd1640 tr_0 rfl rfl ⟨rfl, rfl, by decide, by decide⟩ ⟨Nat.zero_le _, Nat.zero_le _⟩ rfl rfl (Nat.le_of_ble_eq_true rfl) dX12_part_98 ?_
        cases h
        exact j_vret C hr hlk rfl dX12_part_101
    refine j_icmp_ne (tgt := 45) C dX12_part_13 (by decide) (fun c14 => ?_) (fun c14 => ?_)
    · have h := (if_neg c14).symm.trans h
      refine j_aload_n C 0 rfl dX12_part_45 rfl ?_
      refine fg_X12_126_TR_0 C dX12_part_46 ?_
      refine j_iconst C dX12_part_49 ci_1 ?_
      refine j_icmp_ne (tgt := 85) C dX12_part_50 (by decide) (fun c15 => ?_) (fun c15 => ?_)
      · have h := (if_neg c15).symm.trans h
        refine j_aload_n C 0 rfl dX12_part_85 rfl ?_
        refine j_iconst C dX12_part_86 ci_1 ?_
        obtain ⟨S16, h17, h⟩ := bd1_elim h
        refine j_callV (As := [.int (1 : Int32)]) (rest := []) C (kX12_wrong_0 l B D ad cA hI S V L (1 : Int32) _ h17) mw_X12_wrong wd1679 wd63 wd1677 tr_0 rfl rfl ⟨rfl, rfl, by decide, by decide⟩ ⟨Nat.zero_le _, Nat.zero_le _⟩ rfl rfl (Nat.le_of_ble_eq_true rfl) dX12_part_87 ?_
        exact j_sub [0] rfl (HK90_4 _ _ _ h)
      · have h := (if_pos c15).symm.trans h
        refine j_aload_n C 0 rfl dX12_part_53 rfl ?_
        obtain ⟨r18, h19, h⟩ := bd1_elim h
        refine j_callV (As := []) (rest := []) C (kX12_knownWord_0 l B D ad cA hI S V L _ h19) mw_X12_knownWord wd1664 wd61 wd1662 tr_0 rfl rfl ⟨rfl, rfl, by decide, by decide⟩ ⟨Nat.zero_le _, Nat.zero_le _⟩ rfl rfl (Nat.le_of_ble_eq_true rfl) dX12_part_54 ?_
        refine j_istore_n C [(1, .int r18), (0, .ref (ad 0))] dX12_part_57 rfl (by decide) rfl ?_
        refine j_iload_n C 0 rfl dX12_part_58 rfl ?_
        refine bk_elim h (fun K72_20 e_K72_20 h => ?_)
        have HK72_20 : ∀ (x21 : Int32) (S22 : Nat → Int32) (V23 : Nat → Nat → Int32) (L24 : Nat → Int64), K72_20 x21 S22 V23 L24 = some (S0, V0, L0) → jW p l e ({ frames := 3, cells := 0, slots := 0, locals := 70 }) s m args below meth c (MQ below (jQc D TR ad cA none s.heap.size S0 V0 L0) args s 0 0 (jA ad TR s.heap.size)) D TR ad cA (jA ad TR s.heap.size) 2 0 0 72 [(0, .ref (ad 0)), (1, .int x21)] [] S22 V23 L24 := by
          subst e_K72_20
          intro x21 S22 V23 L24 h
          refine j_aload_n C 0 rfl dX12_part_72 rfl ?_
          refine j_iconst C dX12_part_73 ci_2 ?_
          obtain ⟨S25, V26, h27, h⟩ := bd2_elim h
          refine j_callV (As := [.int (2 : Int32)]) (rest := []) C (kX12_puts_0 l B D ad cA hI S22 V23 L24 (2 : Int32) _ _ h27) mw_X12_puts wd1727 wd75 wd1725 tr_0 rfl rfl ⟨rfl, rfl, by decide, by decide⟩ ⟨Nat.zero_le _, Nat.zero_le _⟩ rfl rfl (Nat.le_of_ble_eq_true rfl) dX12_part_74 ?_
          refine j_aload_n C 0 rfl dX12_part_77 rfl ?_
          refine j_iload_n C 1 rfl dX12_part_78 rfl ?_
          obtain ⟨S28, V29, h30, h⟩ := bd2_elim h
          refine j_callV (As := [.int x21]) (rest := []) C (kX12_puts_0 l B D ad cA hI S25 V26 L24 x21 _ _ h30) mw_X12_puts wd1727 wd75 wd1725 tr_0 rfl rfl ⟨rfl, rfl, by decide, by decide⟩ ⟨Nat.zero_le _, Nat.zero_le _⟩ rfl rfl (Nat.le_of_ble_eq_true rfl) dX12_part_79 ?_
          refine j_goto (tgt := 90) C dX12_part_82 (by decide) ?_
          exact j_sub [0] rfl (HK90_4 _ _ _ h)
        refine bk_elim h (fun K67_31 e_K67_31 h => ?_)
        have HK67_31 : ∀ (x32 : Int32) (S33 : Nat → Int32) (V34 : Nat → Nat → Int32) (L35 : Nat → Int64), K67_31 x32 S33 V34 L35 = some (S0, V0, L0) → jW p l e ({ frames := 3, cells := 0, slots := 0, locals := 70 }) s m args below meth c (MQ below (jQc D TR ad cA none s.heap.size S0 V0 L0) args s 0 0 (jA ad TR s.heap.size)) D TR ad cA (jA ad TR s.heap.size) 2 0 0 67 [(0, .ref (ad 0)), (1, .int x32)] [] S33 V34 L35 := by
          subst e_K67_31
          intro x32 S33 V34 L35 h
          refine j_aload_n C 0 rfl dX12_part_67 rfl ?_
          refine j_iconst C dX12_part_68 ci_3 ?_
          obtain ⟨S36, h37, h⟩ := bd1_elim h
          refine j_callV (As := [.int (3 : Int32)]) (rest := []) C (kX12_wrong_0 l B D ad cA hI S33 V34 L35 (3 : Int32) _ h37) mw_X12_wrong wd1679 wd63 wd1677 tr_0 rfl rfl ⟨rfl, rfl, by decide, by decide⟩ ⟨Nat.zero_le _, Nat.zero_le _⟩ rfl rfl (Nat.le_of_ble_eq_true rfl) dX12_part_69 ?_
          exact j_sub [0, 1] rfl (HK72_20 _ _ _ _ h)
        refine j_if_lt (tgt := 67) C dX12_part_59 (by decide) (fun c38 => ?_) (fun c38 => ?_)
        · have h := (if_pos c38).symm.trans h
          exact j_sub [1, 0] rfl (HK67_31 _ _ _ _ h)
        · have h := (if_neg c38).symm.trans h
          refine j_iload_n C 0 rfl dX12_part_62 rfl ?_
          refine j_iconst C dX12_part_63 ci_5 ?_
          refine j_icmp_le (tgt := 72) C dX12_part_64 (by decide) (fun c39 => ?_) (fun c39 => ?_)
          · have h := (if_pos c39).symm.trans h
            exact j_sub [1, 0] rfl (HK72_20 _ _ _ _ h)
          · have h := (if_neg c39).symm.trans h
            exact j_sub [1, 0] rfl (HK67_31 _ _ _ _ h)
    · have h := (if_pos c14).symm.trans h
      refine j_aload_n C 0 rfl dX12_part_16 rfl ?_
      refine fg_X12_136_TR_0 C dX12_part_17 ?_
      refine j_iconst C dX12_part_20 ci_4 ?_
      refine bk_elim h (fun K29_40 e_K29_40 h => ?_)
      have HK29_40 : ∀ (S41 : Nat → Int32) (V42 : Nat → Nat → Int32) (L43 : Nat → Int64), K29_40 S41 V42 L43 = some (S0, V0, L0) → jW p l e ({ frames := 3, cells := 0, slots := 0, locals := 70 }) s m args below meth c (MQ below (jQc D TR ad cA none s.heap.size S0 V0 L0) args s 0 0 (jA ad TR s.heap.size)) D TR ad cA (jA ad TR s.heap.size) 2 0 0 29 [(0, .ref (ad 0))] [] S41 V42 L43 := by
        subst e_K29_40
        intro S41 V42 L43 h
        refine j_aload_n C 0 rfl dX12_part_29 rfl ?_
        refine j_iconst C dX12_part_30 ci_1 ?_
        obtain ⟨S44, V45, h46, h⟩ := bd2_elim h
        refine j_callV (As := [.int (1 : Int32)]) (rest := []) C (kX12_puts_0 l B D ad cA hI S41 V42 L43 (1 : Int32) _ _ h46) mw_X12_puts wd1727 wd75 wd1725 tr_0 rfl rfl ⟨rfl, rfl, by decide, by decide⟩ ⟨Nat.zero_le _, Nat.zero_le _⟩ rfl rfl (Nat.le_of_ble_eq_true rfl) dX12_part_31 ?_
        refine j_aload_n C 0 rfl dX12_part_34 rfl ?_
        refine j_aload_n C 0 rfl dX12_part_35 rfl ?_
        refine fg_X12_120_TR_0 C dX12_part_36 ?_
        obtain ⟨S47, V48, h49, h⟩ := bd2_elim h
        refine j_callV (As := [.int (S44 22)]) (rest := []) C (kX12_puts_0 l B D ad cA hI S44 V45 L43 ((S44 22)) _ _ h49) mw_X12_puts wd1727 wd75 wd1725 tr_0 rfl rfl ⟨rfl, rfl, by decide, by decide⟩ ⟨Nat.zero_le _, Nat.zero_le _⟩ rfl rfl (Nat.le_of_ble_eq_true rfl) dX12_part_39 ?_
        refine j_goto (tgt := 90) C dX12_part_42 (by decide) ?_
        exact j_sub [0] rfl (HK90_4 _ _ _ h)
      refine j_icmp_le (tgt := 29) C dX12_part_21 (by decide) (fun c50 => ?_) (fun c50 => ?_)
      · have h := (if_pos c50).symm.trans h
        exact j_sub [0] rfl (HK29_40 _ _ _ h)
      · have h := (if_neg c50).symm.trans h
        refine j_aload_n C 0 rfl dX12_part_24 rfl ?_
        refine j_iconst C dX12_part_25 ci_2 ?_
        obtain ⟨S51, h52, h⟩ := bd1_elim h
        refine j_callV (As := [.int (2 : Int32)]) (rest := []) C (kX12_wrong_0 l B D ad cA hI S V L (2 : Int32) _ h52) mw_X12_wrong wd1679 wd63 wd1677 tr_0 rfl rfl ⟨rfl, rfl, by decide, by decide⟩ ⟨Nat.zero_le _, Nat.zero_le _⟩ rfl rfl (Nat.le_of_ble_eq_true rfl) dX12_part_26 ?_
        exact j_sub [0] rfl (HK29_40 _ _ _ h)
  · have h := (if_pos c3).symm.trans h
    cases h
    exact j_vret C hr hlk rfl dX12_part_7
theorem dX12_waitsFor_0 : decode cX12_waitsFor 0 = .ok (.aload_n 0, 1) := by decide +kernel
theorem dX12_waitsFor_1 : decode cX12_waitsFor 1 = .ok (.getfield 53, 3) := by decide +kernel
theorem dX12_waitsFor_4 : decode cX12_waitsFor 4 = .ok (.aload_n 0, 1) := by decide +kernel
theorem dX12_waitsFor_5 : decode cX12_waitsFor 5 = .ok (.getfield 165, 3) := by decide +kernel
theorem dX12_waitsFor_8 : decode cX12_waitsFor 8 = .ok (.iload_n 1, 1) := by decide +kernel
theorem dX12_waitsFor_9 : decode cX12_waitsFor 9 = .ok (.iastore, 1) := by decide +kernel
theorem dX12_waitsFor_10 : decode cX12_waitsFor 10 = .ok (.aload_n 0, 1) := by decide +kernel
theorem dX12_waitsFor_11 : decode cX12_waitsFor 11 = .ok (.dup, 1) := by decide +kernel
theorem dX12_waitsFor_12 : decode cX12_waitsFor 12 = .ok (.getfield 165, 3) := by decide +kernel
theorem dX12_waitsFor_15 : decode cX12_waitsFor 15 = .ok (.iconst 1, 1) := by decide +kernel
theorem dX12_waitsFor_16 : decode cX12_waitsFor 16 = .ok (.iadd, 1) := by decide +kernel
theorem dX12_waitsFor_17 : decode cX12_waitsFor 17 = .ok (.putfield 165, 3) := by decide +kernel
theorem dX12_waitsFor_20 : decode cX12_waitsFor 20 = .ok (.return_, 1) := by decide +kernel
def fX12_waitsFor_0 (S : Nat → Int32) (V : Nat → Nat → Int32) (a1 : Int32) : Option ((Nat → Int32) × (Nat → Nat → Int32)) :=
  lt ((S 34)) (fun x1 =>
  gd (ib x1 800) (
  lt (va_up V 11 (upd (V 11) (x1).toNatClampNeg a1)) (fun V3 =>
  lt (((S 34) + (1 : Int32))) (fun x4 =>
  lt (va_up S 34 x4) (fun S5 =>
  some (S5, V3))))))
set_option maxHeartbeats 4000000 in
set_option maxRecDepth 100000 in
theorem kX12_waitsFor_0 (l : Launch) (B : jBT) (D : va_G) (ad : Nat → Nat) (cA : Nat → ClassId) (hI : jI ad TR) (S : Nat → Int32) (V : Nat → Nat → Int32) (L : Nat → Int64) (a1 : Int32) (S0 : Nat → Int32) (V0 : Nat → Nat → Int32) (h : fX12_waitsFor_0 S V a1 = some (S0, V0)) : jM l yX12_waitsFor cX12_waitsFor 2 none ({ frames := 0, cells := 0, slots := 0, locals := 0 }) B D TR ad cA [.ref (ad 0), .int a1] S V L none S0 V0 L := by
  refine jM_of (plainFor_of_name (by decide)) TR_ok hI (Nat.le_of_ble_eq_true rfl) ?_
  intro p e s m args below meth c C hr hlk
  refine j_lv (lv2 := [(0, .ref (ad 0)), (1, .int a1)]) rfl ?_
  unfold fX12_waitsFor_0 at h
  refine j_aload_n C 0 rfl dX12_waitsFor_0 rfl ?_
  refine fg_X12_53_TR_0 C dX12_waitsFor_1 ?_
  refine j_aload_n C 0 rfl dX12_waitsFor_4 rfl ?_
  refine fg_X12_165_TR_0 C dX12_waitsFor_5 ?_
  refine j_iload_n C 1 rfl dX12_waitsFor_8 rfl ?_
  refine lt_elim h (fun x1 e_x1 h => ?_)
  refine j_top2 e_x1 ?_
  obtain ⟨g2, h⟩ := gd_elim h
  refine j_iast C tr_11 (ib_in g2) dX12_waitsFor_9 ?_
  refine lt_elim h (fun V3 e_V3 h => ?_)
  refine j_V e_V3 ?_
  refine j_aload_n C 0 rfl dX12_waitsFor_10 rfl ?_
  refine j_dup C dX12_waitsFor_11 rfl ?_
  refine fg_X12_165_TR_0 C dX12_waitsFor_12 ?_
  refine j_iconst C dX12_waitsFor_15 ci_1 ?_
  refine j_iadd C dX12_waitsFor_16 ?_
  refine lt_elim h (fun x4 e_x4 h => ?_)
  refine j_top e_x4 ?_
  refine fp_X12_165_TR_0 C dX12_waitsFor_17 ?_
  refine lt_elim h (fun S5 e_S5 h => ?_)
  refine j_S e_S5 ?_
  cases h
  exact j_vret C hr hlk rfl dX12_waitsFor_20
theorem dX12_operand_0 : decode cX12_operand 0 = .ok (.iload_n 1, 1) := by decide +kernel
theorem dX12_operand_1 : decode cX12_operand 1 = .ok (.istore_n 2, 1) := by decide +kernel
theorem dX12_operand_2 : decode cX12_operand 2 = .ok (.iconst 1, 1) := by decide +kernel
theorem dX12_operand_3 : decode cX12_operand 3 = .ok (.istore_n 3, 1) := by decide +kernel
theorem dX12_operand_4 : decode cX12_operand 4 = .ok (.iload_n 3, 1) := by decide +kernel
theorem dX12_operand_5 : decode cX12_operand 5 = .ok (.ifCond .eq 115, 3) := by decide +kernel
theorem dX12_operand_8 : decode cX12_operand 8 = .ok (.aload_n 0, 1) := by decide +kernel
theorem dX12_operand_9 : decode cX12_operand 9 = .ok (.invokevirtual 152, 3) := by decide +kernel
theorem dX12_operand_12 : decode cX12_operand 12 = .ok (.ifCond .eq 108, 3) := by decide +kernel
theorem dX12_operand_15 : decode cX12_operand 15 = .ok (.iconst 0, 1) := by decide +kernel
theorem dX12_operand_16 : decode cX12_operand 16 = .ok (.istore 4, 2) := by decide +kernel
theorem dX12_operand_18 : decode cX12_operand 18 = .ok (.aload_n 0, 1) := by decide +kernel
theorem dX12_operand_19 : decode cX12_operand 19 = .ok (.invokevirtual 152, 3) := by decide +kernel
theorem dX12_operand_22 : decode cX12_operand 22 = .ok (.ifCond .eq 53, 3) := by decide +kernel
theorem dX12_operand_25 : decode cX12_operand 25 = .ok (.iload_n 2, 1) := by decide +kernel
theorem dX12_operand_26 : decode cX12_operand 26 = .ok (.ifCond .eq 49, 3) := by decide +kernel
theorem dX12_operand_29 : decode cX12_operand 29 = .ok (.aload_n 0, 1) := by decide +kernel
theorem dX12_operand_30 : decode cX12_operand 30 = .ok (.invokevirtual 177, 3) := by decide +kernel
theorem dX12_operand_33 : decode cX12_operand 33 = .ok (.bipush 17, 2) := by decide +kernel
theorem dX12_operand_35 : decode cX12_operand 35 = .ok (.if_icmp .ne 40, 3) := by decide +kernel
theorem dX12_operand_38 : decode cX12_operand 38 = .ok (.iload 4, 2) := by decide +kernel
theorem dX12_operand_40 : decode cX12_operand 40 = .ok (.bipush 6, 2) := by decide +kernel
theorem dX12_operand_42 : decode cX12_operand 42 = .ok (.if_icmp .ne 8, 3) := by decide +kernel
theorem dX12_operand_45 : decode cX12_operand 45 = .ok (.aload_n 0, 1) := by decide +kernel
theorem dX12_operand_46 : decode cX12_operand 46 = .ok (.iconst 2, 1) := by decide +kernel
theorem dX12_operand_47 : decode cX12_operand 47 = .ok (.invokevirtual 159, 3) := by decide +kernel
theorem dX12_operand_50 : decode cX12_operand 50 = .ok (.iinc 4 1, 3) := by decide +kernel
theorem dX12_operand_53 : decode cX12_operand 53 = .ok (.aload_n 0, 1) := by decide +kernel
theorem dX12_operand_54 : decode cX12_operand 54 = .ok (.invokevirtual 152, 3) := by decide +kernel
theorem dX12_operand_57 : decode cX12_operand 57 = .ok (.ifCond .ne 6, 3) := by decide +kernel
theorem dX12_operand_60 : decode cX12_operand 60 = .ok (.goto (-42), 3) := by decide +kernel
theorem dX12_operand_63 : decode cX12_operand 63 = .ok (.aload_n 0, 1) := by decide +kernel
theorem dX12_operand_64 : decode cX12_operand 64 = .ok (.iconst 3, 1) := by decide +kernel
theorem dX12_operand_65 : decode cX12_operand 65 = .ok (.invokevirtual 187, 3) := by decide +kernel
theorem dX12_operand_68 : decode cX12_operand 68 = .ok (.aload_n 0, 1) := by decide +kernel
theorem dX12_operand_69 : decode cX12_operand 69 = .ok (.invokevirtual 156, 3) := by decide +kernel
theorem dX12_operand_72 : decode cX12_operand 72 = .ok (.goto (-54), 3) := by decide +kernel
theorem dX12_operand_75 : decode cX12_operand 75 = .ok (.aload_n 0, 1) := by decide +kernel
theorem dX12_operand_76 : decode cX12_operand 76 = .ok (.invokevirtual 152, 3) := by decide +kernel
theorem dX12_operand_79 : decode cX12_operand 79 = .ok (.ifCond .eq 16, 3) := by decide +kernel
theorem dX12_operand_82 : decode cX12_operand 82 = .ok (.aload_n 0, 1) := by decide +kernel
theorem dX12_operand_83 : decode cX12_operand 83 = .ok (.bipush 40, 2) := by decide +kernel
theorem dX12_operand_85 : decode cX12_operand 85 = .ok (.invokevirtual 184, 3) := by decide +kernel
theorem dX12_operand_88 : decode cX12_operand 88 = .ok (.ifCond .eq 7, 3) := by decide +kernel
theorem dX12_operand_91 : decode cX12_operand 91 = .ok (.iconst 1, 1) := by decide +kernel
theorem dX12_operand_92 : decode cX12_operand 92 = .ok (.goto 4, 3) := by decide +kernel
theorem dX12_operand_95 : decode cX12_operand 95 = .ok (.iconst 0, 1) := by decide +kernel
theorem dX12_operand_96 : decode cX12_operand 96 = .ok (.istore_n 3, 1) := by decide +kernel
theorem dX12_operand_97 : decode cX12_operand 97 = .ok (.iload_n 3, 1) := by decide +kernel
theorem dX12_operand_98 : decode cX12_operand 98 = .ok (.ifCond .eq 19, 3) := by decide +kernel
theorem dX12_operand_101 : decode cX12_operand 101 = .ok (.aload_n 0, 1) := by decide +kernel
theorem dX12_operand_102 : decode cX12_operand 102 = .ok (.bipush 14, 2) := by decide +kernel
theorem dX12_operand_104 : decode cX12_operand 104 = .ok (.invokevirtual 187, 3) := by decide +kernel
theorem dX12_operand_107 : decode cX12_operand 107 = .ok (.aload_n 0, 1) := by decide +kernel
theorem dX12_operand_108 : decode cX12_operand 108 = .ok (.invokevirtual 156, 3) := by decide +kernel
theorem dX12_operand_111 : decode cX12_operand 111 = .ok (.aload_n 0, 1) := by decide +kernel
theorem dX12_operand_112 : decode cX12_operand 112 = .ok (.invokevirtual 190, 3) := by decide +kernel
theorem dX12_operand_115 : decode cX12_operand 115 = .ok (.iconst 1, 1) := by decide +kernel
theorem dX12_operand_116 : decode cX12_operand 116 = .ok (.istore_n 2, 1) := by decide +kernel
theorem dX12_operand_117 : decode cX12_operand 117 = .ok (.goto (-113), 3) := by decide +kernel
theorem dX12_operand_120 : decode cX12_operand 120 = .ok (.aload_n 0, 1) := by decide +kernel
theorem dX12_operand_121 : decode cX12_operand 121 = .ok (.invokevirtual 193, 3) := by decide +kernel
theorem dX12_operand_124 : decode cX12_operand 124 = .ok (.return_, 1) := by decide +kernel
def fX12_operand_0_L18 (E75 : Int32 → (Nat → Int32) → (Nat → Nat → Int32) → (Nat → Int64) → Option ((Nat → Int32) × (Nat → Nat → Int32) × (Nat → Int64))) : Nat → Int32 → Int32 → (Nat → Int32) → (Nat → Nat → Int32) → (Nat → Int64) → Option ((Nat → Int32) × (Nat → Nat → Int32) × (Nat → Int64))
  | 0, _, _, _, _, _ => none
  | n + 1, x10, x11, S12, V13, L14 =>
    bd1 (fX12_isGood_0 S12) (fun r15 =>
    (if r15 = 0 then
    E75 x10 S12 V13 L14
    else
    (if x10 = 0 then
    E75 x10 S12 V13 L14
    else
    bd1 (fX12_knownWord_0 S12 L14) (fun r19 =>
    (if r19 = (17 : Int32) then
    bk (fun (x23 : Int32) (x24 : Int32) (S25 : Nat → Int32) (V26 : Nat → Nat → Int32) (L27 : Nat → Int64) =>
    lt (x24 + (1 : Int32)) (fun x28 =>
    bd1 (fX12_isGood_0 S25) (fun r29 =>
    (if r29 = 0 then
    fX12_operand_0_L18 E75 n x23 x28 S25 V26 L27
    else
    bd2 (fX12_waitsFor_0 S25 V26 (3 : Int32)) (fun S32 V33 =>
    bd2 (fX12_goes_0 S32 V33 L27) (fun S35 L36 =>
    fX12_operand_0_L18 E75 n x23 x28 S35 V33 L36)))))) (fun K50_22 =>
    (if x11 = (6 : Int32) then
    bd1 (fX12_wrong_0 S12 (2 : Int32)) (fun S39 =>
    K50_22 x10 x11 S39 V13 L14)
    else
    K50_22 x10 x11 S12 V13 L14))
    else
    E75 x10 S12 V13 L14)))))
def fX12_operand_0_L4 (E120 : (Nat → Int32) → (Nat → Nat → Int32) → (Nat → Int64) → Option ((Nat → Int32) × (Nat → Nat → Int32) × (Nat → Int64))) : Nat → Int32 → Int32 → (Nat → Int32) → (Nat → Nat → Int32) → (Nat → Int64) → Option ((Nat → Int32) × (Nat → Nat → Int32) × (Nat → Int64))
  | 0, _, _, _, _, _ => none
  | n + 1, x1, x2, S3, V4, L5 =>
    (if x2 = 0 then
    E120 S3 V4 L5
    else
    bd1 (fX12_isGood_0 S3) (fun r7 =>
    (if r7 = 0 then
    E120 S3 V4 L5
    else
    bk (fun (x46 : Int32) (S47 : Nat → Int32) (V48 : Nat → Nat → Int32) (L49 : Nat → Int64) =>
    bd1 (fX12_isGood_0 S47) (fun r50 =>
    bk (fun (x53 : Int32) (x54 : Int32) (S55 : Nat → Int32) (V56 : Nat → Nat → Int32) (L57 : Nat → Int64) =>
    bk (fun (x59 : Int32) (x60 : Int32) (S61 : Nat → Int32) (V62 : Nat → Nat → Int32) (L63 : Nat → Int64) =>
    fX12_operand_0_L4 E120 n x59 x60 S61 V62 L63) (fun K117_58 =>
    (if x54 = 0 then
    K117_58 x53 x54 S55 V56 L57
    else
    bd2 (fX12_waitsFor_0 S55 V56 (14 : Int32)) (fun S65 V66 =>
    bd2 (fX12_goes_0 S65 V66 L57) (fun S68 L69 =>
    bd2 (fX12_deeper_0 S68 V66) (fun S71 V72 =>
    K117_58 (1 : Int32) x54 S71 V72 L69)))))) (fun K96_52 =>
    bk (fun (x75 : Int32) (S76 : Nat → Int32) (V77 : Nat → Nat → Int32) (L78 : Nat → Int64) =>
    K96_52 x75 (0 : Int32) S76 V77 L78) (fun K95_74 =>
    (if r50 = 0 then
    K95_74 x46 S47 V48 L49
    else
    bd1 (fX12_isSign_0 S47 (40 : Int32)) (fun r80 =>
    (if r80 = 0 then
    K95_74 x46 S47 V48 L49
    else
    K96_52 x46 (1 : Int32) S47 V48 L49))))))) (fun X75_45 =>
    fX12_operand_0_L18 X75_45 FU x1 (0 : Int32) S3 V4 L5))))
def fX12_operand_0 (S : Nat → Int32) (V : Nat → Nat → Int32) (L : Nat → Int64) (a1 : Int32) : Option ((Nat → Int32) × (Nat → Nat → Int32) × (Nat → Int64)) :=
  bk (fun (S87 : Nat → Int32) (V88 : Nat → Nat → Int32) (L89 : Nat → Int64) =>
  bd3 (fX12_part_0 S87 V88 L89) (fun S90 V91 L92 =>
  some (S90, V91, L92))) (fun X120_86 =>
  fX12_operand_0_L4 X120_86 FU a1 (1 : Int32) S V L)
set_option maxHeartbeats 4000000 in
set_option maxRecDepth 100000 in
theorem kX12_operand_0 (l : Launch) (B : jBT) (D : va_G) (ad : Nat → Nat) (cA : Nat → ClassId) (hI : jI ad TR) (S : Nat → Int32) (V : Nat → Nat → Int32) (L : Nat → Int64) (a1 : Int32) (S0 : Nat → Int32) (V0 : Nat → Nat → Int32) (L0 : Nat → Int64) (h : fX12_operand_0 S V L a1 = some (S0, V0, L0)) : jM l yX12_operand cX12_operand 5 none ({ frames := 4, cells := 0, slots := 0, locals := 91 }) B D TR ad cA [.ref (ad 0), .int a1] S V L none S0 V0 L0 := by
  refine jM_of (plainFor_of_name (by decide)) TR_ok hI (Nat.le_of_ble_eq_true rfl) ?_
  intro p e s m args below meth c C hr hlk
  refine j_lv (lv2 := [(0, .ref (ad 0)), (1, .int a1)]) rfl ?_
  unfold fX12_operand_0 at h
  have H_fX12_operand_0_L18 : ∀ (E75 : Int32 → (Nat → Int32) → (Nat → Nat → Int32) → (Nat → Int64) → Option ((Nat → Int32) × (Nat → Nat → Int32) × (Nat → Int64))) (_ : ∀ (x41 : Int32) (S42 : Nat → Int32) (V43 : Nat → Nat → Int32) (L44 : Nat → Int64), E75 x41 S42 V43 L44 = some (S0, V0, L0) → jW p l e ({ frames := 4, cells := 0, slots := 0, locals := 91 }) s m args below meth c (MQ below (jQc D TR ad cA none s.heap.size S0 V0 L0) args s 0 0 (jA ad TR s.heap.size)) D TR ad cA (jA ad TR s.heap.size) 5 0 0 75 [(0, .ref (ad 0)), (2, .int x41)] [] S42 V43 L44) (n : Nat) (x10 : Int32) (x11 : Int32) (S12 : Nat → Int32) (V13 : Nat → Nat → Int32) (L14 : Nat → Int64), fX12_operand_0_L18 E75 n x10 x11 S12 V13 L14 = some (S0, V0, L0) → jW p l e ({ frames := 4, cells := 0, slots := 0, locals := 91 }) s m args below meth c (MQ below (jQc D TR ad cA none s.heap.size S0 V0 L0) args s 0 0 (jA ad TR s.heap.size)) D TR ad cA (jA ad TR s.heap.size) 5 0 0 18 [(0, .ref (ad 0)), (2, .int x10), (4, .int x11)] [] S12 V13 L14 := by
    intro E75 HE75
    intro n
    induction n with
    | zero =>
      intro x10 x11 S12 V13 L14 h
      cases (show (none : Option ((Nat → Int32) × (Nat → Nat → Int32) × (Nat → Int64))) = some (S0, V0, L0) from h)
    | succ n ih =>
      intro x10 x11 S12 V13 L14 h
      unfold fX12_operand_0_L18 at h
      refine j_aload_n C 0 rfl dX12_operand_18 rfl ?_
      obtain ⟨r15, h16, h⟩ := bd1_elim h
      refine j_callV (As := []) (rest := []) C (kX12_isGood_0 l B D ad cA hI S12 V13 L14 _ h16) mw_X12_isGood wd1656 wd59 wd1654 tr_0 rfl rfl ⟨rfl, rfl, by decide, by decide⟩ ⟨Nat.zero_le _, Nat.zero_le _⟩ rfl rfl (Nat.le_of_ble_eq_true rfl) dX12_operand_19 ?_
      refine j_if_eq (tgt := 75) C dX12_operand_22 (by decide) (fun c17 => ?_) (fun c17 => ?_)
      · have h := (if_pos c17).symm.trans h
        exact j_sub [0, 1] rfl (HE75 _ _ _ _ h)
      · have h := (if_neg c17).symm.trans h
        refine j_iload_n C 1 rfl dX12_operand_25 rfl ?_
        refine j_if_eq (tgt := 75) C dX12_operand_26 (by decide) (fun c18 => ?_) (fun c18 => ?_)
        · have h := (if_pos c18).symm.trans h
          exact j_sub [0, 1] rfl (HE75 _ _ _ _ h)
        · have h := (if_neg c18).symm.trans h
          refine j_aload_n C 0 rfl dX12_operand_29 rfl ?_
          obtain ⟨r19, h20, h⟩ := bd1_elim h
          refine j_callV (As := []) (rest := []) C (kX12_knownWord_0 l B D ad cA hI S12 V13 L14 _ h20) mw_X12_knownWord wd1664 wd61 wd1662 tr_0 rfl rfl ⟨rfl, rfl, by decide, by decide⟩ ⟨Nat.zero_le _, Nat.zero_le _⟩ rfl rfl (Nat.le_of_ble_eq_true rfl) dX12_operand_30 ?_
          refine j_bipush C dX12_operand_33 cb_17 ?_
          refine j_icmp_ne (tgt := 75) C dX12_operand_35 (by decide) (fun c21 => ?_) (fun c21 => ?_)
          · have h := (if_neg c21).symm.trans h
            exact j_sub [0, 1] rfl (HE75 _ _ _ _ h)
          · have h := (if_pos c21).symm.trans h
            refine j_iload C 2 rfl dX12_operand_38 ?_
            refine j_bipush C dX12_operand_40 cb_6 ?_
            refine bk_elim h (fun K50_22 e_K50_22 h => ?_)
            have HK50_22 : ∀ (x23 : Int32) (x24 : Int32) (S25 : Nat → Int32) (V26 : Nat → Nat → Int32) (L27 : Nat → Int64), K50_22 x23 x24 S25 V26 L27 = some (S0, V0, L0) → jW p l e ({ frames := 4, cells := 0, slots := 0, locals := 91 }) s m args below meth c (MQ below (jQc D TR ad cA none s.heap.size S0 V0 L0) args s 0 0 (jA ad TR s.heap.size)) D TR ad cA (jA ad TR s.heap.size) 5 0 0 50 [(0, .ref (ad 0)), (2, .int x23), (4, .int x24)] [] S25 V26 L27 := by
              subst e_K50_22
              intro x23 x24 S25 V26 L27 h
              refine lt_elim h (fun x28 e_x28 h => ?_)
              refine j_iinc C [(4, .int x28), (0, .ref (ad 0)), (2, .int x23)] 2 dX12_operand_50 rfl ((iinc_eq ci_1).trans e_x28.symm) (by decide) rfl ?_
              refine j_aload_n C 1 rfl dX12_operand_53 rfl ?_
              obtain ⟨r29, h30, h⟩ := bd1_elim h
              refine j_callV (As := []) (rest := []) C (kX12_isGood_0 l B D ad cA hI S25 V26 L27 _ h30) mw_X12_isGood wd1656 wd59 wd1654 tr_0 rfl rfl ⟨rfl, rfl, by decide, by decide⟩ ⟨Nat.zero_le _, Nat.zero_le _⟩ rfl rfl (Nat.le_of_ble_eq_true rfl) dX12_operand_54 ?_
              refine j_if_ne (tgt := 63) C dX12_operand_57 (by decide) (fun c31 => ?_) (fun c31 => ?_)
              · have h := (if_neg c31).symm.trans h
                refine j_aload_n C 1 rfl dX12_operand_63 rfl ?_
                refine j_iconst C dX12_operand_64 ci_3 ?_
                obtain ⟨S32, V33, h34, h⟩ := bd2_elim h
                refine j_callV (As := [.int (3 : Int32)]) (rest := []) C (kX12_waitsFor_0 l B D ad cA hI S25 V26 L27 (3 : Int32) _ _ h34) mw_X12_waitsFor wd1719 wd73 wd1717 tr_0 rfl rfl ⟨rfl, rfl, by decide, by decide⟩ ⟨Nat.zero_le _, Nat.zero_le _⟩ rfl rfl (Nat.le_of_ble_eq_true rfl) dX12_operand_65 ?_
                refine j_aload_n C 1 rfl dX12_operand_68 rfl ?_
                obtain ⟨S35, L36, h37, h⟩ := bd2_elim h
                refine j_callV (As := []) (rest := []) C (kX12_goes_0 l B D ad cA hI S32 V33 L27 _ _ h37) mw_X12_goes wd1642 wd57 wd1640 tr_0 rfl rfl ⟨rfl, rfl, by decide, by decide⟩ ⟨Nat.zero_le _, Nat.zero_le _⟩ rfl rfl (Nat.le_of_ble_eq_true rfl) dX12_operand_69 ?_
                refine j_goto (tgt := 18) C dX12_operand_72 (by decide) ?_
                exact j_sub [1, 2, 0] rfl (ih _ _ _ _ _ h)
              · have h := (if_pos c31).symm.trans h
                refine j_goto (tgt := 18) C dX12_operand_60 (by decide) ?_
                exact j_sub [1, 2, 0] rfl (ih _ _ _ _ _ h)
            refine j_icmp_ne (tgt := 50) C dX12_operand_42 (by decide) (fun c38 => ?_) (fun c38 => ?_)
            · have h := (if_neg c38).symm.trans h
              exact j_sub [0, 1, 2] rfl (HK50_22 _ _ _ _ _ h)
            · have h := (if_pos c38).symm.trans h
              refine j_aload_n C 0 rfl dX12_operand_45 rfl ?_
              refine j_iconst C dX12_operand_46 ci_2 ?_
              obtain ⟨S39, h40, h⟩ := bd1_elim h
              refine j_callV (As := [.int (2 : Int32)]) (rest := []) C (kX12_wrong_0 l B D ad cA hI S12 V13 L14 (2 : Int32) _ h40) mw_X12_wrong wd1679 wd63 wd1677 tr_0 rfl rfl ⟨rfl, rfl, by decide, by decide⟩ ⟨Nat.zero_le _, Nat.zero_le _⟩ rfl rfl (Nat.le_of_ble_eq_true rfl) dX12_operand_47 ?_
              exact j_sub [0, 1, 2] rfl (HK50_22 _ _ _ _ _ h)
  have H_fX12_operand_0_L4 : ∀ (E120 : (Nat → Int32) → (Nat → Nat → Int32) → (Nat → Int64) → Option ((Nat → Int32) × (Nat → Nat → Int32) × (Nat → Int64))) (_ : ∀ (S83 : Nat → Int32) (V84 : Nat → Nat → Int32) (L85 : Nat → Int64), E120 S83 V84 L85 = some (S0, V0, L0) → jW p l e ({ frames := 4, cells := 0, slots := 0, locals := 91 }) s m args below meth c (MQ below (jQc D TR ad cA none s.heap.size S0 V0 L0) args s 0 0 (jA ad TR s.heap.size)) D TR ad cA (jA ad TR s.heap.size) 5 0 0 120 [(0, .ref (ad 0))] [] S83 V84 L85) (n : Nat) (x1 : Int32) (x2 : Int32) (S3 : Nat → Int32) (V4 : Nat → Nat → Int32) (L5 : Nat → Int64), fX12_operand_0_L4 E120 n x1 x2 S3 V4 L5 = some (S0, V0, L0) → jW p l e ({ frames := 4, cells := 0, slots := 0, locals := 91 }) s m args below meth c (MQ below (jQc D TR ad cA none s.heap.size S0 V0 L0) args s 0 0 (jA ad TR s.heap.size)) D TR ad cA (jA ad TR s.heap.size) 5 0 0 4 [(0, .ref (ad 0)), (2, .int x1), (3, .int x2)] [] S3 V4 L5 := by
    intro E120 HE120
    intro n
    induction n with
    | zero =>
      intro x1 x2 S3 V4 L5 h
      cases (show (none : Option ((Nat → Int32) × (Nat → Nat → Int32) × (Nat → Int64))) = some (S0, V0, L0) from h)
    | succ n ih =>
      intro x1 x2 S3 V4 L5 h
      unfold fX12_operand_0_L4 at h
      refine j_iload_n C 2 rfl dX12_operand_4 rfl ?_
      refine j_if_eq (tgt := 120) C dX12_operand_5 (by decide) (fun c6 => ?_) (fun c6 => ?_)
      · have h := (if_pos c6).symm.trans h
        exact j_sub [0] rfl (HE120 _ _ _ h)
      · have h := (if_neg c6).symm.trans h
        refine j_aload_n C 0 rfl dX12_operand_8 rfl ?_
        obtain ⟨r7, h8, h⟩ := bd1_elim h
        refine j_callV (As := []) (rest := []) C (kX12_isGood_0 l B D ad cA hI S3 V4 L5 _ h8) mw_X12_isGood wd1656 wd59 wd1654 tr_0 rfl rfl ⟨rfl, rfl, by decide, by decide⟩ ⟨Nat.zero_le _, Nat.zero_le _⟩ rfl rfl (Nat.le_of_ble_eq_true rfl) dX12_operand_9 ?_
        refine j_if_eq (tgt := 120) C dX12_operand_12 (by decide) (fun c9 => ?_) (fun c9 => ?_)
        · have h := (if_pos c9).symm.trans h
          exact j_sub [0] rfl (HE120 _ _ _ h)
        · have h := (if_neg c9).symm.trans h
          refine j_iconst C dX12_operand_15 ci_0 ?_
          refine j_istore C [(4, .int (0 : Int32)), (0, .ref (ad 0)), (2, .int x1), (3, .int x2)] dX12_operand_16 (by decide) rfl ?_
          refine bk_elim h (fun X75_45 e_X75_45 h => ?_)
          have HX75_45 : ∀ (x46 : Int32) (S47 : Nat → Int32) (V48 : Nat → Nat → Int32) (L49 : Nat → Int64), X75_45 x46 S47 V48 L49 = some (S0, V0, L0) → jW p l e ({ frames := 4, cells := 0, slots := 0, locals := 91 }) s m args below meth c (MQ below (jQc D TR ad cA none s.heap.size S0 V0 L0) args s 0 0 (jA ad TR s.heap.size)) D TR ad cA (jA ad TR s.heap.size) 5 0 0 75 [(0, .ref (ad 0)), (2, .int x46)] [] S47 V48 L49 := by
            subst e_X75_45
            intro x46 S47 V48 L49 h
            refine j_aload_n C 0 rfl dX12_operand_75 rfl ?_
            obtain ⟨r50, h51, h⟩ := bd1_elim h
            refine j_callV (As := []) (rest := []) C (kX12_isGood_0 l B D ad cA hI S47 V48 L49 _ h51) mw_X12_isGood wd1656 wd59 wd1654 tr_0 rfl rfl ⟨rfl, rfl, by decide, by decide⟩ ⟨Nat.zero_le _, Nat.zero_le _⟩ rfl rfl (Nat.le_of_ble_eq_true rfl) dX12_operand_76 ?_
            refine bk_elim h (fun K96_52 e_K96_52 h => ?_)
            have HK96_52 : ∀ (x53 : Int32) (x54 : Int32) (S55 : Nat → Int32) (V56 : Nat → Nat → Int32) (L57 : Nat → Int64), K96_52 x53 x54 S55 V56 L57 = some (S0, V0, L0) → jW p l e ({ frames := 4, cells := 0, slots := 0, locals := 91 }) s m args below meth c (MQ below (jQc D TR ad cA none s.heap.size S0 V0 L0) args s 0 0 (jA ad TR s.heap.size)) D TR ad cA (jA ad TR s.heap.size) 5 0 0 96 [(0, .ref (ad 0)), (2, .int x53)] [.int x54] S55 V56 L57 := by
              subst e_K96_52
              intro x53 x54 S55 V56 L57 h
              refine j_istore_n C [(3, .int x54), (0, .ref (ad 0)), (2, .int x53)] dX12_operand_96 rfl (by decide) rfl ?_
              refine j_iload_n C 0 rfl dX12_operand_97 rfl ?_
              refine bk_elim h (fun K117_58 e_K117_58 h => ?_)
              have HK117_58 : ∀ (x59 : Int32) (x60 : Int32) (S61 : Nat → Int32) (V62 : Nat → Nat → Int32) (L63 : Nat → Int64), K117_58 x59 x60 S61 V62 L63 = some (S0, V0, L0) → jW p l e ({ frames := 4, cells := 0, slots := 0, locals := 91 }) s m args below meth c (MQ below (jQc D TR ad cA none s.heap.size S0 V0 L0) args s 0 0 (jA ad TR s.heap.size)) D TR ad cA (jA ad TR s.heap.size) 5 0 0 117 [(0, .ref (ad 0)), (2, .int x59), (3, .int x60)] [] S61 V62 L63 := by
                subst e_K117_58
                intro x59 x60 S61 V62 L63 h
                refine j_goto (tgt := 4) C dX12_operand_117 (by decide) ?_
                exact j_sub [0, 1, 2] rfl (ih _ _ _ _ _ h)
              refine j_if_eq (tgt := 117) C dX12_operand_98 (by decide) (fun c64 => ?_) (fun c64 => ?_)
              · have h := (if_pos c64).symm.trans h
                exact j_sub [1, 2, 0] rfl (HK117_58 _ _ _ _ _ h)
              · have h := (if_neg c64).symm.trans h
                refine j_aload_n C 1 rfl dX12_operand_101 rfl ?_
                refine j_bipush C dX12_operand_102 cb_14 ?_
                obtain ⟨S65, V66, h67, h⟩ := bd2_elim h
                refine j_callV (As := [.int (14 : Int32)]) (rest := []) C (kX12_waitsFor_0 l B D ad cA hI S55 V56 L57 (14 : Int32) _ _ h67) mw_X12_waitsFor wd1719 wd73 wd1717 tr_0 rfl rfl ⟨rfl, rfl, by decide, by decide⟩ ⟨Nat.zero_le _, Nat.zero_le _⟩ rfl rfl (Nat.le_of_ble_eq_true rfl) dX12_operand_104 ?_
                refine j_aload_n C 1 rfl dX12_operand_107 rfl ?_
                obtain ⟨S68, L69, h70, h⟩ := bd2_elim h
                refine j_callV (As := []) (rest := []) C (kX12_goes_0 l B D ad cA hI S65 V66 L57 _ _ h70) mw_X12_goes wd1642 wd57 wd1640 tr_0 rfl rfl ⟨rfl, rfl, by decide, by decide⟩ ⟨Nat.zero_le _, Nat.zero_le _⟩ rfl rfl (Nat.le_of_ble_eq_true rfl) dX12_operand_108 ?_
                refine j_aload_n C 1 rfl dX12_operand_111 rfl ?_
                obtain ⟨S71, V72, h73, h⟩ := bd2_elim h
                refine j_callV (As := []) (rest := []) C (kX12_deeper_0 l B D ad cA hI S68 V66 L69 _ _ h73) mw_X12_deeper wd1707 wd70 wd1705 tr_0 rfl rfl ⟨rfl, rfl, by decide, by decide⟩ ⟨Nat.zero_le _, Nat.zero_le _⟩ rfl rfl (Nat.le_of_ble_eq_true rfl) dX12_operand_112 ?_
                refine j_iconst C dX12_operand_115 ci_1 ?_
                refine j_istore_n C [(2, .int (1 : Int32)), (3, .int x54), (0, .ref (ad 0))] dX12_operand_116 rfl (by decide) rfl ?_
                exact j_sub [2, 0, 1] rfl (HK117_58 _ _ _ _ _ h)
            refine bk_elim h (fun K95_74 e_K95_74 h => ?_)
            have HK95_74 : ∀ (x75 : Int32) (S76 : Nat → Int32) (V77 : Nat → Nat → Int32) (L78 : Nat → Int64), K95_74 x75 S76 V77 L78 = some (S0, V0, L0) → jW p l e ({ frames := 4, cells := 0, slots := 0, locals := 91 }) s m args below meth c (MQ below (jQc D TR ad cA none s.heap.size S0 V0 L0) args s 0 0 (jA ad TR s.heap.size)) D TR ad cA (jA ad TR s.heap.size) 5 0 0 95 [(0, .ref (ad 0)), (2, .int x75)] [] S76 V77 L78 := by
              subst e_K95_74
              intro x75 S76 V77 L78 h
              refine j_iconst C dX12_operand_95 ci_0 ?_
              exact j_sub [0, 1] rfl (HK96_52 _ _ _ _ _ h)
            refine j_if_eq (tgt := 95) C dX12_operand_79 (by decide) (fun c79 => ?_) (fun c79 => ?_)
            · have h := (if_pos c79).symm.trans h
              exact j_sub [0, 1] rfl (HK95_74 _ _ _ _ h)
            · have h := (if_neg c79).symm.trans h
              refine j_aload_n C 0 rfl dX12_operand_82 rfl ?_
              refine j_bipush C dX12_operand_83 cb_40 ?_
              obtain ⟨r80, h81, h⟩ := bd1_elim h
              refine j_callV (As := [.int (40 : Int32)]) (rest := []) C (kX12_isSign_0 l B D ad cA hI S47 V48 L49 (40 : Int32) _ h81) mw_X12_isSign wd1711 wd71 wd1709 tr_0 rfl rfl ⟨rfl, rfl, by decide, by decide⟩ ⟨Nat.zero_le _, Nat.zero_le _⟩ rfl rfl (Nat.le_of_ble_eq_true rfl) dX12_operand_85 ?_
              refine j_if_eq (tgt := 95) C dX12_operand_88 (by decide) (fun c82 => ?_) (fun c82 => ?_)
              · have h := (if_pos c82).symm.trans h
                exact j_sub [0, 1] rfl (HK95_74 _ _ _ _ h)
              · have h := (if_neg c82).symm.trans h
                refine j_iconst C dX12_operand_91 ci_1 ?_
                refine j_goto (tgt := 96) C dX12_operand_92 (by decide) ?_
                exact j_sub [0, 1] rfl (HK96_52 _ _ _ _ _ h)
          exact j_sub [1, 2, 0] rfl (H_fX12_operand_0_L18 _ HX75_45 FU _ _ _ _ _ h)
  refine j_iload_n C 1 rfl dX12_operand_0 rfl ?_
  refine j_istore_n C [(2, .int a1), (0, .ref (ad 0)), (1, .int a1)] dX12_operand_1 rfl (by decide) rfl ?_
  refine j_iconst C dX12_operand_2 ci_1 ?_
  refine j_istore_n C [(3, .int (1 : Int32)), (2, .int a1), (0, .ref (ad 0)), (1, .int a1)] dX12_operand_3 rfl (by decide) rfl ?_
  refine bk_elim h (fun X120_86 e_X120_86 h => ?_)
  have HX120_86 : ∀ (S87 : Nat → Int32) (V88 : Nat → Nat → Int32) (L89 : Nat → Int64), X120_86 S87 V88 L89 = some (S0, V0, L0) → jW p l e ({ frames := 4, cells := 0, slots := 0, locals := 91 }) s m args below meth c (MQ below (jQc D TR ad cA none s.heap.size S0 V0 L0) args s 0 0 (jA ad TR s.heap.size)) D TR ad cA (jA ad TR s.heap.size) 5 0 0 120 [(0, .ref (ad 0))] [] S87 V88 L89 := by
    subst e_X120_86
    intro S87 V88 L89 h
    refine j_aload_n C 0 rfl dX12_operand_120 rfl ?_
    obtain ⟨S90, V91, L92, h93, h⟩ := bd3_elim h
    refine j_callV (As := []) (rest := []) C (kX12_part_0 l B D ad cA hI S87 V88 L89 _ _ _ h93) mw_X12_part wd1723 wd74 wd1721 tr_0 rfl rfl ⟨rfl, rfl, by decide, by decide⟩ ⟨Nat.zero_le _, Nat.zero_le _⟩ rfl rfl (Nat.le_of_ble_eq_true rfl) dX12_operand_121 ?_
    cases h
    exact j_vret C hr hlk rfl dX12_operand_124
  exact j_sub [2, 1, 0] rfl (H_fX12_operand_0_L4 _ HX120_86 FU _ _ _ _ _ h)
theorem dX12_isOpened_0 : decode cX12_isOpened 0 = .ok (.aload_n 0, 1) := by decide +kernel
theorem dX12_isOpened_1 : decode cX12_isOpened 1 = .ok (.getfield 165, 3) := by decide +kernel
theorem dX12_isOpened_4 : decode cX12_isOpened 4 = .ok (.iconst 1, 1) := by decide +kernel
theorem dX12_isOpened_5 : decode cX12_isOpened 5 = .ok (.isub, 1) := by decide +kernel
theorem dX12_isOpened_6 : decode cX12_isOpened 6 = .ok (.istore_n 1, 1) := by decide +kernel
theorem dX12_isOpened_7 : decode cX12_isOpened 7 = .ok (.iload_n 1, 1) := by decide +kernel
theorem dX12_isOpened_8 : decode cX12_isOpened 8 = .ok (.ifCond .lt 21, 3) := by decide +kernel
theorem dX12_isOpened_11 : decode cX12_isOpened 11 = .ok (.aload_n 0, 1) := by decide +kernel
theorem dX12_isOpened_12 : decode cX12_isOpened 12 = .ok (.getfield 53, 3) := by decide +kernel
theorem dX12_isOpened_15 : decode cX12_isOpened 15 = .ok (.iload_n 1, 1) := by decide +kernel
theorem dX12_isOpened_16 : decode cX12_isOpened 16 = .ok (.iaload, 1) := by decide +kernel
theorem dX12_isOpened_17 : decode cX12_isOpened 17 = .ok (.invokestatic 168, 3) := by decide +kernel
theorem dX12_isOpened_20 : decode cX12_isOpened 20 = .ok (.ifCond .ne 9, 3) := by decide +kernel
theorem dX12_isOpened_23 : decode cX12_isOpened 23 = .ok (.iinc 1 (-1), 3) := by decide +kernel
theorem dX12_isOpened_26 : decode cX12_isOpened 26 = .ok (.goto (-19), 3) := by decide +kernel
theorem dX12_isOpened_29 : decode cX12_isOpened 29 = .ok (.iload_n 1, 1) := by decide +kernel
theorem dX12_isOpened_30 : decode cX12_isOpened 30 = .ok (.ifCond .lt 7, 3) := by decide +kernel
theorem dX12_isOpened_33 : decode cX12_isOpened 33 = .ok (.iconst 1, 1) := by decide +kernel
theorem dX12_isOpened_34 : decode cX12_isOpened 34 = .ok (.goto 4, 3) := by decide +kernel
theorem dX12_isOpened_37 : decode cX12_isOpened 37 = .ok (.iconst 0, 1) := by decide +kernel
theorem dX12_isOpened_38 : decode cX12_isOpened 38 = .ok (.ireturn, 1) := by decide +kernel
def fX12_isOpened_0_L7 (E29 : Int32 → Option (Int32)) (S : Nat → Int32) (V : Nat → Nat → Int32) : Nat → Int32 → Option (Int32)
  | 0, _ => none
  | n + 1, x2 =>
    (if x2 < 0 then
    E29 x2
    else
    gd (ib x2 800) (
    bd1 (fX12_isOpen ((V 11 (x2).toNatClampNeg))) (fun r5 =>
    (if r5 = 0 then
    lt (x2 + (-1 : Int32)) (fun x8 =>
    fX12_isOpened_0_L7 E29 S V n x8)
    else
    E29 x2))))
def fX12_isOpened_0 (S : Nat → Int32) (V : Nat → Nat → Int32) : Option (Int32) :=
  lt (((S 34) - (1 : Int32))) (fun x1 =>
  bk (fun (x11 : Int32) =>
  (if x11 < 0 then
  some (0 : Int32)
  else
  some (1 : Int32))) (fun X29_10 =>
  fX12_isOpened_0_L7 X29_10 S V FU x1))
set_option maxHeartbeats 4000000 in
set_option maxRecDepth 100000 in
theorem kX12_isOpened_0 (l : Launch) (B : jBT) (D : va_G) (ad : Nat → Nat) (cA : Nat → ClassId) (hI : jI ad TR) (S : Nat → Int32) (V : Nat → Nat → Int32) (L : Nat → Int64) (r0 : Int32) (h : fX12_isOpened_0 S V = some r0) : jM l yX12_isOpened cX12_isOpened 2 (some .boolean) ({ frames := 1, cells := 0, slots := 0, locals := 20 }) B D TR ad cA [.ref (ad 0)] S V L (some (.int r0)) S V L := by
  refine jM_of (plainFor_of_name (by decide)) TR_ok hI (Nat.le_of_ble_eq_true rfl) ?_
  intro p e s m args below meth c C hr hlk
  refine j_lv (lv2 := [(0, .ref (ad 0))]) rfl ?_
  unfold fX12_isOpened_0 at h
  have H_fX12_isOpened_0_L7 : ∀ (E29 : Int32 → Option (Int32)) (_ : ∀ (x9 : Int32), E29 x9 = some r0 → jW p l e ({ frames := 1, cells := 0, slots := 0, locals := 20 }) s m args below meth c (MQ below (jQc D TR ad cA (some (.int r0)) s.heap.size S V L) args s 0 0 (jA ad TR s.heap.size)) D TR ad cA (jA ad TR s.heap.size) 2 0 0 29 [(1, .int x9)] [] S V L) (n : Nat) (x2 : Int32), fX12_isOpened_0_L7 E29 S V n x2 = some r0 → jW p l e ({ frames := 1, cells := 0, slots := 0, locals := 20 }) s m args below meth c (MQ below (jQc D TR ad cA (some (.int r0)) s.heap.size S V L) args s 0 0 (jA ad TR s.heap.size)) D TR ad cA (jA ad TR s.heap.size) 2 0 0 7 [(0, .ref (ad 0)), (1, .int x2)] [] S V L := by
    intro E29 HE29
    intro n
    induction n with
    | zero =>
      intro x2 h
      cases (show (none : Option (Int32)) = some r0 from h)
    | succ n ih =>
      intro x2 h
      unfold fX12_isOpened_0_L7 at h
      refine j_iload_n C 1 rfl dX12_isOpened_7 rfl ?_
      refine j_if_lt (tgt := 29) C dX12_isOpened_8 (by decide) (fun c3 => ?_) (fun c3 => ?_)
      · have h := (if_pos c3).symm.trans h
        exact j_sub [1] rfl (HE29 _ h)
      · have h := (if_neg c3).symm.trans h
        refine j_aload_n C 0 rfl dX12_isOpened_11 rfl ?_
        refine fg_X12_53_TR_0 C dX12_isOpened_12 ?_
        refine j_iload_n C 1 rfl dX12_isOpened_15 rfl ?_
        obtain ⟨g4, h⟩ := gd_elim h
        refine j_iald C tr_11 (ib_in g4) dX12_isOpened_16 ?_
        obtain ⟨r5, h6, h⟩ := bd1_elim h
        refine j_callS (As := [.int (V 11 (x2).toNatClampNeg)]) (rest := []) C (kX12_isOpen l B D ad cA hI S V L ((V 11 (x2).toNatClampNeg)) _ h6) mw_X12_isOpen wd1734 wd1733 ⟨rfl, rfl, by decide, by decide⟩ ⟨Nat.zero_le _, Nat.zero_le _⟩ rfl rfl (Nat.le_of_ble_eq_true rfl) dX12_isOpened_17 ?_
        refine j_if_ne (tgt := 29) C dX12_isOpened_20 (by decide) (fun c7 => ?_) (fun c7 => ?_)
        · have h := (if_neg c7).symm.trans h
          exact j_sub [1] rfl (HE29 _ h)
        · have h := (if_pos c7).symm.trans h
          refine lt_elim h (fun x8 e_x8 h => ?_)
          refine j_iinc C [(1, .int x8), (0, .ref (ad 0))] 1 dX12_isOpened_23 rfl ((iinc_eq ci_m1).trans e_x8.symm) (by decide) rfl ?_
          refine j_goto (tgt := 7) C dX12_isOpened_26 (by decide) ?_
          exact j_sub [1, 0] rfl (ih _ h)
  refine j_aload_n C 0 rfl dX12_isOpened_0 rfl ?_
  refine fg_X12_165_TR_0 C dX12_isOpened_1 ?_
  refine j_iconst C dX12_isOpened_4 ci_1 ?_
  refine j_isub C dX12_isOpened_5 ?_
  refine lt_elim h (fun x1 e_x1 h => ?_)
  refine j_top e_x1 ?_
  refine j_istore_n C [(1, .int x1), (0, .ref (ad 0))] dX12_isOpened_6 rfl (by decide) rfl ?_
  refine bk_elim h (fun X29_10 e_X29_10 h => ?_)
  have HX29_10 : ∀ (x11 : Int32), X29_10 x11 = some r0 → jW p l e ({ frames := 1, cells := 0, slots := 0, locals := 20 }) s m args below meth c (MQ below (jQc D TR ad cA (some (.int r0)) s.heap.size S V L) args s 0 0 (jA ad TR s.heap.size)) D TR ad cA (jA ad TR s.heap.size) 2 0 0 29 [(1, .int x11)] [] S V L := by
    subst e_X29_10
    intro x11 h
    refine j_iload_n C 0 rfl dX12_isOpened_29 rfl ?_
    refine j_if_lt (tgt := 37) C dX12_isOpened_30 (by decide) (fun c12 => ?_) (fun c12 => ?_)
    · have h := (if_pos c12).symm.trans h
      refine j_iconst C dX12_isOpened_37 ci_0 ?_
      cases h
      exact j_zret C hr hlk rfl rfl dX12_isOpened_38
    · have h := (if_neg c12).symm.trans h
      refine j_iconst C dX12_isOpened_33 ci_1 ?_
      refine j_goto (tgt := 38) C dX12_isOpened_34 (by decide) ?_
      cases h
      exact j_zret C hr hlk rfl rfl dX12_isOpened_38
  exact j_sub [1, 0] rfl (H_fX12_isOpened_0_L7 _ HX29_10 FU _ h)
theorem dX12_expression_0 : decode cX12_expression 0 = .ok (.aload_n 0, 1) := by decide +kernel
theorem dX12_expression_1 : decode cX12_expression 1 = .ok (.invokevirtual 152, 3) := by decide +kernel
theorem dX12_expression_4 : decode cX12_expression 4 = .ok (.ifCond .ne 4, 3) := by decide +kernel
theorem dX12_expression_7 : decode cX12_expression 7 = .ok (.return_, 1) := by decide +kernel
theorem dX12_expression_8 : decode cX12_expression 8 = .ok (.aload_n 0, 1) := by decide +kernel
theorem dX12_expression_9 : decode cX12_expression 9 = .ok (.iconst 0, 1) := by decide +kernel
theorem dX12_expression_10 : decode cX12_expression 10 = .ok (.putfield 165, 3) := by decide +kernel
theorem dX12_expression_13 : decode cX12_expression 13 = .ok (.aload_n 0, 1) := by decide +kernel
theorem dX12_expression_14 : decode cX12_expression 14 = .ok (.iconst 0, 1) := by decide +kernel
theorem dX12_expression_15 : decode cX12_expression 15 = .ok (.putfield 181, 3) := by decide +kernel
theorem dX12_expression_18 : decode cX12_expression 18 = .ok (.aload_n 0, 1) := by decide +kernel
theorem dX12_expression_19 : decode cX12_expression 19 = .ok (.invokevirtual 190, 3) := by decide +kernel
theorem dX12_expression_22 : decode cX12_expression 22 = .ok (.aload_n 0, 1) := by decide +kernel
theorem dX12_expression_23 : decode cX12_expression 23 = .ok (.iconst 1, 1) := by decide +kernel
theorem dX12_expression_24 : decode cX12_expression 24 = .ok (.invokevirtual 199, 3) := by decide +kernel
theorem dX12_expression_27 : decode cX12_expression 27 = .ok (.iconst 1, 1) := by decide +kernel
theorem dX12_expression_28 : decode cX12_expression 28 = .ok (.istore_n 1, 1) := by decide +kernel
theorem dX12_expression_29 : decode cX12_expression 29 = .ok (.iload_n 1, 1) := by decide +kernel
theorem dX12_expression_30 : decode cX12_expression 30 = .ok (.ifCond .eq 295, 3) := by decide +kernel
theorem dX12_expression_33 : decode cX12_expression 33 = .ok (.aload_n 0, 1) := by decide +kernel
theorem dX12_expression_34 : decode cX12_expression 34 = .ok (.invokevirtual 152, 3) := by decide +kernel
theorem dX12_expression_37 : decode cX12_expression 37 = .ok (.ifCond .eq 288, 3) := by decide +kernel
theorem dX12_expression_40 : decode cX12_expression 40 = .ok (.aload_n 0, 1) := by decide +kernel
theorem dX12_expression_41 : decode cX12_expression 41 = .ok (.invokevirtual 177, 3) := by decide +kernel
theorem dX12_expression_44 : decode cX12_expression 44 = .ok (.istore_n 2, 1) := by decide +kernel
theorem dX12_expression_45 : decode cX12_expression 45 = .ok (.iload_n 2, 1) := by decide +kernel
theorem dX12_expression_46 : decode cX12_expression 46 = .ok (.bipush 15, 2) := by decide +kernel
theorem dX12_expression_48 : decode cX12_expression 48 = .ok (.if_icmp .eq 9, 3) := by decide +kernel
theorem dX12_expression_51 : decode cX12_expression 51 = .ok (.iload_n 2, 1) := by decide +kernel
theorem dX12_expression_52 : decode cX12_expression 52 = .ok (.bipush 16, 2) := by decide +kernel
theorem dX12_expression_54 : decode cX12_expression 54 = .ok (.if_icmp .ne 55, 3) := by decide +kernel
theorem dX12_expression_57 : decode cX12_expression 57 = .ok (.aload_n 0, 1) := by decide +kernel
theorem dX12_expression_58 : decode cX12_expression 58 = .ok (.iload_n 2, 1) := by decide +kernel
theorem dX12_expression_59 : decode cX12_expression 59 = .ok (.bipush 15, 2) := by decide +kernel
theorem dX12_expression_61 : decode cX12_expression 61 = .ok (.if_icmp .ne 7, 3) := by decide +kernel
theorem dX12_expression_64 : decode cX12_expression 64 = .ok (.iconst 2, 1) := by decide +kernel
theorem dX12_expression_65 : decode cX12_expression 65 = .ok (.goto 4, 3) := by decide +kernel
theorem dX12_expression_68 : decode cX12_expression 68 = .ok (.iconst 1, 1) := by decide +kernel
theorem dX12_expression_69 : decode cX12_expression 69 = .ok (.invokevirtual 196, 3) := by decide +kernel
theorem dX12_expression_72 : decode cX12_expression 72 = .ok (.aload_n 0, 1) := by decide +kernel
theorem dX12_expression_73 : decode cX12_expression 73 = .ok (.iload_n 2, 1) := by decide +kernel
theorem dX12_expression_74 : decode cX12_expression 74 = .ok (.bipush 15, 2) := by decide +kernel
theorem dX12_expression_76 : decode cX12_expression 76 = .ok (.if_icmp .ne 7, 3) := by decide +kernel
theorem dX12_expression_79 : decode cX12_expression 79 = .ok (.iconst 4, 1) := by decide +kernel
theorem dX12_expression_80 : decode cX12_expression 80 = .ok (.goto 4, 3) := by decide +kernel
theorem dX12_expression_83 : decode cX12_expression 83 = .ok (.iconst 5, 1) := by decide +kernel
theorem dX12_expression_84 : decode cX12_expression 84 = .ok (.invokevirtual 187, 3) := by decide +kernel
theorem dX12_expression_87 : decode cX12_expression 87 = .ok (.aload_n 0, 1) := by decide +kernel
theorem dX12_expression_88 : decode cX12_expression 88 = .ok (.getfield 56, 3) := by decide +kernel
theorem dX12_expression_91 : decode cX12_expression 91 = .ok (.aload_n 0, 1) := by decide +kernel
theorem dX12_expression_92 : decode cX12_expression 92 = .ok (.getfield 181, 3) := by decide +kernel
theorem dX12_expression_95 : decode cX12_expression 95 = .ok (.iconst 0, 1) := by decide +kernel
theorem dX12_expression_96 : decode cX12_expression 96 = .ok (.bastore, 1) := by decide +kernel
theorem dX12_expression_97 : decode cX12_expression 97 = .ok (.aload_n 0, 1) := by decide +kernel
theorem dX12_expression_98 : decode cX12_expression 98 = .ok (.invokevirtual 156, 3) := by decide +kernel
theorem dX12_expression_101 : decode cX12_expression 101 = .ok (.aload_n 0, 1) := by decide +kernel
theorem dX12_expression_102 : decode cX12_expression 102 = .ok (.iconst 1, 1) := by decide +kernel
theorem dX12_expression_103 : decode cX12_expression 103 = .ok (.invokevirtual 199, 3) := by decide +kernel
theorem dX12_expression_106 : decode cX12_expression 106 = .ok (.goto 216, 3) := by decide +kernel
theorem dX12_expression_109 : decode cX12_expression 109 = .ok (.aload_n 0, 1) := by decide +kernel
theorem dX12_expression_110 : decode cX12_expression 110 = .ok (.bipush 60, 2) := by decide +kernel
theorem dX12_expression_112 : decode cX12_expression 112 = .ok (.invokevirtual 184, 3) := by decide +kernel
theorem dX12_expression_115 : decode cX12_expression 115 = .ok (.ifCond .ne 12, 3) := by decide +kernel
theorem dX12_expression_118 : decode cX12_expression 118 = .ok (.aload_n 0, 1) := by decide +kernel
theorem dX12_expression_119 : decode cX12_expression 119 = .ok (.bipush 61, 2) := by decide +kernel
theorem dX12_expression_121 : decode cX12_expression 121 = .ok (.invokevirtual 184, 3) := by decide +kernel
theorem dX12_expression_124 : decode cX12_expression 124 = .ok (.ifCond .eq 62, 3) := by decide +kernel
theorem dX12_expression_127 : decode cX12_expression 127 = .ok (.aload_n 0, 1) := by decide +kernel
theorem dX12_expression_128 : decode cX12_expression 128 = .ok (.getfield 56, 3) := by decide +kernel
theorem dX12_expression_131 : decode cX12_expression 131 = .ok (.aload_n 0, 1) := by decide +kernel
theorem dX12_expression_132 : decode cX12_expression 132 = .ok (.getfield 181, 3) := by decide +kernel
theorem dX12_expression_135 : decode cX12_expression 135 = .ok (.baload, 1) := by decide +kernel
theorem dX12_expression_136 : decode cX12_expression 136 = .ok (.ifCond .ne 50, 3) := by decide +kernel
theorem dX12_expression_139 : decode cX12_expression 139 = .ok (.aload_n 0, 1) := by decide +kernel
theorem dX12_expression_140 : decode cX12_expression 140 = .ok (.iconst 4, 1) := by decide +kernel
theorem dX12_expression_141 : decode cX12_expression 141 = .ok (.invokevirtual 196, 3) := by decide +kernel
theorem dX12_expression_144 : decode cX12_expression 144 = .ok (.aload_n 0, 1) := by decide +kernel
theorem dX12_expression_145 : decode cX12_expression 145 = .ok (.aload_n 0, 1) := by decide +kernel
theorem dX12_expression_146 : decode cX12_expression 146 = .ok (.bipush 60, 2) := by decide +kernel
theorem dX12_expression_148 : decode cX12_expression 148 = .ok (.invokevirtual 184, 3) := by decide +kernel
theorem dX12_expression_151 : decode cX12_expression 151 = .ok (.ifCond .eq 8, 3) := by decide +kernel
theorem dX12_expression_154 : decode cX12_expression 154 = .ok (.bipush 6, 2) := by decide +kernel
theorem dX12_expression_156 : decode cX12_expression 156 = .ok (.goto 5, 3) := by decide +kernel
theorem dX12_expression_159 : decode cX12_expression 159 = .ok (.bipush 7, 2) := by decide +kernel
theorem dX12_expression_161 : decode cX12_expression 161 = .ok (.invokevirtual 187, 3) := by decide +kernel
theorem dX12_expression_164 : decode cX12_expression 164 = .ok (.aload_n 0, 1) := by decide +kernel
theorem dX12_expression_165 : decode cX12_expression 165 = .ok (.getfield 56, 3) := by decide +kernel
theorem dX12_expression_168 : decode cX12_expression 168 = .ok (.aload_n 0, 1) := by decide +kernel
theorem dX12_expression_169 : decode cX12_expression 169 = .ok (.getfield 181, 3) := by decide +kernel
theorem dX12_expression_172 : decode cX12_expression 172 = .ok (.iconst 1, 1) := by decide +kernel
theorem dX12_expression_173 : decode cX12_expression 173 = .ok (.bastore, 1) := by decide +kernel
theorem dX12_expression_174 : decode cX12_expression 174 = .ok (.aload_n 0, 1) := by decide +kernel
theorem dX12_expression_175 : decode cX12_expression 175 = .ok (.invokevirtual 156, 3) := by decide +kernel
theorem dX12_expression_178 : decode cX12_expression 178 = .ok (.aload_n 0, 1) := by decide +kernel
theorem dX12_expression_179 : decode cX12_expression 179 = .ok (.iconst 0, 1) := by decide +kernel
theorem dX12_expression_180 : decode cX12_expression 180 = .ok (.invokevirtual 199, 3) := by decide +kernel
theorem dX12_expression_183 : decode cX12_expression 183 = .ok (.goto 139, 3) := by decide +kernel
theorem dX12_expression_186 : decode cX12_expression 186 = .ok (.aload_n 0, 1) := by decide +kernel
theorem dX12_expression_187 : decode cX12_expression 187 = .ok (.bipush 43, 2) := by decide +kernel
theorem dX12_expression_189 : decode cX12_expression 189 = .ok (.invokevirtual 184, 3) := by decide +kernel
theorem dX12_expression_192 : decode cX12_expression 192 = .ok (.ifCond .ne 12, 3) := by decide +kernel
theorem dX12_expression_195 : decode cX12_expression 195 = .ok (.aload_n 0, 1) := by decide +kernel
theorem dX12_expression_196 : decode cX12_expression 196 = .ok (.bipush 45, 2) := by decide +kernel
theorem dX12_expression_198 : decode cX12_expression 198 = .ok (.invokevirtual 184, 3) := by decide +kernel
theorem dX12_expression_201 : decode cX12_expression 201 = .ok (.ifCond .eq 40, 3) := by decide +kernel
theorem dX12_expression_204 : decode cX12_expression 204 = .ok (.aload_n 0, 1) := by decide +kernel
theorem dX12_expression_205 : decode cX12_expression 205 = .ok (.iconst 5, 1) := by decide +kernel
theorem dX12_expression_206 : decode cX12_expression 206 = .ok (.invokevirtual 196, 3) := by decide +kernel
theorem dX12_expression_209 : decode cX12_expression 209 = .ok (.aload_n 0, 1) := by decide +kernel
theorem dX12_expression_210 : decode cX12_expression 210 = .ok (.aload_n 0, 1) := by decide +kernel
theorem dX12_expression_211 : decode cX12_expression 211 = .ok (.bipush 43, 2) := by decide +kernel
theorem dX12_expression_213 : decode cX12_expression 213 = .ok (.invokevirtual 184, 3) := by decide +kernel
theorem dX12_expression_216 : decode cX12_expression 216 = .ok (.ifCond .eq 8, 3) := by decide +kernel
theorem dX12_expression_219 : decode cX12_expression 219 = .ok (.bipush 8, 2) := by decide +kernel
theorem dX12_expression_221 : decode cX12_expression 221 = .ok (.goto 5, 3) := by decide +kernel
theorem dX12_expression_224 : decode cX12_expression 224 = .ok (.bipush 9, 2) := by decide +kernel
theorem dX12_expression_226 : decode cX12_expression 226 = .ok (.invokevirtual 187, 3) := by decide +kernel
theorem dX12_expression_229 : decode cX12_expression 229 = .ok (.aload_n 0, 1) := by decide +kernel
theorem dX12_expression_230 : decode cX12_expression 230 = .ok (.invokevirtual 156, 3) := by decide +kernel
theorem dX12_expression_233 : decode cX12_expression 233 = .ok (.aload_n 0, 1) := by decide +kernel
theorem dX12_expression_234 : decode cX12_expression 234 = .ok (.iconst 0, 1) := by decide +kernel
theorem dX12_expression_235 : decode cX12_expression 235 = .ok (.invokevirtual 199, 3) := by decide +kernel
theorem dX12_expression_238 : decode cX12_expression 238 = .ok (.goto 84, 3) := by decide +kernel
theorem dX12_expression_241 : decode cX12_expression 241 = .ok (.aload_n 0, 1) := by decide +kernel
theorem dX12_expression_242 : decode cX12_expression 242 = .ok (.bipush 42, 2) := by decide +kernel
theorem dX12_expression_244 : decode cX12_expression 244 = .ok (.invokevirtual 184, 3) := by decide +kernel
theorem dX12_expression_247 : decode cX12_expression 247 = .ok (.ifCond .ne 12, 3) := by decide +kernel
theorem dX12_expression_250 : decode cX12_expression 250 = .ok (.aload_n 0, 1) := by decide +kernel
theorem dX12_expression_251 : decode cX12_expression 251 = .ok (.bipush 47, 2) := by decide +kernel
theorem dX12_expression_253 : decode cX12_expression 253 = .ok (.invokevirtual 184, 3) := by decide +kernel
theorem dX12_expression_256 : decode cX12_expression 256 = .ok (.ifCond .eq 41, 3) := by decide +kernel
theorem dX12_expression_259 : decode cX12_expression 259 = .ok (.aload_n 0, 1) := by decide +kernel
theorem dX12_expression_260 : decode cX12_expression 260 = .ok (.bipush 6, 2) := by decide +kernel
theorem dX12_expression_262 : decode cX12_expression 262 = .ok (.invokevirtual 196, 3) := by decide +kernel
theorem dX12_expression_265 : decode cX12_expression 265 = .ok (.aload_n 0, 1) := by decide +kernel
theorem dX12_expression_266 : decode cX12_expression 266 = .ok (.aload_n 0, 1) := by decide +kernel
theorem dX12_expression_267 : decode cX12_expression 267 = .ok (.bipush 42, 2) := by decide +kernel
theorem dX12_expression_269 : decode cX12_expression 269 = .ok (.invokevirtual 184, 3) := by decide +kernel
theorem dX12_expression_272 : decode cX12_expression 272 = .ok (.ifCond .eq 8, 3) := by decide +kernel
theorem dX12_expression_275 : decode cX12_expression 275 = .ok (.bipush 10, 2) := by decide +kernel
theorem dX12_expression_277 : decode cX12_expression 277 = .ok (.goto 5, 3) := by decide +kernel
theorem dX12_expression_280 : decode cX12_expression 280 = .ok (.bipush 11, 2) := by decide +kernel
theorem dX12_expression_282 : decode cX12_expression 282 = .ok (.invokevirtual 187, 3) := by decide +kernel
theorem dX12_expression_285 : decode cX12_expression 285 = .ok (.aload_n 0, 1) := by decide +kernel
theorem dX12_expression_286 : decode cX12_expression 286 = .ok (.invokevirtual 156, 3) := by decide +kernel
theorem dX12_expression_289 : decode cX12_expression 289 = .ok (.aload_n 0, 1) := by decide +kernel
theorem dX12_expression_290 : decode cX12_expression 290 = .ok (.iconst 0, 1) := by decide +kernel
theorem dX12_expression_291 : decode cX12_expression 291 = .ok (.invokevirtual 199, 3) := by decide +kernel
theorem dX12_expression_294 : decode cX12_expression 294 = .ok (.goto 28, 3) := by decide +kernel
theorem dX12_expression_297 : decode cX12_expression 297 = .ok (.aload_n 0, 1) := by decide +kernel
theorem dX12_expression_298 : decode cX12_expression 298 = .ok (.bipush 41, 2) := by decide +kernel
theorem dX12_expression_300 : decode cX12_expression 300 = .ok (.invokevirtual 184, 3) := by decide +kernel
theorem dX12_expression_303 : decode cX12_expression 303 = .ok (.ifCond .eq 17, 3) := by decide +kernel
theorem dX12_expression_306 : decode cX12_expression 306 = .ok (.aload_n 0, 1) := by decide +kernel
theorem dX12_expression_307 : decode cX12_expression 307 = .ok (.invokevirtual 203, 3) := by decide +kernel
theorem dX12_expression_310 : decode cX12_expression 310 = .ok (.ifCond .eq 10, 3) := by decide +kernel
theorem dX12_expression_313 : decode cX12_expression 313 = .ok (.aload_n 0, 1) := by decide +kernel
theorem dX12_expression_314 : decode cX12_expression 314 = .ok (.invokevirtual 206, 3) := by decide +kernel
theorem dX12_expression_317 : decode cX12_expression 317 = .ok (.goto 5, 3) := by decide +kernel
theorem dX12_expression_320 : decode cX12_expression 320 = .ok (.iconst 0, 1) := by decide +kernel
theorem dX12_expression_321 : decode cX12_expression 321 = .ok (.istore_n 1, 1) := by decide +kernel
theorem dX12_expression_322 : decode cX12_expression 322 = .ok (.goto (-293), 3) := by decide +kernel
theorem dX12_expression_325 : decode cX12_expression 325 = .ok (.aload_n 0, 1) := by decide +kernel
theorem dX12_expression_326 : decode cX12_expression 326 = .ok (.invokevirtual 152, 3) := by decide +kernel
theorem dX12_expression_329 : decode cX12_expression 329 = .ok (.ifCond .eq 16, 3) := by decide +kernel
theorem dX12_expression_332 : decode cX12_expression 332 = .ok (.aload_n 0, 1) := by decide +kernel
theorem dX12_expression_333 : decode cX12_expression 333 = .ok (.getfield 181, 3) := by decide +kernel
theorem dX12_expression_336 : decode cX12_expression 336 = .ok (.iconst 1, 1) := by decide +kernel
theorem dX12_expression_337 : decode cX12_expression 337 = .ok (.if_icmp .le 8, 3) := by decide +kernel
theorem dX12_expression_340 : decode cX12_expression 340 = .ok (.aload_n 0, 1) := by decide +kernel
theorem dX12_expression_341 : decode cX12_expression 341 = .ok (.iconst 1, 1) := by decide +kernel
theorem dX12_expression_342 : decode cX12_expression 342 = .ok (.invokevirtual 159, 3) := by decide +kernel
theorem dX12_expression_345 : decode cX12_expression 345 = .ok (.aload_n 0, 1) := by decide +kernel
theorem dX12_expression_346 : decode cX12_expression 346 = .ok (.iconst 0, 1) := by decide +kernel
theorem dX12_expression_347 : decode cX12_expression 347 = .ok (.invokevirtual 196, 3) := by decide +kernel
theorem dX12_expression_350 : decode cX12_expression 350 = .ok (.aload_n 0, 1) := by decide +kernel
theorem dX12_expression_351 : decode cX12_expression 351 = .ok (.iconst 0, 1) := by decide +kernel
theorem dX12_expression_352 : decode cX12_expression 352 = .ok (.invokevirtual 174, 3) := by decide +kernel
theorem dX12_expression_355 : decode cX12_expression 355 = .ok (.return_, 1) := by decide +kernel
def fX12_expression_0_L29 (E325 : (Nat → Int32) → (Nat → Nat → Int32) → (Nat → Int64) → Option ((Nat → Int32) × (Nat → Nat → Int32) × (Nat → Int64))) : Nat → Int32 → (Nat → Int32) → (Nat → Nat → Int32) → (Nat → Int64) → Option ((Nat → Int32) × (Nat → Nat → Int32) × (Nat → Int64))
  | 0, _, _, _, _ => none
  | n + 1, x13, S14, V15, L16 =>
    (if x13 = 0 then
    E325 S14 V15 L16
    else
    bd1 (fX12_isGood_0 S14) (fun r18 =>
    (if r18 = 0 then
    E325 S14 V15 L16
    else
    bd1 (fX12_knownWord_0 S14 L16) (fun r21 =>
    bk (fun (x24 : Int32) (S25 : Nat → Int32) (V26 : Nat → Nat → Int32) (L27 : Nat → Int64) =>
    fX12_expression_0_L29 E325 n x24 S25 V26 L27) (fun K322_23 =>
    bk (fun (x29 : Int32) (x30 : Int32) (S31 : Nat → Int32) (V32 : Nat → Nat → Int32) (L33 : Nat → Int64) =>
    bk (fun (x35 : Int32) (x36 : Int32) (x37 : Int32) (S38 : Nat → Int32) (V39 : Nat → Nat → Int32) (L40 : Nat → Int64) =>
    bd2 (fX12_drops_0 S38 V39 x37) (fun S41 V42 =>
    bk (fun (x45 : Int32) (x46 : Int32) (S47 : Nat → Int32) (V48 : Nat → Nat → Int32) (L49 : Nat → Int64) =>
    bd2 (fX12_waitsFor_0 S47 V48 x46) (fun S50 V51 =>
    lt ((S50 35)) (fun x53 =>
    gd (ib x53 9) (
    lt (va_up V51 12 (upd (V51 12) (x53).toNatClampNeg (vp_nar .boolean (0 : Int32)))) (fun V55 =>
    bd2 (fX12_goes_0 S50 V55 L49) (fun S56 L57 =>
    bd3 (fX12_operand_0 S56 V55 L57 (1 : Int32)) (fun S59 V60 L61 =>
    K322_23 x45 S59 V60 L61))))))) (fun K84_44 =>
    (if x36 = (15 : Int32) then
    K84_44 x35 (4 : Int32) S41 V42 L40
    else
    K84_44 x35 (5 : Int32) S41 V42 L40)))) (fun K69_34 =>
    (if x30 = (15 : Int32) then
    K69_34 x29 x30 (2 : Int32) S31 V32 L33
    else
    K69_34 x29 x30 (1 : Int32) S31 V32 L33))) (fun K57_28 =>
    (if r21 = (15 : Int32) then
    K57_28 x13 r21 S14 V15 L16
    else
    (if r21 = (16 : Int32) then
    K57_28 x13 r21 S14 V15 L16
    else
    bd1 (fX12_isSign_0 S14 (60 : Int32)) (fun r67 =>
    bk (fun (x70 : Int32) (S71 : Nat → Int32) (V72 : Nat → Nat → Int32) (L73 : Nat → Int64) =>
    bd1 (fX12_isSign_0 S71 (43 : Int32)) (fun r74 =>
    bk (fun (x77 : Int32) (S78 : Nat → Int32) (V79 : Nat → Nat → Int32) (L80 : Nat → Int64) =>
    bd2 (fX12_drops_0 S78 V79 (5 : Int32)) (fun S81 V82 =>
    bd1 (fX12_isSign_0 S81 (43 : Int32)) (fun r84 =>
    bk (fun (x87 : Int32) (x88 : Int32) (S89 : Nat → Int32) (V90 : Nat → Nat → Int32) (L91 : Nat → Int64) =>
    bd2 (fX12_waitsFor_0 S89 V90 x88) (fun S92 V93 =>
    bd2 (fX12_goes_0 S92 V93 L91) (fun S95 L96 =>
    bd3 (fX12_operand_0 S95 V93 L96 (0 : Int32)) (fun S98 V99 L100 =>
    K322_23 x87 S98 V99 L100)))) (fun K226_86 =>
    (if r84 = 0 then
    K226_86 x77 (9 : Int32) S81 V82 L80
    else
    K226_86 x77 (8 : Int32) S81 V82 L80))))) (fun K204_76 =>
    (if r74 = 0 then
    bd1 (fX12_isSign_0 S71 (45 : Int32)) (fun r104 =>
    (if r104 = 0 then
    bd1 (fX12_isSign_0 S71 (42 : Int32)) (fun r107 =>
    bk (fun (x110 : Int32) (S111 : Nat → Int32) (V112 : Nat → Nat → Int32) (L113 : Nat → Int64) =>
    bd2 (fX12_drops_0 S111 V112 (6 : Int32)) (fun S114 V115 =>
    bd1 (fX12_isSign_0 S114 (42 : Int32)) (fun r117 =>
    bk (fun (x120 : Int32) (x121 : Int32) (S122 : Nat → Int32) (V123 : Nat → Nat → Int32) (L124 : Nat → Int64) =>
    bd2 (fX12_waitsFor_0 S122 V123 x121) (fun S125 V126 =>
    bd2 (fX12_goes_0 S125 V126 L124) (fun S128 L129 =>
    bd3 (fX12_operand_0 S128 V126 L129 (0 : Int32)) (fun S131 V132 L133 =>
    K322_23 x120 S131 V132 L133)))) (fun K282_119 =>
    (if r117 = 0 then
    K282_119 x110 (11 : Int32) S114 V115 L113
    else
    K282_119 x110 (10 : Int32) S114 V115 L113))))) (fun K259_109 =>
    (if r107 = 0 then
    bd1 (fX12_isSign_0 S71 (47 : Int32)) (fun r137 =>
    (if r137 = 0 then
    bd1 (fX12_isSign_0 S71 (41 : Int32)) (fun r140 =>
    bk (fun (S143 : Nat → Int32) (V144 : Nat → Nat → Int32) (L145 : Nat → Int64) =>
    K322_23 (0 : Int32) S143 V144 L145) (fun K320_142 =>
    (if r140 = 0 then
    K320_142 S71 V72 L73
    else
    bd1 (fX12_isOpened_0 S71 V72) (fun r147 =>
    (if r147 = 0 then
    K320_142 S71 V72 L73
    else
    bd3 (fX12_closes_0 S71 V72 L73) (fun S150 V151 L152 =>
    K322_23 x70 S150 V151 L152))))))
    else
    K259_109 x70 S71 V72 L73))
    else
    K259_109 x70 S71 V72 L73)))
    else
    K204_76 x70 S71 V72 L73))
    else
    K204_76 x70 S71 V72 L73)))) (fun K186_69 =>
    bk (fun (x155 : Int32) (S156 : Nat → Int32) (V157 : Nat → Nat → Int32) (L158 : Nat → Int64) =>
    lt ((S156 35)) (fun x159 =>
    gd (ib x159 9) (
    (if (V157 12 (x159).toNatClampNeg) = 0 then
    bd2 (fX12_drops_0 S156 V157 (4 : Int32)) (fun S162 V163 =>
    bd1 (fX12_isSign_0 S162 (60 : Int32)) (fun r165 =>
    bk (fun (x168 : Int32) (x169 : Int32) (S170 : Nat → Int32) (V171 : Nat → Nat → Int32) (L172 : Nat → Int64) =>
    bd2 (fX12_waitsFor_0 S170 V171 x169) (fun S173 V174 =>
    lt ((S173 35)) (fun x176 =>
    gd (ib x176 9) (
    lt (va_up V174 12 (upd (V174 12) (x176).toNatClampNeg (vp_nar .boolean (1 : Int32)))) (fun V178 =>
    bd2 (fX12_goes_0 S173 V178 L172) (fun S179 L180 =>
    bd3 (fX12_operand_0 S179 V178 L180 (0 : Int32)) (fun S182 V183 L184 =>
    K322_23 x168 S182 V183 L184))))))) (fun K161_167 =>
    (if r165 = 0 then
    K161_167 x155 (7 : Int32) S162 V163 L158
    else
    K161_167 x155 (6 : Int32) S162 V163 L158))))
    else
    K186_69 x155 S156 V157 L158)))) (fun K127_154 =>
    (if r67 = 0 then
    bd1 (fX12_isSign_0 S14 (61 : Int32)) (fun r188 =>
    (if r188 = 0 then
    K186_69 x13 S14 V15 L16
    else
    K127_154 x13 S14 V15 L16))
    else
    K127_154 x13 S14 V15 L16))))))))))))
def fX12_expression_0 (S : Nat → Int32) (V : Nat → Nat → Int32) (L : Nat → Int64) : Option ((Nat → Int32) × (Nat → Nat → Int32) × (Nat → Int64)) :=
  bd1 (fX12_isGood_0 S) (fun r1 =>
  (if r1 = 0 then
  some (S, V, L)
  else
  lt (va_up S 34 (0 : Int32)) (fun S4 =>
  lt (va_up S4 35 (0 : Int32)) (fun S5 =>
  bd2 (fX12_deeper_0 S5 V) (fun S6 V7 =>
  bd3 (fX12_operand_0 S6 V7 L (1 : Int32)) (fun S9 V10 L11 =>
  bk (fun (S195 : Nat → Int32) (V196 : Nat → Nat → Int32) (L197 : Nat → Int64) =>
  bd1 (fX12_isGood_0 S195) (fun r198 =>
  bk (fun (S201 : Nat → Int32) (V202 : Nat → Nat → Int32) (L203 : Nat → Int64) =>
  bd2 (fX12_drops_0 S201 V202 (0 : Int32)) (fun S204 V205 =>
  bd2 (fX12_puts_0 S204 V205 (0 : Int32)) (fun S207 V208 =>
  some (S207, V208, L203)))) (fun K345_200 =>
  (if r198 = 0 then
  K345_200 S195 V196 L197
  else
  (if (S195 35) ≤ (1 : Int32) then
  K345_200 S195 V196 L197
  else
  bd1 (fX12_wrong_0 S195 (1 : Int32)) (fun S212 =>
  K345_200 S212 V196 L197)))))) (fun X325_194 =>
  fX12_expression_0_L29 X325_194 FU (1 : Int32) S9 V10 L11)))))))
set_option maxHeartbeats 4000000 in
set_option maxRecDepth 100000 in
theorem kX12_expression_0 (l : Launch) (B : jBT) (D : va_G) (ad : Nat → Nat) (cA : Nat → ClassId) (hI : jI ad TR) (S : Nat → Int32) (V : Nat → Nat → Int32) (L : Nat → Int64) (S0 : Nat → Int32) (V0 : Nat → Nat → Int32) (L0 : Nat → Int64) (h : fX12_expression_0 S V L = some (S0, V0, L0)) : jM l yX12_expression cX12_expression 3 none ({ frames := 5, cells := 0, slots := 0, locals := 115 }) B D TR ad cA [.ref (ad 0)] S V L none S0 V0 L0 := by
  refine jM_of (plainFor_of_name (by decide)) TR_ok hI (Nat.le_of_ble_eq_true rfl) ?_
  intro p e s m args below meth c C hr hlk
  refine j_lv (lv2 := [(0, .ref (ad 0))]) rfl ?_
  unfold fX12_expression_0 at h
  have H_fX12_expression_0_L29 : ∀ (E325 : (Nat → Int32) → (Nat → Nat → Int32) → (Nat → Int64) → Option ((Nat → Int32) × (Nat → Nat → Int32) × (Nat → Int64))) (_ : ∀ (S191 : Nat → Int32) (V192 : Nat → Nat → Int32) (L193 : Nat → Int64), E325 S191 V192 L193 = some (S0, V0, L0) → jW p l e ({ frames := 5, cells := 0, slots := 0, locals := 115 }) s m args below meth c (MQ below (jQc D TR ad cA none s.heap.size S0 V0 L0) args s 0 0 (jA ad TR s.heap.size)) D TR ad cA (jA ad TR s.heap.size) 3 0 0 325 [(0, .ref (ad 0))] [] S191 V192 L193) (n : Nat) (x13 : Int32) (S14 : Nat → Int32) (V15 : Nat → Nat → Int32) (L16 : Nat → Int64), fX12_expression_0_L29 E325 n x13 S14 V15 L16 = some (S0, V0, L0) → jW p l e ({ frames := 5, cells := 0, slots := 0, locals := 115 }) s m args below meth c (MQ below (jQc D TR ad cA none s.heap.size S0 V0 L0) args s 0 0 (jA ad TR s.heap.size)) D TR ad cA (jA ad TR s.heap.size) 3 0 0 29 [(0, .ref (ad 0)), (1, .int x13)] [] S14 V15 L16 := by
    intro E325 HE325
    intro n
    induction n with
    | zero =>
      intro x13 S14 V15 L16 h
      cases (show (none : Option ((Nat → Int32) × (Nat → Nat → Int32) × (Nat → Int64))) = some (S0, V0, L0) from h)
    | succ n ih =>
      intro x13 S14 V15 L16 h
      unfold fX12_expression_0_L29 at h
      refine j_iload_n C 1 rfl dX12_expression_29 rfl ?_
      refine j_if_eq (tgt := 325) C dX12_expression_30 (by decide) (fun c17 => ?_) (fun c17 => ?_)
      · have h := (if_pos c17).symm.trans h
        exact j_sub [0] rfl (HE325 _ _ _ h)
      · have h := (if_neg c17).symm.trans h
        refine j_aload_n C 0 rfl dX12_expression_33 rfl ?_
        obtain ⟨r18, h19, h⟩ := bd1_elim h
        refine j_callV (As := []) (rest := []) C (kX12_isGood_0 l B D ad cA hI S14 V15 L16 _ h19) mw_X12_isGood wd1656 wd59 wd1654 tr_0 rfl rfl ⟨rfl, rfl, by decide, by decide⟩ ⟨Nat.zero_le _, Nat.zero_le _⟩ rfl rfl (Nat.le_of_ble_eq_true rfl) dX12_expression_34 ?_
        refine j_if_eq (tgt := 325) C dX12_expression_37 (by decide) (fun c20 => ?_) (fun c20 => ?_)
        · have h := (if_pos c20).symm.trans h
          exact j_sub [0] rfl (HE325 _ _ _ h)
        · have h := (if_neg c20).symm.trans h
          refine j_aload_n C 0 rfl dX12_expression_40 rfl ?_
          obtain ⟨r21, h22, h⟩ := bd1_elim h
          refine j_callV (As := []) (rest := []) C (kX12_knownWord_0 l B D ad cA hI S14 V15 L16 _ h22) mw_X12_knownWord wd1664 wd61 wd1662 tr_0 rfl rfl ⟨rfl, rfl, by decide, by decide⟩ ⟨Nat.zero_le _, Nat.zero_le _⟩ rfl rfl (Nat.le_of_ble_eq_true rfl) dX12_expression_41 ?_
          refine j_istore_n C [(2, .int r21), (0, .ref (ad 0)), (1, .int x13)] dX12_expression_44 rfl (by decide) rfl ?_
          refine j_iload_n C 0 rfl dX12_expression_45 rfl ?_
          refine j_bipush C dX12_expression_46 cb_15 ?_
          refine bk_elim h (fun K322_23 e_K322_23 h => ?_)
          have HK322_23 : ∀ (x24 : Int32) (S25 : Nat → Int32) (V26 : Nat → Nat → Int32) (L27 : Nat → Int64), K322_23 x24 S25 V26 L27 = some (S0, V0, L0) → jW p l e ({ frames := 5, cells := 0, slots := 0, locals := 115 }) s m args below meth c (MQ below (jQc D TR ad cA none s.heap.size S0 V0 L0) args s 0 0 (jA ad TR s.heap.size)) D TR ad cA (jA ad TR s.heap.size) 3 0 0 322 [(0, .ref (ad 0)), (1, .int x24)] [] S25 V26 L27 := by
            subst e_K322_23
            intro x24 S25 V26 L27 h
            refine j_goto (tgt := 29) C dX12_expression_322 (by decide) ?_
            exact j_sub [0, 1] rfl (ih _ _ _ _ h)
          refine bk_elim h (fun K57_28 e_K57_28 h => ?_)
          have HK57_28 : ∀ (x29 : Int32) (x30 : Int32) (S31 : Nat → Int32) (V32 : Nat → Nat → Int32) (L33 : Nat → Int64), K57_28 x29 x30 S31 V32 L33 = some (S0, V0, L0) → jW p l e ({ frames := 5, cells := 0, slots := 0, locals := 115 }) s m args below meth c (MQ below (jQc D TR ad cA none s.heap.size S0 V0 L0) args s 0 0 (jA ad TR s.heap.size)) D TR ad cA (jA ad TR s.heap.size) 3 0 0 57 [(0, .ref (ad 0)), (1, .int x29), (2, .int x30)] [] S31 V32 L33 := by
            subst e_K57_28
            intro x29 x30 S31 V32 L33 h
            refine j_aload_n C 0 rfl dX12_expression_57 rfl ?_
            refine j_iload_n C 2 rfl dX12_expression_58 rfl ?_
            refine j_bipush C dX12_expression_59 cb_15 ?_
            refine bk_elim h (fun K69_34 e_K69_34 h => ?_)
            have HK69_34 : ∀ (x35 : Int32) (x36 : Int32) (x37 : Int32) (S38 : Nat → Int32) (V39 : Nat → Nat → Int32) (L40 : Nat → Int64), K69_34 x35 x36 x37 S38 V39 L40 = some (S0, V0, L0) → jW p l e ({ frames := 5, cells := 0, slots := 0, locals := 115 }) s m args below meth c (MQ below (jQc D TR ad cA none s.heap.size S0 V0 L0) args s 0 0 (jA ad TR s.heap.size)) D TR ad cA (jA ad TR s.heap.size) 3 0 0 69 [(0, .ref (ad 0)), (1, .int x35), (2, .int x36)] [.int x37, .ref (ad 0)] S38 V39 L40 := by
              subst e_K69_34
              intro x35 x36 x37 S38 V39 L40 h
              obtain ⟨S41, V42, h43, h⟩ := bd2_elim h
              refine j_callV (As := [.int x37]) (rest := []) C (kX12_drops_0 l B D ad cA hI S38 V39 L40 x37 _ _ h43) mw_X12_drops wd1731 wd76 wd1729 tr_0 rfl rfl ⟨rfl, rfl, by decide, by decide⟩ ⟨Nat.zero_le _, Nat.zero_le _⟩ rfl rfl (Nat.le_of_ble_eq_true rfl) dX12_expression_69 ?_
              refine j_aload_n C 0 rfl dX12_expression_72 rfl ?_
              refine j_iload_n C 2 rfl dX12_expression_73 rfl ?_
              refine j_bipush C dX12_expression_74 cb_15 ?_
              refine bk_elim h (fun K84_44 e_K84_44 h => ?_)
              have HK84_44 : ∀ (x45 : Int32) (x46 : Int32) (S47 : Nat → Int32) (V48 : Nat → Nat → Int32) (L49 : Nat → Int64), K84_44 x45 x46 S47 V48 L49 = some (S0, V0, L0) → jW p l e ({ frames := 5, cells := 0, slots := 0, locals := 115 }) s m args below meth c (MQ below (jQc D TR ad cA none s.heap.size S0 V0 L0) args s 0 0 (jA ad TR s.heap.size)) D TR ad cA (jA ad TR s.heap.size) 3 0 0 84 [(0, .ref (ad 0)), (1, .int x45)] [.int x46, .ref (ad 0)] S47 V48 L49 := by
                subst e_K84_44
                intro x45 x46 S47 V48 L49 h
                obtain ⟨S50, V51, h52, h⟩ := bd2_elim h
                refine j_callV (As := [.int x46]) (rest := []) C (kX12_waitsFor_0 l B D ad cA hI S47 V48 L49 x46 _ _ h52) mw_X12_waitsFor wd1719 wd73 wd1717 tr_0 rfl rfl ⟨rfl, rfl, by decide, by decide⟩ ⟨Nat.zero_le _, Nat.zero_le _⟩ rfl rfl (Nat.le_of_ble_eq_true rfl) dX12_expression_84 ?_
                refine j_aload_n C 0 rfl dX12_expression_87 rfl ?_
                refine fg_X12_56_TR_0 C dX12_expression_88 ?_
                refine j_aload_n C 0 rfl dX12_expression_91 rfl ?_
                refine fg_X12_181_TR_0 C dX12_expression_92 ?_
                refine j_iconst C dX12_expression_95 ci_0 ?_
                refine lt_elim h (fun x53 e_x53 h => ?_)
                refine j_top2 e_x53 ?_
                obtain ⟨g54, h⟩ := gd_elim h
                refine j_zast C tr_12 (ib_in g54) dX12_expression_96 ?_
                refine lt_elim h (fun V55 e_V55 h => ?_)
                refine j_V e_V55 ?_
                refine j_aload_n C 0 rfl dX12_expression_97 rfl ?_
                obtain ⟨S56, L57, h58, h⟩ := bd2_elim h
                refine j_callV (As := []) (rest := []) C (kX12_goes_0 l B D ad cA hI S50 V55 L49 _ _ h58) mw_X12_goes wd1642 wd57 wd1640 tr_0 rfl rfl ⟨rfl, rfl, by decide, by decide⟩ ⟨Nat.zero_le _, Nat.zero_le _⟩ rfl rfl (Nat.le_of_ble_eq_true rfl) dX12_expression_98 ?_
                refine j_aload_n C 0 rfl dX12_expression_101 rfl ?_
                refine j_iconst C dX12_expression_102 ci_1 ?_
                obtain ⟨S59, V60, L61, h62, h⟩ := bd3_elim h
                refine j_callV (As := [.int (1 : Int32)]) (rest := []) C (kX12_operand_0 l B D ad cA hI S56 V55 L57 (1 : Int32) _ _ _ h62) mw_X12_operand wd1715 wd72 wd1713 tr_0 rfl rfl ⟨rfl, rfl, by decide, by decide⟩ ⟨Nat.zero_le _, Nat.zero_le _⟩ rfl rfl (Nat.le_of_ble_eq_true rfl) dX12_expression_103 ?_
                refine j_goto (tgt := 322) C dX12_expression_106 (by decide) ?_
                exact j_sub [0, 1] rfl (HK322_23 _ _ _ _ h)
              refine j_icmp_ne (tgt := 83) C dX12_expression_76 (by decide) (fun c63 => ?_) (fun c63 => ?_)
              · have h := (if_neg c63).symm.trans h
                refine j_iconst C dX12_expression_83 ci_5 ?_
                exact j_sub [0, 1] rfl (HK84_44 _ _ _ _ _ h)
              · have h := (if_pos c63).symm.trans h
                refine j_iconst C dX12_expression_79 ci_4 ?_
                refine j_goto (tgt := 84) C dX12_expression_80 (by decide) ?_
                exact j_sub [0, 1] rfl (HK84_44 _ _ _ _ _ h)
            refine j_icmp_ne (tgt := 68) C dX12_expression_61 (by decide) (fun c64 => ?_) (fun c64 => ?_)
            · have h := (if_neg c64).symm.trans h
              refine j_iconst C dX12_expression_68 ci_1 ?_
              exact j_sub [0, 1, 2] rfl (HK69_34 _ _ _ _ _ _ h)
            · have h := (if_pos c64).symm.trans h
              refine j_iconst C dX12_expression_64 ci_2 ?_
              refine j_goto (tgt := 69) C dX12_expression_65 (by decide) ?_
              exact j_sub [0, 1, 2] rfl (HK69_34 _ _ _ _ _ _ h)
          refine j_icmp_eq (tgt := 57) C dX12_expression_48 (by decide) (fun c65 => ?_) (fun c65 => ?_)
          · have h := (if_pos c65).symm.trans h
            exact j_sub [1, 2, 0] rfl (HK57_28 _ _ _ _ _ h)
          · have h := (if_neg c65).symm.trans h
            refine j_iload_n C 0 rfl dX12_expression_51 rfl ?_
            refine j_bipush C dX12_expression_52 cb_16 ?_
            refine j_icmp_ne (tgt := 109) C dX12_expression_54 (by decide) (fun c66 => ?_) (fun c66 => ?_)
            · have h := (if_neg c66).symm.trans h
              refine j_aload_n C 1 rfl dX12_expression_109 rfl ?_
              refine j_bipush C dX12_expression_110 cb_60 ?_
              obtain ⟨r67, h68, h⟩ := bd1_elim h
              refine j_callV (As := [.int (60 : Int32)]) (rest := []) C (kX12_isSign_0 l B D ad cA hI S14 V15 L16 (60 : Int32) _ h68) mw_X12_isSign wd1711 wd71 wd1709 tr_0 rfl rfl ⟨rfl, rfl, by decide, by decide⟩ ⟨Nat.zero_le _, Nat.zero_le _⟩ rfl rfl (Nat.le_of_ble_eq_true rfl) dX12_expression_112 ?_
              refine bk_elim h (fun K186_69 e_K186_69 h => ?_)
              have HK186_69 : ∀ (x70 : Int32) (S71 : Nat → Int32) (V72 : Nat → Nat → Int32) (L73 : Nat → Int64), K186_69 x70 S71 V72 L73 = some (S0, V0, L0) → jW p l e ({ frames := 5, cells := 0, slots := 0, locals := 115 }) s m args below meth c (MQ below (jQc D TR ad cA none s.heap.size S0 V0 L0) args s 0 0 (jA ad TR s.heap.size)) D TR ad cA (jA ad TR s.heap.size) 3 0 0 186 [(0, .ref (ad 0)), (1, .int x70)] [] S71 V72 L73 := by
                subst e_K186_69
                intro x70 S71 V72 L73 h
                refine j_aload_n C 0 rfl dX12_expression_186 rfl ?_
                refine j_bipush C dX12_expression_187 cb_43 ?_
                obtain ⟨r74, h75, h⟩ := bd1_elim h
                refine j_callV (As := [.int (43 : Int32)]) (rest := []) C (kX12_isSign_0 l B D ad cA hI S71 V72 L73 (43 : Int32) _ h75) mw_X12_isSign wd1711 wd71 wd1709 tr_0 rfl rfl ⟨rfl, rfl, by decide, by decide⟩ ⟨Nat.zero_le _, Nat.zero_le _⟩ rfl rfl (Nat.le_of_ble_eq_true rfl) dX12_expression_189 ?_
                refine bk_elim h (fun K204_76 e_K204_76 h => ?_)
                have HK204_76 : ∀ (x77 : Int32) (S78 : Nat → Int32) (V79 : Nat → Nat → Int32) (L80 : Nat → Int64), K204_76 x77 S78 V79 L80 = some (S0, V0, L0) → jW p l e ({ frames := 5, cells := 0, slots := 0, locals := 115 }) s m args below meth c (MQ below (jQc D TR ad cA none s.heap.size S0 V0 L0) args s 0 0 (jA ad TR s.heap.size)) D TR ad cA (jA ad TR s.heap.size) 3 0 0 204 [(0, .ref (ad 0)), (1, .int x77)] [] S78 V79 L80 := by
                  subst e_K204_76
                  intro x77 S78 V79 L80 h
                  refine j_aload_n C 0 rfl dX12_expression_204 rfl ?_
                  refine j_iconst C dX12_expression_205 ci_5 ?_
                  obtain ⟨S81, V82, h83, h⟩ := bd2_elim h
                  refine j_callV (As := [.int (5 : Int32)]) (rest := []) C (kX12_drops_0 l B D ad cA hI S78 V79 L80 (5 : Int32) _ _ h83) mw_X12_drops wd1731 wd76 wd1729 tr_0 rfl rfl ⟨rfl, rfl, by decide, by decide⟩ ⟨Nat.zero_le _, Nat.zero_le _⟩ rfl rfl (Nat.le_of_ble_eq_true rfl) dX12_expression_206 ?_
                  refine j_aload_n C 0 rfl dX12_expression_209 rfl ?_
                  refine j_aload_n C 0 rfl dX12_expression_210 rfl ?_
                  refine j_bipush C dX12_expression_211 cb_43 ?_
                  obtain ⟨r84, h85, h⟩ := bd1_elim h
                  refine j_callV (As := [.int (43 : Int32)]) (rest := [.ref (ad 0)]) C (kX12_isSign_0 l B D ad cA hI S81 V82 L80 (43 : Int32) _ h85) mw_X12_isSign wd1711 wd71 wd1709 tr_0 rfl rfl ⟨rfl, rfl, by decide, by decide⟩ ⟨Nat.zero_le _, Nat.zero_le _⟩ rfl rfl (Nat.le_of_ble_eq_true rfl) dX12_expression_213 ?_
                  refine bk_elim h (fun K226_86 e_K226_86 h => ?_)
                  have HK226_86 : ∀ (x87 : Int32) (x88 : Int32) (S89 : Nat → Int32) (V90 : Nat → Nat → Int32) (L91 : Nat → Int64), K226_86 x87 x88 S89 V90 L91 = some (S0, V0, L0) → jW p l e ({ frames := 5, cells := 0, slots := 0, locals := 115 }) s m args below meth c (MQ below (jQc D TR ad cA none s.heap.size S0 V0 L0) args s 0 0 (jA ad TR s.heap.size)) D TR ad cA (jA ad TR s.heap.size) 3 0 0 226 [(0, .ref (ad 0)), (1, .int x87)] [.int x88, .ref (ad 0)] S89 V90 L91 := by
                    subst e_K226_86
                    intro x87 x88 S89 V90 L91 h
                    obtain ⟨S92, V93, h94, h⟩ := bd2_elim h
                    refine j_callV (As := [.int x88]) (rest := []) C (kX12_waitsFor_0 l B D ad cA hI S89 V90 L91 x88 _ _ h94) mw_X12_waitsFor wd1719 wd73 wd1717 tr_0 rfl rfl ⟨rfl, rfl, by decide, by decide⟩ ⟨Nat.zero_le _, Nat.zero_le _⟩ rfl rfl (Nat.le_of_ble_eq_true rfl) dX12_expression_226 ?_
                    refine j_aload_n C 0 rfl dX12_expression_229 rfl ?_
                    obtain ⟨S95, L96, h97, h⟩ := bd2_elim h
                    refine j_callV (As := []) (rest := []) C (kX12_goes_0 l B D ad cA hI S92 V93 L91 _ _ h97) mw_X12_goes wd1642 wd57 wd1640 tr_0 rfl rfl ⟨rfl, rfl, by decide, by decide⟩ ⟨Nat.zero_le _, Nat.zero_le _⟩ rfl rfl (Nat.le_of_ble_eq_true rfl) dX12_expression_230 ?_
                    refine j_aload_n C 0 rfl dX12_expression_233 rfl ?_
                    refine j_iconst C dX12_expression_234 ci_0 ?_
                    obtain ⟨S98, V99, L100, h101, h⟩ := bd3_elim h
                    refine j_callV (As := [.int (0 : Int32)]) (rest := []) C (kX12_operand_0 l B D ad cA hI S95 V93 L96 (0 : Int32) _ _ _ h101) mw_X12_operand wd1715 wd72 wd1713 tr_0 rfl rfl ⟨rfl, rfl, by decide, by decide⟩ ⟨Nat.zero_le _, Nat.zero_le _⟩ rfl rfl (Nat.le_of_ble_eq_true rfl) dX12_expression_235 ?_
                    refine j_goto (tgt := 322) C dX12_expression_238 (by decide) ?_
                    exact j_sub [0, 1] rfl (HK322_23 _ _ _ _ h)
                  refine j_if_eq (tgt := 224) C dX12_expression_216 (by decide) (fun c102 => ?_) (fun c102 => ?_)
                  · have h := (if_pos c102).symm.trans h
                    refine j_bipush C dX12_expression_224 cb_9 ?_
                    exact j_sub [0, 1] rfl (HK226_86 _ _ _ _ _ h)
                  · have h := (if_neg c102).symm.trans h
                    refine j_bipush C dX12_expression_219 cb_8 ?_
                    refine j_goto (tgt := 226) C dX12_expression_221 (by decide) ?_
                    exact j_sub [0, 1] rfl (HK226_86 _ _ _ _ _ h)
                refine j_if_ne (tgt := 204) C dX12_expression_192 (by decide) (fun c103 => ?_) (fun c103 => ?_)
                · have h := (if_neg c103).symm.trans h
                  exact j_sub [0, 1] rfl (HK204_76 _ _ _ _ h)
                · have h := (if_pos c103).symm.trans h
                  refine j_aload_n C 0 rfl dX12_expression_195 rfl ?_
                  refine j_bipush C dX12_expression_196 cb_45 ?_
                  obtain ⟨r104, h105, h⟩ := bd1_elim h
                  refine j_callV (As := [.int (45 : Int32)]) (rest := []) C (kX12_isSign_0 l B D ad cA hI S71 V72 L73 (45 : Int32) _ h105) mw_X12_isSign wd1711 wd71 wd1709 tr_0 rfl rfl ⟨rfl, rfl, by decide, by decide⟩ ⟨Nat.zero_le _, Nat.zero_le _⟩ rfl rfl (Nat.le_of_ble_eq_true rfl) dX12_expression_198 ?_
                  refine j_if_eq (tgt := 241) C dX12_expression_201 (by decide) (fun c106 => ?_) (fun c106 => ?_)
                  · have h := (if_pos c106).symm.trans h
                    refine j_aload_n C 0 rfl dX12_expression_241 rfl ?_
                    refine j_bipush C dX12_expression_242 cb_42 ?_
                    obtain ⟨r107, h108, h⟩ := bd1_elim h
                    refine j_callV (As := [.int (42 : Int32)]) (rest := []) C (kX12_isSign_0 l B D ad cA hI S71 V72 L73 (42 : Int32) _ h108) mw_X12_isSign wd1711 wd71 wd1709 tr_0 rfl rfl ⟨rfl, rfl, by decide, by decide⟩ ⟨Nat.zero_le _, Nat.zero_le _⟩ rfl rfl (Nat.le_of_ble_eq_true rfl) dX12_expression_244 ?_
                    refine bk_elim h (fun K259_109 e_K259_109 h => ?_)
                    have HK259_109 : ∀ (x110 : Int32) (S111 : Nat → Int32) (V112 : Nat → Nat → Int32) (L113 : Nat → Int64), K259_109 x110 S111 V112 L113 = some (S0, V0, L0) → jW p l e ({ frames := 5, cells := 0, slots := 0, locals := 115 }) s m args below meth c (MQ below (jQc D TR ad cA none s.heap.size S0 V0 L0) args s 0 0 (jA ad TR s.heap.size)) D TR ad cA (jA ad TR s.heap.size) 3 0 0 259 [(0, .ref (ad 0)), (1, .int x110)] [] S111 V112 L113 := by
                      subst e_K259_109
                      intro x110 S111 V112 L113 h
                      refine j_aload_n C 0 rfl dX12_expression_259 rfl ?_
                      refine j_bipush C dX12_expression_260 cb_6 ?_
                      obtain ⟨S114, V115, h116, h⟩ := bd2_elim h
                      refine j_callV (As := [.int (6 : Int32)]) (rest := []) C (kX12_drops_0 l B D ad cA hI S111 V112 L113 (6 : Int32) _ _ h116) mw_X12_drops wd1731 wd76 wd1729 tr_0 rfl rfl ⟨rfl, rfl, by decide, by decide⟩ ⟨Nat.zero_le _, Nat.zero_le _⟩ rfl rfl (Nat.le_of_ble_eq_true rfl) dX12_expression_262 ?_
                      refine j_aload_n C 0 rfl dX12_expression_265 rfl ?_
                      refine j_aload_n C 0 rfl dX12_expression_266 rfl ?_
                      refine j_bipush C dX12_expression_267 cb_42 ?_
                      obtain ⟨r117, h118, h⟩ := bd1_elim h
                      refine j_callV (As := [.int (42 : Int32)]) (rest := [.ref (ad 0)]) C (kX12_isSign_0 l B D ad cA hI S114 V115 L113 (42 : Int32) _ h118) mw_X12_isSign wd1711 wd71 wd1709 tr_0 rfl rfl ⟨rfl, rfl, by decide, by decide⟩ ⟨Nat.zero_le _, Nat.zero_le _⟩ rfl rfl (Nat.le_of_ble_eq_true rfl) dX12_expression_269 ?_
                      refine bk_elim h (fun K282_119 e_K282_119 h => ?_)
                      have HK282_119 : ∀ (x120 : Int32) (x121 : Int32) (S122 : Nat → Int32) (V123 : Nat → Nat → Int32) (L124 : Nat → Int64), K282_119 x120 x121 S122 V123 L124 = some (S0, V0, L0) → jW p l e ({ frames := 5, cells := 0, slots := 0, locals := 115 }) s m args below meth c (MQ below (jQc D TR ad cA none s.heap.size S0 V0 L0) args s 0 0 (jA ad TR s.heap.size)) D TR ad cA (jA ad TR s.heap.size) 3 0 0 282 [(0, .ref (ad 0)), (1, .int x120)] [.int x121, .ref (ad 0)] S122 V123 L124 := by
                        subst e_K282_119
                        intro x120 x121 S122 V123 L124 h
                        obtain ⟨S125, V126, h127, h⟩ := bd2_elim h
                        refine j_callV (As := [.int x121]) (rest := []) C (kX12_waitsFor_0 l B D ad cA hI S122 V123 L124 x121 _ _ h127) mw_X12_waitsFor wd1719 wd73 wd1717 tr_0 rfl rfl ⟨rfl, rfl, by decide, by decide⟩ ⟨Nat.zero_le _, Nat.zero_le _⟩ rfl rfl (Nat.le_of_ble_eq_true rfl) dX12_expression_282 ?_
                        refine j_aload_n C 0 rfl dX12_expression_285 rfl ?_
                        obtain ⟨S128, L129, h130, h⟩ := bd2_elim h
                        refine j_callV (As := []) (rest := []) C (kX12_goes_0 l B D ad cA hI S125 V126 L124 _ _ h130) mw_X12_goes wd1642 wd57 wd1640 tr_0 rfl rfl ⟨rfl, rfl, by decide, by decide⟩ ⟨Nat.zero_le _, Nat.zero_le _⟩ rfl rfl (Nat.le_of_ble_eq_true rfl) dX12_expression_286 ?_
                        refine j_aload_n C 0 rfl dX12_expression_289 rfl ?_
                        refine j_iconst C dX12_expression_290 ci_0 ?_
                        obtain ⟨S131, V132, L133, h134, h⟩ := bd3_elim h
                        refine j_callV (As := [.int (0 : Int32)]) (rest := []) C (kX12_operand_0 l B D ad cA hI S128 V126 L129 (0 : Int32) _ _ _ h134) mw_X12_operand wd1715 wd72 wd1713 tr_0 rfl rfl ⟨rfl, rfl, by decide, by decide⟩ ⟨Nat.zero_le _, Nat.zero_le _⟩ rfl rfl (Nat.le_of_ble_eq_true rfl) dX12_expression_291 ?_
                        refine j_goto (tgt := 322) C dX12_expression_294 (by decide) ?_
                        exact j_sub [0, 1] rfl (HK322_23 _ _ _ _ h)
                      refine j_if_eq (tgt := 280) C dX12_expression_272 (by decide) (fun c135 => ?_) (fun c135 => ?_)
                      · have h := (if_pos c135).symm.trans h
                        refine j_bipush C dX12_expression_280 cb_11 ?_
                        exact j_sub [0, 1] rfl (HK282_119 _ _ _ _ _ h)
                      · have h := (if_neg c135).symm.trans h
                        refine j_bipush C dX12_expression_275 cb_10 ?_
                        refine j_goto (tgt := 282) C dX12_expression_277 (by decide) ?_
                        exact j_sub [0, 1] rfl (HK282_119 _ _ _ _ _ h)
                    refine j_if_ne (tgt := 259) C dX12_expression_247 (by decide) (fun c136 => ?_) (fun c136 => ?_)
                    · have h := (if_neg c136).symm.trans h
                      exact j_sub [0, 1] rfl (HK259_109 _ _ _ _ h)
                    · have h := (if_pos c136).symm.trans h
                      refine j_aload_n C 0 rfl dX12_expression_250 rfl ?_
                      refine j_bipush C dX12_expression_251 cb_47 ?_
                      obtain ⟨r137, h138, h⟩ := bd1_elim h
                      refine j_callV (As := [.int (47 : Int32)]) (rest := []) C (kX12_isSign_0 l B D ad cA hI S71 V72 L73 (47 : Int32) _ h138) mw_X12_isSign wd1711 wd71 wd1709 tr_0 rfl rfl ⟨rfl, rfl, by decide, by decide⟩ ⟨Nat.zero_le _, Nat.zero_le _⟩ rfl rfl (Nat.le_of_ble_eq_true rfl) dX12_expression_253 ?_
                      refine j_if_eq (tgt := 297) C dX12_expression_256 (by decide) (fun c139 => ?_) (fun c139 => ?_)
                      · have h := (if_pos c139).symm.trans h
                        refine j_aload_n C 0 rfl dX12_expression_297 rfl ?_
                        refine j_bipush C dX12_expression_298 cb_41 ?_
                        obtain ⟨r140, h141, h⟩ := bd1_elim h
                        refine j_callV (As := [.int (41 : Int32)]) (rest := []) C (kX12_isSign_0 l B D ad cA hI S71 V72 L73 (41 : Int32) _ h141) mw_X12_isSign wd1711 wd71 wd1709 tr_0 rfl rfl ⟨rfl, rfl, by decide, by decide⟩ ⟨Nat.zero_le _, Nat.zero_le _⟩ rfl rfl (Nat.le_of_ble_eq_true rfl) dX12_expression_300 ?_
                        refine bk_elim h (fun K320_142 e_K320_142 h => ?_)
                        have HK320_142 : ∀ (S143 : Nat → Int32) (V144 : Nat → Nat → Int32) (L145 : Nat → Int64), K320_142 S143 V144 L145 = some (S0, V0, L0) → jW p l e ({ frames := 5, cells := 0, slots := 0, locals := 115 }) s m args below meth c (MQ below (jQc D TR ad cA none s.heap.size S0 V0 L0) args s 0 0 (jA ad TR s.heap.size)) D TR ad cA (jA ad TR s.heap.size) 3 0 0 320 [(0, .ref (ad 0))] [] S143 V144 L145 := by
                          subst e_K320_142
                          intro S143 V144 L145 h
                          refine j_iconst C dX12_expression_320 ci_0 ?_
                          refine j_istore_n C [(1, .int (0 : Int32)), (0, .ref (ad 0))] dX12_expression_321 rfl (by decide) rfl ?_
                          exact j_sub [1, 0] rfl (HK322_23 _ _ _ _ h)
                        refine j_if_eq (tgt := 320) C dX12_expression_303 (by decide) (fun c146 => ?_) (fun c146 => ?_)
                        · have h := (if_pos c146).symm.trans h
                          exact j_sub [0] rfl (HK320_142 _ _ _ h)
                        · have h := (if_neg c146).symm.trans h
                          refine j_aload_n C 0 rfl dX12_expression_306 rfl ?_
                          obtain ⟨r147, h148, h⟩ := bd1_elim h
                          refine j_callV (As := []) (rest := []) C (kX12_isOpened_0 l B D ad cA hI S71 V72 L73 _ h148) mw_X12_isOpened wd1741 wd77 wd1739 tr_0 rfl rfl ⟨rfl, rfl, by decide, by decide⟩ ⟨Nat.zero_le _, Nat.zero_le _⟩ rfl rfl (Nat.le_of_ble_eq_true rfl) dX12_expression_307 ?_
                          refine j_if_eq (tgt := 320) C dX12_expression_310 (by decide) (fun c149 => ?_) (fun c149 => ?_)
                          · have h := (if_pos c149).symm.trans h
                            exact j_sub [0] rfl (HK320_142 _ _ _ h)
                          · have h := (if_neg c149).symm.trans h
                            refine j_aload_n C 0 rfl dX12_expression_313 rfl ?_
                            obtain ⟨S150, V151, L152, h153, h⟩ := bd3_elim h
                            refine j_callV (As := []) (rest := []) C (kX12_closes_0 l B D ad cA hI S71 V72 L73 _ _ _ h153) mw_X12_closes wd1745 wd78 wd1743 tr_0 rfl rfl ⟨rfl, rfl, by decide, by decide⟩ ⟨Nat.zero_le _, Nat.zero_le _⟩ rfl rfl (Nat.le_of_ble_eq_true rfl) dX12_expression_314 ?_
                            refine j_goto (tgt := 322) C dX12_expression_317 (by decide) ?_
                            exact j_sub [0, 1] rfl (HK322_23 _ _ _ _ h)
                      · have h := (if_neg c139).symm.trans h
                        exact j_sub [0, 1] rfl (HK259_109 _ _ _ _ h)
                  · have h := (if_neg c106).symm.trans h
                    exact j_sub [0, 1] rfl (HK204_76 _ _ _ _ h)
              refine bk_elim h (fun K127_154 e_K127_154 h => ?_)
              have HK127_154 : ∀ (x155 : Int32) (S156 : Nat → Int32) (V157 : Nat → Nat → Int32) (L158 : Nat → Int64), K127_154 x155 S156 V157 L158 = some (S0, V0, L0) → jW p l e ({ frames := 5, cells := 0, slots := 0, locals := 115 }) s m args below meth c (MQ below (jQc D TR ad cA none s.heap.size S0 V0 L0) args s 0 0 (jA ad TR s.heap.size)) D TR ad cA (jA ad TR s.heap.size) 3 0 0 127 [(0, .ref (ad 0)), (1, .int x155)] [] S156 V157 L158 := by
                subst e_K127_154
                intro x155 S156 V157 L158 h
                refine j_aload_n C 0 rfl dX12_expression_127 rfl ?_
                refine fg_X12_56_TR_0 C dX12_expression_128 ?_
                refine j_aload_n C 0 rfl dX12_expression_131 rfl ?_
                refine fg_X12_181_TR_0 C dX12_expression_132 ?_
                refine lt_elim h (fun x159 e_x159 h => ?_)
                refine j_top e_x159 ?_
                obtain ⟨g160, h⟩ := gd_elim h
                refine j_zald C tr_12 (ib_in g160) dX12_expression_135 ?_
                refine j_if_ne (tgt := 186) C dX12_expression_136 (by decide) (fun c161 => ?_) (fun c161 => ?_)
                · have h := (if_neg c161).symm.trans h
                  exact j_sub [0, 1] rfl (HK186_69 _ _ _ _ h)
                · have h := (if_pos c161).symm.trans h
                  refine j_aload_n C 0 rfl dX12_expression_139 rfl ?_
                  refine j_iconst C dX12_expression_140 ci_4 ?_
                  obtain ⟨S162, V163, h164, h⟩ := bd2_elim h
                  refine j_callV (As := [.int (4 : Int32)]) (rest := []) C (kX12_drops_0 l B D ad cA hI S156 V157 L158 (4 : Int32) _ _ h164) mw_X12_drops wd1731 wd76 wd1729 tr_0 rfl rfl ⟨rfl, rfl, by decide, by decide⟩ ⟨Nat.zero_le _, Nat.zero_le _⟩ rfl rfl (Nat.le_of_ble_eq_true rfl) dX12_expression_141 ?_
                  refine j_aload_n C 0 rfl dX12_expression_144 rfl ?_
                  refine j_aload_n C 0 rfl dX12_expression_145 rfl ?_
                  refine j_bipush C dX12_expression_146 cb_60 ?_
                  obtain ⟨r165, h166, h⟩ := bd1_elim h
                  refine j_callV (As := [.int (60 : Int32)]) (rest := [.ref (ad 0)]) C (kX12_isSign_0 l B D ad cA hI S162 V163 L158 (60 : Int32) _ h166) mw_X12_isSign wd1711 wd71 wd1709 tr_0 rfl rfl ⟨rfl, rfl, by decide, by decide⟩ ⟨Nat.zero_le _, Nat.zero_le _⟩ rfl rfl (Nat.le_of_ble_eq_true rfl) dX12_expression_148 ?_
                  refine bk_elim h (fun K161_167 e_K161_167 h => ?_)
                  have HK161_167 : ∀ (x168 : Int32) (x169 : Int32) (S170 : Nat → Int32) (V171 : Nat → Nat → Int32) (L172 : Nat → Int64), K161_167 x168 x169 S170 V171 L172 = some (S0, V0, L0) → jW p l e ({ frames := 5, cells := 0, slots := 0, locals := 115 }) s m args below meth c (MQ below (jQc D TR ad cA none s.heap.size S0 V0 L0) args s 0 0 (jA ad TR s.heap.size)) D TR ad cA (jA ad TR s.heap.size) 3 0 0 161 [(0, .ref (ad 0)), (1, .int x168)] [.int x169, .ref (ad 0)] S170 V171 L172 := by
                    subst e_K161_167
                    intro x168 x169 S170 V171 L172 h
                    obtain ⟨S173, V174, h175, h⟩ := bd2_elim h
                    refine j_callV (As := [.int x169]) (rest := []) C (kX12_waitsFor_0 l B D ad cA hI S170 V171 L172 x169 _ _ h175) mw_X12_waitsFor wd1719 wd73 wd1717 tr_0 rfl rfl ⟨rfl, rfl, by decide, by decide⟩ ⟨Nat.zero_le _, Nat.zero_le _⟩ rfl rfl (Nat.le_of_ble_eq_true rfl) dX12_expression_161 ?_
                    refine j_aload_n C 0 rfl dX12_expression_164 rfl ?_
                    refine fg_X12_56_TR_0 C dX12_expression_165 ?_
                    refine j_aload_n C 0 rfl dX12_expression_168 rfl ?_
                    refine fg_X12_181_TR_0 C dX12_expression_169 ?_
                    refine j_iconst C dX12_expression_172 ci_1 ?_
                    refine lt_elim h (fun x176 e_x176 h => ?_)
                    refine j_top2 e_x176 ?_
                    obtain ⟨g177, h⟩ := gd_elim h
                    refine j_zast C tr_12 (ib_in g177) dX12_expression_173 ?_
                    refine lt_elim h (fun V178 e_V178 h => ?_)
                    refine j_V e_V178 ?_
                    refine j_aload_n C 0 rfl dX12_expression_174 rfl ?_
                    obtain ⟨S179, L180, h181, h⟩ := bd2_elim h
                    refine j_callV (As := []) (rest := []) C (kX12_goes_0 l B D ad cA hI S173 V178 L172 _ _ h181) mw_X12_goes wd1642 wd57 wd1640 tr_0 rfl rfl ⟨rfl, rfl, by decide, by decide⟩ ⟨Nat.zero_le _, Nat.zero_le _⟩ rfl rfl (Nat.le_of_ble_eq_true rfl) dX12_expression_175 ?_
                    refine j_aload_n C 0 rfl dX12_expression_178 rfl ?_
                    refine j_iconst C dX12_expression_179 ci_0 ?_
                    obtain ⟨S182, V183, L184, h185, h⟩ := bd3_elim h
                    refine j_callV (As := [.int (0 : Int32)]) (rest := []) C (kX12_operand_0 l B D ad cA hI S179 V178 L180 (0 : Int32) _ _ _ h185) mw_X12_operand wd1715 wd72 wd1713 tr_0 rfl rfl ⟨rfl, rfl, by decide, by decide⟩ ⟨Nat.zero_le _, Nat.zero_le _⟩ rfl rfl (Nat.le_of_ble_eq_true rfl) dX12_expression_180 ?_
                    refine j_goto (tgt := 322) C dX12_expression_183 (by decide) ?_
                    exact j_sub [0, 1] rfl (HK322_23 _ _ _ _ h)
                  refine j_if_eq (tgt := 159) C dX12_expression_151 (by decide) (fun c186 => ?_) (fun c186 => ?_)
                  · have h := (if_pos c186).symm.trans h
                    refine j_bipush C dX12_expression_159 cb_7 ?_
                    exact j_sub [0, 1] rfl (HK161_167 _ _ _ _ _ h)
                  · have h := (if_neg c186).symm.trans h
                    refine j_bipush C dX12_expression_154 cb_6 ?_
                    refine j_goto (tgt := 161) C dX12_expression_156 (by decide) ?_
                    exact j_sub [0, 1] rfl (HK161_167 _ _ _ _ _ h)
              refine j_if_ne (tgt := 127) C dX12_expression_115 (by decide) (fun c187 => ?_) (fun c187 => ?_)
              · have h := (if_neg c187).symm.trans h
                exact j_sub [1, 2] rfl (HK127_154 _ _ _ _ h)
              · have h := (if_pos c187).symm.trans h
                refine j_aload_n C 1 rfl dX12_expression_118 rfl ?_
                refine j_bipush C dX12_expression_119 cb_61 ?_
                obtain ⟨r188, h189, h⟩ := bd1_elim h
                refine j_callV (As := [.int (61 : Int32)]) (rest := []) C (kX12_isSign_0 l B D ad cA hI S14 V15 L16 (61 : Int32) _ h189) mw_X12_isSign wd1711 wd71 wd1709 tr_0 rfl rfl ⟨rfl, rfl, by decide, by decide⟩ ⟨Nat.zero_le _, Nat.zero_le _⟩ rfl rfl (Nat.le_of_ble_eq_true rfl) dX12_expression_121 ?_
                refine j_if_eq (tgt := 186) C dX12_expression_124 (by decide) (fun c190 => ?_) (fun c190 => ?_)
                · have h := (if_pos c190).symm.trans h
                  exact j_sub [1, 2] rfl (HK186_69 _ _ _ _ h)
                · have h := (if_neg c190).symm.trans h
                  exact j_sub [1, 2] rfl (HK127_154 _ _ _ _ h)
            · have h := (if_pos c66).symm.trans h
              exact j_sub [1, 2, 0] rfl (HK57_28 _ _ _ _ _ h)
  refine j_aload_n C 0 rfl dX12_expression_0 rfl ?_
  obtain ⟨r1, h2, h⟩ := bd1_elim h
  refine j_callV (As := []) (rest := []) C (kX12_isGood_0 l B D ad cA hI S V L _ h2) mw_X12_isGood wd1656 wd59 wd1654 tr_0 rfl rfl ⟨rfl, rfl, by decide, by decide⟩ ⟨Nat.zero_le _, Nat.zero_le _⟩ rfl rfl (Nat.le_of_ble_eq_true rfl) dX12_expression_1 ?_
  refine j_if_ne (tgt := 8) C dX12_expression_4 (by decide) (fun c3 => ?_) (fun c3 => ?_)
  · have h := (if_neg c3).symm.trans h
    refine j_aload_n C 0 rfl dX12_expression_8 rfl ?_
    refine j_iconst C dX12_expression_9 ci_0 ?_
    refine fp_X12_165_TR_0 C dX12_expression_10 ?_
    refine lt_elim h (fun S4 e_S4 h => ?_)
    refine j_S e_S4 ?_
    refine j_aload_n C 0 rfl dX12_expression_13 rfl ?_
    refine j_iconst C dX12_expression_14 ci_0 ?_
    refine fp_X12_181_TR_0 C dX12_expression_15 ?_
    refine lt_elim h (fun S5 e_S5 h => ?_)
    refine j_S e_S5 ?_
    refine j_aload_n C 0 rfl dX12_expression_18 rfl ?_
    obtain ⟨S6, V7, h8, h⟩ := bd2_elim h
    refine j_callV (As := []) (rest := []) C (kX12_deeper_0 l B D ad cA hI S5 V L _ _ h8) mw_X12_deeper wd1707 wd70 wd1705 tr_0 rfl rfl ⟨rfl, rfl, by decide, by decide⟩ ⟨Nat.zero_le _, Nat.zero_le _⟩ rfl rfl (Nat.le_of_ble_eq_true rfl) dX12_expression_19 ?_
    refine j_aload_n C 0 rfl dX12_expression_22 rfl ?_
    refine j_iconst C dX12_expression_23 ci_1 ?_
    obtain ⟨S9, V10, L11, h12, h⟩ := bd3_elim h
    refine j_callV (As := [.int (1 : Int32)]) (rest := []) C (kX12_operand_0 l B D ad cA hI S6 V7 L (1 : Int32) _ _ _ h12) mw_X12_operand wd1715 wd72 wd1713 tr_0 rfl rfl ⟨rfl, rfl, by decide, by decide⟩ ⟨Nat.zero_le _, Nat.zero_le _⟩ rfl rfl (Nat.le_of_ble_eq_true rfl) dX12_expression_24 ?_
    refine j_iconst C dX12_expression_27 ci_1 ?_
    refine j_istore_n C [(1, .int (1 : Int32)), (0, .ref (ad 0))] dX12_expression_28 rfl (by decide) rfl ?_
    refine bk_elim h (fun X325_194 e_X325_194 h => ?_)
    have HX325_194 : ∀ (S195 : Nat → Int32) (V196 : Nat → Nat → Int32) (L197 : Nat → Int64), X325_194 S195 V196 L197 = some (S0, V0, L0) → jW p l e ({ frames := 5, cells := 0, slots := 0, locals := 115 }) s m args below meth c (MQ below (jQc D TR ad cA none s.heap.size S0 V0 L0) args s 0 0 (jA ad TR s.heap.size)) D TR ad cA (jA ad TR s.heap.size) 3 0 0 325 [(0, .ref (ad 0))] [] S195 V196 L197 := by
      subst e_X325_194
      intro S195 V196 L197 h
      refine j_aload_n C 0 rfl dX12_expression_325 rfl ?_
      obtain ⟨r198, h199, h⟩ := bd1_elim h
      refine j_callV (As := []) (rest := []) C (kX12_isGood_0 l B D ad cA hI S195 V196 L197 _ h199) mw_X12_isGood wd1656 wd59 wd1654 tr_0 rfl rfl ⟨rfl, rfl, by decide, by decide⟩ ⟨Nat.zero_le _, Nat.zero_le _⟩ rfl rfl (Nat.le_of_ble_eq_true rfl) dX12_expression_326 ?_
      refine bk_elim h (fun K345_200 e_K345_200 h => ?_)
      have HK345_200 : ∀ (S201 : Nat → Int32) (V202 : Nat → Nat → Int32) (L203 : Nat → Int64), K345_200 S201 V202 L203 = some (S0, V0, L0) → jW p l e ({ frames := 5, cells := 0, slots := 0, locals := 115 }) s m args below meth c (MQ below (jQc D TR ad cA none s.heap.size S0 V0 L0) args s 0 0 (jA ad TR s.heap.size)) D TR ad cA (jA ad TR s.heap.size) 3 0 0 345 [(0, .ref (ad 0))] [] S201 V202 L203 := by
        subst e_K345_200
        intro S201 V202 L203 h
        refine j_aload_n C 0 rfl dX12_expression_345 rfl ?_
        refine j_iconst C dX12_expression_346 ci_0 ?_
        obtain ⟨S204, V205, h206, h⟩ := bd2_elim h
        refine j_callV (As := [.int (0 : Int32)]) (rest := []) C (kX12_drops_0 l B D ad cA hI S201 V202 L203 (0 : Int32) _ _ h206) mw_X12_drops wd1731 wd76 wd1729 tr_0 rfl rfl ⟨rfl, rfl, by decide, by decide⟩ ⟨Nat.zero_le _, Nat.zero_le _⟩ rfl rfl (Nat.le_of_ble_eq_true rfl) dX12_expression_347 ?_
        refine j_aload_n C 0 rfl dX12_expression_350 rfl ?_
        refine j_iconst C dX12_expression_351 ci_0 ?_
        obtain ⟨S207, V208, h209, h⟩ := bd2_elim h
        refine j_callV (As := [.int (0 : Int32)]) (rest := []) C (kX12_puts_0 l B D ad cA hI S204 V205 L203 (0 : Int32) _ _ h209) mw_X12_puts wd1727 wd75 wd1725 tr_0 rfl rfl ⟨rfl, rfl, by decide, by decide⟩ ⟨Nat.zero_le _, Nat.zero_le _⟩ rfl rfl (Nat.le_of_ble_eq_true rfl) dX12_expression_352 ?_
        cases h
        exact j_vret C hr hlk rfl dX12_expression_355
      refine j_if_eq (tgt := 345) C dX12_expression_329 (by decide) (fun c210 => ?_) (fun c210 => ?_)
      · have h := (if_pos c210).symm.trans h
        exact j_sub [0] rfl (HK345_200 _ _ _ h)
      · have h := (if_neg c210).symm.trans h
        refine j_aload_n C 0 rfl dX12_expression_332 rfl ?_
        refine fg_X12_181_TR_0 C dX12_expression_333 ?_
        refine j_iconst C dX12_expression_336 ci_1 ?_
        refine j_icmp_le (tgt := 345) C dX12_expression_337 (by decide) (fun c211 => ?_) (fun c211 => ?_)
        · have h := (if_pos c211).symm.trans h
          exact j_sub [0] rfl (HK345_200 _ _ _ h)
        · have h := (if_neg c211).symm.trans h
          refine j_aload_n C 0 rfl dX12_expression_340 rfl ?_
          refine j_iconst C dX12_expression_341 ci_1 ?_
          obtain ⟨S212, h213, h⟩ := bd1_elim h
          refine j_callV (As := [.int (1 : Int32)]) (rest := []) C (kX12_wrong_0 l B D ad cA hI S195 V196 L197 (1 : Int32) _ h213) mw_X12_wrong wd1679 wd63 wd1677 tr_0 rfl rfl ⟨rfl, rfl, by decide, by decide⟩ ⟨Nat.zero_le _, Nat.zero_le _⟩ rfl rfl (Nat.le_of_ble_eq_true rfl) dX12_expression_342 ?_
          exact j_sub [0] rfl (HK345_200 _ _ _ h)
    exact j_sub [1, 0] rfl (H_fX12_expression_0_L29 _ HX325_194 FU _ _ _ _ h)
  · have h := (if_pos c3).symm.trans h
    cases h
    exact j_vret C hr hlk rfl dX12_expression_7
