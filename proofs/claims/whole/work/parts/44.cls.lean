theorem dX4_copyFrom_0 : decode cX4_copyFrom 0 = .ok (.aload_n 0, 1) := by decide +kernel
theorem dX4_copyFrom_1 : decode cX4_copyFrom 1 = .ok (.aload_n 1, 1) := by decide +kernel
theorem dX4_copyFrom_2 : decode cX4_copyFrom 2 = .ok (.getfield 41, 3) := by decide +kernel
theorem dX4_copyFrom_5 : decode cX4_copyFrom 5 = .ok (.putfield 41, 3) := by decide +kernel
theorem dX4_copyFrom_8 : decode cX4_copyFrom 8 = .ok (.aload_n 1, 1) := by decide +kernel
theorem dX4_copyFrom_9 : decode cX4_copyFrom 9 = .ok (.getfield 9, 3) := by decide +kernel
theorem dX4_copyFrom_12 : decode cX4_copyFrom 12 = .ok (.iconst 0, 1) := by decide +kernel
theorem dX4_copyFrom_13 : decode cX4_copyFrom 13 = .ok (.aload_n 0, 1) := by decide +kernel
theorem dX4_copyFrom_14 : decode cX4_copyFrom 14 = .ok (.getfield 9, 3) := by decide +kernel
theorem dX4_copyFrom_17 : decode cX4_copyFrom 17 = .ok (.iconst 0, 1) := by decide +kernel
theorem dX4_copyFrom_18 : decode cX4_copyFrom 18 = .ok (.aload_n 0, 1) := by decide +kernel
theorem dX4_copyFrom_19 : decode cX4_copyFrom 19 = .ok (.getfield 41, 3) := by decide +kernel
theorem dX4_copyFrom_22 : decode cX4_copyFrom 22 = .ok (.invokestatic 45, 3) := by decide +kernel
theorem dX4_copyFrom_25 : decode cX4_copyFrom 25 = .ok (.aload_n 1, 1) := by decide +kernel
theorem dX4_copyFrom_26 : decode cX4_copyFrom 26 = .ok (.getfield 15, 3) := by decide +kernel
theorem dX4_copyFrom_29 : decode cX4_copyFrom 29 = .ok (.iconst 0, 1) := by decide +kernel
theorem dX4_copyFrom_30 : decode cX4_copyFrom 30 = .ok (.aload_n 0, 1) := by decide +kernel
theorem dX4_copyFrom_31 : decode cX4_copyFrom 31 = .ok (.getfield 15, 3) := by decide +kernel
theorem dX4_copyFrom_34 : decode cX4_copyFrom 34 = .ok (.iconst 0, 1) := by decide +kernel
theorem dX4_copyFrom_35 : decode cX4_copyFrom 35 = .ok (.aload_n 0, 1) := by decide +kernel
theorem dX4_copyFrom_36 : decode cX4_copyFrom 36 = .ok (.getfield 41, 3) := by decide +kernel
theorem dX4_copyFrom_39 : decode cX4_copyFrom 39 = .ok (.invokestatic 45, 3) := by decide +kernel
theorem dX4_copyFrom_42 : decode cX4_copyFrom 42 = .ok (.aload_n 1, 1) := by decide +kernel
theorem dX4_copyFrom_43 : decode cX4_copyFrom 43 = .ok (.getfield 18, 3) := by decide +kernel
theorem dX4_copyFrom_46 : decode cX4_copyFrom 46 = .ok (.iconst 0, 1) := by decide +kernel
theorem dX4_copyFrom_47 : decode cX4_copyFrom 47 = .ok (.aload_n 0, 1) := by decide +kernel
theorem dX4_copyFrom_48 : decode cX4_copyFrom 48 = .ok (.getfield 18, 3) := by decide +kernel
theorem dX4_copyFrom_51 : decode cX4_copyFrom 51 = .ok (.iconst 0, 1) := by decide +kernel
theorem dX4_copyFrom_52 : decode cX4_copyFrom 52 = .ok (.aload_n 0, 1) := by decide +kernel
theorem dX4_copyFrom_53 : decode cX4_copyFrom 53 = .ok (.getfield 41, 3) := by decide +kernel
theorem dX4_copyFrom_56 : decode cX4_copyFrom 56 = .ok (.invokestatic 45, 3) := by decide +kernel
theorem dX4_copyFrom_59 : decode cX4_copyFrom 59 = .ok (.aload_n 1, 1) := by decide +kernel
theorem dX4_copyFrom_60 : decode cX4_copyFrom 60 = .ok (.getfield 21, 3) := by decide +kernel
theorem dX4_copyFrom_63 : decode cX4_copyFrom 63 = .ok (.iconst 0, 1) := by decide +kernel
theorem dX4_copyFrom_64 : decode cX4_copyFrom 64 = .ok (.aload_n 0, 1) := by decide +kernel
theorem dX4_copyFrom_65 : decode cX4_copyFrom 65 = .ok (.getfield 21, 3) := by decide +kernel
theorem dX4_copyFrom_68 : decode cX4_copyFrom 68 = .ok (.iconst 0, 1) := by decide +kernel
theorem dX4_copyFrom_69 : decode cX4_copyFrom 69 = .ok (.aload_n 0, 1) := by decide +kernel
theorem dX4_copyFrom_70 : decode cX4_copyFrom 70 = .ok (.getfield 41, 3) := by decide +kernel
theorem dX4_copyFrom_73 : decode cX4_copyFrom 73 = .ok (.invokestatic 45, 3) := by decide +kernel
theorem dX4_copyFrom_76 : decode cX4_copyFrom 76 = .ok (.aload_n 1, 1) := by decide +kernel
theorem dX4_copyFrom_77 : decode cX4_copyFrom 77 = .ok (.getfield 24, 3) := by decide +kernel
theorem dX4_copyFrom_80 : decode cX4_copyFrom 80 = .ok (.iconst 0, 1) := by decide +kernel
theorem dX4_copyFrom_81 : decode cX4_copyFrom 81 = .ok (.aload_n 0, 1) := by decide +kernel
theorem dX4_copyFrom_82 : decode cX4_copyFrom 82 = .ok (.getfield 24, 3) := by decide +kernel
theorem dX4_copyFrom_85 : decode cX4_copyFrom 85 = .ok (.iconst 0, 1) := by decide +kernel
theorem dX4_copyFrom_86 : decode cX4_copyFrom 86 = .ok (.bipush 72, 2) := by decide +kernel
theorem dX4_copyFrom_88 : decode cX4_copyFrom 88 = .ok (.invokestatic 45, 3) := by decide +kernel
theorem dX4_copyFrom_91 : decode cX4_copyFrom 91 = .ok (.return_, 1) := by decide +kernel
def fX4_copyFrom_36_30 (S : Nat → Int32) (V : Nat → Nat → Int32) : Option ((Nat → Int32) × (Nat → Nat → Int32)) :=
  lt ((S 3002)) (fun x1 =>
  lt (va_up S 3602 x1) (fun S2 =>
  lt ((S2 3602)) (fun x3 =>
  gd (cpr (0 : Int32) (0 : Int32) x3 13 13) (
  lt (va_up V 37 (va_cpy (V 31) (V 37) ((0 : Int32)).toNatClampNeg ((0 : Int32)).toNatClampNeg (x3).toNatClampNeg)) (fun V5 =>
  lt ((S2 3602)) (fun x6 =>
  gd (cpr (0 : Int32) (0 : Int32) x6 13 13) (
  lt (va_up V5 38 (va_cpy (V5 32) (V5 38) ((0 : Int32)).toNatClampNeg ((0 : Int32)).toNatClampNeg (x6).toNatClampNeg)) (fun V8 =>
  lt ((S2 3602)) (fun x9 =>
  gd (cpr (0 : Int32) (0 : Int32) x9 13 13) (
  lt (va_up V8 39 (va_cpy (V8 33) (V8 39) ((0 : Int32)).toNatClampNeg ((0 : Int32)).toNatClampNeg (x9).toNatClampNeg)) (fun V11 =>
  lt ((S2 3602)) (fun x12 =>
  gd (cpr (0 : Int32) (0 : Int32) x12 13 13) (
  lt (va_up V11 40 (va_cpy (V11 34) (V11 40) ((0 : Int32)).toNatClampNeg ((0 : Int32)).toNatClampNeg (x12).toNatClampNeg)) (fun V14 =>
  gd (cpr (0 : Int32) (0 : Int32) (72 : Int32) 72 72) (
  lt (va_up V14 41 (va_cpy (V14 35) (V14 41) ((0 : Int32)).toNatClampNeg ((0 : Int32)).toNatClampNeg ((72 : Int32)).toNatClampNeg)) (fun V16 =>
  some (S2, V16)))))))))))))))))
set_option maxHeartbeats 4000000 in
set_option maxRecDepth 100000 in
theorem kX4_copyFrom_36_30 (l : Launch) (B : jBT) (D : va_G) (ad : Nat → Nat) (cA : Nat → ClassId) (hI : jI ad TC) (S : Nat → Int32) (V : Nat → Nat → Int32) (L : Nat → Int64) (S0 : Nat → Int32) (V0 : Nat → Nat → Int32) (h : fX4_copyFrom_36_30 S V = some (S0, V0)) : jM l yX4_copyFrom cX4_copyFrom 2 none ({ frames := 1, cells := 0, slots := 0, locals := 60 }) B D TC ad cA [.ref (ad 36), .ref (ad 30)] S V L none S0 V0 L := by
  refine jM_of (plainFor_of_name (by decide)) TC_ok hI (Nat.le_of_ble_eq_true rfl) ?_
  intro p e s m args below meth c C hr hlk
  refine j_lv (lv2 := [(0, .ref (ad 36)), (1, .ref (ad 30))]) rfl ?_
  unfold fX4_copyFrom_36_30 at h
  refine j_aload_n C 0 rfl dX4_copyFrom_0 rfl ?_
  refine j_aload_n C 1 rfl dX4_copyFrom_1 rfl ?_
  refine fg_X4_41_TC_30 C dX4_copyFrom_2 ?_
  refine lt_elim h (fun x1 e_x1 h => ?_)
  refine j_top e_x1 ?_
  refine fp_X4_41_TC_36 C dX4_copyFrom_5 ?_
  refine lt_elim h (fun S2 e_S2 h => ?_)
  refine j_S e_S2 ?_
  refine j_aload_n C 1 rfl dX4_copyFrom_8 rfl ?_
  refine fg_X4_9_TC_30 C dX4_copyFrom_9 ?_
  refine j_iconst C dX4_copyFrom_12 ci_0 ?_
  refine j_aload_n C 0 rfl dX4_copyFrom_13 rfl ?_
  refine fg_X4_9_TC_36 C dX4_copyFrom_14 ?_
  refine j_iconst C dX4_copyFrom_17 ci_0 ?_
  refine j_aload_n C 0 rfl dX4_copyFrom_18 rfl ?_
  refine fg_X4_41_TC_36 C dX4_copyFrom_19 ?_
  refine lt_elim h (fun x3 e_x3 h => ?_)
  refine j_top e_x3 ?_
  obtain ⟨g4, h⟩ := gd_elim h
  refine j_copy C tc_31 tc_37 wd672 wd674 wd673 wd122 rfl g4 (fun _ _ => rfl) (by decide) (Nat.le_of_ble_eq_true rfl) dX4_copyFrom_22 ?_
  refine lt_elim h (fun V5 e_V5 h => ?_)
  refine j_V e_V5 ?_
  refine j_aload_n C 1 rfl dX4_copyFrom_25 rfl ?_
  refine fg_X4_15_TC_30 C dX4_copyFrom_26 ?_
  refine j_iconst C dX4_copyFrom_29 ci_0 ?_
  refine j_aload_n C 0 rfl dX4_copyFrom_30 rfl ?_
  refine fg_X4_15_TC_36 C dX4_copyFrom_31 ?_
  refine j_iconst C dX4_copyFrom_34 ci_0 ?_
  refine j_aload_n C 0 rfl dX4_copyFrom_35 rfl ?_
  refine fg_X4_41_TC_36 C dX4_copyFrom_36 ?_
  refine lt_elim h (fun x6 e_x6 h => ?_)
  refine j_top e_x6 ?_
  obtain ⟨g7, h⟩ := gd_elim h
  refine j_copy C tc_32 tc_38 wd672 wd674 wd673 wd122 rfl g7 (fun _ _ => rfl) (by decide) (Nat.le_of_ble_eq_true rfl) dX4_copyFrom_39 ?_
  refine lt_elim h (fun V8 e_V8 h => ?_)
  refine j_V e_V8 ?_
  refine j_aload_n C 1 rfl dX4_copyFrom_42 rfl ?_
  refine fg_X4_18_TC_30 C dX4_copyFrom_43 ?_
  refine j_iconst C dX4_copyFrom_46 ci_0 ?_
  refine j_aload_n C 0 rfl dX4_copyFrom_47 rfl ?_
  refine fg_X4_18_TC_36 C dX4_copyFrom_48 ?_
  refine j_iconst C dX4_copyFrom_51 ci_0 ?_
  refine j_aload_n C 0 rfl dX4_copyFrom_52 rfl ?_
  refine fg_X4_41_TC_36 C dX4_copyFrom_53 ?_
  refine lt_elim h (fun x9 e_x9 h => ?_)
  refine j_top e_x9 ?_
  obtain ⟨g10, h⟩ := gd_elim h
  refine j_copy C tc_33 tc_39 wd672 wd674 wd673 wd122 rfl g10 (fun _ _ => rfl) (by decide) (Nat.le_of_ble_eq_true rfl) dX4_copyFrom_56 ?_
  refine lt_elim h (fun V11 e_V11 h => ?_)
  refine j_V e_V11 ?_
  refine j_aload_n C 1 rfl dX4_copyFrom_59 rfl ?_
  refine fg_X4_21_TC_30 C dX4_copyFrom_60 ?_
  refine j_iconst C dX4_copyFrom_63 ci_0 ?_
  refine j_aload_n C 0 rfl dX4_copyFrom_64 rfl ?_
  refine fg_X4_21_TC_36 C dX4_copyFrom_65 ?_
  refine j_iconst C dX4_copyFrom_68 ci_0 ?_
  refine j_aload_n C 0 rfl dX4_copyFrom_69 rfl ?_
  refine fg_X4_41_TC_36 C dX4_copyFrom_70 ?_
  refine lt_elim h (fun x12 e_x12 h => ?_)
  refine j_top e_x12 ?_
  obtain ⟨g13, h⟩ := gd_elim h
  refine j_copy C tc_34 tc_40 wd672 wd674 wd673 wd122 rfl g13 (fun _ _ => rfl) (by decide) (Nat.le_of_ble_eq_true rfl) dX4_copyFrom_73 ?_
  refine lt_elim h (fun V14 e_V14 h => ?_)
  refine j_V e_V14 ?_
  refine j_aload_n C 1 rfl dX4_copyFrom_76 rfl ?_
  refine fg_X4_24_TC_30 C dX4_copyFrom_77 ?_
  refine j_iconst C dX4_copyFrom_80 ci_0 ?_
  refine j_aload_n C 0 rfl dX4_copyFrom_81 rfl ?_
  refine fg_X4_24_TC_36 C dX4_copyFrom_82 ?_
  refine j_iconst C dX4_copyFrom_85 ci_0 ?_
  refine j_bipush C dX4_copyFrom_86 cb_72 ?_
  obtain ⟨g15, h⟩ := gd_elim h
  refine j_copy C tc_35 tc_41 wd672 wd674 wd673 wd122 rfl g15 (fun _ _ => rfl) (by decide) (Nat.le_of_ble_eq_true rfl) dX4_copyFrom_88 ?_
  refine lt_elim h (fun V16 e_V16 h => ?_)
  refine j_V e_V16 ?_
  cases h
  exact j_vret C hr hlk rfl dX4_copyFrom_91
theorem dX5_copyFrom_0 : decode cX5_copyFrom 0 = .ok (.aload_n 0, 1) := by decide +kernel
theorem dX5_copyFrom_1 : decode cX5_copyFrom 1 = .ok (.aload_n 1, 1) := by decide +kernel
theorem dX5_copyFrom_2 : decode cX5_copyFrom 2 = .ok (.getfield 18, 3) := by decide +kernel
theorem dX5_copyFrom_5 : decode cX5_copyFrom 5 = .ok (.putfield 18, 3) := by decide +kernel
theorem dX5_copyFrom_8 : decode cX5_copyFrom 8 = .ok (.aload_n 1, 1) := by decide +kernel
theorem dX5_copyFrom_9 : decode cX5_copyFrom 9 = .ok (.getfield 9, 3) := by decide +kernel
theorem dX5_copyFrom_12 : decode cX5_copyFrom 12 = .ok (.iconst 0, 1) := by decide +kernel
theorem dX5_copyFrom_13 : decode cX5_copyFrom 13 = .ok (.aload_n 0, 1) := by decide +kernel
theorem dX5_copyFrom_14 : decode cX5_copyFrom 14 = .ok (.getfield 9, 3) := by decide +kernel
theorem dX5_copyFrom_17 : decode cX5_copyFrom 17 = .ok (.iconst 0, 1) := by decide +kernel
theorem dX5_copyFrom_18 : decode cX5_copyFrom 18 = .ok (.aload_n 0, 1) := by decide +kernel
theorem dX5_copyFrom_19 : decode cX5_copyFrom 19 = .ok (.getfield 18, 3) := by decide +kernel
theorem dX5_copyFrom_22 : decode cX5_copyFrom 22 = .ok (.invokestatic 22, 3) := by decide +kernel
theorem dX5_copyFrom_25 : decode cX5_copyFrom 25 = .ok (.aload_n 1, 1) := by decide +kernel
theorem dX5_copyFrom_26 : decode cX5_copyFrom 26 = .ok (.getfield 15, 3) := by decide +kernel
theorem dX5_copyFrom_29 : decode cX5_copyFrom 29 = .ok (.iconst 0, 1) := by decide +kernel
theorem dX5_copyFrom_30 : decode cX5_copyFrom 30 = .ok (.aload_n 0, 1) := by decide +kernel
theorem dX5_copyFrom_31 : decode cX5_copyFrom 31 = .ok (.getfield 15, 3) := by decide +kernel
theorem dX5_copyFrom_34 : decode cX5_copyFrom 34 = .ok (.iconst 0, 1) := by decide +kernel
theorem dX5_copyFrom_35 : decode cX5_copyFrom 35 = .ok (.aload_n 0, 1) := by decide +kernel
theorem dX5_copyFrom_36 : decode cX5_copyFrom 36 = .ok (.getfield 18, 3) := by decide +kernel
theorem dX5_copyFrom_39 : decode cX5_copyFrom 39 = .ok (.invokestatic 22, 3) := by decide +kernel
theorem dX5_copyFrom_42 : decode cX5_copyFrom 42 = .ok (.return_, 1) := by decide +kernel
def fX5_copyFrom_45_42 (S : Nat → Int32) (V : Nat → Nat → Int32) : Option ((Nat → Int32) × (Nat → Nat → Int32)) :=
  lt ((S 4200)) (fun x1 =>
  lt (va_up S 4500 x1) (fun S2 =>
  lt ((S2 4500)) (fun x3 =>
  gd (cpr (0 : Int32) (0 : Int32) x3 8 8) (
  lt (va_up V 46 (va_cpy (V 43) (V 46) ((0 : Int32)).toNatClampNeg ((0 : Int32)).toNatClampNeg (x3).toNatClampNeg)) (fun V5 =>
  lt ((S2 4500)) (fun x6 =>
  gd (cpr (0 : Int32) (0 : Int32) x6 8 8) (
  lt (va_up V5 47 (va_cpy (V5 44) (V5 47) ((0 : Int32)).toNatClampNeg ((0 : Int32)).toNatClampNeg (x6).toNatClampNeg)) (fun V8 =>
  some (S2, V8)))))))))
set_option maxHeartbeats 4000000 in
set_option maxRecDepth 100000 in
theorem kX5_copyFrom_45_42 (l : Launch) (B : jBT) (D : va_G) (ad : Nat → Nat) (cA : Nat → ClassId) (hI : jI ad TC) (S : Nat → Int32) (V : Nat → Nat → Int32) (L : Nat → Int64) (S0 : Nat → Int32) (V0 : Nat → Nat → Int32) (h : fX5_copyFrom_45_42 S V = some (S0, V0)) : jM l yX5_copyFrom cX5_copyFrom 2 none ({ frames := 1, cells := 0, slots := 0, locals := 60 }) B D TC ad cA [.ref (ad 45), .ref (ad 42)] S V L none S0 V0 L := by
  refine jM_of (plainFor_of_name (by decide)) TC_ok hI (Nat.le_of_ble_eq_true rfl) ?_
  intro p e s m args below meth c C hr hlk
  refine j_lv (lv2 := [(0, .ref (ad 45)), (1, .ref (ad 42))]) rfl ?_
  unfold fX5_copyFrom_45_42 at h
  refine j_aload_n C 0 rfl dX5_copyFrom_0 rfl ?_
  refine j_aload_n C 1 rfl dX5_copyFrom_1 rfl ?_
  refine fg_X5_18_TC_42 C dX5_copyFrom_2 ?_
  refine lt_elim h (fun x1 e_x1 h => ?_)
  refine j_top e_x1 ?_
  refine fp_X5_18_TC_45 C dX5_copyFrom_5 ?_
  refine lt_elim h (fun S2 e_S2 h => ?_)
  refine j_S e_S2 ?_
  refine j_aload_n C 1 rfl dX5_copyFrom_8 rfl ?_
  refine fg_X5_9_TC_42 C dX5_copyFrom_9 ?_
  refine j_iconst C dX5_copyFrom_12 ci_0 ?_
  refine j_aload_n C 0 rfl dX5_copyFrom_13 rfl ?_
  refine fg_X5_9_TC_45 C dX5_copyFrom_14 ?_
  refine j_iconst C dX5_copyFrom_17 ci_0 ?_
  refine j_aload_n C 0 rfl dX5_copyFrom_18 rfl ?_
  refine fg_X5_18_TC_45 C dX5_copyFrom_19 ?_
  refine lt_elim h (fun x3 e_x3 h => ?_)
  refine j_top e_x3 ?_
  obtain ⟨g4, h⟩ := gd_elim h
  refine j_copy C tc_43 tc_46 wd679 wd674 wd673 wd122 rfl g4 (fun _ _ => rfl) (by decide) (Nat.le_of_ble_eq_true rfl) dX5_copyFrom_22 ?_
  refine lt_elim h (fun V5 e_V5 h => ?_)
  refine j_V e_V5 ?_
  refine j_aload_n C 1 rfl dX5_copyFrom_25 rfl ?_
  refine fg_X5_15_TC_42 C dX5_copyFrom_26 ?_
  refine j_iconst C dX5_copyFrom_29 ci_0 ?_
  refine j_aload_n C 0 rfl dX5_copyFrom_30 rfl ?_
  refine fg_X5_15_TC_45 C dX5_copyFrom_31 ?_
  refine j_iconst C dX5_copyFrom_34 ci_0 ?_
  refine j_aload_n C 0 rfl dX5_copyFrom_35 rfl ?_
  refine fg_X5_18_TC_45 C dX5_copyFrom_36 ?_
  refine lt_elim h (fun x6 e_x6 h => ?_)
  refine j_top e_x6 ?_
  obtain ⟨g7, h⟩ := gd_elim h
  refine j_copy C tc_44 tc_47 wd679 wd674 wd673 wd122 rfl g7 (fun _ _ => rfl) (by decide) (Nat.le_of_ble_eq_true rfl) dX5_copyFrom_39 ?_
  refine lt_elim h (fun V8 e_V8 h => ?_)
  refine j_V e_V8 ?_
  cases h
  exact j_vret C hr hlk rfl dX5_copyFrom_42
theorem dX11_image_0 : decode cX11_image 0 = .ok (.aload_n 0, 1) := by decide +kernel
theorem dX11_image_1 : decode cX11_image 1 = .ok (.getfield 53, 3) := by decide +kernel
theorem dX11_image_4 : decode cX11_image 4 = .ok (.aload_n 0, 1) := by decide +kernel
theorem dX11_image_5 : decode cX11_image 5 = .ok (.getfield 49, 3) := by decide +kernel
theorem dX11_image_8 : decode cX11_image 8 = .ok (.invokevirtual 324, 3) := by decide +kernel
theorem dX11_image_11 : decode cX11_image 11 = .ok (.aload_n 0, 1) := by decide +kernel
theorem dX11_image_12 : decode cX11_image 12 = .ok (.getfield 63, 3) := by decide +kernel
theorem dX11_image_15 : decode cX11_image 15 = .ok (.aload_n 0, 1) := by decide +kernel
theorem dX11_image_16 : decode cX11_image 16 = .ok (.getfield 59, 3) := by decide +kernel
theorem dX11_image_19 : decode cX11_image 19 = .ok (.invokevirtual 326, 3) := by decide +kernel
theorem dX11_image_22 : decode cX11_image 22 = .ok (.aload_n 0, 1) := by decide +kernel
theorem dX11_image_23 : decode cX11_image 23 = .ok (.iconst 1, 1) := by decide +kernel
theorem dX11_image_24 : decode cX11_image 24 = .ok (.putfield 134, 3) := by decide +kernel
theorem dX11_image_27 : decode cX11_image 27 = .ok (.return_, 1) := by decide +kernel
def fX11_image_0 (S : Nat → Int32) (V : Nat → Nat → Int32) : Option ((Nat → Int32) × (Nat → Nat → Int32)) :=
  bd2 (fX4_copyFrom_36_30 S V) (fun S1 V2 =>
  bd2 (fX5_copyFrom_45_42 S1 V2) (fun S4 V5 =>
  lt (va_up S4 11 (1 : Int32)) (fun S7 =>
  some (S7, V5))))
set_option maxHeartbeats 4000000 in
set_option maxRecDepth 100000 in
theorem kX11_image_0 (l : Launch) (B : jBT) (D : va_G) (ad : Nat → Nat) (cA : Nat → ClassId) (hI : jI ad TC) (S : Nat → Int32) (V : Nat → Nat → Int32) (L : Nat → Int64) (S0 : Nat → Int32) (V0 : Nat → Nat → Int32) (h : fX11_image_0 S V = some (S0, V0)) : jM l yX11_image cX11_image 1 none ({ frames := 2, cells := 0, slots := 0, locals := 81 }) B D TC ad cA [.ref (ad 0)] S V L none S0 V0 L := by
  refine jM_of (plainFor_of_name (by decide)) TC_ok hI (Nat.le_of_ble_eq_true rfl) ?_
  intro p e s m args below meth c C hr hlk
  refine j_lv (lv2 := [(0, .ref (ad 0))]) rfl ?_
  unfold fX11_image_0 at h
  refine j_aload_n C 0 rfl dX11_image_0 rfl ?_
  refine fg_X11_53_TC_0 C dX11_image_1 ?_
  refine j_aload_n C 0 rfl dX11_image_4 rfl ?_
  refine fg_X11_49_TC_0 C dX11_image_5 ?_
  obtain ⟨S1, V2, h3, h⟩ := bd2_elim h
  refine j_callV (As := [.ref (ad 30)]) (rest := []) C (kX4_copyFrom_36_30 l B D ad cA hI S V L _ _ h3) mw_X4_copyFrom wd669 wd670 wd668 tc_36 rfl rfl ⟨rfl, rfl, by decide, by decide⟩ ⟨Nat.zero_le _, Nat.zero_le _⟩ rfl rfl (Nat.le_of_ble_eq_true rfl) dX11_image_8 ?_
  refine j_aload_n C 0 rfl dX11_image_11 rfl ?_
  refine fg_X11_63_TC_0 C dX11_image_12 ?_
  refine j_aload_n C 0 rfl dX11_image_15 rfl ?_
  refine fg_X11_59_TC_0 C dX11_image_16 ?_
  obtain ⟨S4, V5, h6, h⟩ := bd2_elim h
  refine j_callV (As := [.ref (ad 42)]) (rest := []) C (kX5_copyFrom_45_42 l B D ad cA hI S1 V2 L _ _ h6) mw_X5_copyFrom wd676 wd677 wd675 tc_45 rfl rfl ⟨rfl, rfl, by decide, by decide⟩ ⟨Nat.zero_le _, Nat.zero_le _⟩ rfl rfl (Nat.le_of_ble_eq_true rfl) dX11_image_19 ?_
  refine j_aload_n C 0 rfl dX11_image_22 rfl ?_
  refine j_iconst C dX11_image_23 ci_1 ?_
  refine fp_X11_134_TC_0 C rfl rfl dX11_image_24 ?_
  refine lt_elim h (fun S7 e_S7 h => ?_)
  refine j_S e_S7 ?_
  cases h
  exact j_vret C hr hlk rfl dX11_image_27
