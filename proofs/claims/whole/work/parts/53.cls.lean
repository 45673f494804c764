theorem dX9_wantPart_0 : decode cX9_wantPart 0 = .ok (.aload_n 0, 1) := by decide +kernel
theorem dX9_wantPart_1 : decode cX9_wantPart 1 = .ok (.iconst 1, 1) := by decide +kernel
theorem dX9_wantPart_2 : decode cX9_wantPart 2 = .ok (.putfield 34, 3) := by decide +kernel
theorem dX9_wantPart_5 : decode cX9_wantPart 5 = .ok (.aload_n 0, 1) := by decide +kernel
theorem dX9_wantPart_6 : decode cX9_wantPart 6 = .ok (.iload_n 1, 1) := by decide +kernel
theorem dX9_wantPart_7 : decode cX9_wantPart 7 = .ok (.putfield 57, 3) := by decide +kernel
theorem dX9_wantPart_10 : decode cX9_wantPart 10 = .ok (.aload_n 0, 1) := by decide +kernel
theorem dX9_wantPart_11 : decode cX9_wantPart 11 = .ok (.iconst 0, 1) := by decide +kernel
theorem dX9_wantPart_12 : decode cX9_wantPart 12 = .ok (.putfield 60, 3) := by decide +kernel
theorem dX9_wantPart_15 : decode cX9_wantPart 15 = .ok (.return_, 1) := by decide +kernel
def fX9_wantPart_25 (S : Nat → Int32) (a1 : Int32) : Option ((Nat → Int32)) :=
  lt (va_up S 2505 (1 : Int32)) (fun S1 =>
  gd (isb a1) (
  lt (va_up S1 2506 a1) (fun S3 =>
  lt (va_up S3 2507 (0 : Int32)) (fun S4 =>
  some S4))))
set_option maxHeartbeats 4000000 in
set_option maxRecDepth 100000 in
theorem kX9_wantPart_25 (l : Launch) (B : jBT) (D : va_G) (ad : Nat → Nat) (cA : Nat → ClassId) (hI : jI ad TC) (S : Nat → Int32) (V : Nat → Nat → Int32) (L : Nat → Int64) (a1 : Int32) (S0 : Nat → Int32) (h : fX9_wantPart_25 S a1 = some S0) : jM l yX9_wantPart cX9_wantPart 2 none ({ frames := 0, cells := 0, slots := 0, locals := 0 }) B D TC ad cA [.ref (ad 25), .int a1] S V L none S0 V L := by
  refine jM_of (by decide) TC_ok hI (Nat.le_of_ble_eq_true rfl) ?_
  intro p e s m args below meth c C hr hlk
  refine j_lv (lv2 := [(0, .ref (ad 25)), (1, .int a1)]) rfl ?_
  unfold fX9_wantPart_25 at h
  refine j_aload_n C 0 rfl dX9_wantPart_0 rfl ?_
  refine j_iconst C dX9_wantPart_1 ci_1 ?_
  refine fp_X9_34_TC_25 C rfl rfl dX9_wantPart_2 ?_
  refine lt_elim h (fun S1 e_S1 h => ?_)
  refine j_S e_S1 ?_
  refine j_aload_n C 0 rfl dX9_wantPart_5 rfl ?_
  refine j_iload_n C 1 rfl dX9_wantPart_6 rfl ?_
  obtain ⟨g2, h⟩ := gd_elim h
  refine fp_X9_57_TC_25 C (isb_n g2) (isb_f g2) dX9_wantPart_7 ?_
  refine lt_elim h (fun S3 e_S3 h => ?_)
  refine j_S e_S3 ?_
  refine j_aload_n C 0 rfl dX9_wantPart_10 rfl ?_
  refine j_iconst C dX9_wantPart_11 ci_0 ?_
  refine fp_X9_60_TC_25 C dX9_wantPart_12 ?_
  refine lt_elim h (fun S4 e_S4 h => ?_)
  refine j_S e_S4 ?_
  cases h
  exact j_vret C hr hlk rfl dX9_wantPart_15
theorem dX9_readValue_0 : decode cX9_readValue 0 = .ok (.aload_n 0, 1) := by decide +kernel
theorem dX9_readValue_1 : decode cX9_readValue 1 = .ok (.getfield 15, 3) := by decide +kernel
theorem dX9_readValue_4 : decode cX9_readValue 4 = .ok (.invokevirtual 42, 3) := by decide +kernel
theorem dX9_readValue_7 : decode cX9_readValue 7 = .ok (.bipush 113, 2) := by decide +kernel
theorem dX9_readValue_9 : decode cX9_readValue 9 = .ok (.if_icmp .lt 15, 3) := by decide +kernel
theorem dX9_readValue_12 : decode cX9_readValue 12 = .ok (.aload_n 0, 1) := by decide +kernel
theorem dX9_readValue_13 : decode cX9_readValue 13 = .ok (.getfield 15, 3) := by decide +kernel
theorem dX9_readValue_16 : decode cX9_readValue 16 = .ok (.invokevirtual 42, 3) := by decide +kernel
theorem dX9_readValue_19 : decode cX9_readValue 19 = .ok (.bipush 118, 2) := by decide +kernel
theorem dX9_readValue_21 : decode cX9_readValue 21 = .ok (.if_icmp .le 5, 3) := by decide +kernel
theorem dX9_readValue_24 : decode cX9_readValue 24 = .ok (.iconst 3, 1) := by decide +kernel
theorem dX9_readValue_25 : decode cX9_readValue 25 = .ok (.ireturn, 1) := by decide +kernel
theorem dX9_readValue_26 : decode cX9_readValue 26 = .ok (.aload_n 0, 1) := by decide +kernel
theorem dX9_readValue_27 : decode cX9_readValue 27 = .ok (.getfield 19, 3) := by decide +kernel
theorem dX9_readValue_30 : decode cX9_readValue 30 = .ok (.sipush 10000, 3) := by decide +kernel
theorem dX9_readValue_33 : decode cX9_readValue 33 = .ok (.aload_n 0, 1) := by decide +kernel
theorem dX9_readValue_34 : decode cX9_readValue 34 = .ok (.getfield 15, 3) := by decide +kernel
theorem dX9_readValue_37 : decode cX9_readValue 37 = .ok (.invokevirtual 42, 3) := by decide +kernel
theorem dX9_readValue_40 : decode cX9_readValue 40 = .ok (.iadd, 1) := by decide +kernel
theorem dX9_readValue_41 : decode cX9_readValue 41 = .ok (.bipush 113, 2) := by decide +kernel
theorem dX9_readValue_43 : decode cX9_readValue 43 = .ok (.isub, 1) := by decide +kernel
theorem dX9_readValue_44 : decode cX9_readValue 44 = .ok (.invokevirtual 87, 3) := by decide +kernel
theorem dX9_readValue_47 : decode cX9_readValue 47 = .ok (.aload_n 0, 1) := by decide +kernel
theorem dX9_readValue_48 : decode cX9_readValue 48 = .ok (.iconst 0, 1) := by decide +kernel
theorem dX9_readValue_49 : decode cX9_readValue 49 = .ok (.putfield 34, 3) := by decide +kernel
theorem dX9_readValue_52 : decode cX9_readValue 52 = .ok (.aload_n 0, 1) := by decide +kernel
theorem dX9_readValue_53 : decode cX9_readValue 53 = .ok (.getfield 15, 3) := by decide +kernel
theorem dX9_readValue_56 : decode cX9_readValue 56 = .ok (.invokevirtual 81, 3) := by decide +kernel
theorem dX9_readValue_59 : decode cX9_readValue 59 = .ok (.iconst 0, 1) := by decide +kernel
theorem dX9_readValue_60 : decode cX9_readValue 60 = .ok (.ireturn, 1) := by decide +kernel
def fX9_readValue_25 (S : Nat → Int32) (V : Nat → Nat → Int32) : Option (Int32 × (Nat → Int32) × (Nat → Nat → Int32)) :=
  bd1 (fX10_kind_20 S V) (fun r1 =>
  (if r1 < (113 : Int32) then
  some ((3 : Int32), S, V)
  else
  bd1 (fX10_kind_20 S V) (fun r4 =>
  (if r4 ≤ (118 : Int32) then
  bd1 (fX10_kind_20 S V) (fun r7 =>
  bd2 (fX2_addCode_12 S V ((((10000 : Int32) + r7) - (113 : Int32)))) (fun S9 V10 =>
  lt (va_up S9 2505 (0 : Int32)) (fun S12 =>
  bd1 (fX10_advance_20 S12 V10) (fun S13 =>
  some ((0 : Int32), S13, V10)))))
  else
  some ((3 : Int32), S, V)))))
set_option maxHeartbeats 4000000 in
set_option maxRecDepth 100000 in
theorem kX9_readValue_25 (l : Launch) (B : jBT) (D : va_G) (ad : Nat → Nat) (cA : Nat → ClassId) (hI : jI ad TC) (S : Nat → Int32) (V : Nat → Nat → Int32) (L : Nat → Int64) (r0 : Int32) (S0 : Nat → Int32) (V0 : Nat → Nat → Int32) (h : fX9_readValue_25 S V = some (r0, S0, V0)) : jM l yX9_readValue cX9_readValue 1 (some .int) ({ frames := 1, cells := 0, slots := 0, locals := 21 }) B D TC ad cA [.ref (ad 25)] S V L (some (.int r0)) S0 V0 L := by
  refine jM_of (by decide) TC_ok hI (Nat.le_of_ble_eq_true rfl) ?_
  intro p e s m args below meth c C hr hlk
  refine j_lv (lv2 := [(0, .ref (ad 25))]) rfl ?_
  unfold fX9_readValue_25 at h
  refine j_aload_n C 0 rfl dX9_readValue_0 rfl ?_
  refine fg_X9_15_TC_25 C dX9_readValue_1 ?_
  obtain ⟨r1, h2, h⟩ := bd1_elim h
  refine j_callV (As := []) (rest := []) C (kX10_kind_20 l B D ad cA hI S V L _ h2) mw_X10_kind wd911 wd912 wd972 tc_20 rfl rfl ⟨rfl, rfl, by decide, by decide⟩ ⟨Nat.zero_le _, Nat.zero_le _⟩ rfl rfl (Nat.le_of_ble_eq_true rfl) dX9_readValue_4 ?_
  refine j_bipush C dX9_readValue_7 cb_113 ?_
  refine j_icmp_lt (tgt := 24) C dX9_readValue_9 (by decide) (fun c3 => ?_) (fun c3 => ?_)
  · have h := (if_pos c3).symm.trans h
    refine j_iconst C dX9_readValue_24 ci_3 ?_
    cases h
    exact j_iret C hr hlk rfl dX9_readValue_25
  · have h := (if_neg c3).symm.trans h
    refine j_aload_n C 0 rfl dX9_readValue_12 rfl ?_
    refine fg_X9_15_TC_25 C dX9_readValue_13 ?_
    obtain ⟨r4, h5, h⟩ := bd1_elim h
    refine j_callV (As := []) (rest := []) C (kX10_kind_20 l B D ad cA hI S V L _ h5) mw_X10_kind wd911 wd912 wd972 tc_20 rfl rfl ⟨rfl, rfl, by decide, by decide⟩ ⟨Nat.zero_le _, Nat.zero_le _⟩ rfl rfl (Nat.le_of_ble_eq_true rfl) dX9_readValue_16 ?_
    refine j_bipush C dX9_readValue_19 cb_118 ?_
    refine j_icmp_le (tgt := 26) C dX9_readValue_21 (by decide) (fun c6 => ?_) (fun c6 => ?_)
    · have h := (if_pos c6).symm.trans h
      refine j_aload_n C 0 rfl dX9_readValue_26 rfl ?_
      refine fg_X9_19_TC_25 C dX9_readValue_27 ?_
      refine j_sipush C dX9_readValue_30 cs_10000 ?_
      refine j_aload_n C 0 rfl dX9_readValue_33 rfl ?_
      refine fg_X9_15_TC_25 C dX9_readValue_34 ?_
      obtain ⟨r7, h8, h⟩ := bd1_elim h
      refine j_callV (As := []) (rest := [.int (10000 : Int32), .ref (ad 12)]) C (kX10_kind_20 l B D ad cA hI S V L _ h8) mw_X10_kind wd911 wd912 wd972 tc_20 rfl rfl ⟨rfl, rfl, by decide, by decide⟩ ⟨Nat.zero_le _, Nat.zero_le _⟩ rfl rfl (Nat.le_of_ble_eq_true rfl) dX9_readValue_37 ?_
      refine j_iadd C dX9_readValue_40 ?_
      refine j_bipush C dX9_readValue_41 cb_113 ?_
      refine j_isub C dX9_readValue_43 ?_
      obtain ⟨S9, V10, h11, h⟩ := bd2_elim h
      refine j_callV (As := [.int (((10000 : Int32) + r7) - (113 : Int32))]) (rest := []) C (kX2_addCode_12 l B D ad cA hI S V L ((((10000 : Int32) + r7) - (113 : Int32))) _ _ h11) mw_X2_addCode wd983 wd984 wd982 tc_12 rfl rfl ⟨rfl, rfl, by decide, by decide⟩ ⟨Nat.zero_le _, Nat.zero_le _⟩ rfl rfl (Nat.le_of_ble_eq_true rfl) dX9_readValue_44 ?_
      refine j_aload_n C 0 rfl dX9_readValue_47 rfl ?_
      refine j_iconst C dX9_readValue_48 ci_0 ?_
      refine fp_X9_34_TC_25 C rfl rfl dX9_readValue_49 ?_
      refine lt_elim h (fun S12 e_S12 h => ?_)
      refine j_S e_S12 ?_
      refine j_aload_n C 0 rfl dX9_readValue_52 rfl ?_
      refine fg_X9_15_TC_25 C dX9_readValue_53 ?_
      obtain ⟨S13, h14, h⟩ := bd1_elim h
      refine j_callV (As := []) (rest := []) C (kX10_advance_20 l B D ad cA hI S12 V10 L _ h14) mw_X10_advance wd923 wd924 wd986 tc_20 rfl rfl ⟨rfl, rfl, by decide, by decide⟩ ⟨Nat.zero_le _, Nat.zero_le _⟩ rfl rfl (Nat.le_of_ble_eq_true rfl) dX9_readValue_56 ?_
      refine j_iconst C dX9_readValue_59 ci_0 ?_
      cases h
      exact j_iret C hr hlk rfl dX9_readValue_60
    · have h := (if_neg c6).symm.trans h
      refine j_iconst C dX9_readValue_24 ci_3 ?_
      cases h
      exact j_iret C hr hlk rfl dX9_readValue_25
theorem dX9_readPart_0 : decode cX9_readPart 0 = .ok (.aload_n 0, 1) := by decide +kernel
theorem dX9_readPart_1 : decode cX9_readPart 1 = .ok (.getfield 15, 3) := by decide +kernel
theorem dX9_readPart_4 : decode cX9_readPart 4 = .ok (.invokevirtual 42, 3) := by decide +kernel
theorem dX9_readPart_7 : decode cX9_readPart 7 = .ok (.iconst 1, 1) := by decide +kernel
theorem dX9_readPart_8 : decode cX9_readPart 8 = .ok (.if_icmp .ne 7, 3) := by decide +kernel
theorem dX9_readPart_11 : decode cX9_readPart 11 = .ok (.iconst 1, 1) := by decide +kernel
theorem dX9_readPart_12 : decode cX9_readPart 12 = .ok (.goto 4, 3) := by decide +kernel
theorem dX9_readPart_15 : decode cX9_readPart 15 = .ok (.iconst 0, 1) := by decide +kernel
theorem dX9_readPart_16 : decode cX9_readPart 16 = .ok (.istore_n 1, 1) := by decide +kernel
theorem dX9_readPart_17 : decode cX9_readPart 17 = .ok (.iload_n 1, 1) := by decide +kernel
theorem dX9_readPart_18 : decode cX9_readPart 18 = .ok (.ifCond .ne 27, 3) := by decide +kernel
theorem dX9_readPart_21 : decode cX9_readPart 21 = .ok (.aload_n 0, 1) := by decide +kernel
theorem dX9_readPart_22 : decode cX9_readPart 22 = .ok (.getfield 15, 3) := by decide +kernel
theorem dX9_readPart_25 : decode cX9_readPart 25 = .ok (.invokevirtual 63, 3) := by decide +kernel
theorem dX9_readPart_28 : decode cX9_readPart 28 = .ok (.ifCond .ne 17, 3) := by decide +kernel
theorem dX9_readPart_31 : decode cX9_readPart 31 = .ok (.aload_n 0, 1) := by decide +kernel
theorem dX9_readPart_32 : decode cX9_readPart 32 = .ok (.getfield 15, 3) := by decide +kernel
theorem dX9_readPart_35 : decode cX9_readPart 35 = .ok (.invokevirtual 42, 3) := by decide +kernel
theorem dX9_readPart_38 : decode cX9_readPart 38 = .ok (.bipush 40, 2) := by decide +kernel
theorem dX9_readPart_40 : decode cX9_readPart 40 = .ok (.if_icmp .eq 5, 3) := by decide +kernel
theorem dX9_readPart_43 : decode cX9_readPart 43 = .ok (.iconst 1, 1) := by decide +kernel
theorem dX9_readPart_44 : decode cX9_readPart 44 = .ok (.ireturn, 1) := by decide +kernel
theorem dX9_readPart_45 : decode cX9_readPart 45 = .ok (.aload_n 0, 1) := by decide +kernel
theorem dX9_readPart_46 : decode cX9_readPart 46 = .ok (.getfield 27, 3) := by decide +kernel
theorem dX9_readPart_49 : decode cX9_readPart 49 = .ok (.bipush 6, 2) := by decide +kernel
theorem dX9_readPart_51 : decode cX9_readPart 51 = .ok (.if_icmp .lt 5, 3) := by decide +kernel
theorem dX9_readPart_54 : decode cX9_readPart 54 = .ok (.iconst 2, 1) := by decide +kernel
theorem dX9_readPart_55 : decode cX9_readPart 55 = .ok (.ireturn, 1) := by decide +kernel
theorem dX9_readPart_56 : decode cX9_readPart 56 = .ok (.iload_n 1, 1) := by decide +kernel
theorem dX9_readPart_57 : decode cX9_readPart 57 = .ok (.ifCond .eq 8, 3) := by decide +kernel
theorem dX9_readPart_60 : decode cX9_readPart 60 = .ok (.aload_n 0, 1) := by decide +kernel
theorem dX9_readPart_61 : decode cX9_readPart 61 = .ok (.invokevirtual 69, 3) := by decide +kernel
theorem dX9_readPart_64 : decode cX9_readPart 64 = .ok (.ireturn, 1) := by decide +kernel
theorem dX9_readPart_65 : decode cX9_readPart 65 = .ok (.aload_n 0, 1) := by decide +kernel
theorem dX9_readPart_66 : decode cX9_readPart 66 = .ok (.getfield 15, 3) := by decide +kernel
theorem dX9_readPart_69 : decode cX9_readPart 69 = .ok (.invokevirtual 63, 3) := by decide +kernel
theorem dX9_readPart_72 : decode cX9_readPart 72 = .ok (.ifCond .eq 34, 3) := by decide +kernel
theorem dX9_readPart_75 : decode cX9_readPart 75 = .ok (.aload_n 0, 1) := by decide +kernel
theorem dX9_readPart_76 : decode cX9_readPart 76 = .ok (.getfield 57, 3) := by decide +kernel
theorem dX9_readPart_79 : decode cX9_readPart 79 = .ok (.ifCond .eq 22, 3) := by decide +kernel
theorem dX9_readPart_82 : decode cX9_readPart 82 = .ok (.aload_n 0, 1) := by decide +kernel
theorem dX9_readPart_83 : decode cX9_readPart 83 = .ok (.getfield 15, 3) := by decide +kernel
theorem dX9_readPart_86 : decode cX9_readPart 86 = .ok (.invokevirtual 42, 3) := by decide +kernel
theorem dX9_readPart_89 : decode cX9_readPart 89 = .ok (.bipush 112, 2) := by decide +kernel
theorem dX9_readPart_91 : decode cX9_readPart 91 = .ok (.if_icmp .ne 10, 3) := by decide +kernel
theorem dX9_readPart_94 : decode cX9_readPart 94 = .ok (.aload_n 0, 1) := by decide +kernel
theorem dX9_readPart_95 : decode cX9_readPart 95 = .ok (.invokevirtual 72, 3) := by decide +kernel
theorem dX9_readPart_98 : decode cX9_readPart 98 = .ok (.goto 7, 3) := by decide +kernel
theorem dX9_readPart_101 : decode cX9_readPart 101 = .ok (.aload_n 0, 1) := by decide +kernel
theorem dX9_readPart_102 : decode cX9_readPart 102 = .ok (.invokevirtual 75, 3) := by decide +kernel
theorem dX9_readPart_105 : decode cX9_readPart 105 = .ok (.ireturn, 1) := by decide +kernel
theorem dX9_readPart_106 : decode cX9_readPart 106 = .ok (.aload_n 0, 1) := by decide +kernel
theorem dX9_readPart_107 : decode cX9_readPart 107 = .ok (.iconst 0, 1) := by decide +kernel
theorem dX9_readPart_108 : decode cX9_readPart 108 = .ok (.invokevirtual 78, 3) := by decide +kernel
theorem dX9_readPart_111 : decode cX9_readPart 111 = .ok (.aload_n 0, 1) := by decide +kernel
theorem dX9_readPart_112 : decode cX9_readPart 112 = .ok (.dup, 1) := by decide +kernel
theorem dX9_readPart_113 : decode cX9_readPart 113 = .ok (.getfield 27, 3) := by decide +kernel
theorem dX9_readPart_116 : decode cX9_readPart 116 = .ok (.iconst 1, 1) := by decide +kernel
theorem dX9_readPart_117 : decode cX9_readPart 117 = .ok (.iadd, 1) := by decide +kernel
theorem dX9_readPart_118 : decode cX9_readPart 118 = .ok (.putfield 27, 3) := by decide +kernel
theorem dX9_readPart_121 : decode cX9_readPart 121 = .ok (.aload_n 0, 1) := by decide +kernel
theorem dX9_readPart_122 : decode cX9_readPart 122 = .ok (.iconst 1, 1) := by decide +kernel
theorem dX9_readPart_123 : decode cX9_readPart 123 = .ok (.invokevirtual 30, 3) := by decide +kernel
theorem dX9_readPart_126 : decode cX9_readPart 126 = .ok (.aload_n 0, 1) := by decide +kernel
theorem dX9_readPart_127 : decode cX9_readPart 127 = .ok (.getfield 15, 3) := by decide +kernel
theorem dX9_readPart_130 : decode cX9_readPart 130 = .ok (.invokevirtual 81, 3) := by decide +kernel
theorem dX9_readPart_133 : decode cX9_readPart 133 = .ok (.iconst 0, 1) := by decide +kernel
theorem dX9_readPart_134 : decode cX9_readPart 134 = .ok (.ireturn, 1) := by decide +kernel
def fX9_readPart_25 (S : Nat → Int32) (V : Nat → Nat → Int32) : Option (Int32 × (Nat → Int32) × (Nat → Nat → Int32)) :=
  bd1 (fX10_kind_20 S V) (fun r1 =>
  bk (fun (x4 : Int32) (S5 : Nat → Int32) (V6 : Nat → Nat → Int32) =>
  bk (fun (x8 : Int32) (S9 : Nat → Int32) (V10 : Nat → Nat → Int32) =>
  (if (S9 2504) < (6 : Int32) then
  (if x8 = 0 then
  bd1 (fX10_isWord_20 S9 V10) (fun r13 =>
  (if r13 = 0 then
  bd2 (fX9_push_25 S9 V10 (0 : Int32)) (fun S16 V17 =>
  lt (((S16 2504) + (1 : Int32))) (fun x19 =>
  lt (va_up S16 2504 x19) (fun S20 =>
  bd1 (fX9_wantPart_25 S20 (1 : Int32)) (fun S21 =>
  bd1 (fX10_advance_20 S21 V17) (fun S23 =>
  some ((0 : Int32), S23, V17))))))
  else
  bk (fun (S26 : Nat → Int32) (V27 : Nat → Nat → Int32) =>
  bd3 (fX9_readValue_25 S26 V27) (fun r28 S29 V30 =>
  some (r28, S29, V30))) (fun K101_25 =>
  (if (S9 2506) = 0 then
  K101_25 S9 V10
  else
  bd1 (fX10_kind_20 S9 V10) (fun r33 =>
  (if r33 = (112 : Int32) then
  bd3 (fX9_readNot_25 S9 V10) (fun r36 S37 V38 =>
  some (r36, S37, V38))
  else
  K101_25 S9 V10))))))
  else
  bd3 (fX9_readConstant_25 S9 V10) (fun r40 S41 V42 =>
  some (r40, S41, V42)))
  else
  some ((2 : Int32), S9, V10))) (fun K45_7 =>
  (if x4 = 0 then
  bd1 (fX10_isWord_20 S5 V6) (fun r45 =>
  (if r45 = 0 then
  bd1 (fX10_kind_20 S5 V6) (fun r48 =>
  (if r48 = (40 : Int32) then
  K45_7 x4 S5 V6
  else
  some ((1 : Int32), S5, V6)))
  else
  K45_7 x4 S5 V6))
  else
  K45_7 x4 S5 V6))) (fun K16_3 =>
  (if r1 = (1 : Int32) then
  K16_3 (1 : Int32) S V
  else
  K16_3 (0 : Int32) S V)))
set_option maxHeartbeats 4000000 in
set_option maxRecDepth 100000 in
theorem kX9_readPart_25 (l : Launch) (B : jBT) (D : va_G) (ad : Nat → Nat) (cA : Nat → ClassId) (hI : jI ad TC) (S : Nat → Int32) (V : Nat → Nat → Int32) (L : Nat → Int64) (r0 : Int32) (S0 : Nat → Int32) (V0 : Nat → Nat → Int32) (h : fX9_readPart_25 S V = some (r0, S0, V0)) : jM l yX9_readPart cX9_readPart 2 (some .int) ({ frames := 2, cells := 0, slots := 0, locals := 41 }) B D TC ad cA [.ref (ad 25)] S V L (some (.int r0)) S0 V0 L := by
  refine jM_of (by decide) TC_ok hI (Nat.le_of_ble_eq_true rfl) ?_
  intro p e s m args below meth c C hr hlk
  refine j_lv (lv2 := [(0, .ref (ad 25))]) rfl ?_
  unfold fX9_readPart_25 at h
  refine j_aload_n C 0 rfl dX9_readPart_0 rfl ?_
  refine fg_X9_15_TC_25 C dX9_readPart_1 ?_
  obtain ⟨r1, h2, h⟩ := bd1_elim h
  refine j_callV (As := []) (rest := []) C (kX10_kind_20 l B D ad cA hI S V L _ h2) mw_X10_kind wd911 wd912 wd972 tc_20 rfl rfl ⟨rfl, rfl, by decide, by decide⟩ ⟨Nat.zero_le _, Nat.zero_le _⟩ rfl rfl (Nat.le_of_ble_eq_true rfl) dX9_readPart_4 ?_
  refine j_iconst C dX9_readPart_7 ci_1 ?_
  refine bk_elim h (fun K16_3 e_K16_3 h => ?_)
  have HK16_3 : ∀ (x4 : Int32) (S5 : Nat → Int32) (V6 : Nat → Nat → Int32), K16_3 x4 S5 V6 = some (r0, S0, V0) → jW p l e ({ frames := 2, cells := 0, slots := 0, locals := 41 }) s m args below meth c (MQ below (jQc D TC ad cA (some (.int r0)) s.heap.size S0 V0 L) args s 0 0 (jA ad TC s.heap.size)) D TC ad cA (jA ad TC s.heap.size) 2 0 0 16 [(0, .ref (ad 25))] [.int x4] S5 V6 L := by
    subst e_K16_3
    intro x4 S5 V6 h
    refine j_istore_n C [(1, .int x4), (0, .ref (ad 25))] dX9_readPart_16 rfl (by decide) rfl ?_
    refine j_iload_n C 0 rfl dX9_readPart_17 rfl ?_
    refine bk_elim h (fun K45_7 e_K45_7 h => ?_)
    have HK45_7 : ∀ (x8 : Int32) (S9 : Nat → Int32) (V10 : Nat → Nat → Int32), K45_7 x8 S9 V10 = some (r0, S0, V0) → jW p l e ({ frames := 2, cells := 0, slots := 0, locals := 41 }) s m args below meth c (MQ below (jQc D TC ad cA (some (.int r0)) s.heap.size S0 V0 L) args s 0 0 (jA ad TC s.heap.size)) D TC ad cA (jA ad TC s.heap.size) 2 0 0 45 [(0, .ref (ad 25)), (1, .int x8)] [] S9 V10 L := by
      subst e_K45_7
      intro x8 S9 V10 h
      refine j_aload_n C 0 rfl dX9_readPart_45 rfl ?_
      refine fg_X9_27_TC_25 C dX9_readPart_46 ?_
      refine j_bipush C dX9_readPart_49 cb_6 ?_
      refine j_icmp_lt (tgt := 56) C dX9_readPart_51 (by decide) (fun c11 => ?_) (fun c11 => ?_)
      · have h := (if_pos c11).symm.trans h
        refine j_iload_n C 1 rfl dX9_readPart_56 rfl ?_
        refine j_if_eq (tgt := 65) C dX9_readPart_57 (by decide) (fun c12 => ?_) (fun c12 => ?_)
        · have h := (if_pos c12).symm.trans h
          refine j_aload_n C 0 rfl dX9_readPart_65 rfl ?_
          refine fg_X9_15_TC_25 C dX9_readPart_66 ?_
          obtain ⟨r13, h14, h⟩ := bd1_elim h
          refine j_callV (As := []) (rest := []) C (kX10_isWord_20 l B D ad cA hI S9 V10 L _ h14) mw_X10_isWord wd974 wd975 wd973 tc_20 rfl rfl ⟨rfl, rfl, by decide, by decide⟩ ⟨Nat.zero_le _, Nat.zero_le _⟩ rfl rfl (Nat.le_of_ble_eq_true rfl) dX9_readPart_69 ?_
          refine j_if_eq (tgt := 106) C dX9_readPart_72 (by decide) (fun c15 => ?_) (fun c15 => ?_)
          · have h := (if_pos c15).symm.trans h
            refine j_aload_n C 0 rfl dX9_readPart_106 rfl ?_
            refine j_iconst C dX9_readPart_107 ci_0 ?_
            obtain ⟨S16, V17, h18, h⟩ := bd2_elim h
            refine j_callV (As := [.int (0 : Int32)]) (rest := []) C (kX9_push_25 l B D ad cA hI S9 V10 L (0 : Int32) _ _ h18) mw_X9_push wd993 wd29 wd991 tc_25 rfl rfl ⟨rfl, rfl, by decide, by decide⟩ ⟨Nat.zero_le _, Nat.zero_le _⟩ rfl rfl (Nat.le_of_ble_eq_true rfl) dX9_readPart_108 ?_
            refine j_aload_n C 0 rfl dX9_readPart_111 rfl ?_
            refine j_dup C dX9_readPart_112 rfl ?_
            refine fg_X9_27_TC_25 C dX9_readPart_113 ?_
            refine j_iconst C dX9_readPart_116 ci_1 ?_
            refine j_iadd C dX9_readPart_117 ?_
            refine lt_elim h (fun x19 e_x19 h => ?_)
            refine j_top e_x19 ?_
            refine fp_X9_27_TC_25 C dX9_readPart_118 ?_
            refine lt_elim h (fun S20 e_S20 h => ?_)
            refine j_S e_S20 ?_
            refine j_aload_n C 0 rfl dX9_readPart_121 rfl ?_
            refine j_iconst C dX9_readPart_122 ci_1 ?_
            obtain ⟨S21, h22, h⟩ := bd1_elim h
            refine j_callV (As := [.int (1 : Int32)]) (rest := []) C (kX9_wantPart_25 l B D ad cA hI S20 V17 L (1 : Int32) _ h22) mw_X9_wantPart wd966 wd25 wd964 tc_25 rfl rfl ⟨rfl, rfl, by decide, by decide⟩ ⟨Nat.zero_le _, Nat.zero_le _⟩ rfl rfl (Nat.le_of_ble_eq_true rfl) dX9_readPart_123 ?_
            refine j_aload_n C 0 rfl dX9_readPart_126 rfl ?_
            refine fg_X9_15_TC_25 C dX9_readPart_127 ?_
            obtain ⟨S23, h24, h⟩ := bd1_elim h
            refine j_callV (As := []) (rest := []) C (kX10_advance_20 l B D ad cA hI S21 V17 L _ h24) mw_X10_advance wd923 wd924 wd986 tc_20 rfl rfl ⟨rfl, rfl, by decide, by decide⟩ ⟨Nat.zero_le _, Nat.zero_le _⟩ rfl rfl (Nat.le_of_ble_eq_true rfl) dX9_readPart_130 ?_
            refine j_iconst C dX9_readPart_133 ci_0 ?_
            cases h
            exact j_iret C hr hlk rfl dX9_readPart_134
          · have h := (if_neg c15).symm.trans h
            refine j_aload_n C 0 rfl dX9_readPart_75 rfl ?_
            refine fg_X9_57_TC_25 C dX9_readPart_76 ?_
            refine bk_elim h (fun K101_25 e_K101_25 h => ?_)
            have HK101_25 : ∀ (S26 : Nat → Int32) (V27 : Nat → Nat → Int32), K101_25 S26 V27 = some (r0, S0, V0) → jW p l e ({ frames := 2, cells := 0, slots := 0, locals := 41 }) s m args below meth c (MQ below (jQc D TC ad cA (some (.int r0)) s.heap.size S0 V0 L) args s 0 0 (jA ad TC s.heap.size)) D TC ad cA (jA ad TC s.heap.size) 2 0 0 101 [(0, .ref (ad 25))] [] S26 V27 L := by
              subst e_K101_25
              intro S26 V27 h
              refine j_aload_n C 0 rfl dX9_readPart_101 rfl ?_
              obtain ⟨r28, S29, V30, h31, h⟩ := bd3_elim h
              refine j_callV (As := []) (rest := []) C (kX9_readValue_25 l B D ad cA hI S26 V27 L _ _ _ h31) mw_X9_readValue wd997 wd30 wd995 tc_25 rfl rfl ⟨rfl, rfl, by decide, by decide⟩ ⟨Nat.zero_le _, Nat.zero_le _⟩ rfl rfl (Nat.le_of_ble_eq_true rfl) dX9_readPart_102 ?_
              cases h
              exact j_iret C hr hlk rfl dX9_readPart_105
            refine j_if_eq (tgt := 101) C dX9_readPart_79 (by decide) (fun c32 => ?_) (fun c32 => ?_)
            · have h := (if_pos c32).symm.trans h
              exact j_sub [0] rfl (HK101_25 _ _ h)
            · have h := (if_neg c32).symm.trans h
              refine j_aload_n C 0 rfl dX9_readPart_82 rfl ?_
              refine fg_X9_15_TC_25 C dX9_readPart_83 ?_
              obtain ⟨r33, h34, h⟩ := bd1_elim h
              refine j_callV (As := []) (rest := []) C (kX10_kind_20 l B D ad cA hI S9 V10 L _ h34) mw_X10_kind wd911 wd912 wd972 tc_20 rfl rfl ⟨rfl, rfl, by decide, by decide⟩ ⟨Nat.zero_le _, Nat.zero_le _⟩ rfl rfl (Nat.le_of_ble_eq_true rfl) dX9_readPart_86 ?_
              refine j_bipush C dX9_readPart_89 cb_112 ?_
              refine j_icmp_ne (tgt := 101) C dX9_readPart_91 (by decide) (fun c35 => ?_) (fun c35 => ?_)
              · have h := (if_neg c35).symm.trans h
                exact j_sub [0] rfl (HK101_25 _ _ h)
              · have h := (if_pos c35).symm.trans h
                refine j_aload_n C 0 rfl dX9_readPart_94 rfl ?_
                obtain ⟨r36, S37, V38, h39, h⟩ := bd3_elim h
                refine j_callV (As := []) (rest := []) C (kX9_readNot_25 l B D ad cA hI S9 V10 L _ _ _ h39) mw_X9_readNot wd989 wd28 wd987 tc_25 rfl rfl ⟨rfl, rfl, by decide, by decide⟩ ⟨Nat.zero_le _, Nat.zero_le _⟩ rfl rfl (Nat.le_of_ble_eq_true rfl) dX9_readPart_95 ?_
                refine j_goto (tgt := 105) C dX9_readPart_98 (by decide) ?_
                cases h
                exact j_iret C hr hlk rfl dX9_readPart_105
        · have h := (if_neg c12).symm.trans h
          refine j_aload_n C 0 rfl dX9_readPart_60 rfl ?_
          obtain ⟨r40, S41, V42, h43, h⟩ := bd3_elim h
          refine j_callV (As := []) (rest := []) C (kX9_readConstant_25 l B D ad cA hI S9 V10 L _ _ _ h43) mw_X9_readConstant wd979 wd27 wd977 tc_25 rfl rfl ⟨rfl, rfl, by decide, by decide⟩ ⟨Nat.zero_le _, Nat.zero_le _⟩ rfl rfl (Nat.le_of_ble_eq_true rfl) dX9_readPart_61 ?_
          cases h
          exact j_iret C hr hlk rfl dX9_readPart_64
      · have h := (if_neg c11).symm.trans h
        refine j_iconst C dX9_readPart_54 ci_2 ?_
        cases h
        exact j_iret C hr hlk rfl dX9_readPart_55
    refine j_if_ne (tgt := 45) C dX9_readPart_18 (by decide) (fun c44 => ?_) (fun c44 => ?_)
    · have h := (if_neg c44).symm.trans h
      exact j_sub [1, 0] rfl (HK45_7 _ _ _ h)
    · have h := (if_pos c44).symm.trans h
      refine j_aload_n C 1 rfl dX9_readPart_21 rfl ?_
      refine fg_X9_15_TC_25 C dX9_readPart_22 ?_
      obtain ⟨r45, h46, h⟩ := bd1_elim h
      refine j_callV (As := []) (rest := []) C (kX10_isWord_20 l B D ad cA hI S5 V6 L _ h46) mw_X10_isWord wd974 wd975 wd973 tc_20 rfl rfl ⟨rfl, rfl, by decide, by decide⟩ ⟨Nat.zero_le _, Nat.zero_le _⟩ rfl rfl (Nat.le_of_ble_eq_true rfl) dX9_readPart_25 ?_
      refine j_if_ne (tgt := 45) C dX9_readPart_28 (by decide) (fun c47 => ?_) (fun c47 => ?_)
      · have h := (if_neg c47).symm.trans h
        exact j_sub [1, 0] rfl (HK45_7 _ _ _ h)
      · have h := (if_pos c47).symm.trans h
        refine j_aload_n C 1 rfl dX9_readPart_31 rfl ?_
        refine fg_X9_15_TC_25 C dX9_readPart_32 ?_
        obtain ⟨r48, h49, h⟩ := bd1_elim h
        refine j_callV (As := []) (rest := []) C (kX10_kind_20 l B D ad cA hI S5 V6 L _ h49) mw_X10_kind wd911 wd912 wd972 tc_20 rfl rfl ⟨rfl, rfl, by decide, by decide⟩ ⟨Nat.zero_le _, Nat.zero_le _⟩ rfl rfl (Nat.le_of_ble_eq_true rfl) dX9_readPart_35 ?_
        refine j_bipush C dX9_readPart_38 cb_40 ?_
        refine j_icmp_eq (tgt := 45) C dX9_readPart_40 (by decide) (fun c50 => ?_) (fun c50 => ?_)
        · have h := (if_pos c50).symm.trans h
          exact j_sub [1, 0] rfl (HK45_7 _ _ _ h)
        · have h := (if_neg c50).symm.trans h
          refine j_iconst C dX9_readPart_43 ci_1 ?_
          cases h
          exact j_iret C hr hlk rfl dX9_readPart_44
  refine j_icmp_ne (tgt := 15) C dX9_readPart_8 (by decide) (fun c51 => ?_) (fun c51 => ?_)
  · have h := (if_neg c51).symm.trans h
    refine j_iconst C dX9_readPart_15 ci_0 ?_
    exact j_sub [0] rfl (HK16_3 _ _ _ h)
  · have h := (if_pos c51).symm.trans h
    refine j_iconst C dX9_readPart_11 ci_1 ?_
    refine j_goto (tgt := 16) C dX9_readPart_12 (by decide) ?_
    exact j_sub [0] rfl (HK16_3 _ _ _ h)
