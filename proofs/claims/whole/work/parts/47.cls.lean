theorem dX3_readNumber_0 : decode cX3_readNumber 0 = .ok (.aload_n 0, 1) := by decide +kernel
theorem dX3_readNumber_1 : decode cX3_readNumber 1 = .ok (.getfield 21, 3) := by decide +kernel
theorem dX3_readNumber_4 : decode cX3_readNumber 4 = .ok (.invokevirtual 51, 3) := by decide +kernel
theorem dX3_readNumber_7 : decode cX3_readNumber 7 = .ok (.iconst 1, 1) := by decide +kernel
theorem dX3_readNumber_8 : decode cX3_readNumber 8 = .ok (.if_icmp .eq 5, 3) := by decide +kernel
theorem dX3_readNumber_11 : decode cX3_readNumber 11 = .ok (.iconst 1, 1) := by decide +kernel
theorem dX3_readNumber_12 : decode cX3_readNumber 12 = .ok (.ireturn, 1) := by decide +kernel
theorem dX3_readNumber_13 : decode cX3_readNumber 13 = .ok (.aload_n 0, 1) := by decide +kernel
theorem dX3_readNumber_14 : decode cX3_readNumber 14 = .ok (.aload_n 0, 1) := by decide +kernel
theorem dX3_readNumber_15 : decode cX3_readNumber 15 = .ok (.getfield 21, 3) := by decide +kernel
theorem dX3_readNumber_18 : decode cX3_readNumber 18 = .ok (.invokevirtual 130, 3) := by decide +kernel
theorem dX3_readNumber_21 : decode cX3_readNumber 21 = .ok (.putfield 89, 3) := by decide +kernel
theorem dX3_readNumber_24 : decode cX3_readNumber 24 = .ok (.aload_n 0, 1) := by decide +kernel
theorem dX3_readNumber_25 : decode cX3_readNumber 25 = .ok (.getfield 89, 3) := by decide +kernel
theorem dX3_readNumber_28 : decode cX3_readNumber 28 = .ok (.iload_n 1, 1) := by decide +kernel
theorem dX3_readNumber_29 : decode cX3_readNumber 29 = .ok (.if_icmp .lt 11, 3) := by decide +kernel
theorem dX3_readNumber_32 : decode cX3_readNumber 32 = .ok (.aload_n 0, 1) := by decide +kernel
theorem dX3_readNumber_33 : decode cX3_readNumber 33 = .ok (.getfield 89, 3) := by decide +kernel
theorem dX3_readNumber_36 : decode cX3_readNumber 36 = .ok (.iload_n 2, 1) := by decide +kernel
theorem dX3_readNumber_37 : decode cX3_readNumber 37 = .ok (.if_icmp .le 5, 3) := by decide +kernel
theorem dX3_readNumber_40 : decode cX3_readNumber 40 = .ok (.iconst 2, 1) := by decide +kernel
theorem dX3_readNumber_41 : decode cX3_readNumber 41 = .ok (.ireturn, 1) := by decide +kernel
theorem dX3_readNumber_42 : decode cX3_readNumber 42 = .ok (.aload_n 0, 1) := by decide +kernel
theorem dX3_readNumber_43 : decode cX3_readNumber 43 = .ok (.getfield 21, 3) := by decide +kernel
theorem dX3_readNumber_46 : decode cX3_readNumber 46 = .ok (.invokevirtual 64, 3) := by decide +kernel
theorem dX3_readNumber_49 : decode cX3_readNumber 49 = .ok (.iconst 0, 1) := by decide +kernel
theorem dX3_readNumber_50 : decode cX3_readNumber 50 = .ok (.ireturn, 1) := by decide +kernel
def fX3_readNumber_11 (S : Nat → Int32) (V : Nat → Nat → Int32) (a1 : Int32) (a2 : Int32) : Option (Int32 × (Nat → Int32)) :=
  bd1 (fX10_kind_20 S V) (fun r1 =>
  (if r1 = (1 : Int32) then
  bd1 (fX10_number_20 S V) (fun r4 =>
  lt (va_up S 1106 r4) (fun S6 =>
  (if (S6 1106) < a1 then
  some ((2 : Int32), S6)
  else
  (if (S6 1106) ≤ a2 then
  bd1 (fX10_advance_20 S6 V) (fun S9 =>
  some ((0 : Int32), S9))
  else
  some ((2 : Int32), S6)))))
  else
  some ((1 : Int32), S)))
set_option maxHeartbeats 4000000 in
set_option maxRecDepth 100000 in
theorem kX3_readNumber_11 (l : Launch) (B : jBT) (D : va_G) (ad : Nat → Nat) (cA : Nat → ClassId) (hI : jI ad TC) (S : Nat → Int32) (V : Nat → Nat → Int32) (L : Nat → Int64) (a1 : Int32) (a2 : Int32) (r0 : Int32) (S0 : Nat → Int32) (h : fX3_readNumber_11 S V a1 a2 = some (r0, S0)) : jM l yX3_readNumber cX3_readNumber 3 (some .int) ({ frames := 1, cells := 0, slots := 0, locals := 20 }) B D TC ad cA [.ref (ad 11), .int a1, .int a2] S V L (some (.int r0)) S0 V L := by
  refine jM_of (by decide) TC_ok hI (Nat.le_of_ble_eq_true rfl) ?_
  intro p e s m args below meth c C hr hlk
  refine j_lv (lv2 := [(0, .ref (ad 11)), (1, .int a1), (2, .int a2)]) rfl ?_
  unfold fX3_readNumber_11 at h
  refine j_aload_n C 0 rfl dX3_readNumber_0 rfl ?_
  refine fg_X3_21_TC_11 C dX3_readNumber_1 ?_
  obtain ⟨r1, h2, h⟩ := bd1_elim h
  refine j_callV (As := []) (rest := []) C (kX10_kind_20 l B D ad cA hI S V L _ h2) mw_X10_kind wd911 wd912 wd910 tc_20 rfl rfl ⟨rfl, rfl, by decide, by decide⟩ ⟨Nat.zero_le _, Nat.zero_le _⟩ rfl rfl (Nat.le_of_ble_eq_true rfl) dX3_readNumber_4 ?_
  refine j_iconst C dX3_readNumber_7 ci_1 ?_
  refine j_icmp_eq (tgt := 13) C dX3_readNumber_8 (by decide) (fun c3 => ?_) (fun c3 => ?_)
  · have h := (if_pos c3).symm.trans h
    refine j_aload_n C 0 rfl dX3_readNumber_13 rfl ?_
    refine j_aload_n C 0 rfl dX3_readNumber_14 rfl ?_
    refine fg_X3_21_TC_11 C dX3_readNumber_15 ?_
    obtain ⟨r4, h5, h⟩ := bd1_elim h
    refine j_callV (As := []) (rest := [.ref (ad 11)]) C (kX10_number_20 l B D ad cA hI S V L _ h5) mw_X10_number wd931 wd932 wd930 tc_20 rfl rfl ⟨rfl, rfl, by decide, by decide⟩ ⟨Nat.zero_le _, Nat.zero_le _⟩ rfl rfl (Nat.le_of_ble_eq_true rfl) dX3_readNumber_18 ?_
    refine fp_X3_89_TC_11 C dX3_readNumber_21 ?_
    refine lt_elim h (fun S6 e_S6 h => ?_)
    refine j_S e_S6 ?_
    refine j_aload_n C 0 rfl dX3_readNumber_24 rfl ?_
    refine fg_X3_89_TC_11 C dX3_readNumber_25 ?_
    refine j_iload_n C 1 rfl dX3_readNumber_28 rfl ?_
    refine j_icmp_lt (tgt := 40) C dX3_readNumber_29 (by decide) (fun c7 => ?_) (fun c7 => ?_)
    · have h := (if_pos c7).symm.trans h
      refine j_iconst C dX3_readNumber_40 ci_2 ?_
      cases h
      exact j_iret C hr hlk rfl dX3_readNumber_41
    · have h := (if_neg c7).symm.trans h
      refine j_aload_n C 0 rfl dX3_readNumber_32 rfl ?_
      refine fg_X3_89_TC_11 C dX3_readNumber_33 ?_
      refine j_iload_n C 2 rfl dX3_readNumber_36 rfl ?_
      refine j_icmp_le (tgt := 42) C dX3_readNumber_37 (by decide) (fun c8 => ?_) (fun c8 => ?_)
      · have h := (if_pos c8).symm.trans h
        refine j_aload_n C 0 rfl dX3_readNumber_42 rfl ?_
        refine fg_X3_21_TC_11 C dX3_readNumber_43 ?_
        obtain ⟨S9, h10, h⟩ := bd1_elim h
        refine j_callV (As := []) (rest := []) C (kX10_advance_20 l B D ad cA hI S6 V L _ h10) mw_X10_advance wd923 wd924 wd922 tc_20 rfl rfl ⟨rfl, rfl, by decide, by decide⟩ ⟨Nat.zero_le _, Nat.zero_le _⟩ rfl rfl (Nat.le_of_ble_eq_true rfl) dX3_readNumber_46 ?_
        refine j_iconst C dX3_readNumber_49 ci_0 ?_
        cases h
        exact j_iret C hr hlk rfl dX3_readNumber_50
      · have h := (if_neg c8).symm.trans h
        refine j_iconst C dX3_readNumber_40 ci_2 ?_
        cases h
        exact j_iret C hr hlk rfl dX3_readNumber_41
  · have h := (if_neg c3).symm.trans h
    refine j_iconst C dX3_readNumber_11 ci_1 ?_
    cases h
    exact j_iret C hr hlk rfl dX3_readNumber_12
theorem dX3_readBase_0 : decode cX3_readBase 0 = .ok (.aload_n 0, 1) := by decide +kernel
theorem dX3_readBase_1 : decode cX3_readBase 1 = .ok (.getfield 41, 3) := by decide +kernel
theorem dX3_readBase_4 : decode cX3_readBase 4 = .ok (.ifCond .eq 5, 3) := by decide +kernel
theorem dX3_readBase_7 : decode cX3_readBase 7 = .ok (.iconst 5, 1) := by decide +kernel
theorem dX3_readBase_8 : decode cX3_readBase 8 = .ok (.ireturn, 1) := by decide +kernel
theorem dX3_readBase_9 : decode cX3_readBase 9 = .ok (.aload_n 0, 1) := by decide +kernel
theorem dX3_readBase_10 : decode cX3_readBase 10 = .ok (.iconst 1, 1) := by decide +kernel
theorem dX3_readBase_11 : decode cX3_readBase 11 = .ok (.putfield 41, 3) := by decide +kernel
theorem dX3_readBase_14 : decode cX3_readBase 14 = .ok (.aload_n 0, 1) := by decide +kernel
theorem dX3_readBase_15 : decode cX3_readBase 15 = .ok (.getfield 21, 3) := by decide +kernel
theorem dX3_readBase_18 : decode cX3_readBase 18 = .ok (.invokevirtual 64, 3) := by decide +kernel
theorem dX3_readBase_21 : decode cX3_readBase 21 = .ok (.aload_n 0, 1) := by decide +kernel
theorem dX3_readBase_22 : decode cX3_readBase 22 = .ok (.bipush 20, 2) := by decide +kernel
theorem dX3_readBase_24 : decode cX3_readBase 24 = .ok (.bipush 60, 2) := by decide +kernel
theorem dX3_readBase_26 : decode cX3_readBase 26 = .ok (.invokevirtual 85, 3) := by decide +kernel
theorem dX3_readBase_29 : decode cX3_readBase 29 = .ok (.istore_n 1, 1) := by decide +kernel
theorem dX3_readBase_30 : decode cX3_readBase 30 = .ok (.aload_n 0, 1) := by decide +kernel
theorem dX3_readBase_31 : decode cX3_readBase 31 = .ok (.getfield 12, 3) := by decide +kernel
theorem dX3_readBase_34 : decode cX3_readBase 34 = .ok (.aload_n 0, 1) := by decide +kernel
theorem dX3_readBase_35 : decode cX3_readBase 35 = .ok (.getfield 89, 3) := by decide +kernel
theorem dX3_readBase_38 : decode cX3_readBase 38 = .ok (.putfield 93, 3) := by decide +kernel
theorem dX3_readBase_41 : decode cX3_readBase 41 = .ok (.iload_n 1, 1) := by decide +kernel
theorem dX3_readBase_42 : decode cX3_readBase 42 = .ok (.ireturn, 1) := by decide +kernel
def fX3_readBase_11 (S : Nat → Int32) (V : Nat → Nat → Int32) : Option (Int32 × (Nat → Int32)) :=
  (if (S 1103) = 0 then
  lt (va_up S 1103 (1 : Int32)) (fun S2 =>
  bd1 (fX10_advance_20 S2 V) (fun S3 =>
  bd2 (fX3_readNumber_11 S3 V (20 : Int32) (60 : Int32)) (fun r5 S6 =>
  lt ((S6 1106)) (fun x8 =>
  lt (va_up S6 1200 x8) (fun S9 =>
  some (r5, S9))))))
  else
  some ((5 : Int32), S))
set_option maxHeartbeats 4000000 in
set_option maxRecDepth 100000 in
theorem kX3_readBase_11 (l : Launch) (B : jBT) (D : va_G) (ad : Nat → Nat) (cA : Nat → ClassId) (hI : jI ad TC) (S : Nat → Int32) (V : Nat → Nat → Int32) (L : Nat → Int64) (r0 : Int32) (S0 : Nat → Int32) (h : fX3_readBase_11 S V = some (r0, S0)) : jM l yX3_readBase cX3_readBase 2 (some .int) ({ frames := 2, cells := 0, slots := 0, locals := 42 }) B D TC ad cA [.ref (ad 11)] S V L (some (.int r0)) S0 V L := by
  refine jM_of (by decide) TC_ok hI (Nat.le_of_ble_eq_true rfl) ?_
  intro p e s m args below meth c C hr hlk
  refine j_lv (lv2 := [(0, .ref (ad 11))]) rfl ?_
  unfold fX3_readBase_11 at h
  refine j_aload_n C 0 rfl dX3_readBase_0 rfl ?_
  refine fg_X3_41_TC_11 C dX3_readBase_1 ?_
  refine j_if_eq (tgt := 9) C dX3_readBase_4 (by decide) (fun c1 => ?_) (fun c1 => ?_)
  · have h := (if_pos c1).symm.trans h
    refine j_aload_n C 0 rfl dX3_readBase_9 rfl ?_
    refine j_iconst C dX3_readBase_10 ci_1 ?_
    refine fp_X3_41_TC_11 C rfl rfl dX3_readBase_11 ?_
    refine lt_elim h (fun S2 e_S2 h => ?_)
    refine j_S e_S2 ?_
    refine j_aload_n C 0 rfl dX3_readBase_14 rfl ?_
    refine fg_X3_21_TC_11 C dX3_readBase_15 ?_
    obtain ⟨S3, h4, h⟩ := bd1_elim h
    refine j_callV (As := []) (rest := []) C (kX10_advance_20 l B D ad cA hI S2 V L _ h4) mw_X10_advance wd923 wd924 wd922 tc_20 rfl rfl ⟨rfl, rfl, by decide, by decide⟩ ⟨Nat.zero_le _, Nat.zero_le _⟩ rfl rfl (Nat.le_of_ble_eq_true rfl) dX3_readBase_18 ?_
    refine j_aload_n C 0 rfl dX3_readBase_21 rfl ?_
    refine j_bipush C dX3_readBase_22 cb_20 ?_
    refine j_bipush C dX3_readBase_24 cb_60 ?_
    obtain ⟨r5, S6, h7, h⟩ := bd2_elim h
    refine j_callV (As := [.int (20 : Int32), .int (60 : Int32)]) (rest := []) C (kX3_readNumber_11 l B D ad cA hI S3 V L (20 : Int32) (60 : Int32) _ _ h7) mw_X3_readNumber wd928 wd18 wd926 tc_11 rfl rfl ⟨rfl, rfl, by decide, by decide⟩ ⟨Nat.zero_le _, Nat.zero_le _⟩ rfl rfl (Nat.le_of_ble_eq_true rfl) dX3_readBase_26 ?_
    refine j_istore_n C [(1, .int r5), (0, .ref (ad 11))] dX3_readBase_29 rfl (by decide) rfl ?_
    refine j_aload_n C 1 rfl dX3_readBase_30 rfl ?_
    refine fg_X3_12_TC_11 C dX3_readBase_31 ?_
    refine j_aload_n C 1 rfl dX3_readBase_34 rfl ?_
    refine fg_X3_89_TC_11 C dX3_readBase_35 ?_
    refine lt_elim h (fun x8 e_x8 h => ?_)
    refine j_top e_x8 ?_
    refine fp_X3_93_TC_12 C dX3_readBase_38 ?_
    refine lt_elim h (fun S9 e_S9 h => ?_)
    refine j_S e_S9 ?_
    refine j_iload_n C 0 rfl dX3_readBase_41 rfl ?_
    cases h
    exact j_iret C hr hlk rfl dX3_readBase_42
  · have h := (if_neg c1).symm.trans h
    refine j_iconst C dX3_readBase_7 ci_5 ?_
    cases h
    exact j_iret C hr hlk rfl dX3_readBase_8
theorem dX3_readEndOfLine_0 : decode cX3_readEndOfLine 0 = .ok (.aload_n 0, 1) := by decide +kernel
theorem dX3_readEndOfLine_1 : decode cX3_readEndOfLine 1 = .ok (.getfield 21, 3) := by decide +kernel
theorem dX3_readEndOfLine_4 : decode cX3_readEndOfLine 4 = .ok (.invokevirtual 51, 3) := by decide +kernel
theorem dX3_readEndOfLine_7 : decode cX3_readEndOfLine 7 = .ok (.bipush 59, 2) := by decide +kernel
theorem dX3_readEndOfLine_9 : decode cX3_readEndOfLine 9 = .ok (.if_icmp .eq 5, 3) := by decide +kernel
theorem dX3_readEndOfLine_12 : decode cX3_readEndOfLine 12 = .ok (.iconst 1, 1) := by decide +kernel
theorem dX3_readEndOfLine_13 : decode cX3_readEndOfLine 13 = .ok (.ireturn, 1) := by decide +kernel
theorem dX3_readEndOfLine_14 : decode cX3_readEndOfLine 14 = .ok (.aload_n 0, 1) := by decide +kernel
theorem dX3_readEndOfLine_15 : decode cX3_readEndOfLine 15 = .ok (.getfield 21, 3) := by decide +kernel
theorem dX3_readEndOfLine_18 : decode cX3_readEndOfLine 18 = .ok (.invokevirtual 64, 3) := by decide +kernel
theorem dX3_readEndOfLine_21 : decode cX3_readEndOfLine 21 = .ok (.iconst 0, 1) := by decide +kernel
theorem dX3_readEndOfLine_22 : decode cX3_readEndOfLine 22 = .ok (.ireturn, 1) := by decide +kernel
def fX3_readEndOfLine_11 (S : Nat → Int32) (V : Nat → Nat → Int32) : Option (Int32 × (Nat → Int32)) :=
  bd1 (fX10_kind_20 S V) (fun r1 =>
  (if r1 = (59 : Int32) then
  bd1 (fX10_advance_20 S V) (fun S4 =>
  some ((0 : Int32), S4))
  else
  some ((1 : Int32), S)))
set_option maxHeartbeats 4000000 in
set_option maxRecDepth 100000 in
theorem kX3_readEndOfLine_11 (l : Launch) (B : jBT) (D : va_G) (ad : Nat → Nat) (cA : Nat → ClassId) (hI : jI ad TC) (S : Nat → Int32) (V : Nat → Nat → Int32) (L : Nat → Int64) (r0 : Int32) (S0 : Nat → Int32) (h : fX3_readEndOfLine_11 S V = some (r0, S0)) : jM l yX3_readEndOfLine cX3_readEndOfLine 1 (some .int) ({ frames := 1, cells := 0, slots := 0, locals := 20 }) B D TC ad cA [.ref (ad 11)] S V L (some (.int r0)) S0 V L := by
  refine jM_of (by decide) TC_ok hI (Nat.le_of_ble_eq_true rfl) ?_
  intro p e s m args below meth c C hr hlk
  refine j_lv (lv2 := [(0, .ref (ad 11))]) rfl ?_
  unfold fX3_readEndOfLine_11 at h
  refine j_aload_n C 0 rfl dX3_readEndOfLine_0 rfl ?_
  refine fg_X3_21_TC_11 C dX3_readEndOfLine_1 ?_
  obtain ⟨r1, h2, h⟩ := bd1_elim h
  refine j_callV (As := []) (rest := []) C (kX10_kind_20 l B D ad cA hI S V L _ h2) mw_X10_kind wd911 wd912 wd910 tc_20 rfl rfl ⟨rfl, rfl, by decide, by decide⟩ ⟨Nat.zero_le _, Nat.zero_le _⟩ rfl rfl (Nat.le_of_ble_eq_true rfl) dX3_readEndOfLine_4 ?_
  refine j_bipush C dX3_readEndOfLine_7 cb_59 ?_
  refine j_icmp_eq (tgt := 14) C dX3_readEndOfLine_9 (by decide) (fun c3 => ?_) (fun c3 => ?_)
  · have h := (if_pos c3).symm.trans h
    refine j_aload_n C 0 rfl dX3_readEndOfLine_14 rfl ?_
    refine fg_X3_21_TC_11 C dX3_readEndOfLine_15 ?_
    obtain ⟨S4, h5, h⟩ := bd1_elim h
    refine j_callV (As := []) (rest := []) C (kX10_advance_20 l B D ad cA hI S V L _ h5) mw_X10_advance wd923 wd924 wd922 tc_20 rfl rfl ⟨rfl, rfl, by decide, by decide⟩ ⟨Nat.zero_le _, Nat.zero_le _⟩ rfl rfl (Nat.le_of_ble_eq_true rfl) dX3_readEndOfLine_18 ?_
    refine j_iconst C dX3_readEndOfLine_21 ci_0 ?_
    cases h
    exact j_iret C hr hlk rfl dX3_readEndOfLine_22
  · have h := (if_neg c3).symm.trans h
    refine j_iconst C dX3_readEndOfLine_12 ci_1 ?_
    cases h
    exact j_iret C hr hlk rfl dX3_readEndOfLine_13
theorem dX3_readOil_0 : decode cX3_readOil 0 = .ok (.aload_n 0, 1) := by decide +kernel
theorem dX3_readOil_1 : decode cX3_readOil 1 = .ok (.getfield 45, 3) := by decide +kernel
theorem dX3_readOil_4 : decode cX3_readOil 4 = .ok (.ifCond .eq 5, 3) := by decide +kernel
theorem dX3_readOil_7 : decode cX3_readOil 7 = .ok (.iconst 5, 1) := by decide +kernel
theorem dX3_readOil_8 : decode cX3_readOil 8 = .ok (.ireturn, 1) := by decide +kernel
theorem dX3_readOil_9 : decode cX3_readOil 9 = .ok (.aload_n 0, 1) := by decide +kernel
theorem dX3_readOil_10 : decode cX3_readOil 10 = .ok (.iconst 1, 1) := by decide +kernel
theorem dX3_readOil_11 : decode cX3_readOil 11 = .ok (.putfield 45, 3) := by decide +kernel
theorem dX3_readOil_14 : decode cX3_readOil 14 = .ok (.aload_n 0, 1) := by decide +kernel
theorem dX3_readOil_15 : decode cX3_readOil 15 = .ok (.getfield 21, 3) := by decide +kernel
theorem dX3_readOil_18 : decode cX3_readOil 18 = .ok (.invokevirtual 64, 3) := by decide +kernel
theorem dX3_readOil_21 : decode cX3_readOil 21 = .ok (.aload_n 0, 1) := by decide +kernel
theorem dX3_readOil_22 : decode cX3_readOil 22 = .ok (.iconst 0, 1) := by decide +kernel
theorem dX3_readOil_23 : decode cX3_readOil 23 = .ok (.bipush 30, 2) := by decide +kernel
theorem dX3_readOil_25 : decode cX3_readOil 25 = .ok (.invokevirtual 85, 3) := by decide +kernel
theorem dX3_readOil_28 : decode cX3_readOil 28 = .ok (.istore_n 1, 1) := by decide +kernel
theorem dX3_readOil_29 : decode cX3_readOil 29 = .ok (.iload_n 1, 1) := by decide +kernel
theorem dX3_readOil_30 : decode cX3_readOil 30 = .ok (.ifCond .eq 5, 3) := by decide +kernel
theorem dX3_readOil_33 : decode cX3_readOil 33 = .ok (.iload_n 1, 1) := by decide +kernel
theorem dX3_readOil_34 : decode cX3_readOil 34 = .ok (.ireturn, 1) := by decide +kernel
theorem dX3_readOil_35 : decode cX3_readOil 35 = .ok (.aload_n 0, 1) := by decide +kernel
theorem dX3_readOil_36 : decode cX3_readOil 36 = .ok (.getfield 12, 3) := by decide +kernel
theorem dX3_readOil_39 : decode cX3_readOil 39 = .ok (.aload_n 0, 1) := by decide +kernel
theorem dX3_readOil_40 : decode cX3_readOil 40 = .ok (.getfield 89, 3) := by decide +kernel
theorem dX3_readOil_43 : decode cX3_readOil 43 = .ok (.putfield 96, 3) := by decide +kernel
theorem dX3_readOil_46 : decode cX3_readOil 46 = .ok (.aload_n 0, 1) := by decide +kernel
theorem dX3_readOil_47 : decode cX3_readOil 47 = .ok (.iconst 1, 1) := by decide +kernel
theorem dX3_readOil_48 : decode cX3_readOil 48 = .ok (.bipush 99, 2) := by decide +kernel
theorem dX3_readOil_50 : decode cX3_readOil 50 = .ok (.invokevirtual 85, 3) := by decide +kernel
theorem dX3_readOil_53 : decode cX3_readOil 53 = .ok (.istore_n 1, 1) := by decide +kernel
theorem dX3_readOil_54 : decode cX3_readOil 54 = .ok (.aload_n 0, 1) := by decide +kernel
theorem dX3_readOil_55 : decode cX3_readOil 55 = .ok (.getfield 12, 3) := by decide +kernel
theorem dX3_readOil_58 : decode cX3_readOil 58 = .ok (.aload_n 0, 1) := by decide +kernel
theorem dX3_readOil_59 : decode cX3_readOil 59 = .ok (.getfield 89, 3) := by decide +kernel
theorem dX3_readOil_62 : decode cX3_readOil 62 = .ok (.putfield 99, 3) := by decide +kernel
theorem dX3_readOil_65 : decode cX3_readOil 65 = .ok (.iload_n 1, 1) := by decide +kernel
theorem dX3_readOil_66 : decode cX3_readOil 66 = .ok (.ireturn, 1) := by decide +kernel
def fX3_readOil_11 (S : Nat → Int32) (V : Nat → Nat → Int32) : Option (Int32 × (Nat → Int32)) :=
  (if (S 1104) = 0 then
  lt (va_up S 1104 (1 : Int32)) (fun S2 =>
  bd1 (fX10_advance_20 S2 V) (fun S3 =>
  bd2 (fX3_readNumber_11 S3 V (0 : Int32) (30 : Int32)) (fun r5 S6 =>
  (if r5 = 0 then
  lt ((S6 1106)) (fun x9 =>
  lt (va_up S6 1201 x9) (fun S10 =>
  bd2 (fX3_readNumber_11 S10 V (1 : Int32) (99 : Int32)) (fun r11 S12 =>
  lt ((S12 1106)) (fun x14 =>
  lt (va_up S12 1202 x14) (fun S15 =>
  some (r11, S15))))))
  else
  some (r5, S6)))))
  else
  some ((5 : Int32), S))
set_option maxHeartbeats 4000000 in
set_option maxRecDepth 100000 in
theorem kX3_readOil_11 (l : Launch) (B : jBT) (D : va_G) (ad : Nat → Nat) (cA : Nat → ClassId) (hI : jI ad TC) (S : Nat → Int32) (V : Nat → Nat → Int32) (L : Nat → Int64) (r0 : Int32) (S0 : Nat → Int32) (h : fX3_readOil_11 S V = some (r0, S0)) : jM l yX3_readOil cX3_readOil 2 (some .int) ({ frames := 2, cells := 0, slots := 0, locals := 42 }) B D TC ad cA [.ref (ad 11)] S V L (some (.int r0)) S0 V L := by
  refine jM_of (by decide) TC_ok hI (Nat.le_of_ble_eq_true rfl) ?_
  intro p e s m args below meth c C hr hlk
  refine j_lv (lv2 := [(0, .ref (ad 11))]) rfl ?_
  unfold fX3_readOil_11 at h
  refine j_aload_n C 0 rfl dX3_readOil_0 rfl ?_
  refine fg_X3_45_TC_11 C dX3_readOil_1 ?_
  refine j_if_eq (tgt := 9) C dX3_readOil_4 (by decide) (fun c1 => ?_) (fun c1 => ?_)
  · have h := (if_pos c1).symm.trans h
    refine j_aload_n C 0 rfl dX3_readOil_9 rfl ?_
    refine j_iconst C dX3_readOil_10 ci_1 ?_
    refine fp_X3_45_TC_11 C rfl rfl dX3_readOil_11 ?_
    refine lt_elim h (fun S2 e_S2 h => ?_)
    refine j_S e_S2 ?_
    refine j_aload_n C 0 rfl dX3_readOil_14 rfl ?_
    refine fg_X3_21_TC_11 C dX3_readOil_15 ?_
    obtain ⟨S3, h4, h⟩ := bd1_elim h
    refine j_callV (As := []) (rest := []) C (kX10_advance_20 l B D ad cA hI S2 V L _ h4) mw_X10_advance wd923 wd924 wd922 tc_20 rfl rfl ⟨rfl, rfl, by decide, by decide⟩ ⟨Nat.zero_le _, Nat.zero_le _⟩ rfl rfl (Nat.le_of_ble_eq_true rfl) dX3_readOil_18 ?_
    refine j_aload_n C 0 rfl dX3_readOil_21 rfl ?_
    refine j_iconst C dX3_readOil_22 ci_0 ?_
    refine j_bipush C dX3_readOil_23 cb_30 ?_
    obtain ⟨r5, S6, h7, h⟩ := bd2_elim h
    refine j_callV (As := [.int (0 : Int32), .int (30 : Int32)]) (rest := []) C (kX3_readNumber_11 l B D ad cA hI S3 V L (0 : Int32) (30 : Int32) _ _ h7) mw_X3_readNumber wd928 wd18 wd926 tc_11 rfl rfl ⟨rfl, rfl, by decide, by decide⟩ ⟨Nat.zero_le _, Nat.zero_le _⟩ rfl rfl (Nat.le_of_ble_eq_true rfl) dX3_readOil_25 ?_
    refine j_istore_n C [(1, .int r5), (0, .ref (ad 11))] dX3_readOil_28 rfl (by decide) rfl ?_
    refine j_iload_n C 0 rfl dX3_readOil_29 rfl ?_
    refine j_if_eq (tgt := 35) C dX3_readOil_30 (by decide) (fun c8 => ?_) (fun c8 => ?_)
    · have h := (if_pos c8).symm.trans h
      refine j_aload_n C 1 rfl dX3_readOil_35 rfl ?_
      refine fg_X3_12_TC_11 C dX3_readOil_36 ?_
      refine j_aload_n C 1 rfl dX3_readOil_39 rfl ?_
      refine fg_X3_89_TC_11 C dX3_readOil_40 ?_
      refine lt_elim h (fun x9 e_x9 h => ?_)
      refine j_top e_x9 ?_
      refine fp_X3_96_TC_12 C dX3_readOil_43 ?_
      refine lt_elim h (fun S10 e_S10 h => ?_)
      refine j_S e_S10 ?_
      refine j_aload_n C 1 rfl dX3_readOil_46 rfl ?_
      refine j_iconst C dX3_readOil_47 ci_1 ?_
      refine j_bipush C dX3_readOil_48 cb_99 ?_
      obtain ⟨r11, S12, h13, h⟩ := bd2_elim h
      refine j_callV (As := [.int (1 : Int32), .int (99 : Int32)]) (rest := []) C (kX3_readNumber_11 l B D ad cA hI S10 V L (1 : Int32) (99 : Int32) _ _ h13) mw_X3_readNumber wd928 wd18 wd926 tc_11 rfl rfl ⟨rfl, rfl, by decide, by decide⟩ ⟨Nat.zero_le _, Nat.zero_le _⟩ rfl rfl (Nat.le_of_ble_eq_true rfl) dX3_readOil_50 ?_
      refine j_istore_n C [(1, .int r11), (0, .ref (ad 11))] dX3_readOil_53 rfl (by decide) rfl ?_
      refine j_aload_n C 1 rfl dX3_readOil_54 rfl ?_
      refine fg_X3_12_TC_11 C dX3_readOil_55 ?_
      refine j_aload_n C 1 rfl dX3_readOil_58 rfl ?_
      refine fg_X3_89_TC_11 C dX3_readOil_59 ?_
      refine lt_elim h (fun x14 e_x14 h => ?_)
      refine j_top e_x14 ?_
      refine fp_X3_99_TC_12 C dX3_readOil_62 ?_
      refine lt_elim h (fun S15 e_S15 h => ?_)
      refine j_S e_S15 ?_
      refine j_iload_n C 0 rfl dX3_readOil_65 rfl ?_
      cases h
      exact j_iret C hr hlk rfl dX3_readOil_66
    · have h := (if_neg c8).symm.trans h
      refine j_iload_n C 0 rfl dX3_readOil_33 rfl ?_
      cases h
      exact j_iret C hr hlk rfl dX3_readOil_34
  · have h := (if_neg c1).symm.trans h
    refine j_iconst C dX3_readOil_7 ci_5 ?_
    cases h
    exact j_iret C hr hlk rfl dX3_readOil_8
def fX2_hasTenant_12 (S : Nat → Int32) (a1 : Int32) : Option (Int32) :=
  (if a1 < 0 then
  some (0 : Int32)
  else
  (if (S 1204) ≤ a1 then
  some (0 : Int32)
  else
  some (1 : Int32)))
set_option maxHeartbeats 4000000 in
set_option maxRecDepth 100000 in
theorem kX2_hasTenant_12 (l : Launch) (B : jBT) (D : va_G) (ad : Nat → Nat) (cA : Nat → ClassId) (hI : jI ad TC) (S : Nat → Int32) (V : Nat → Nat → Int32) (L : Nat → Int64) (a1 : Int32) (r0 : Int32) (h : fX2_hasTenant_12 S a1 = some r0) : jM l yX2_hasTenant cX2_hasTenant 2 (some .boolean) ({ frames := 0, cells := 0, slots := 0, locals := 0 }) B D TC ad cA [.ref (ad 12), .int a1] S V L (some (.int r0)) S V L := by
  refine jM_of (by decide) TC_ok hI (Nat.le_of_ble_eq_true rfl) ?_
  intro p e s m args below meth c C hr hlk
  refine j_lv (lv2 := [(0, .ref (ad 12)), (1, .int a1)]) rfl ?_
  unfold fX2_hasTenant_12 at h
  refine j_iload_n C 1 rfl dX2_hasTenant_0 rfl ?_
  refine j_if_lt (tgt := 16) C dX2_hasTenant_1 (by decide) (fun c1 => ?_) (fun c1 => ?_)
  · have h := (if_pos c1).symm.trans h
    refine j_iconst C dX2_hasTenant_16 ci_0 ?_
    cases h
    exact j_zret C hr hlk rfl rfl dX2_hasTenant_17
  · have h := (if_neg c1).symm.trans h
    refine j_iload_n C 1 rfl dX2_hasTenant_4 rfl ?_
    refine j_aload_n C 0 rfl dX2_hasTenant_5 rfl ?_
    refine fg_X2_46_TC_12 C dX2_hasTenant_6 ?_
    refine j_icmp_ge (tgt := 16) C dX2_hasTenant_9 (by decide) (fun c2 => ?_) (fun c2 => ?_)
    · have h := (if_pos c2).symm.trans h
      refine j_iconst C dX2_hasTenant_16 ci_0 ?_
      cases h
      exact j_zret C hr hlk rfl rfl dX2_hasTenant_17
    · have h := (if_neg c2).symm.trans h
      refine j_iconst C dX2_hasTenant_12 ci_1 ?_
      refine j_goto (tgt := 17) C dX2_hasTenant_13 (by decide) ?_
      cases h
      exact j_zret C hr hlk rfl rfl dX2_hasTenant_17
theorem dX3_tenantFault_0 : decode cX3_tenantFault 0 = .ok (.aload_n 0, 1) := by decide +kernel
theorem dX3_tenantFault_1 : decode cX3_tenantFault 1 = .ok (.getfield 21, 3) := by decide +kernel
theorem dX3_tenantFault_4 : decode cX3_tenantFault 4 = .ok (.invokevirtual 51, 3) := by decide +kernel
theorem dX3_tenantFault_7 : decode cX3_tenantFault 7 = .ok (.iconst 1, 1) := by decide +kernel
theorem dX3_tenantFault_8 : decode cX3_tenantFault 8 = .ok (.if_icmp .eq 5, 3) := by decide +kernel
theorem dX3_tenantFault_11 : decode cX3_tenantFault 11 = .ok (.iconst 1, 1) := by decide +kernel
theorem dX3_tenantFault_12 : decode cX3_tenantFault 12 = .ok (.ireturn, 1) := by decide +kernel
theorem dX3_tenantFault_13 : decode cX3_tenantFault 13 = .ok (.aload_n 0, 1) := by decide +kernel
theorem dX3_tenantFault_14 : decode cX3_tenantFault 14 = .ok (.getfield 21, 3) := by decide +kernel
theorem dX3_tenantFault_17 : decode cX3_tenantFault 17 = .ok (.invokevirtual 130, 3) := by decide +kernel
theorem dX3_tenantFault_20 : decode cX3_tenantFault 20 = .ok (.iconst (-1), 1) := by decide +kernel
theorem dX3_tenantFault_21 : decode cX3_tenantFault 21 = .ok (.if_icmp .ne 5, 3) := by decide +kernel
theorem dX3_tenantFault_24 : decode cX3_tenantFault 24 = .ok (.iconst 2, 1) := by decide +kernel
theorem dX3_tenantFault_25 : decode cX3_tenantFault 25 = .ok (.ireturn, 1) := by decide +kernel
theorem dX3_tenantFault_26 : decode cX3_tenantFault 26 = .ok (.aload_n 0, 1) := by decide +kernel
theorem dX3_tenantFault_27 : decode cX3_tenantFault 27 = .ok (.getfield 12, 3) := by decide +kernel
theorem dX3_tenantFault_30 : decode cX3_tenantFault 30 = .ok (.aload_n 0, 1) := by decide +kernel
theorem dX3_tenantFault_31 : decode cX3_tenantFault 31 = .ok (.getfield 21, 3) := by decide +kernel
theorem dX3_tenantFault_34 : decode cX3_tenantFault 34 = .ok (.invokevirtual 130, 3) := by decide +kernel
theorem dX3_tenantFault_37 : decode cX3_tenantFault 37 = .ok (.invokevirtual 147, 3) := by decide +kernel
theorem dX3_tenantFault_40 : decode cX3_tenantFault 40 = .ok (.ifCond .eq 7, 3) := by decide +kernel
theorem dX3_tenantFault_43 : decode cX3_tenantFault 43 = .ok (.iconst 0, 1) := by decide +kernel
theorem dX3_tenantFault_44 : decode cX3_tenantFault 44 = .ok (.goto 4, 3) := by decide +kernel
theorem dX3_tenantFault_47 : decode cX3_tenantFault 47 = .ok (.iconst 3, 1) := by decide +kernel
theorem dX3_tenantFault_48 : decode cX3_tenantFault 48 = .ok (.ireturn, 1) := by decide +kernel
def fX3_tenantFault_11 (S : Nat → Int32) (V : Nat → Nat → Int32) : Option (Int32) :=
  bd1 (fX10_kind_20 S V) (fun r1 =>
  (if r1 = (1 : Int32) then
  bd1 (fX10_number_20 S V) (fun r4 =>
  (if r4 = (-1 : Int32) then
  some (2 : Int32)
  else
  bd1 (fX10_number_20 S V) (fun r7 =>
  bd1 (fX2_hasTenant_12 S r7) (fun r9 =>
  (if r9 = 0 then
  some (3 : Int32)
  else
  some (0 : Int32))))))
  else
  some (1 : Int32)))
set_option maxHeartbeats 4000000 in
set_option maxRecDepth 100000 in
theorem kX3_tenantFault_11 (l : Launch) (B : jBT) (D : va_G) (ad : Nat → Nat) (cA : Nat → ClassId) (hI : jI ad TC) (S : Nat → Int32) (V : Nat → Nat → Int32) (L : Nat → Int64) (r0 : Int32) (h : fX3_tenantFault_11 S V = some r0) : jM l yX3_tenantFault cX3_tenantFault 1 (some .int) ({ frames := 1, cells := 0, slots := 0, locals := 21 }) B D TC ad cA [.ref (ad 11)] S V L (some (.int r0)) S V L := by
  refine jM_of (by decide) TC_ok hI (Nat.le_of_ble_eq_true rfl) ?_
  intro p e s m args below meth c C hr hlk
  refine j_lv (lv2 := [(0, .ref (ad 11))]) rfl ?_
  unfold fX3_tenantFault_11 at h
  refine j_aload_n C 0 rfl dX3_tenantFault_0 rfl ?_
  refine fg_X3_21_TC_11 C dX3_tenantFault_1 ?_
  obtain ⟨r1, h2, h⟩ := bd1_elim h
  refine j_callV (As := []) (rest := []) C (kX10_kind_20 l B D ad cA hI S V L _ h2) mw_X10_kind wd911 wd912 wd910 tc_20 rfl rfl ⟨rfl, rfl, by decide, by decide⟩ ⟨Nat.zero_le _, Nat.zero_le _⟩ rfl rfl (Nat.le_of_ble_eq_true rfl) dX3_tenantFault_4 ?_
  refine j_iconst C dX3_tenantFault_7 ci_1 ?_
  refine j_icmp_eq (tgt := 13) C dX3_tenantFault_8 (by decide) (fun c3 => ?_) (fun c3 => ?_)
  · have h := (if_pos c3).symm.trans h
    refine j_aload_n C 0 rfl dX3_tenantFault_13 rfl ?_
    refine fg_X3_21_TC_11 C dX3_tenantFault_14 ?_
    obtain ⟨r4, h5, h⟩ := bd1_elim h
    refine j_callV (As := []) (rest := []) C (kX10_number_20 l B D ad cA hI S V L _ h5) mw_X10_number wd931 wd932 wd930 tc_20 rfl rfl ⟨rfl, rfl, by decide, by decide⟩ ⟨Nat.zero_le _, Nat.zero_le _⟩ rfl rfl (Nat.le_of_ble_eq_true rfl) dX3_tenantFault_17 ?_
    refine j_iconst C dX3_tenantFault_20 ci_m1 ?_
    refine j_icmp_ne (tgt := 26) C dX3_tenantFault_21 (by decide) (fun c6 => ?_) (fun c6 => ?_)
    · have h := (if_neg c6).symm.trans h
      refine j_aload_n C 0 rfl dX3_tenantFault_26 rfl ?_
      refine fg_X3_12_TC_11 C dX3_tenantFault_27 ?_
      refine j_aload_n C 0 rfl dX3_tenantFault_30 rfl ?_
      refine fg_X3_21_TC_11 C dX3_tenantFault_31 ?_
      obtain ⟨r7, h8, h⟩ := bd1_elim h
      refine j_callV (As := []) (rest := [.ref (ad 12)]) C (kX10_number_20 l B D ad cA hI S V L _ h8) mw_X10_number wd931 wd932 wd930 tc_20 rfl rfl ⟨rfl, rfl, by decide, by decide⟩ ⟨Nat.zero_le _, Nat.zero_le _⟩ rfl rfl (Nat.le_of_ble_eq_true rfl) dX3_tenantFault_34 ?_
      obtain ⟨r9, h10, h⟩ := bd1_elim h
      refine j_callV (As := [.int r7]) (rest := []) C (kX2_hasTenant_12 l B D ad cA hI S V L r7 _ h10) mw_X2_hasTenant wd577 wd578 wd954 tc_12 rfl rfl ⟨rfl, rfl, by decide, by decide⟩ ⟨Nat.zero_le _, Nat.zero_le _⟩ rfl rfl (Nat.le_of_ble_eq_true rfl) dX3_tenantFault_37 ?_
      refine j_if_eq (tgt := 47) C dX3_tenantFault_40 (by decide) (fun c11 => ?_) (fun c11 => ?_)
      · have h := (if_pos c11).symm.trans h
        refine j_iconst C dX3_tenantFault_47 ci_3 ?_
        cases h
        exact j_iret C hr hlk rfl dX3_tenantFault_48
      · have h := (if_neg c11).symm.trans h
        refine j_iconst C dX3_tenantFault_43 ci_0 ?_
        refine j_goto (tgt := 48) C dX3_tenantFault_44 (by decide) ?_
        cases h
        exact j_iret C hr hlk rfl dX3_tenantFault_48
    · have h := (if_pos c6).symm.trans h
      refine j_iconst C dX3_tenantFault_24 ci_2 ?_
      cases h
      exact j_iret C hr hlk rfl dX3_tenantFault_25
  · have h := (if_neg c3).symm.trans h
    refine j_iconst C dX3_tenantFault_11 ci_1 ?_
    cases h
    exact j_iret C hr hlk rfl dX3_tenantFault_12
def fX2_quarrelsOf_12 (V : Nat → Nat → Int32) (a1 : Int32) (a2 : Int32) : Option (Int32) :=
  (if a1 = (-1 : Int32) then
  some (0 : Int32)
  else
  (if a2 = (-1 : Int32) then
  some (0 : Int32)
  else
  gd (ib a1 6) (
  some ((((V 17 (a1).toNatClampNeg) >>> (a2 &&& 31)) &&& (1 : Int32))))))
set_option maxHeartbeats 4000000 in
set_option maxRecDepth 100000 in
theorem kX2_quarrelsOf_12 (l : Launch) (B : jBT) (D : va_G) (ad : Nat → Nat) (cA : Nat → ClassId) (hI : jI ad TC) (S : Nat → Int32) (V : Nat → Nat → Int32) (L : Nat → Int64) (a1 : Int32) (a2 : Int32) (r0 : Int32) (h : fX2_quarrelsOf_12 V a1 a2 = some r0) : jM l yX2_quarrelsOf cX2_quarrelsOf 3 (some .int) ({ frames := 0, cells := 0, slots := 0, locals := 0 }) B D TC ad cA [.ref (ad 12), .int a1, .int a2] S V L (some (.int r0)) S V L := by
  refine jM_of (by decide) TC_ok hI (Nat.le_of_ble_eq_true rfl) ?_
  intro p e s m args below meth c C hr hlk
  refine j_lv (lv2 := [(0, .ref (ad 12)), (1, .int a1), (2, .int a2)]) rfl ?_
  unfold fX2_quarrelsOf_12 at h
  refine j_iload_n C 1 rfl dX2_quarrelsOf_0 rfl ?_
  refine j_iconst C dX2_quarrelsOf_1 ci_m1 ?_
  refine j_icmp_eq (tgt := 10) C dX2_quarrelsOf_2 (by decide) (fun c1 => ?_) (fun c1 => ?_)
  · have h := (if_pos c1).symm.trans h
    refine j_iconst C dX2_quarrelsOf_10 ci_0 ?_
    refine j_goto (tgt := 24) C dX2_quarrelsOf_11 (by decide) ?_
    cases h
    exact j_iret C hr hlk rfl dX2_quarrelsOf_24
  · have h := (if_neg c1).symm.trans h
    refine j_iload_n C 2 rfl dX2_quarrelsOf_5 rfl ?_
    refine j_iconst C dX2_quarrelsOf_6 ci_m1 ?_
    refine j_icmp_ne (tgt := 14) C dX2_quarrelsOf_7 (by decide) (fun c2 => ?_) (fun c2 => ?_)
    · have h := (if_neg c2).symm.trans h
      refine j_aload_n C 0 rfl dX2_quarrelsOf_14 rfl ?_
      refine fg_X2_24_TC_12 C dX2_quarrelsOf_15 ?_
      refine j_iload_n C 1 rfl dX2_quarrelsOf_18 rfl ?_
      obtain ⟨g3, h⟩ := gd_elim h
      refine j_iald C tc_17 (ib_in g3) dX2_quarrelsOf_19 ?_
      refine j_iload_n C 2 rfl dX2_quarrelsOf_20 rfl ?_
      refine j_ishr C dX2_quarrelsOf_21 ?_
      refine j_iconst C dX2_quarrelsOf_22 ci_1 ?_
      refine j_iand C dX2_quarrelsOf_23 ?_
      cases h
      exact j_iret C hr hlk rfl dX2_quarrelsOf_24
    · have h := (if_pos c2).symm.trans h
      refine j_iconst C dX2_quarrelsOf_10 ci_0 ?_
      refine j_goto (tgt := 24) C dX2_quarrelsOf_11 (by decide) ?_
      cases h
      exact j_iret C hr hlk rfl dX2_quarrelsOf_24
theorem dX3_readQuarrel_0 : decode cX3_readQuarrel 0 = .ok (.aload_n 0, 1) := by decide +kernel
theorem dX3_readQuarrel_1 : decode cX3_readQuarrel 1 = .ok (.getfield 12, 3) := by decide +kernel
theorem dX3_readQuarrel_4 : decode cX3_readQuarrel 4 = .ok (.getfield 124, 3) := by decide +kernel
theorem dX3_readQuarrel_7 : decode cX3_readQuarrel 7 = .ok (.bipush 8, 2) := by decide +kernel
theorem dX3_readQuarrel_9 : decode cX3_readQuarrel 9 = .ok (.if_icmp .lt 5, 3) := by decide +kernel
theorem dX3_readQuarrel_12 : decode cX3_readQuarrel 12 = .ok (.iconst 2, 1) := by decide +kernel
theorem dX3_readQuarrel_13 : decode cX3_readQuarrel 13 = .ok (.ireturn, 1) := by decide +kernel
theorem dX3_readQuarrel_14 : decode cX3_readQuarrel 14 = .ok (.aload_n 0, 1) := by decide +kernel
theorem dX3_readQuarrel_15 : decode cX3_readQuarrel 15 = .ok (.getfield 21, 3) := by decide +kernel
theorem dX3_readQuarrel_18 : decode cX3_readQuarrel 18 = .ok (.invokevirtual 64, 3) := by decide +kernel
theorem dX3_readQuarrel_21 : decode cX3_readQuarrel 21 = .ok (.aload_n 0, 1) := by decide +kernel
theorem dX3_readQuarrel_22 : decode cX3_readQuarrel 22 = .ok (.invokevirtual 127, 3) := by decide +kernel
theorem dX3_readQuarrel_25 : decode cX3_readQuarrel 25 = .ok (.istore_n 1, 1) := by decide +kernel
theorem dX3_readQuarrel_26 : decode cX3_readQuarrel 26 = .ok (.iload_n 1, 1) := by decide +kernel
theorem dX3_readQuarrel_27 : decode cX3_readQuarrel 27 = .ok (.ifCond .eq 5, 3) := by decide +kernel
theorem dX3_readQuarrel_30 : decode cX3_readQuarrel 30 = .ok (.iload_n 1, 1) := by decide +kernel
theorem dX3_readQuarrel_31 : decode cX3_readQuarrel 31 = .ok (.ireturn, 1) := by decide +kernel
theorem dX3_readQuarrel_32 : decode cX3_readQuarrel 32 = .ok (.aload_n 0, 1) := by decide +kernel
theorem dX3_readQuarrel_33 : decode cX3_readQuarrel 33 = .ok (.getfield 21, 3) := by decide +kernel
theorem dX3_readQuarrel_36 : decode cX3_readQuarrel 36 = .ok (.invokevirtual 130, 3) := by decide +kernel
theorem dX3_readQuarrel_39 : decode cX3_readQuarrel 39 = .ok (.istore_n 2, 1) := by decide +kernel
theorem dX3_readQuarrel_40 : decode cX3_readQuarrel 40 = .ok (.aload_n 0, 1) := by decide +kernel
theorem dX3_readQuarrel_41 : decode cX3_readQuarrel 41 = .ok (.getfield 21, 3) := by decide +kernel
theorem dX3_readQuarrel_44 : decode cX3_readQuarrel 44 = .ok (.invokevirtual 64, 3) := by decide +kernel
theorem dX3_readQuarrel_47 : decode cX3_readQuarrel 47 = .ok (.aload_n 0, 1) := by decide +kernel
theorem dX3_readQuarrel_48 : decode cX3_readQuarrel 48 = .ok (.invokevirtual 127, 3) := by decide +kernel
theorem dX3_readQuarrel_51 : decode cX3_readQuarrel 51 = .ok (.istore_n 1, 1) := by decide +kernel
theorem dX3_readQuarrel_52 : decode cX3_readQuarrel 52 = .ok (.iload_n 1, 1) := by decide +kernel
theorem dX3_readQuarrel_53 : decode cX3_readQuarrel 53 = .ok (.ifCond .eq 5, 3) := by decide +kernel
theorem dX3_readQuarrel_56 : decode cX3_readQuarrel 56 = .ok (.iload_n 1, 1) := by decide +kernel
theorem dX3_readQuarrel_57 : decode cX3_readQuarrel 57 = .ok (.ireturn, 1) := by decide +kernel
theorem dX3_readQuarrel_58 : decode cX3_readQuarrel 58 = .ok (.aload_n 0, 1) := by decide +kernel
theorem dX3_readQuarrel_59 : decode cX3_readQuarrel 59 = .ok (.getfield 21, 3) := by decide +kernel
theorem dX3_readQuarrel_62 : decode cX3_readQuarrel 62 = .ok (.invokevirtual 130, 3) := by decide +kernel
theorem dX3_readQuarrel_65 : decode cX3_readQuarrel 65 = .ok (.istore_n 3, 1) := by decide +kernel
theorem dX3_readQuarrel_66 : decode cX3_readQuarrel 66 = .ok (.iload_n 2, 1) := by decide +kernel
theorem dX3_readQuarrel_67 : decode cX3_readQuarrel 67 = .ok (.iload_n 3, 1) := by decide +kernel
theorem dX3_readQuarrel_68 : decode cX3_readQuarrel 68 = .ok (.if_icmp .eq 15, 3) := by decide +kernel
theorem dX3_readQuarrel_71 : decode cX3_readQuarrel 71 = .ok (.aload_n 0, 1) := by decide +kernel
theorem dX3_readQuarrel_72 : decode cX3_readQuarrel 72 = .ok (.getfield 12, 3) := by decide +kernel
theorem dX3_readQuarrel_75 : decode cX3_readQuarrel 75 = .ok (.iload_n 2, 1) := by decide +kernel
theorem dX3_readQuarrel_76 : decode cX3_readQuarrel 76 = .ok (.iload_n 3, 1) := by decide +kernel
theorem dX3_readQuarrel_77 : decode cX3_readQuarrel 77 = .ok (.invokevirtual 132, 3) := by decide +kernel
theorem dX3_readQuarrel_80 : decode cX3_readQuarrel 80 = .ok (.ifCond .eq 5, 3) := by decide +kernel
theorem dX3_readQuarrel_83 : decode cX3_readQuarrel 83 = .ok (.iconst 4, 1) := by decide +kernel
theorem dX3_readQuarrel_84 : decode cX3_readQuarrel 84 = .ok (.ireturn, 1) := by decide +kernel
theorem dX3_readQuarrel_85 : decode cX3_readQuarrel 85 = .ok (.aload_n 0, 1) := by decide +kernel
theorem dX3_readQuarrel_86 : decode cX3_readQuarrel 86 = .ok (.getfield 21, 3) := by decide +kernel
theorem dX3_readQuarrel_89 : decode cX3_readQuarrel 89 = .ok (.invokevirtual 64, 3) := by decide +kernel
theorem dX3_readQuarrel_92 : decode cX3_readQuarrel 92 = .ok (.aload_n 0, 1) := by decide +kernel
theorem dX3_readQuarrel_93 : decode cX3_readQuarrel 93 = .ok (.getfield 12, 3) := by decide +kernel
theorem dX3_readQuarrel_96 : decode cX3_readQuarrel 96 = .ok (.getfield 121, 3) := by decide +kernel
theorem dX3_readQuarrel_99 : decode cX3_readQuarrel 99 = .ok (.iload_n 2, 1) := by decide +kernel
theorem dX3_readQuarrel_100 : decode cX3_readQuarrel 100 = .ok (.dup2, 1) := by decide +kernel
theorem dX3_readQuarrel_101 : decode cX3_readQuarrel 101 = .ok (.iaload, 1) := by decide +kernel
theorem dX3_readQuarrel_102 : decode cX3_readQuarrel 102 = .ok (.iconst 1, 1) := by decide +kernel
theorem dX3_readQuarrel_103 : decode cX3_readQuarrel 103 = .ok (.iload_n 3, 1) := by decide +kernel
theorem dX3_readQuarrel_104 : decode cX3_readQuarrel 104 = .ok (.ishl, 1) := by decide +kernel
theorem dX3_readQuarrel_105 : decode cX3_readQuarrel 105 = .ok (.ior, 1) := by decide +kernel
theorem dX3_readQuarrel_106 : decode cX3_readQuarrel 106 = .ok (.iastore, 1) := by decide +kernel
theorem dX3_readQuarrel_107 : decode cX3_readQuarrel 107 = .ok (.aload_n 0, 1) := by decide +kernel
theorem dX3_readQuarrel_108 : decode cX3_readQuarrel 108 = .ok (.getfield 12, 3) := by decide +kernel
theorem dX3_readQuarrel_111 : decode cX3_readQuarrel 111 = .ok (.getfield 121, 3) := by decide +kernel
theorem dX3_readQuarrel_114 : decode cX3_readQuarrel 114 = .ok (.iload_n 3, 1) := by decide +kernel
theorem dX3_readQuarrel_115 : decode cX3_readQuarrel 115 = .ok (.dup2, 1) := by decide +kernel
theorem dX3_readQuarrel_116 : decode cX3_readQuarrel 116 = .ok (.iaload, 1) := by decide +kernel
theorem dX3_readQuarrel_117 : decode cX3_readQuarrel 117 = .ok (.iconst 1, 1) := by decide +kernel
theorem dX3_readQuarrel_118 : decode cX3_readQuarrel 118 = .ok (.iload_n 2, 1) := by decide +kernel
theorem dX3_readQuarrel_119 : decode cX3_readQuarrel 119 = .ok (.ishl, 1) := by decide +kernel
theorem dX3_readQuarrel_120 : decode cX3_readQuarrel 120 = .ok (.ior, 1) := by decide +kernel
theorem dX3_readQuarrel_121 : decode cX3_readQuarrel 121 = .ok (.iastore, 1) := by decide +kernel
theorem dX3_readQuarrel_122 : decode cX3_readQuarrel 122 = .ok (.aload_n 0, 1) := by decide +kernel
theorem dX3_readQuarrel_123 : decode cX3_readQuarrel 123 = .ok (.getfield 12, 3) := by decide +kernel
theorem dX3_readQuarrel_126 : decode cX3_readQuarrel 126 = .ok (.dup, 1) := by decide +kernel
theorem dX3_readQuarrel_127 : decode cX3_readQuarrel 127 = .ok (.getfield 124, 3) := by decide +kernel
theorem dX3_readQuarrel_130 : decode cX3_readQuarrel 130 = .ok (.iconst 1, 1) := by decide +kernel
theorem dX3_readQuarrel_131 : decode cX3_readQuarrel 131 = .ok (.iadd, 1) := by decide +kernel
theorem dX3_readQuarrel_132 : decode cX3_readQuarrel 132 = .ok (.putfield 124, 3) := by decide +kernel
theorem dX3_readQuarrel_135 : decode cX3_readQuarrel 135 = .ok (.iconst 0, 1) := by decide +kernel
theorem dX3_readQuarrel_136 : decode cX3_readQuarrel 136 = .ok (.ireturn, 1) := by decide +kernel
def fX3_readQuarrel_11 (S : Nat → Int32) (V : Nat → Nat → Int32) : Option (Int32 × (Nat → Int32) × (Nat → Nat → Int32)) :=
  (if (S 1205) < (8 : Int32) then
  bd1 (fX10_advance_20 S V) (fun S2 =>
  bd1 (fX3_tenantFault_11 S2 V) (fun r4 =>
  (if r4 = 0 then
  bd1 (fX10_number_20 S2 V) (fun r7 =>
  bd1 (fX10_advance_20 S2 V) (fun S9 =>
  bd1 (fX3_tenantFault_11 S9 V) (fun r11 =>
  (if r11 = 0 then
  bd1 (fX10_number_20 S9 V) (fun r14 =>
  (if r7 = r14 then
  some ((4 : Int32), S9, V)
  else
  bd1 (fX2_quarrelsOf_12 V r7 r14) (fun r17 =>
  (if r17 = 0 then
  bd1 (fX10_advance_20 S9 V) (fun S20 =>
  gd (ib r7 6) (
  lt (((V 17 (r7).toNatClampNeg) ||| ((1 : Int32) <<< (r14 &&& 31)))) (fun x23 =>
  gd (ib r7 6) (
  lt (va_up V 17 (upd (V 17) (r7).toNatClampNeg x23)) (fun V25 =>
  gd (ib r14 6) (
  lt (((V25 17 (r14).toNatClampNeg) ||| ((1 : Int32) <<< (r7 &&& 31)))) (fun x27 =>
  gd (ib r14 6) (
  lt (va_up V25 17 (upd (V25 17) (r14).toNatClampNeg x27)) (fun V29 =>
  lt (((S20 1205) + (1 : Int32))) (fun x30 =>
  lt (va_up S20 1205 x30) (fun S31 =>
  some ((0 : Int32), S31, V29))))))))))))
  else
  some ((4 : Int32), S9, V)))))
  else
  some (r11, S9, V)))))
  else
  some (r4, S2, V))))
  else
  some ((2 : Int32), S, V))
set_option maxHeartbeats 4000000 in
set_option maxRecDepth 100000 in
theorem kX3_readQuarrel_11 (l : Launch) (B : jBT) (D : va_G) (ad : Nat → Nat) (cA : Nat → ClassId) (hI : jI ad TC) (S : Nat → Int32) (V : Nat → Nat → Int32) (L : Nat → Int64) (r0 : Int32) (S0 : Nat → Int32) (V0 : Nat → Nat → Int32) (h : fX3_readQuarrel_11 S V = some (r0, S0, V0)) : jM l yX3_readQuarrel cX3_readQuarrel 4 (some .int) ({ frames := 2, cells := 0, slots := 0, locals := 41 }) B D TC ad cA [.ref (ad 11)] S V L (some (.int r0)) S0 V0 L := by
  refine jM_of (by decide) TC_ok hI (Nat.le_of_ble_eq_true rfl) ?_
  intro p e s m args below meth c C hr hlk
  refine j_lv (lv2 := [(0, .ref (ad 11))]) rfl ?_
  unfold fX3_readQuarrel_11 at h
  refine j_aload_n C 0 rfl dX3_readQuarrel_0 rfl ?_
  refine fg_X3_12_TC_11 C dX3_readQuarrel_1 ?_
  refine fg_X3_124_TC_12 C dX3_readQuarrel_4 ?_
  refine j_bipush C dX3_readQuarrel_7 cb_8 ?_
  refine j_icmp_lt (tgt := 14) C dX3_readQuarrel_9 (by decide) (fun c1 => ?_) (fun c1 => ?_)
  · have h := (if_pos c1).symm.trans h
    refine j_aload_n C 0 rfl dX3_readQuarrel_14 rfl ?_
    refine fg_X3_21_TC_11 C dX3_readQuarrel_15 ?_
    obtain ⟨S2, h3, h⟩ := bd1_elim h
    refine j_callV (As := []) (rest := []) C (kX10_advance_20 l B D ad cA hI S V L _ h3) mw_X10_advance wd923 wd924 wd922 tc_20 rfl rfl ⟨rfl, rfl, by decide, by decide⟩ ⟨Nat.zero_le _, Nat.zero_le _⟩ rfl rfl (Nat.le_of_ble_eq_true rfl) dX3_readQuarrel_18 ?_
    refine j_aload_n C 0 rfl dX3_readQuarrel_21 rfl ?_
    obtain ⟨r4, h5, h⟩ := bd1_elim h
    refine j_callV (As := []) (rest := []) C (kX3_tenantFault_11 l B D ad cA hI S2 V L _ h5) mw_X3_tenantFault wd952 wd23 wd950 tc_11 rfl rfl ⟨rfl, rfl, by decide, by decide⟩ ⟨Nat.zero_le _, Nat.zero_le _⟩ rfl rfl (Nat.le_of_ble_eq_true rfl) dX3_readQuarrel_22 ?_
    refine j_istore_n C [(1, .int r4), (0, .ref (ad 11))] dX3_readQuarrel_25 rfl (by decide) rfl ?_
    refine j_iload_n C 0 rfl dX3_readQuarrel_26 rfl ?_
    refine j_if_eq (tgt := 32) C dX3_readQuarrel_27 (by decide) (fun c6 => ?_) (fun c6 => ?_)
    · have h := (if_pos c6).symm.trans h
      refine j_aload_n C 1 rfl dX3_readQuarrel_32 rfl ?_
      refine fg_X3_21_TC_11 C dX3_readQuarrel_33 ?_
      obtain ⟨r7, h8, h⟩ := bd1_elim h
      refine j_callV (As := []) (rest := []) C (kX10_number_20 l B D ad cA hI S2 V L _ h8) mw_X10_number wd931 wd932 wd930 tc_20 rfl rfl ⟨rfl, rfl, by decide, by decide⟩ ⟨Nat.zero_le _, Nat.zero_le _⟩ rfl rfl (Nat.le_of_ble_eq_true rfl) dX3_readQuarrel_36 ?_
      refine j_istore_n C [(2, .int r7), (1, .int r4), (0, .ref (ad 11))] dX3_readQuarrel_39 rfl (by decide) rfl ?_
      refine j_aload_n C 2 rfl dX3_readQuarrel_40 rfl ?_
      refine fg_X3_21_TC_11 C dX3_readQuarrel_41 ?_
      obtain ⟨S9, h10, h⟩ := bd1_elim h
      refine j_callV (As := []) (rest := []) C (kX10_advance_20 l B D ad cA hI S2 V L _ h10) mw_X10_advance wd923 wd924 wd922 tc_20 rfl rfl ⟨rfl, rfl, by decide, by decide⟩ ⟨Nat.zero_le _, Nat.zero_le _⟩ rfl rfl (Nat.le_of_ble_eq_true rfl) dX3_readQuarrel_44 ?_
      refine j_aload_n C 2 rfl dX3_readQuarrel_47 rfl ?_
      obtain ⟨r11, h12, h⟩ := bd1_elim h
      refine j_callV (As := []) (rest := []) C (kX3_tenantFault_11 l B D ad cA hI S9 V L _ h12) mw_X3_tenantFault wd952 wd23 wd950 tc_11 rfl rfl ⟨rfl, rfl, by decide, by decide⟩ ⟨Nat.zero_le _, Nat.zero_le _⟩ rfl rfl (Nat.le_of_ble_eq_true rfl) dX3_readQuarrel_48 ?_
      refine j_istore_n C [(1, .int r11), (2, .int r7), (0, .ref (ad 11))] dX3_readQuarrel_51 rfl (by decide) rfl ?_
      refine j_iload_n C 0 rfl dX3_readQuarrel_52 rfl ?_
      refine j_if_eq (tgt := 58) C dX3_readQuarrel_53 (by decide) (fun c13 => ?_) (fun c13 => ?_)
      · have h := (if_pos c13).symm.trans h
        refine j_aload_n C 2 rfl dX3_readQuarrel_58 rfl ?_
        refine fg_X3_21_TC_11 C dX3_readQuarrel_59 ?_
        obtain ⟨r14, h15, h⟩ := bd1_elim h
        refine j_callV (As := []) (rest := []) C (kX10_number_20 l B D ad cA hI S9 V L _ h15) mw_X10_number wd931 wd932 wd930 tc_20 rfl rfl ⟨rfl, rfl, by decide, by decide⟩ ⟨Nat.zero_le _, Nat.zero_le _⟩ rfl rfl (Nat.le_of_ble_eq_true rfl) dX3_readQuarrel_62 ?_
        refine j_istore_n C [(3, .int r14), (1, .int r11), (2, .int r7), (0, .ref (ad 11))] dX3_readQuarrel_65 rfl (by decide) rfl ?_
        refine j_iload_n C 2 rfl dX3_readQuarrel_66 rfl ?_
        refine j_iload_n C 0 rfl dX3_readQuarrel_67 rfl ?_
        refine j_icmp_eq (tgt := 83) C dX3_readQuarrel_68 (by decide) (fun c16 => ?_) (fun c16 => ?_)
        · have h := (if_pos c16).symm.trans h
          refine j_iconst C dX3_readQuarrel_83 ci_4 ?_
          cases h
          exact j_iret C hr hlk rfl dX3_readQuarrel_84
        · have h := (if_neg c16).symm.trans h
          refine j_aload_n C 3 rfl dX3_readQuarrel_71 rfl ?_
          refine fg_X3_12_TC_11 C dX3_readQuarrel_72 ?_
          refine j_iload_n C 2 rfl dX3_readQuarrel_75 rfl ?_
          refine j_iload_n C 0 rfl dX3_readQuarrel_76 rfl ?_
          obtain ⟨r17, h18, h⟩ := bd1_elim h
          refine j_callV (As := [.int r7, .int r14]) (rest := []) C (kX2_quarrelsOf_12 l B D ad cA hI S9 V L r7 r14 _ h18) mw_X2_quarrelsOf wd620 wd621 wd955 tc_12 rfl rfl ⟨rfl, rfl, by decide, by decide⟩ ⟨Nat.zero_le _, Nat.zero_le _⟩ rfl rfl (Nat.le_of_ble_eq_true rfl) dX3_readQuarrel_77 ?_
          refine j_if_eq (tgt := 85) C dX3_readQuarrel_80 (by decide) (fun c19 => ?_) (fun c19 => ?_)
          · have h := (if_pos c19).symm.trans h
            refine j_aload_n C 3 rfl dX3_readQuarrel_85 rfl ?_
            refine fg_X3_21_TC_11 C dX3_readQuarrel_86 ?_
            obtain ⟨S20, h21, h⟩ := bd1_elim h
            refine j_callV (As := []) (rest := []) C (kX10_advance_20 l B D ad cA hI S9 V L _ h21) mw_X10_advance wd923 wd924 wd922 tc_20 rfl rfl ⟨rfl, rfl, by decide, by decide⟩ ⟨Nat.zero_le _, Nat.zero_le _⟩ rfl rfl (Nat.le_of_ble_eq_true rfl) dX3_readQuarrel_89 ?_
            refine j_aload_n C 3 rfl dX3_readQuarrel_92 rfl ?_
            refine fg_X3_12_TC_11 C dX3_readQuarrel_93 ?_
            refine fg_X3_121_TC_12 C dX3_readQuarrel_96 ?_
            refine j_iload_n C 2 rfl dX3_readQuarrel_99 rfl ?_
            refine j_dup2_11 C dX3_readQuarrel_100 rfl rfl ?_
            obtain ⟨g22, h⟩ := gd_elim h
            refine j_iald C tc_17 (ib_in g22) dX3_readQuarrel_101 ?_
            refine j_iconst C dX3_readQuarrel_102 ci_1 ?_
            refine j_iload_n C 0 rfl dX3_readQuarrel_103 rfl ?_
            refine j_ishl C dX3_readQuarrel_104 ?_
            refine j_ior C dX3_readQuarrel_105 ?_
            refine lt_elim h (fun x23 e_x23 h => ?_)
            refine j_top e_x23 ?_
            obtain ⟨g24, h⟩ := gd_elim h
            refine j_iast C tc_17 (ib_in g24) dX3_readQuarrel_106 ?_
            refine lt_elim h (fun V25 e_V25 h => ?_)
            refine j_V e_V25 ?_
            refine j_aload_n C 3 rfl dX3_readQuarrel_107 rfl ?_
            refine fg_X3_12_TC_11 C dX3_readQuarrel_108 ?_
            refine fg_X3_121_TC_12 C dX3_readQuarrel_111 ?_
            refine j_iload_n C 0 rfl dX3_readQuarrel_114 rfl ?_
            refine j_dup2_11 C dX3_readQuarrel_115 rfl rfl ?_
            obtain ⟨g26, h⟩ := gd_elim h
            refine j_iald C tc_17 (ib_in g26) dX3_readQuarrel_116 ?_
            refine j_iconst C dX3_readQuarrel_117 ci_1 ?_
            refine j_iload_n C 2 rfl dX3_readQuarrel_118 rfl ?_
            refine j_ishl C dX3_readQuarrel_119 ?_
            refine j_ior C dX3_readQuarrel_120 ?_
            refine lt_elim h (fun x27 e_x27 h => ?_)
            refine j_top e_x27 ?_
            obtain ⟨g28, h⟩ := gd_elim h
            refine j_iast C tc_17 (ib_in g28) dX3_readQuarrel_121 ?_
            refine lt_elim h (fun V29 e_V29 h => ?_)
            refine j_V e_V29 ?_
            refine j_aload_n C 3 rfl dX3_readQuarrel_122 rfl ?_
            refine fg_X3_12_TC_11 C dX3_readQuarrel_123 ?_
            refine j_dup C dX3_readQuarrel_126 rfl ?_
            refine fg_X3_124_TC_12 C dX3_readQuarrel_127 ?_
            refine j_iconst C dX3_readQuarrel_130 ci_1 ?_
            refine j_iadd C dX3_readQuarrel_131 ?_
            refine lt_elim h (fun x30 e_x30 h => ?_)
            refine j_top e_x30 ?_
            refine fp_X3_124_TC_12 C dX3_readQuarrel_132 ?_
            refine lt_elim h (fun S31 e_S31 h => ?_)
            refine j_S e_S31 ?_
            refine j_iconst C dX3_readQuarrel_135 ci_0 ?_
            cases h
            exact j_iret C hr hlk rfl dX3_readQuarrel_136
          · have h := (if_neg c19).symm.trans h
            refine j_iconst C dX3_readQuarrel_83 ci_4 ?_
            cases h
            exact j_iret C hr hlk rfl dX3_readQuarrel_84
      · have h := (if_neg c13).symm.trans h
        refine j_iload_n C 0 rfl dX3_readQuarrel_56 rfl ?_
        cases h
        exact j_iret C hr hlk rfl dX3_readQuarrel_57
    · have h := (if_neg c6).symm.trans h
      refine j_iload_n C 0 rfl dX3_readQuarrel_30 rfl ?_
      cases h
      exact j_iret C hr hlk rfl dX3_readQuarrel_31
  · have h := (if_neg c1).symm.trans h
    refine j_iconst C dX3_readQuarrel_12 ci_2 ?_
    cases h
    exact j_iret C hr hlk rfl dX3_readQuarrel_13
theorem dX3_readStop_0 : decode cX3_readStop 0 = .ok (.aload_n 0, 1) := by decide +kernel
theorem dX3_readStop_1 : decode cX3_readStop 1 = .ok (.getfield 48, 3) := by decide +kernel
theorem dX3_readStop_4 : decode cX3_readStop 4 = .ok (.ifCond .eq 5, 3) := by decide +kernel
theorem dX3_readStop_7 : decode cX3_readStop 7 = .ok (.iconst 5, 1) := by decide +kernel
theorem dX3_readStop_8 : decode cX3_readStop 8 = .ok (.ireturn, 1) := by decide +kernel
theorem dX3_readStop_9 : decode cX3_readStop 9 = .ok (.aload_n 0, 1) := by decide +kernel
theorem dX3_readStop_10 : decode cX3_readStop 10 = .ok (.iconst 1, 1) := by decide +kernel
theorem dX3_readStop_11 : decode cX3_readStop 11 = .ok (.putfield 48, 3) := by decide +kernel
theorem dX3_readStop_14 : decode cX3_readStop 14 = .ok (.aload_n 0, 1) := by decide +kernel
theorem dX3_readStop_15 : decode cX3_readStop 15 = .ok (.getfield 21, 3) := by decide +kernel
theorem dX3_readStop_18 : decode cX3_readStop 18 = .ok (.invokevirtual 64, 3) := by decide +kernel
theorem dX3_readStop_21 : decode cX3_readStop 21 = .ok (.aload_n 0, 1) := by decide +kernel
theorem dX3_readStop_22 : decode cX3_readStop 22 = .ok (.bipush 41, 2) := by decide +kernel
theorem dX3_readStop_24 : decode cX3_readStop 24 = .ok (.sipush 400, 3) := by decide +kernel
theorem dX3_readStop_27 : decode cX3_readStop 27 = .ok (.invokevirtual 85, 3) := by decide +kernel
theorem dX3_readStop_30 : decode cX3_readStop 30 = .ok (.istore_n 1, 1) := by decide +kernel
theorem dX3_readStop_31 : decode cX3_readStop 31 = .ok (.aload_n 0, 1) := by decide +kernel
theorem dX3_readStop_32 : decode cX3_readStop 32 = .ok (.getfield 12, 3) := by decide +kernel
theorem dX3_readStop_35 : decode cX3_readStop 35 = .ok (.aload_n 0, 1) := by decide +kernel
theorem dX3_readStop_36 : decode cX3_readStop 36 = .ok (.getfield 89, 3) := by decide +kernel
theorem dX3_readStop_39 : decode cX3_readStop 39 = .ok (.putfield 102, 3) := by decide +kernel
theorem dX3_readStop_42 : decode cX3_readStop 42 = .ok (.iload_n 1, 1) := by decide +kernel
theorem dX3_readStop_43 : decode cX3_readStop 43 = .ok (.ireturn, 1) := by decide +kernel
def fX3_readStop_11 (S : Nat → Int32) (V : Nat → Nat → Int32) : Option (Int32 × (Nat → Int32)) :=
  (if (S 1105) = 0 then
  lt (va_up S 1105 (1 : Int32)) (fun S2 =>
  bd1 (fX10_advance_20 S2 V) (fun S3 =>
  bd2 (fX3_readNumber_11 S3 V (41 : Int32) (400 : Int32)) (fun r5 S6 =>
  lt ((S6 1106)) (fun x8 =>
  lt (va_up S6 1203 x8) (fun S9 =>
  some (r5, S9))))))
  else
  some ((5 : Int32), S))
set_option maxHeartbeats 4000000 in
set_option maxRecDepth 100000 in
theorem kX3_readStop_11 (l : Launch) (B : jBT) (D : va_G) (ad : Nat → Nat) (cA : Nat → ClassId) (hI : jI ad TC) (S : Nat → Int32) (V : Nat → Nat → Int32) (L : Nat → Int64) (r0 : Int32) (S0 : Nat → Int32) (h : fX3_readStop_11 S V = some (r0, S0)) : jM l yX3_readStop cX3_readStop 2 (some .int) ({ frames := 2, cells := 0, slots := 0, locals := 42 }) B D TC ad cA [.ref (ad 11)] S V L (some (.int r0)) S0 V L := by
  refine jM_of (by decide) TC_ok hI (Nat.le_of_ble_eq_true rfl) ?_
  intro p e s m args below meth c C hr hlk
  refine j_lv (lv2 := [(0, .ref (ad 11))]) rfl ?_
  unfold fX3_readStop_11 at h
  refine j_aload_n C 0 rfl dX3_readStop_0 rfl ?_
  refine fg_X3_48_TC_11 C dX3_readStop_1 ?_
  refine j_if_eq (tgt := 9) C dX3_readStop_4 (by decide) (fun c1 => ?_) (fun c1 => ?_)
  · have h := (if_pos c1).symm.trans h
    refine j_aload_n C 0 rfl dX3_readStop_9 rfl ?_
    refine j_iconst C dX3_readStop_10 ci_1 ?_
    refine fp_X3_48_TC_11 C rfl rfl dX3_readStop_11 ?_
    refine lt_elim h (fun S2 e_S2 h => ?_)
    refine j_S e_S2 ?_
    refine j_aload_n C 0 rfl dX3_readStop_14 rfl ?_
    refine fg_X3_21_TC_11 C dX3_readStop_15 ?_
    obtain ⟨S3, h4, h⟩ := bd1_elim h
    refine j_callV (As := []) (rest := []) C (kX10_advance_20 l B D ad cA hI S2 V L _ h4) mw_X10_advance wd923 wd924 wd922 tc_20 rfl rfl ⟨rfl, rfl, by decide, by decide⟩ ⟨Nat.zero_le _, Nat.zero_le _⟩ rfl rfl (Nat.le_of_ble_eq_true rfl) dX3_readStop_18 ?_
    refine j_aload_n C 0 rfl dX3_readStop_21 rfl ?_
    refine j_bipush C dX3_readStop_22 cb_41 ?_
    refine j_sipush C dX3_readStop_24 cs_400 ?_
    obtain ⟨r5, S6, h7, h⟩ := bd2_elim h
    refine j_callV (As := [.int (41 : Int32), .int (400 : Int32)]) (rest := []) C (kX3_readNumber_11 l B D ad cA hI S3 V L (41 : Int32) (400 : Int32) _ _ h7) mw_X3_readNumber wd928 wd18 wd926 tc_11 rfl rfl ⟨rfl, rfl, by decide, by decide⟩ ⟨Nat.zero_le _, Nat.zero_le _⟩ rfl rfl (Nat.le_of_ble_eq_true rfl) dX3_readStop_27 ?_
    refine j_istore_n C [(1, .int r5), (0, .ref (ad 11))] dX3_readStop_30 rfl (by decide) rfl ?_
    refine j_aload_n C 1 rfl dX3_readStop_31 rfl ?_
    refine fg_X3_12_TC_11 C dX3_readStop_32 ?_
    refine j_aload_n C 1 rfl dX3_readStop_35 rfl ?_
    refine fg_X3_89_TC_11 C dX3_readStop_36 ?_
    refine lt_elim h (fun x8 e_x8 h => ?_)
    refine j_top e_x8 ?_
    refine fp_X3_102_TC_12 C dX3_readStop_39 ?_
    refine lt_elim h (fun S9 e_S9 h => ?_)
    refine j_S e_S9 ?_
    refine j_iload_n C 0 rfl dX3_readStop_42 rfl ?_
    cases h
    exact j_iret C hr hlk rfl dX3_readStop_43
  · have h := (if_neg c1).symm.trans h
    refine j_iconst C dX3_readStop_7 ci_5 ?_
    cases h
    exact j_iret C hr hlk rfl dX3_readStop_8
