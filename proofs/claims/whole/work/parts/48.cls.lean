theorem dX3_readNumber_0 : decode cX3_readNumber 0 = .ok (.aload_n 0, 1) := by decide +kernel
theorem dX3_readNumber_1 : decode cX3_readNumber 1 = .ok (.getfield 21, 3) := by decide +kernel
theorem dX3_readNumber_4 : decode cX3_readNumber 4 = .ok (.invokevirtual 51, 3) := by decide +kernel
theorem dX3_readNumber_7 : decode cX3_readNumber 7 = .ok (.iconst 1, 1) := by decide +kernel
theorem dX3_readNumber_8 : decode cX3_readNumber 8 = .ok (.if_icmp .eq 5, 3) := by decide +kernel
theorem dX3_readNumber_11 : decode cX3_readNumber 11 = .ok (.iconst 1, 1) := by decide +kernel
theorem dX3_readNumber_12 : decode cX3_readNumber 12 = .ok (.ireturn, 1) := by decide +kernel
theorem dX3_readNumber_13 : decode cX3_readNumber 13 = .ok (.aload_n 0, 1) := by decide +kernel
theorem dX3_readNumber_14 : decode cX3_readNumber 14 = .ok (.aload_n 0, 1) := by decide +kernel
theorem dX3_readNumber_15 : decode cX3_readNumber 15 = .ok (.getfield 21, 3) := by decide +kernel
theorem dX3_readNumber_18 : decode cX3_readNumber 18 = .ok (.invokevirtual 130, 3) := by decide +kernel
theorem dX3_readNumber_21 : decode cX3_readNumber 21 = .ok (.putfield 89, 3) := by decide +kernel
theorem dX3_readNumber_24 : decode cX3_readNumber 24 = .ok (.aload_n 0, 1) := by decide +kernel
theorem dX3_readNumber_25 : decode cX3_readNumber 25 = .ok (.getfield 89, 3) := by decide +kernel
theorem dX3_readNumber_28 : decode cX3_readNumber 28 = .ok (.iload_n 1, 1) := by decide +kernel
theorem dX3_readNumber_29 : decode cX3_readNumber 29 = .ok (.if_icmp .lt 11, 3) := by decide +kernel
theorem dX3_readNumber_32 : decode cX3_readNumber 32 = .ok (.aload_n 0, 1) := by decide +kernel
theorem dX3_readNumber_33 : decode cX3_readNumber 33 = .ok (.getfield 89, 3) := by decide +kernel
theorem dX3_readNumber_36 : decode cX3_readNumber 36 = .ok (.iload_n 2, 1) := by decide +kernel
theorem dX3_readNumber_37 : decode cX3_readNumber 37 = .ok (.if_icmp .le 5, 3) := by decide +kernel
theorem dX3_readNumber_40 : decode cX3_readNumber 40 = .ok (.iconst 2, 1) := by decide +kernel
theorem dX3_readNumber_41 : decode cX3_readNumber 41 = .ok (.ireturn, 1) := by decide +kernel
theorem dX3_readNumber_42 : decode cX3_readNumber 42 = .ok (.aload_n 0, 1) := by decide +kernel
theorem dX3_readNumber_43 : decode cX3_readNumber 43 = .ok (.getfield 21, 3) := by decide +kernel
theorem dX3_readNumber_46 : decode cX3_readNumber 46 = .ok (.invokevirtual 64, 3) := by decide +kernel
theorem dX3_readNumber_49 : decode cX3_readNumber 49 = .ok (.iconst 0, 1) := by decide +kernel
theorem dX3_readNumber_50 : decode cX3_readNumber 50 = .ok (.ireturn, 1) := by decide +kernel
def fX3_readNumber_11 (S : Nat → Int32) (V : Nat → Nat → Int32) (a1 : Int32) (a2 : Int32) : Option (Int32 × (Nat → Int32)) :=
  bd1 (fX10_kind_20 S V) (fun r1 =>
  (if r1 = (1 : Int32) then
  bd1 (fX10_number_20 S V) (fun r4 =>
  lt (va_up S 1106 r4) (fun S6 =>
  (if (S6 1106) < a1 then
  some ((2 : Int32), S6)
  else
  (if (S6 1106) ≤ a2 then
  bd1 (fX10_advance_20 S6 V) (fun S9 =>
  some ((0 : Int32), S9))
  else
  some ((2 : Int32), S6)))))
  else
  some ((1 : Int32), S)))
set_option maxHeartbeats 4000000 in
set_option maxRecDepth 100000 in
theorem kX3_readNumber_11 (l : Launch) (B : jBT) (D : va_G) (ad : Nat → Nat) (cA : Nat → ClassId) (hI : jI ad TC) (S : Nat → Int32) (V : Nat → Nat → Int32) (L : Nat → Int64) (a1 : Int32) (a2 : Int32) (r0 : Int32) (S0 : Nat → Int32) (h : fX3_readNumber_11 S V a1 a2 = some (r0, S0)) : jM l yX3_readNumber cX3_readNumber 3 (some .int) ({ frames := 1, cells := 0, slots := 0, locals := 20 }) B D TC ad cA [.ref (ad 11), .int a1, .int a2] S V L (some (.int r0)) S0 V L := by
  refine jM_of (plainFor_of_name (by decide)) TC_ok hI (Nat.le_of_ble_eq_true rfl) ?_
  intro p e s m args below meth c C hr hlk
  refine j_lv (lv2 := [(0, .ref (ad 11)), (1, .int a1), (2, .int a2)]) rfl ?_
  unfold fX3_readNumber_11 at h
  refine j_aload_n C 0 rfl dX3_readNumber_0 rfl ?_
  refine fg_X3_21_TC_11 C dX3_readNumber_1 ?_
  obtain ⟨r1, h2, h⟩ := bd1_elim h
  refine j_callV (As := []) (rest := []) C (kX10_kind_20 l B D ad cA hI S V L _ h2) mw_X10_kind wd911 wd912 wd910 tc_20 rfl rfl ⟨rfl, rfl, by decide, by decide⟩ ⟨Nat.zero_le _, Nat.zero_le _⟩ rfl rfl (Nat.le_of_ble_eq_true rfl) dX3_readNumber_4 ?_
  refine j_iconst C dX3_readNumber_7 ci_1 ?_
  refine j_icmp_eq (tgt := 13) C dX3_readNumber_8 (by decide) (fun c3 => ?_) (fun c3 => ?_)
  · have h := (if_pos c3).symm.trans h
    refine j_aload_n C 0 rfl dX3_readNumber_13 rfl ?_
    refine j_aload_n C 0 rfl dX3_readNumber_14 rfl ?_
    refine fg_X3_21_TC_11 C dX3_readNumber_15 ?_
    obtain ⟨r4, h5, h⟩ := bd1_elim h
    refine j_callV (As := []) (rest := [.ref (ad 11)]) C (kX10_number_20 l B D ad cA hI S V L _ h5) mw_X10_number wd931 wd932 wd930 tc_20 rfl rfl ⟨rfl, rfl, by decide, by decide⟩ ⟨Nat.zero_le _, Nat.zero_le _⟩ rfl rfl (Nat.le_of_ble_eq_true rfl) dX3_readNumber_18 ?_
    refine fp_X3_89_TC_11 C dX3_readNumber_21 ?_
    refine lt_elim h (fun S6 e_S6 h => ?_)
    refine j_S e_S6 ?_
    refine j_aload_n C 0 rfl dX3_readNumber_24 rfl ?_
    refine fg_X3_89_TC_11 C dX3_readNumber_25 ?_
    refine j_iload_n C 1 rfl dX3_readNumber_28 rfl ?_
    refine j_icmp_lt (tgt := 40) C dX3_readNumber_29 (by decide) (fun c7 => ?_) (fun c7 => ?_)
    · have h := (if_pos c7).symm.trans h
      refine j_iconst C dX3_readNumber_40 ci_2 ?_
      cases h
      exact j_iret C hr hlk rfl dX3_readNumber_41
    · have h := (if_neg c7).symm.trans h
      refine j_aload_n C 0 rfl dX3_readNumber_32 rfl ?_
      refine fg_X3_89_TC_11 C dX3_readNumber_33 ?_
      refine j_iload_n C 2 rfl dX3_readNumber_36 rfl ?_
      refine j_icmp_le (tgt := 42) C dX3_readNumber_37 (by decide) (fun c8 => ?_) (fun c8 => ?_)
      · have h := (if_pos c8).symm.trans h
        refine j_aload_n C 0 rfl dX3_readNumber_42 rfl ?_
        refine fg_X3_21_TC_11 C dX3_readNumber_43 ?_
        obtain ⟨S9, h10, h⟩ := bd1_elim h
        refine j_callV (As := []) (rest := []) C (kX10_advance_20 l B D ad cA hI S6 V L _ h10) mw_X10_advance wd923 wd924 wd922 tc_20 rfl rfl ⟨rfl, rfl, by decide, by decide⟩ ⟨Nat.zero_le _, Nat.zero_le _⟩ rfl rfl (Nat.le_of_ble_eq_true rfl) dX3_readNumber_46 ?_
        refine j_iconst C dX3_readNumber_49 ci_0 ?_
        cases h
        exact j_iret C hr hlk rfl dX3_readNumber_50
      · have h := (if_neg c8).symm.trans h
        refine j_iconst C dX3_readNumber_40 ci_2 ?_
        cases h
        exact j_iret C hr hlk rfl dX3_readNumber_41
  · have h := (if_neg c3).symm.trans h
    refine j_iconst C dX3_readNumber_11 ci_1 ?_
    cases h
    exact j_iret C hr hlk rfl dX3_readNumber_12
theorem dX3_readBase_0 : decode cX3_readBase 0 = .ok (.aload_n 0, 1) := by decide +kernel
theorem dX3_readBase_1 : decode cX3_readBase 1 = .ok (.getfield 41, 3) := by decide +kernel
theorem dX3_readBase_4 : decode cX3_readBase 4 = .ok (.ifCond .eq 5, 3) := by decide +kernel
theorem dX3_readBase_7 : decode cX3_readBase 7 = .ok (.iconst 5, 1) := by decide +kernel
theorem dX3_readBase_8 : decode cX3_readBase 8 = .ok (.ireturn, 1) := by decide +kernel
theorem dX3_readBase_9 : decode cX3_readBase 9 = .ok (.aload_n 0, 1) := by decide +kernel
theorem dX3_readBase_10 : decode cX3_readBase 10 = .ok (.iconst 1, 1) := by decide +kernel
theorem dX3_readBase_11 : decode cX3_readBase 11 = .ok (.putfield 41, 3) := by decide +kernel
theorem dX3_readBase_14 : decode cX3_readBase 14 = .ok (.aload_n 0, 1) := by decide +kernel
theorem dX3_readBase_15 : decode cX3_readBase 15 = .ok (.getfield 21, 3) := by decide +kernel
theorem dX3_readBase_18 : decode cX3_readBase 18 = .ok (.invokevirtual 64, 3) := by decide +kernel
theorem dX3_readBase_21 : decode cX3_readBase 21 = .ok (.aload_n 0, 1) := by decide +kernel
theorem dX3_readBase_22 : decode cX3_readBase 22 = .ok (.bipush 20, 2) := by decide +kernel
theorem dX3_readBase_24 : decode cX3_readBase 24 = .ok (.bipush 60, 2) := by decide +kernel
theorem dX3_readBase_26 : decode cX3_readBase 26 = .ok (.invokevirtual 85, 3) := by decide +kernel
theorem dX3_readBase_29 : decode cX3_readBase 29 = .ok (.istore_n 1, 1) := by decide +kernel
theorem dX3_readBase_30 : decode cX3_readBase 30 = .ok (.aload_n 0, 1) := by decide +kernel
theorem dX3_readBase_31 : decode cX3_readBase 31 = .ok (.getfield 12, 3) := by decide +kernel
theorem dX3_readBase_34 : decode cX3_readBase 34 = .ok (.aload_n 0, 1) := by decide +kernel
theorem dX3_readBase_35 : decode cX3_readBase 35 = .ok (.getfield 89, 3) := by decide +kernel
theorem dX3_readBase_38 : decode cX3_readBase 38 = .ok (.putfield 93, 3) := by decide +kernel
theorem dX3_readBase_41 : decode cX3_readBase 41 = .ok (.iload_n 1, 1) := by decide +kernel
theorem dX3_readBase_42 : decode cX3_readBase 42 = .ok (.ireturn, 1) := by decide +kernel
def fX3_readBase_11 (S : Nat → Int32) (V : Nat → Nat → Int32) : Option (Int32 × (Nat → Int32)) :=
  (if (S 1103) = 0 then
  lt (va_up S 1103 (1 : Int32)) (fun S2 =>
  bd1 (fX10_advance_20 S2 V) (fun S3 =>
  bd2 (fX3_readNumber_11 S3 V (20 : Int32) (60 : Int32)) (fun r5 S6 =>
  lt ((S6 1106)) (fun x8 =>
  lt (va_up S6 1200 x8) (fun S9 =>
  some (r5, S9))))))
  else
  some ((5 : Int32), S))
set_option maxHeartbeats 4000000 in
set_option maxRecDepth 100000 in
theorem kX3_readBase_11 (l : Launch) (B : jBT) (D : va_G) (ad : Nat → Nat) (cA : Nat → ClassId) (hI : jI ad TC) (S : Nat → Int32) (V : Nat → Nat → Int32) (L : Nat → Int64) (r0 : Int32) (S0 : Nat → Int32) (h : fX3_readBase_11 S V = some (r0, S0)) : jM l yX3_readBase cX3_readBase 2 (some .int) ({ frames := 2, cells := 0, slots := 0, locals := 42 }) B D TC ad cA [.ref (ad 11)] S V L (some (.int r0)) S0 V L := by
  refine jM_of (plainFor_of_name (by decide)) TC_ok hI (Nat.le_of_ble_eq_true rfl) ?_
  intro p e s m args below meth c C hr hlk
  refine j_lv (lv2 := [(0, .ref (ad 11))]) rfl ?_
  unfold fX3_readBase_11 at h
  refine j_aload_n C 0 rfl dX3_readBase_0 rfl ?_
  refine fg_X3_41_TC_11 C dX3_readBase_1 ?_
  refine j_if_eq (tgt := 9) C dX3_readBase_4 (by decide) (fun c1 => ?_) (fun c1 => ?_)
  · have h := (if_pos c1).symm.trans h
    refine j_aload_n C 0 rfl dX3_readBase_9 rfl ?_
    refine j_iconst C dX3_readBase_10 ci_1 ?_
    refine fp_X3_41_TC_11 C rfl rfl dX3_readBase_11 ?_
    refine lt_elim h (fun S2 e_S2 h => ?_)
    refine j_S e_S2 ?_
    refine j_aload_n C 0 rfl dX3_readBase_14 rfl ?_
    refine fg_X3_21_TC_11 C dX3_readBase_15 ?_
    obtain ⟨S3, h4, h⟩ := bd1_elim h
    refine j_callV (As := []) (rest := []) C (kX10_advance_20 l B D ad cA hI S2 V L _ h4) mw_X10_advance wd923 wd924 wd922 tc_20 rfl rfl ⟨rfl, rfl, by decide, by decide⟩ ⟨Nat.zero_le _, Nat.zero_le _⟩ rfl rfl (Nat.le_of_ble_eq_true rfl) dX3_readBase_18 ?_
    refine j_aload_n C 0 rfl dX3_readBase_21 rfl ?_
    refine j_bipush C dX3_readBase_22 cb_20 ?_
    refine j_bipush C dX3_readBase_24 cb_60 ?_
    obtain ⟨r5, S6, h7, h⟩ := bd2_elim h
    refine j_callV (As := [.int (20 : Int32), .int (60 : Int32)]) (rest := []) C (kX3_readNumber_11 l B D ad cA hI S3 V L (20 : Int32) (60 : Int32) _ _ h7) mw_X3_readNumber wd928 wd18 wd926 tc_11 rfl rfl ⟨rfl, rfl, by decide, by decide⟩ ⟨Nat.zero_le _, Nat.zero_le _⟩ rfl rfl (Nat.le_of_ble_eq_true rfl) dX3_readBase_26 ?_
    refine j_istore_n C [(1, .int r5), (0, .ref (ad 11))] dX3_readBase_29 rfl (by decide) rfl ?_
    refine j_aload_n C 1 rfl dX3_readBase_30 rfl ?_
    refine fg_X3_12_TC_11 C dX3_readBase_31 ?_
    refine j_aload_n C 1 rfl dX3_readBase_34 rfl ?_
    refine fg_X3_89_TC_11 C dX3_readBase_35 ?_
    refine lt_elim h (fun x8 e_x8 h => ?_)
    refine j_top e_x8 ?_
    refine fp_X3_93_TC_12 C dX3_readBase_38 ?_
    refine lt_elim h (fun S9 e_S9 h => ?_)
    refine j_S e_S9 ?_
    refine j_iload_n C 0 rfl dX3_readBase_41 rfl ?_
    cases h
    exact j_iret C hr hlk rfl dX3_readBase_42
  · have h := (if_neg c1).symm.trans h
    refine j_iconst C dX3_readBase_7 ci_5 ?_
    cases h
    exact j_iret C hr hlk rfl dX3_readBase_8
theorem dX3_readEndOfLine_0 : decode cX3_readEndOfLine 0 = .ok (.aload_n 0, 1) := by decide +kernel
theorem dX3_readEndOfLine_1 : decode cX3_readEndOfLine 1 = .ok (.getfield 21, 3) := by decide +kernel
theorem dX3_readEndOfLine_4 : decode cX3_readEndOfLine 4 = .ok (.invokevirtual 51, 3) := by decide +kernel
theorem dX3_readEndOfLine_7 : decode cX3_readEndOfLine 7 = .ok (.bipush 59, 2) := by decide +kernel
theorem dX3_readEndOfLine_9 : decode cX3_readEndOfLine 9 = .ok (.if_icmp .eq 5, 3) := by decide +kernel
theorem dX3_readEndOfLine_12 : decode cX3_readEndOfLine 12 = .ok (.iconst 1, 1) := by decide +kernel
theorem dX3_readEndOfLine_13 : decode cX3_readEndOfLine 13 = .ok (.ireturn, 1) := by decide +kernel
theorem dX3_readEndOfLine_14 : decode cX3_readEndOfLine 14 = .ok (.aload_n 0, 1) := by decide +kernel
theorem dX3_readEndOfLine_15 : decode cX3_readEndOfLine 15 = .ok (.getfield 21, 3) := by decide +kernel
theorem dX3_readEndOfLine_18 : decode cX3_readEndOfLine 18 = .ok (.invokevirtual 64, 3) := by decide +kernel
theorem dX3_readEndOfLine_21 : decode cX3_readEndOfLine 21 = .ok (.iconst 0, 1) := by decide +kernel
theorem dX3_readEndOfLine_22 : decode cX3_readEndOfLine 22 = .ok (.ireturn, 1) := by decide +kernel
def fX3_readEndOfLine_11 (S : Nat → Int32) (V : Nat → Nat → Int32) : Option (Int32 × (Nat → Int32)) :=
  bd1 (fX10_kind_20 S V) (fun r1 =>
  (if r1 = (59 : Int32) then
  bd1 (fX10_advance_20 S V) (fun S4 =>
  some ((0 : Int32), S4))
  else
  some ((1 : Int32), S)))
set_option maxHeartbeats 4000000 in
set_option maxRecDepth 100000 in
theorem kX3_readEndOfLine_11 (l : Launch) (B : jBT) (D : va_G) (ad : Nat → Nat) (cA : Nat → ClassId) (hI : jI ad TC) (S : Nat → Int32) (V : Nat → Nat → Int32) (L : Nat → Int64) (r0 : Int32) (S0 : Nat → Int32) (h : fX3_readEndOfLine_11 S V = some (r0, S0)) : jM l yX3_readEndOfLine cX3_readEndOfLine 1 (some .int) ({ frames := 1, cells := 0, slots := 0, locals := 20 }) B D TC ad cA [.ref (ad 11)] S V L (some (.int r0)) S0 V L := by
  refine jM_of (plainFor_of_name (by decide)) TC_ok hI (Nat.le_of_ble_eq_true rfl) ?_
  intro p e s m args below meth c C hr hlk
  refine j_lv (lv2 := [(0, .ref (ad 11))]) rfl ?_
  unfold fX3_readEndOfLine_11 at h
  refine j_aload_n C 0 rfl dX3_readEndOfLine_0 rfl ?_
  refine fg_X3_21_TC_11 C dX3_readEndOfLine_1 ?_
  obtain ⟨r1, h2, h⟩ := bd1_elim h
  refine j_callV (As := []) (rest := []) C (kX10_kind_20 l B D ad cA hI S V L _ h2) mw_X10_kind wd911 wd912 wd910 tc_20 rfl rfl ⟨rfl, rfl, by decide, by decide⟩ ⟨Nat.zero_le _, Nat.zero_le _⟩ rfl rfl (Nat.le_of_ble_eq_true rfl) dX3_readEndOfLine_4 ?_
  refine j_bipush C dX3_readEndOfLine_7 cb_59 ?_
  refine j_icmp_eq (tgt := 14) C dX3_readEndOfLine_9 (by decide) (fun c3 => ?_) (fun c3 => ?_)
  · have h := (if_pos c3).symm.trans h
    refine j_aload_n C 0 rfl dX3_readEndOfLine_14 rfl ?_
    refine fg_X3_21_TC_11 C dX3_readEndOfLine_15 ?_
    obtain ⟨S4, h5, h⟩ := bd1_elim h
    refine j_callV (As := []) (rest := []) C (kX10_advance_20 l B D ad cA hI S V L _ h5) mw_X10_advance wd923 wd924 wd922 tc_20 rfl rfl ⟨rfl, rfl, by decide, by decide⟩ ⟨Nat.zero_le _, Nat.zero_le _⟩ rfl rfl (Nat.le_of_ble_eq_true rfl) dX3_readEndOfLine_18 ?_
    refine j_iconst C dX3_readEndOfLine_21 ci_0 ?_
    cases h
    exact j_iret C hr hlk rfl dX3_readEndOfLine_22
  · have h := (if_neg c3).symm.trans h
    refine j_iconst C dX3_readEndOfLine_12 ci_1 ?_
    cases h
    exact j_iret C hr hlk rfl dX3_readEndOfLine_13
