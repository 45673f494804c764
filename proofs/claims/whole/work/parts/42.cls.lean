theorem dX0_forget_0 : decode cX0_forget 0 = .ok (.aload_n 0, 1) := by decide +kernel
theorem dX0_forget_1 : decode cX0_forget 1 = .ok (.iconst 0, 1) := by decide +kernel
theorem dX0_forget_2 : decode cX0_forget 2 = .ok (.putfield 44, 3) := by decide +kernel
theorem dX0_forget_5 : decode cX0_forget 5 = .ok (.return_, 1) := by decide +kernel
def fX0_forget_49 (S : Nat → Int32) : Option ((Nat → Int32)) :=
  lt (va_up S 4911 (0 : Int32)) (fun S1 =>
  some S1)
set_option maxHeartbeats 4000000 in
set_option maxRecDepth 100000 in
theorem kX0_forget_49 (l : Launch) (B : jBT) (D : va_G) (ad : Nat → Nat) (cA : Nat → ClassId) (hI : jI ad TC) (S : Nat → Int32) (V : Nat → Nat → Int32) (L : Nat → Int64) (S0 : Nat → Int32) (h : fX0_forget_49 S = some S0) : jM l yX0_forget cX0_forget 1 none ({ frames := 0, cells := 0, slots := 0, locals := 0 }) B D TC ad cA [.ref (ad 49)] S V L none S0 V L := by
  refine jM_of (plainFor_of_name (by decide)) TC_ok hI (Nat.le_of_ble_eq_true rfl) ?_
  intro p e s m args below meth c C hr hlk
  refine j_lv (lv2 := [(0, .ref (ad 49))]) rfl ?_
  unfold fX0_forget_49 at h
  refine j_aload_n C 0 rfl dX0_forget_0 rfl ?_
  refine j_iconst C dX0_forget_1 ci_0 ?_
  refine fp_X0_44_TC_49 C rfl rfl dX0_forget_2 ?_
  refine lt_elim h (fun S1 e_S1 h => ?_)
  refine j_S e_S1 ?_
  cases h
  exact j_vret C hr hlk rfl dX0_forget_5
theorem dX10_advance_0 : decode cX10_advance 0 = .ok (.aload_n 0, 1) := by decide +kernel
theorem dX10_advance_1 : decode cX10_advance 1 = .ok (.getfield 15, 3) := by decide +kernel
theorem dX10_advance_4 : decode cX10_advance 4 = .ok (.aload_n 0, 1) := by decide +kernel
theorem dX10_advance_5 : decode cX10_advance 5 = .ok (.getfield 44, 3) := by decide +kernel
theorem dX10_advance_8 : decode cX10_advance 8 = .ok (.iaload, 1) := by decide +kernel
theorem dX10_advance_9 : decode cX10_advance 9 = .ok (.ifCond .eq 23, 3) := by decide +kernel
theorem dX10_advance_12 : decode cX10_advance 12 = .ok (.aload_n 0, 1) := by decide +kernel
theorem dX10_advance_13 : decode cX10_advance 13 = .ok (.getfield 44, 3) := by decide +kernel
theorem dX10_advance_16 : decode cX10_advance 16 = .ok (.sipush 600, 3) := by decide +kernel
theorem dX10_advance_19 : decode cX10_advance 19 = .ok (.if_icmp .ge 13, 3) := by decide +kernel
theorem dX10_advance_22 : decode cX10_advance 22 = .ok (.aload_n 0, 1) := by decide +kernel
theorem dX10_advance_23 : decode cX10_advance 23 = .ok (.dup, 1) := by decide +kernel
theorem dX10_advance_24 : decode cX10_advance 24 = .ok (.getfield 44, 3) := by decide +kernel
theorem dX10_advance_27 : decode cX10_advance 27 = .ok (.iconst 1, 1) := by decide +kernel
theorem dX10_advance_28 : decode cX10_advance 28 = .ok (.iadd, 1) := by decide +kernel
theorem dX10_advance_29 : decode cX10_advance 29 = .ok (.putfield 44, 3) := by decide +kernel
theorem dX10_advance_32 : decode cX10_advance 32 = .ok (.return_, 1) := by decide +kernel
def fX10_advance_20 (S : Nat → Int32) (V : Nat → Nat → Int32) : Option ((Nat → Int32)) :=
  lt ((S 2005)) (fun x1 =>
  gd (ib x1 601) (
  (if (V 22 (x1).toNatClampNeg) = 0 then
  some S
  else
  (if (600 : Int32) ≤ (S 2005) then
  some S
  else
  lt (((S 2005) + (1 : Int32))) (fun x5 =>
  lt (va_up S 2005 x5) (fun S6 =>
  some S6))))))
set_option maxHeartbeats 4000000 in
set_option maxRecDepth 100000 in
theorem kX10_advance_20 (l : Launch) (B : jBT) (D : va_G) (ad : Nat → Nat) (cA : Nat → ClassId) (hI : jI ad TC) (S : Nat → Int32) (V : Nat → Nat → Int32) (L : Nat → Int64) (S0 : Nat → Int32) (h : fX10_advance_20 S V = some S0) : jM l yX10_advance cX10_advance 1 none ({ frames := 0, cells := 0, slots := 0, locals := 0 }) B D TC ad cA [.ref (ad 20)] S V L none S0 V L := by
  refine jM_of (plainFor_of_name (by decide)) TC_ok hI (Nat.le_of_ble_eq_true rfl) ?_
  intro p e s m args below meth c C hr hlk
  refine j_lv (lv2 := [(0, .ref (ad 20))]) rfl ?_
  unfold fX10_advance_20 at h
  refine j_aload_n C 0 rfl dX10_advance_0 rfl ?_
  refine fg_X10_15_TC_20 C dX10_advance_1 ?_
  refine j_aload_n C 0 rfl dX10_advance_4 rfl ?_
  refine fg_X10_44_TC_20 C dX10_advance_5 ?_
  refine lt_elim h (fun x1 e_x1 h => ?_)
  refine j_top e_x1 ?_
  obtain ⟨g2, h⟩ := gd_elim h
  refine j_iald C tc_22 (ib_in g2) dX10_advance_8 ?_
  refine j_if_eq (tgt := 32) C dX10_advance_9 (by decide) (fun c3 => ?_) (fun c3 => ?_)
  · have h := (if_pos c3).symm.trans h
    cases h
    exact j_vret C hr hlk rfl dX10_advance_32
  · have h := (if_neg c3).symm.trans h
    refine j_aload_n C 0 rfl dX10_advance_12 rfl ?_
    refine fg_X10_44_TC_20 C dX10_advance_13 ?_
    refine j_sipush C dX10_advance_16 cs_600 ?_
    refine j_icmp_ge (tgt := 32) C dX10_advance_19 (by decide) (fun c4 => ?_) (fun c4 => ?_)
    · have h := (if_pos c4).symm.trans h
      cases h
      exact j_vret C hr hlk rfl dX10_advance_32
    · have h := (if_neg c4).symm.trans h
      refine j_aload_n C 0 rfl dX10_advance_22 rfl ?_
      refine j_dup C dX10_advance_23 rfl ?_
      refine fg_X10_44_TC_20 C dX10_advance_24 ?_
      refine j_iconst C dX10_advance_27 ci_1 ?_
      refine j_iadd C dX10_advance_28 ?_
      refine lt_elim h (fun x5 e_x5 h => ?_)
      refine j_top e_x5 ?_
      refine fp_X10_44_TC_20 C dX10_advance_29 ?_
      refine lt_elim h (fun S6 e_S6 h => ?_)
      refine j_S e_S6 ?_
      cases h
      exact j_vret C hr hlk rfl dX10_advance_32
theorem dX10_isLetter_0 : decode cX10_isLetter 0 = .ok (.aload_n 0, 1) := by decide +kernel
theorem dX10_isLetter_1 : decode cX10_isLetter 1 = .ok (.getfield 9, 3) := by decide +kernel
theorem dX10_isLetter_4 : decode cX10_isLetter 4 = .ok (.iload_n 1, 1) := by decide +kernel
theorem dX10_isLetter_5 : decode cX10_isLetter 5 = .ok (.baload, 1) := by decide +kernel
theorem dX10_isLetter_6 : decode cX10_isLetter 6 = .ok (.bipush 97, 2) := by decide +kernel
theorem dX10_isLetter_8 : decode cX10_isLetter 8 = .ok (.if_icmp .lt 18, 3) := by decide +kernel
theorem dX10_isLetter_11 : decode cX10_isLetter 11 = .ok (.aload_n 0, 1) := by decide +kernel
theorem dX10_isLetter_12 : decode cX10_isLetter 12 = .ok (.getfield 9, 3) := by decide +kernel
theorem dX10_isLetter_15 : decode cX10_isLetter 15 = .ok (.iload_n 1, 1) := by decide +kernel
theorem dX10_isLetter_16 : decode cX10_isLetter 16 = .ok (.baload, 1) := by decide +kernel
theorem dX10_isLetter_17 : decode cX10_isLetter 17 = .ok (.bipush 122, 2) := by decide +kernel
theorem dX10_isLetter_19 : decode cX10_isLetter 19 = .ok (.if_icmp .gt 7, 3) := by decide +kernel
theorem dX10_isLetter_22 : decode cX10_isLetter 22 = .ok (.iconst 1, 1) := by decide +kernel
theorem dX10_isLetter_23 : decode cX10_isLetter 23 = .ok (.goto 4, 3) := by decide +kernel
theorem dX10_isLetter_26 : decode cX10_isLetter 26 = .ok (.iconst 0, 1) := by decide +kernel
theorem dX10_isLetter_27 : decode cX10_isLetter 27 = .ok (.ireturn, 1) := by decide +kernel
def fX10_isLetter_20 (V : Nat → Nat → Int32) (a1 : Int32) : Option (Int32) :=
  gd (ib a1 600) (
  (if (V 21 (a1).toNatClampNeg) < (97 : Int32) then
  some (0 : Int32)
  else
  gd (ib a1 600) (
  (if (122 : Int32) < (V 21 (a1).toNatClampNeg) then
  some (0 : Int32)
  else
  some (1 : Int32)))))
set_option maxHeartbeats 4000000 in
set_option maxRecDepth 100000 in
theorem kX10_isLetter_20 (l : Launch) (B : jBT) (D : va_G) (ad : Nat → Nat) (cA : Nat → ClassId) (hI : jI ad TC) (S : Nat → Int32) (V : Nat → Nat → Int32) (L : Nat → Int64) (a1 : Int32) (r0 : Int32) (h : fX10_isLetter_20 V a1 = some r0) : jM l yX10_isLetter cX10_isLetter 2 (some .boolean) ({ frames := 0, cells := 0, slots := 0, locals := 0 }) B D TC ad cA [.ref (ad 20), .int a1] S V L (some (.int r0)) S V L := by
  refine jM_of (plainFor_of_name (by decide)) TC_ok hI (Nat.le_of_ble_eq_true rfl) ?_
  intro p e s m args below meth c C hr hlk
  refine j_lv (lv2 := [(0, .ref (ad 20)), (1, .int a1)]) rfl ?_
  unfold fX10_isLetter_20 at h
  refine j_aload_n C 0 rfl dX10_isLetter_0 rfl ?_
  refine fg_X10_9_TC_20 C dX10_isLetter_1 ?_
  refine j_iload_n C 1 rfl dX10_isLetter_4 rfl ?_
  obtain ⟨g1, h⟩ := gd_elim h
  refine j_bald C tc_21 (ib_in g1) dX10_isLetter_5 ?_
  refine j_bipush C dX10_isLetter_6 cb_97 ?_
  refine j_icmp_lt (tgt := 26) C dX10_isLetter_8 (by decide) (fun c2 => ?_) (fun c2 => ?_)
  · have h := (if_pos c2).symm.trans h
    refine j_iconst C dX10_isLetter_26 ci_0 ?_
    cases h
    exact j_zret C hr hlk rfl rfl dX10_isLetter_27
  · have h := (if_neg c2).symm.trans h
    refine j_aload_n C 0 rfl dX10_isLetter_11 rfl ?_
    refine fg_X10_9_TC_20 C dX10_isLetter_12 ?_
    refine j_iload_n C 1 rfl dX10_isLetter_15 rfl ?_
    obtain ⟨g3, h⟩ := gd_elim h
    refine j_bald C tc_21 (ib_in g3) dX10_isLetter_16 ?_
    refine j_bipush C dX10_isLetter_17 cb_122 ?_
    refine j_icmp_gt (tgt := 26) C dX10_isLetter_19 (by decide) (fun c4 => ?_) (fun c4 => ?_)
    · have h := (if_pos c4).symm.trans h
      refine j_iconst C dX10_isLetter_26 ci_0 ?_
      cases h
      exact j_zret C hr hlk rfl rfl dX10_isLetter_27
    · have h := (if_neg c4).symm.trans h
      refine j_iconst C dX10_isLetter_22 ci_1 ?_
      refine j_goto (tgt := 27) C dX10_isLetter_23 (by decide) ?_
      cases h
      exact j_zret C hr hlk rfl rfl dX10_isLetter_27
theorem dX10_isDigit_0 : decode cX10_isDigit 0 = .ok (.aload_n 0, 1) := by decide +kernel
theorem dX10_isDigit_1 : decode cX10_isDigit 1 = .ok (.getfield 9, 3) := by decide +kernel
theorem dX10_isDigit_4 : decode cX10_isDigit 4 = .ok (.iload_n 1, 1) := by decide +kernel
theorem dX10_isDigit_5 : decode cX10_isDigit 5 = .ok (.baload, 1) := by decide +kernel
theorem dX10_isDigit_6 : decode cX10_isDigit 6 = .ok (.bipush 48, 2) := by decide +kernel
theorem dX10_isDigit_8 : decode cX10_isDigit 8 = .ok (.if_icmp .lt 18, 3) := by decide +kernel
theorem dX10_isDigit_11 : decode cX10_isDigit 11 = .ok (.aload_n 0, 1) := by decide +kernel
theorem dX10_isDigit_12 : decode cX10_isDigit 12 = .ok (.getfield 9, 3) := by decide +kernel
theorem dX10_isDigit_15 : decode cX10_isDigit 15 = .ok (.iload_n 1, 1) := by decide +kernel
theorem dX10_isDigit_16 : decode cX10_isDigit 16 = .ok (.baload, 1) := by decide +kernel
theorem dX10_isDigit_17 : decode cX10_isDigit 17 = .ok (.bipush 57, 2) := by decide +kernel
theorem dX10_isDigit_19 : decode cX10_isDigit 19 = .ok (.if_icmp .gt 7, 3) := by decide +kernel
theorem dX10_isDigit_22 : decode cX10_isDigit 22 = .ok (.iconst 1, 1) := by decide +kernel
theorem dX10_isDigit_23 : decode cX10_isDigit 23 = .ok (.goto 4, 3) := by decide +kernel
theorem dX10_isDigit_26 : decode cX10_isDigit 26 = .ok (.iconst 0, 1) := by decide +kernel
theorem dX10_isDigit_27 : decode cX10_isDigit 27 = .ok (.ireturn, 1) := by decide +kernel
def fX10_isDigit_20 (V : Nat → Nat → Int32) (a1 : Int32) : Option (Int32) :=
  gd (ib a1 600) (
  (if (V 21 (a1).toNatClampNeg) < (48 : Int32) then
  some (0 : Int32)
  else
  gd (ib a1 600) (
  (if (57 : Int32) < (V 21 (a1).toNatClampNeg) then
  some (0 : Int32)
  else
  some (1 : Int32)))))
set_option maxHeartbeats 4000000 in
set_option maxRecDepth 100000 in
theorem kX10_isDigit_20 (l : Launch) (B : jBT) (D : va_G) (ad : Nat → Nat) (cA : Nat → ClassId) (hI : jI ad TC) (S : Nat → Int32) (V : Nat → Nat → Int32) (L : Nat → Int64) (a1 : Int32) (r0 : Int32) (h : fX10_isDigit_20 V a1 = some r0) : jM l yX10_isDigit cX10_isDigit 2 (some .boolean) ({ frames := 0, cells := 0, slots := 0, locals := 0 }) B D TC ad cA [.ref (ad 20), .int a1] S V L (some (.int r0)) S V L := by
  refine jM_of (plainFor_of_name (by decide)) TC_ok hI (Nat.le_of_ble_eq_true rfl) ?_
  intro p e s m args below meth c C hr hlk
  refine j_lv (lv2 := [(0, .ref (ad 20)), (1, .int a1)]) rfl ?_
  unfold fX10_isDigit_20 at h
  refine j_aload_n C 0 rfl dX10_isDigit_0 rfl ?_
  refine fg_X10_9_TC_20 C dX10_isDigit_1 ?_
  refine j_iload_n C 1 rfl dX10_isDigit_4 rfl ?_
  obtain ⟨g1, h⟩ := gd_elim h
  refine j_bald C tc_21 (ib_in g1) dX10_isDigit_5 ?_
  refine j_bipush C dX10_isDigit_6 cb_48 ?_
  refine j_icmp_lt (tgt := 26) C dX10_isDigit_8 (by decide) (fun c2 => ?_) (fun c2 => ?_)
  · have h := (if_pos c2).symm.trans h
    refine j_iconst C dX10_isDigit_26 ci_0 ?_
    cases h
    exact j_zret C hr hlk rfl rfl dX10_isDigit_27
  · have h := (if_neg c2).symm.trans h
    refine j_aload_n C 0 rfl dX10_isDigit_11 rfl ?_
    refine fg_X10_9_TC_20 C dX10_isDigit_12 ?_
    refine j_iload_n C 1 rfl dX10_isDigit_15 rfl ?_
    obtain ⟨g3, h⟩ := gd_elim h
    refine j_bald C tc_21 (ib_in g3) dX10_isDigit_16 ?_
    refine j_bipush C dX10_isDigit_17 cb_57 ?_
    refine j_icmp_gt (tgt := 26) C dX10_isDigit_19 (by decide) (fun c4 => ?_) (fun c4 => ?_)
    · have h := (if_pos c4).symm.trans h
      refine j_iconst C dX10_isDigit_26 ci_0 ?_
      cases h
      exact j_zret C hr hlk rfl rfl dX10_isDigit_27
    · have h := (if_neg c4).symm.trans h
      refine j_iconst C dX10_isDigit_22 ci_1 ?_
      refine j_goto (tgt := 27) C dX10_isDigit_23 (by decide) ?_
      cases h
      exact j_zret C hr hlk rfl rfl dX10_isDigit_27
theorem dX10_endOfToken_0 : decode cX10_endOfToken 0 = .ok (.iload_n 1, 1) := by decide +kernel
theorem dX10_endOfToken_1 : decode cX10_endOfToken 1 = .ok (.iconst 1, 1) := by decide +kernel
theorem dX10_endOfToken_2 : decode cX10_endOfToken 2 = .ok (.iadd, 1) := by decide +kernel
theorem dX10_endOfToken_3 : decode cX10_endOfToken 3 = .ok (.istore_n 2, 1) := by decide +kernel
theorem dX10_endOfToken_4 : decode cX10_endOfToken 4 = .ok (.aload_n 0, 1) := by decide +kernel
theorem dX10_endOfToken_5 : decode cX10_endOfToken 5 = .ok (.iload_n 1, 1) := by decide +kernel
theorem dX10_endOfToken_6 : decode cX10_endOfToken 6 = .ok (.invokevirtual 55, 3) := by decide +kernel
theorem dX10_endOfToken_9 : decode cX10_endOfToken 9 = .ok (.ifCond .eq 25, 3) := by decide +kernel
theorem dX10_endOfToken_12 : decode cX10_endOfToken 12 = .ok (.iload_n 2, 1) := by decide +kernel
theorem dX10_endOfToken_13 : decode cX10_endOfToken 13 = .ok (.aload_n 0, 1) := by decide +kernel
theorem dX10_endOfToken_14 : decode cX10_endOfToken 14 = .ok (.getfield 34, 3) := by decide +kernel
theorem dX10_endOfToken_17 : decode cX10_endOfToken 17 = .ok (.if_icmp .ge 47, 3) := by decide +kernel
theorem dX10_endOfToken_20 : decode cX10_endOfToken 20 = .ok (.aload_n 0, 1) := by decide +kernel
theorem dX10_endOfToken_21 : decode cX10_endOfToken 21 = .ok (.iload_n 2, 1) := by decide +kernel
theorem dX10_endOfToken_22 : decode cX10_endOfToken 22 = .ok (.invokevirtual 55, 3) := by decide +kernel
theorem dX10_endOfToken_25 : decode cX10_endOfToken 25 = .ok (.ifCond .eq 39, 3) := by decide +kernel
theorem dX10_endOfToken_28 : decode cX10_endOfToken 28 = .ok (.iinc 2 1, 3) := by decide +kernel
theorem dX10_endOfToken_31 : decode cX10_endOfToken 31 = .ok (.goto (-19), 3) := by decide +kernel
theorem dX10_endOfToken_34 : decode cX10_endOfToken 34 = .ok (.aload_n 0, 1) := by decide +kernel
theorem dX10_endOfToken_35 : decode cX10_endOfToken 35 = .ok (.iload_n 1, 1) := by decide +kernel
theorem dX10_endOfToken_36 : decode cX10_endOfToken 36 = .ok (.invokevirtual 59, 3) := by decide +kernel
theorem dX10_endOfToken_39 : decode cX10_endOfToken 39 = .ok (.ifCond .eq 25, 3) := by decide +kernel
theorem dX10_endOfToken_42 : decode cX10_endOfToken 42 = .ok (.iload_n 2, 1) := by decide +kernel
theorem dX10_endOfToken_43 : decode cX10_endOfToken 43 = .ok (.aload_n 0, 1) := by decide +kernel
theorem dX10_endOfToken_44 : decode cX10_endOfToken 44 = .ok (.getfield 34, 3) := by decide +kernel
theorem dX10_endOfToken_47 : decode cX10_endOfToken 47 = .ok (.if_icmp .ge 17, 3) := by decide +kernel
theorem dX10_endOfToken_50 : decode cX10_endOfToken 50 = .ok (.aload_n 0, 1) := by decide +kernel
theorem dX10_endOfToken_51 : decode cX10_endOfToken 51 = .ok (.iload_n 2, 1) := by decide +kernel
theorem dX10_endOfToken_52 : decode cX10_endOfToken 52 = .ok (.invokevirtual 59, 3) := by decide +kernel
theorem dX10_endOfToken_55 : decode cX10_endOfToken 55 = .ok (.ifCond .eq 9, 3) := by decide +kernel
theorem dX10_endOfToken_58 : decode cX10_endOfToken 58 = .ok (.iinc 2 1, 3) := by decide +kernel
theorem dX10_endOfToken_61 : decode cX10_endOfToken 61 = .ok (.goto (-19), 3) := by decide +kernel
theorem dX10_endOfToken_64 : decode cX10_endOfToken 64 = .ok (.iload_n 2, 1) := by decide +kernel
theorem dX10_endOfToken_65 : decode cX10_endOfToken 65 = .ok (.ireturn, 1) := by decide +kernel
def fX10_endOfToken_20_L42 (S : Nat → Int32) (V : Nat → Nat → Int32) : Nat → Int32 → Option (Int32)
  | 0, _ => none
  | n + 1, x8 =>
    (if (S 2001) ≤ x8 then
    some x8
    else
    bd1 (fX10_isDigit_20 V x8) (fun r10 =>
    (if r10 = 0 then
    some x8
    else
    lt (x8 + (1 : Int32)) (fun x13 =>
    fX10_endOfToken_20_L42 S V n x13))))
def fX10_endOfToken_20_L12 (S : Nat → Int32) (V : Nat → Nat → Int32) : Nat → Int32 → Option (Int32)
  | 0, _ => none
  | n + 1, x14 =>
    (if (S 2001) ≤ x14 then
    some x14
    else
    bd1 (fX10_isLetter_20 V x14) (fun r16 =>
    (if r16 = 0 then
    some x14
    else
    lt (x14 + (1 : Int32)) (fun x19 =>
    fX10_endOfToken_20_L12 S V n x19))))
def fX10_endOfToken_20 (S : Nat → Int32) (V : Nat → Nat → Int32) (a1 : Int32) : Option (Int32) :=
  lt ((a1 + (1 : Int32))) (fun x1 =>
  bd1 (fX10_isLetter_20 V a1) (fun r2 =>
  (if r2 = 0 then
  bd1 (fX10_isDigit_20 V a1) (fun r5 =>
  (if r5 = 0 then
  some x1
  else
  fX10_endOfToken_20_L42 S V FU x1))
  else
  fX10_endOfToken_20_L12 S V FU x1)))
set_option maxHeartbeats 4000000 in
set_option maxRecDepth 100000 in
theorem kX10_endOfToken_20 (l : Launch) (B : jBT) (D : va_G) (ad : Nat → Nat) (cA : Nat → ClassId) (hI : jI ad TC) (S : Nat → Int32) (V : Nat → Nat → Int32) (L : Nat → Int64) (a1 : Int32) (r0 : Int32) (h : fX10_endOfToken_20 S V a1 = some r0) : jM l yX10_endOfToken cX10_endOfToken 3 (some .int) ({ frames := 1, cells := 0, slots := 0, locals := 21 }) B D TC ad cA [.ref (ad 20), .int a1] S V L (some (.int r0)) S V L := by
  refine jM_of (plainFor_of_name (by decide)) TC_ok hI (Nat.le_of_ble_eq_true rfl) ?_
  intro p e s m args below meth c C hr hlk
  refine j_lv (lv2 := [(0, .ref (ad 20)), (1, .int a1)]) rfl ?_
  unfold fX10_endOfToken_20 at h
  have H_fX10_endOfToken_20_L42 : ∀ (n : Nat) (x8 : Int32), fX10_endOfToken_20_L42 S V n x8 = some r0 → jW p l e ({ frames := 1, cells := 0, slots := 0, locals := 21 }) s m args below meth c (MQ below (jQc D TC ad cA (some (.int r0)) s.heap.size S V L) args s 0 0 (jA ad TC s.heap.size)) D TC ad cA (jA ad TC s.heap.size) 3 0 0 42 [(0, .ref (ad 20)), (2, .int x8)] [] S V L := by
    intro n
    induction n with
    | zero =>
      intro x8 h
      cases (show (none : Option (Int32)) = some r0 from h)
    | succ n ih =>
      intro x8 h
      unfold fX10_endOfToken_20_L42 at h
      refine j_iload_n C 1 rfl dX10_endOfToken_42 rfl ?_
      refine j_aload_n C 0 rfl dX10_endOfToken_43 rfl ?_
      refine fg_X10_34_TC_20 C dX10_endOfToken_44 ?_
      refine j_icmp_ge (tgt := 64) C dX10_endOfToken_47 (by decide) (fun c9 => ?_) (fun c9 => ?_)
      · have h := (if_pos c9).symm.trans h
        refine j_iload_n C 1 rfl dX10_endOfToken_64 rfl ?_
        cases h
        exact j_iret C hr hlk rfl dX10_endOfToken_65
      · have h := (if_neg c9).symm.trans h
        refine j_aload_n C 0 rfl dX10_endOfToken_50 rfl ?_
        refine j_iload_n C 1 rfl dX10_endOfToken_51 rfl ?_
        obtain ⟨r10, h11, h⟩ := bd1_elim h
        refine j_callV (As := [.int x8]) (rest := []) C (kX10_isDigit_20 l B D ad cA hI S V L x8 _ h11) mw_X10_isDigit wd783 wd11 wd781 tc_20 rfl rfl ⟨rfl, rfl, by decide, by decide⟩ ⟨Nat.zero_le _, Nat.zero_le _⟩ rfl rfl (Nat.le_of_ble_eq_true rfl) dX10_endOfToken_52 ?_
        refine j_if_eq (tgt := 64) C dX10_endOfToken_55 (by decide) (fun c12 => ?_) (fun c12 => ?_)
        · have h := (if_pos c12).symm.trans h
          refine j_iload_n C 1 rfl dX10_endOfToken_64 rfl ?_
          cases h
          exact j_iret C hr hlk rfl dX10_endOfToken_65
        · have h := (if_neg c12).symm.trans h
          refine lt_elim h (fun x13 e_x13 h => ?_)
          refine j_iinc C [(2, .int x13), (0, .ref (ad 20))] 1 dX10_endOfToken_58 rfl ((iinc_eq ci_1).trans e_x13.symm) (by decide) rfl ?_
          refine j_goto (tgt := 42) C dX10_endOfToken_61 (by decide) ?_
          exact j_sub [1, 0] rfl (ih _ h)
  have H_fX10_endOfToken_20_L12 : ∀ (n : Nat) (x14 : Int32), fX10_endOfToken_20_L12 S V n x14 = some r0 → jW p l e ({ frames := 1, cells := 0, slots := 0, locals := 21 }) s m args below meth c (MQ below (jQc D TC ad cA (some (.int r0)) s.heap.size S V L) args s 0 0 (jA ad TC s.heap.size)) D TC ad cA (jA ad TC s.heap.size) 3 0 0 12 [(0, .ref (ad 20)), (2, .int x14)] [] S V L := by
    intro n
    induction n with
    | zero =>
      intro x14 h
      cases (show (none : Option (Int32)) = some r0 from h)
    | succ n ih =>
      intro x14 h
      unfold fX10_endOfToken_20_L12 at h
      refine j_iload_n C 1 rfl dX10_endOfToken_12 rfl ?_
      refine j_aload_n C 0 rfl dX10_endOfToken_13 rfl ?_
      refine fg_X10_34_TC_20 C dX10_endOfToken_14 ?_
      refine j_icmp_ge (tgt := 64) C dX10_endOfToken_17 (by decide) (fun c15 => ?_) (fun c15 => ?_)
      · have h := (if_pos c15).symm.trans h
        refine j_iload_n C 1 rfl dX10_endOfToken_64 rfl ?_
        cases h
        exact j_iret C hr hlk rfl dX10_endOfToken_65
      · have h := (if_neg c15).symm.trans h
        refine j_aload_n C 0 rfl dX10_endOfToken_20 rfl ?_
        refine j_iload_n C 1 rfl dX10_endOfToken_21 rfl ?_
        obtain ⟨r16, h17, h⟩ := bd1_elim h
        refine j_callV (As := [.int x14]) (rest := []) C (kX10_isLetter_20 l B D ad cA hI S V L x14 _ h17) mw_X10_isLetter wd779 wd10 wd777 tc_20 rfl rfl ⟨rfl, rfl, by decide, by decide⟩ ⟨Nat.zero_le _, Nat.zero_le _⟩ rfl rfl (Nat.le_of_ble_eq_true rfl) dX10_endOfToken_22 ?_
        refine j_if_eq (tgt := 64) C dX10_endOfToken_25 (by decide) (fun c18 => ?_) (fun c18 => ?_)
        · have h := (if_pos c18).symm.trans h
          refine j_iload_n C 1 rfl dX10_endOfToken_64 rfl ?_
          cases h
          exact j_iret C hr hlk rfl dX10_endOfToken_65
        · have h := (if_neg c18).symm.trans h
          refine lt_elim h (fun x19 e_x19 h => ?_)
          refine j_iinc C [(2, .int x19), (0, .ref (ad 20))] 1 dX10_endOfToken_28 rfl ((iinc_eq ci_1).trans e_x19.symm) (by decide) rfl ?_
          refine j_goto (tgt := 12) C dX10_endOfToken_31 (by decide) ?_
          exact j_sub [1, 0] rfl (ih _ h)
  refine j_iload_n C 1 rfl dX10_endOfToken_0 rfl ?_
  refine j_iconst C dX10_endOfToken_1 ci_1 ?_
  refine j_iadd C dX10_endOfToken_2 ?_
  refine lt_elim h (fun x1 e_x1 h => ?_)
  refine j_top e_x1 ?_
  refine j_istore_n C [(2, .int x1), (0, .ref (ad 20)), (1, .int a1)] dX10_endOfToken_3 rfl (by decide) rfl ?_
  refine j_aload_n C 1 rfl dX10_endOfToken_4 rfl ?_
  refine j_iload_n C 2 rfl dX10_endOfToken_5 rfl ?_
  obtain ⟨r2, h3, h⟩ := bd1_elim h
  refine j_callV (As := [.int a1]) (rest := []) C (kX10_isLetter_20 l B D ad cA hI S V L a1 _ h3) mw_X10_isLetter wd779 wd10 wd777 tc_20 rfl rfl ⟨rfl, rfl, by decide, by decide⟩ ⟨Nat.zero_le _, Nat.zero_le _⟩ rfl rfl (Nat.le_of_ble_eq_true rfl) dX10_endOfToken_6 ?_
  refine j_if_eq (tgt := 34) C dX10_endOfToken_9 (by decide) (fun c4 => ?_) (fun c4 => ?_)
  · have h := (if_pos c4).symm.trans h
    refine j_aload_n C 1 rfl dX10_endOfToken_34 rfl ?_
    refine j_iload_n C 2 rfl dX10_endOfToken_35 rfl ?_
    obtain ⟨r5, h6, h⟩ := bd1_elim h
    refine j_callV (As := [.int a1]) (rest := []) C (kX10_isDigit_20 l B D ad cA hI S V L a1 _ h6) mw_X10_isDigit wd783 wd11 wd781 tc_20 rfl rfl ⟨rfl, rfl, by decide, by decide⟩ ⟨Nat.zero_le _, Nat.zero_le _⟩ rfl rfl (Nat.le_of_ble_eq_true rfl) dX10_endOfToken_36 ?_
    refine j_if_eq (tgt := 64) C dX10_endOfToken_39 (by decide) (fun c7 => ?_) (fun c7 => ?_)
    · have h := (if_pos c7).symm.trans h
      refine j_iload_n C 0 rfl dX10_endOfToken_64 rfl ?_
      cases h
      exact j_iret C hr hlk rfl dX10_endOfToken_65
    · have h := (if_neg c7).symm.trans h
      exact j_sub [1, 0] rfl (H_fX10_endOfToken_20_L42 FU _ h)
  · have h := (if_neg c4).symm.trans h
    exact j_sub [1, 0] rfl (H_fX10_endOfToken_20_L12 FU _ h)
theorem dX10_isWord_0 : decode cX10_isWord 0 = .ok (.aload_n 0, 1) := by decide +kernel
theorem dX10_isWord_1 : decode cX10_isWord 1 = .ok (.getfield 15, 3) := by decide +kernel
theorem dX10_isWord_4 : decode cX10_isWord 4 = .ok (.aload_n 0, 1) := by decide +kernel
theorem dX10_isWord_5 : decode cX10_isWord 5 = .ok (.getfield 44, 3) := by decide +kernel
theorem dX10_isWord_8 : decode cX10_isWord 8 = .ok (.iaload, 1) := by decide +kernel
theorem dX10_isWord_9 : decode cX10_isWord 9 = .ok (.bipush 100, 2) := by decide +kernel
theorem dX10_isWord_11 : decode cX10_isWord 11 = .ok (.if_icmp .lt 7, 3) := by decide +kernel
theorem dX10_isWord_14 : decode cX10_isWord 14 = .ok (.iconst 1, 1) := by decide +kernel
theorem dX10_isWord_15 : decode cX10_isWord 15 = .ok (.goto 4, 3) := by decide +kernel
theorem dX10_isWord_18 : decode cX10_isWord 18 = .ok (.iconst 0, 1) := by decide +kernel
theorem dX10_isWord_19 : decode cX10_isWord 19 = .ok (.ireturn, 1) := by decide +kernel
def fX10_isWord_20 (S : Nat → Int32) (V : Nat → Nat → Int32) : Option (Int32) :=
  lt ((S 2005)) (fun x1 =>
  gd (ib x1 601) (
  (if (V 22 (x1).toNatClampNeg) < (100 : Int32) then
  some (0 : Int32)
  else
  some (1 : Int32))))
set_option maxHeartbeats 4000000 in
set_option maxRecDepth 100000 in
theorem kX10_isWord_20 (l : Launch) (B : jBT) (D : va_G) (ad : Nat → Nat) (cA : Nat → ClassId) (hI : jI ad TC) (S : Nat → Int32) (V : Nat → Nat → Int32) (L : Nat → Int64) (r0 : Int32) (h : fX10_isWord_20 S V = some r0) : jM l yX10_isWord cX10_isWord 1 (some .boolean) ({ frames := 0, cells := 0, slots := 0, locals := 0 }) B D TC ad cA [.ref (ad 20)] S V L (some (.int r0)) S V L := by
  refine jM_of (plainFor_of_name (by decide)) TC_ok hI (Nat.le_of_ble_eq_true rfl) ?_
  intro p e s m args below meth c C hr hlk
  refine j_lv (lv2 := [(0, .ref (ad 20))]) rfl ?_
  unfold fX10_isWord_20 at h
  refine j_aload_n C 0 rfl dX10_isWord_0 rfl ?_
  refine fg_X10_15_TC_20 C dX10_isWord_1 ?_
  refine j_aload_n C 0 rfl dX10_isWord_4 rfl ?_
  refine fg_X10_44_TC_20 C dX10_isWord_5 ?_
  refine lt_elim h (fun x1 e_x1 h => ?_)
  refine j_top e_x1 ?_
  obtain ⟨g2, h⟩ := gd_elim h
  refine j_iald C tc_22 (ib_in g2) dX10_isWord_8 ?_
  refine j_bipush C dX10_isWord_9 cb_100 ?_
  refine j_icmp_lt (tgt := 18) C dX10_isWord_11 (by decide) (fun c3 => ?_) (fun c3 => ?_)
  · have h := (if_pos c3).symm.trans h
    refine j_iconst C dX10_isWord_18 ci_0 ?_
    cases h
    exact j_zret C hr hlk rfl rfl dX10_isWord_19
  · have h := (if_neg c3).symm.trans h
    refine j_iconst C dX10_isWord_14 ci_1 ?_
    refine j_goto (tgt := 19) C dX10_isWord_15 (by decide) ?_
    cases h
    exact j_zret C hr hlk rfl rfl dX10_isWord_19
theorem dJ0_isLatin1_aae02_0 : decode cJ0_isLatin1_aae02 0 = .ok (.getstatic 38, 3) := by decide +kernel
theorem dJ0_isLatin1_aae02_3 : decode cJ0_isLatin1_aae02 3 = .ok (.ifCond .eq 14, 3) := by decide +kernel
theorem dJ0_isLatin1_aae02_6 : decode cJ0_isLatin1_aae02 6 = .ok (.aload_n 0, 1) := by decide +kernel
theorem dJ0_isLatin1_aae02_7 : decode cJ0_isLatin1_aae02 7 = .ok (.getfield 15, 3) := by decide +kernel
theorem dJ0_isLatin1_aae02_10 : decode cJ0_isLatin1_aae02 10 = .ok (.ifCond .ne 7, 3) := by decide +kernel
theorem dJ0_isLatin1_aae02_13 : decode cJ0_isLatin1_aae02 13 = .ok (.iconst 1, 1) := by decide +kernel
theorem dJ0_isLatin1_aae02_14 : decode cJ0_isLatin1_aae02 14 = .ok (.goto 4, 3) := by decide +kernel
theorem dJ0_isLatin1_aae02_18 : decode cJ0_isLatin1_aae02 18 = .ok (.ireturn, 1) := by decide +kernel
def fJ0_isLatin1_aae02_s1 : Option (Int32) :=
  some (1 : Int32)
set_option maxHeartbeats 4000000 in
set_option maxRecDepth 100000 in
theorem kJ0_isLatin1_aae02_s1 (l : Launch) (B : jBT) (D : va_G) (ad : Nat → Nat) (cA : Nat → ClassId) (hI : jI ad TC) (S : Nat → Int32) (V : Nat → Nat → Int32) (L : Nat → Int64) (r0 : Int32) (h : fJ0_isLatin1_aae02_s1 = some r0) : jM l yJ0_isLatin1_aae02 cJ0_isLatin1_aae02 1 (some .boolean) ({ frames := 0, cells := 0, slots := 0, locals := 0 }) B D TC ad cA [.ref (B.2.1 1)] S V L (some (.int r0)) S V L := by
  refine jM_of (plainFor_of_name (by decide)) TC_ok hI (Nat.le_of_ble_eq_true rfl) ?_
  intro p e s m args below meth c C hr hlk
  refine j_lv (lv2 := [(0, .ref (B.2.1 1))]) rfl ?_
  unfold fJ0_isLatin1_aae02_s1 at h
  refine j_compact C wd802 dJ0_isLatin1_aae02_0 ?_
  refine j_if_eq (tgt := 17) C dJ0_isLatin1_aae02_3 (by decide) (fun c => absurd c (by decide)) (fun _ => ?_)
  refine j_aload_n C 0 rfl dJ0_isLatin1_aae02_6 rfl ?_
  refine j_scod C (by decide) wd1982 dJ0_isLatin1_aae02_7 ?_
  refine j_if_ne (tgt := 17) C dJ0_isLatin1_aae02_10 (by decide) (fun c => absurd c (by decide)) (fun _ => ?_)
  refine j_iconst C dJ0_isLatin1_aae02_13 ci_1 ?_
  refine j_goto (tgt := 18) C dJ0_isLatin1_aae02_14 (by decide) ?_
  cases h
  exact j_zret C hr hlk rfl rfl dJ0_isLatin1_aae02_18
theorem dJ3_checkIndex_8e157_0 : decode cJ3_checkIndex_8e157 0 = .ok (.iload_n 0, 1) := by decide +kernel
theorem dJ3_checkIndex_8e157_1 : decode cJ3_checkIndex_8e157 1 = .ok (.ifCond .lt 8, 3) := by decide +kernel
theorem dJ3_checkIndex_8e157_4 : decode cJ3_checkIndex_8e157 4 = .ok (.iload_n 0, 1) := by decide +kernel
theorem dJ3_checkIndex_8e157_5 : decode cJ3_checkIndex_8e157 5 = .ok (.iload_n 1, 1) := by decide +kernel
theorem dJ3_checkIndex_8e157_6 : decode cJ3_checkIndex_8e157 6 = .ok (.if_icmp .lt 10, 3) := by decide +kernel
theorem dJ3_checkIndex_8e157_9 : decode cJ3_checkIndex_8e157 9 = .ok (.aload_n 2, 1) := by decide +kernel
theorem dJ3_checkIndex_8e157_10 : decode cJ3_checkIndex_8e157 10 = .ok (.iload_n 0, 1) := by decide +kernel
theorem dJ3_checkIndex_8e157_11 : decode cJ3_checkIndex_8e157 11 = .ok (.iload_n 1, 1) := by decide +kernel
theorem dJ3_checkIndex_8e157_12 : decode cJ3_checkIndex_8e157 12 = .ok (.invokestatic 95, 3) := by decide +kernel
theorem dJ3_checkIndex_8e157_16 : decode cJ3_checkIndex_8e157 16 = .ok (.iload_n 0, 1) := by decide +kernel
theorem dJ3_checkIndex_8e157_17 : decode cJ3_checkIndex_8e157 17 = .ok (.ireturn, 1) := by decide +kernel
def fJ3_checkIndex_8e157 (a1 : Int32) (a2 : Int32) : Option (Int32) :=
  bk (fun (x2 : Int32) (x3 : Int32) =>
  none) (fun K9_1 =>
  (if a1 < 0 then
  K9_1 a1 a2
  else
  (if a1 < a2 then
  some a1
  else
  K9_1 a1 a2)))
set_option maxHeartbeats 4000000 in
set_option maxRecDepth 100000 in
theorem kJ3_checkIndex_8e157_n (l : Launch) (B : jBT) (D : va_G) (ad : Nat → Nat) (cA : Nat → ClassId) (hI : jI ad TC) (S : Nat → Int32) (V : Nat → Nat → Int32) (L : Nat → Int64) (a1 : Int32) (a2 : Int32) (r0 : Int32) (h : fJ3_checkIndex_8e157 a1 a2 = some r0) : jM l yJ3_checkIndex_8e157 cJ3_checkIndex_8e157 3 (some .int) ({ frames := 0, cells := 0, slots := 0, locals := 0 }) B D TC ad cA [.int a1, .int a2, .null] S V L (some (.int r0)) S V L := by
  refine jM_of (plainFor_of_name (by decide)) TC_ok hI (Nat.le_of_ble_eq_true rfl) ?_
  intro p e s m args below meth c C hr hlk
  refine j_lv (lv2 := [(0, .int a1), (1, .int a2), (2, .null)]) rfl ?_
  unfold fJ3_checkIndex_8e157 at h
  refine j_iload_n C 0 rfl dJ3_checkIndex_8e157_0 rfl ?_
  refine bk_elim h (fun K9_1 e_K9_1 h => ?_)
  have HK9_1 : ∀ (x2 : Int32) (x3 : Int32), K9_1 x2 x3 = some r0 → jW p l e ({ frames := 0, cells := 0, slots := 0, locals := 0 }) s m args below meth c (MQ below (jQc D TC ad cA (some (.int r0)) s.heap.size S V L) args s 0 0 (jA ad TC s.heap.size)) D TC ad cA (jA ad TC s.heap.size) 3 0 0 9 [(0, .int x2), (1, .int x3), (2, .null)] [] S V L := by
    subst e_K9_1
    intro x2 x3 h
    cases h
  refine j_if_lt (tgt := 9) C dJ3_checkIndex_8e157_1 (by decide) (fun c4 => ?_) (fun c4 => ?_)
  · have h := (if_pos c4).symm.trans h
    exact j_sub [0, 1, 2] rfl (HK9_1 _ _ h)
  · have h := (if_neg c4).symm.trans h
    refine j_iload_n C 0 rfl dJ3_checkIndex_8e157_4 rfl ?_
    refine j_iload_n C 1 rfl dJ3_checkIndex_8e157_5 rfl ?_
    refine j_icmp_lt (tgt := 16) C dJ3_checkIndex_8e157_6 (by decide) (fun c5 => ?_) (fun c5 => ?_)
    · have h := (if_pos c5).symm.trans h
      refine j_iload_n C 0 rfl dJ3_checkIndex_8e157_16 rfl ?_
      cases h
      exact j_iret C hr hlk rfl dJ3_checkIndex_8e157_17
    · have h := (if_neg c5).symm.trans h
      exact j_sub [0, 1, 2] rfl (HK9_1 _ _ h)
set_option maxHeartbeats 4000000 in
set_option maxRecDepth 100000 in
theorem kJ3_checkIndex_8e157_t (l : Launch) (B : jBT) (D : va_G) (ad : Nat → Nat) (cA : Nat → ClassId) (hI : jI ad TC) (tt : Nat) (S : Nat → Int32) (V : Nat → Nat → Int32) (L : Nat → Int64) (a1 : Int32) (a2 : Int32) (r0 : Int32) (h : fJ3_checkIndex_8e157 a1 a2 = some r0) : jM l yJ3_checkIndex_8e157 cJ3_checkIndex_8e157 3 (some .int) ({ frames := 0, cells := 0, slots := 0, locals := 0 }) B D TC ad cA [.int a1, .int a2, .ref tt] S V L (some (.int r0)) S V L := by
  refine jM_of (plainFor_of_name (by decide)) TC_ok hI (Nat.le_of_ble_eq_true rfl) ?_
  intro p e s m args below meth c C hr hlk
  refine j_lv (lv2 := [(0, .int a1), (1, .int a2), (2, .ref tt)]) rfl ?_
  unfold fJ3_checkIndex_8e157 at h
  refine j_iload_n C 0 rfl dJ3_checkIndex_8e157_0 rfl ?_
  refine bk_elim h (fun K9_1 e_K9_1 h => ?_)
  have HK9_1 : ∀ (x2 : Int32) (x3 : Int32), K9_1 x2 x3 = some r0 → jW p l e ({ frames := 0, cells := 0, slots := 0, locals := 0 }) s m args below meth c (MQ below (jQc D TC ad cA (some (.int r0)) s.heap.size S V L) args s 0 0 (jA ad TC s.heap.size)) D TC ad cA (jA ad TC s.heap.size) 3 0 0 9 [(0, .int x2), (1, .int x3), (2, .ref tt)] [] S V L := by
    subst e_K9_1
    intro x2 x3 h
    cases h
  refine j_if_lt (tgt := 9) C dJ3_checkIndex_8e157_1 (by decide) (fun c4 => ?_) (fun c4 => ?_)
  · have h := (if_pos c4).symm.trans h
    exact j_sub [0, 1, 2] rfl (HK9_1 _ _ h)
  · have h := (if_neg c4).symm.trans h
    refine j_iload_n C 0 rfl dJ3_checkIndex_8e157_4 rfl ?_
    refine j_iload_n C 1 rfl dJ3_checkIndex_8e157_5 rfl ?_
    refine j_icmp_lt (tgt := 16) C dJ3_checkIndex_8e157_6 (by decide) (fun c5 => ?_) (fun c5 => ?_)
    · have h := (if_pos c5).symm.trans h
      refine j_iload_n C 0 rfl dJ3_checkIndex_8e157_16 rfl ?_
      cases h
      exact j_iret C hr hlk rfl dJ3_checkIndex_8e157_17
    · have h := (if_neg c5).symm.trans h
      exact j_sub [0, 1, 2] rfl (HK9_1 _ _ h)
theorem dJ0_checkIndex_df160_0 : decode cJ0_checkIndex_df160 0 = .ok (.iload_n 0, 1) := by decide +kernel
theorem dJ0_checkIndex_df160_1 : decode cJ0_checkIndex_df160 1 = .ok (.iload_n 1, 1) := by decide +kernel
theorem dJ0_checkIndex_df160_2 : decode cJ0_checkIndex_df160 2 = .ok (.getstatic 1053, 3) := by decide +kernel
theorem dJ0_checkIndex_df160_5 : decode cJ0_checkIndex_df160 5 = .ok (.invokestatic 1059, 3) := by decide +kernel
theorem dJ0_checkIndex_df160_8 : decode cJ0_checkIndex_df160 8 = .ok (.pop, 1) := by decide +kernel
theorem dJ0_checkIndex_df160_9 : decode cJ0_checkIndex_df160 9 = .ok (.return_, 1) := by decide +kernel
def fJ0_checkIndex_df160 (a1 : Int32) (a2 : Int32) : Option (Unit) :=
  bd1 (fJ3_checkIndex_8e157 a1 a2) (fun r2 =>
  some ())
set_option maxHeartbeats 4000000 in
set_option maxRecDepth 100000 in
theorem kJ0_checkIndex_df160 (l : Launch) (B : jBT) (D : va_G) (ad : Nat → Nat) (cA : Nat → ClassId) (hI : jI ad TC) (S : Nat → Int32) (V : Nat → Nat → Int32) (L : Nat → Int64) (a1 : Int32) (a2 : Int32) (h : fJ0_checkIndex_df160 a1 a2 = some ()) : jM l yJ0_checkIndex_df160 cJ0_checkIndex_df160 2 none ({ frames := 1, cells := 0, slots := 0, locals := 22 }) B D TC ad cA [.int a1, .int a2] S V L none S V L := by
  refine jM_of (plainFor_of_name (by decide)) TC_ok hI (Nat.le_of_ble_eq_true rfl) ?_
  intro p e s m args below meth c C hr hlk
  refine j_lv (lv2 := [(0, .int a1), (1, .int a2)]) rfl ?_
  unfold fJ0_checkIndex_df160 at h
  refine j_iload_n C 0 rfl dJ0_checkIndex_df160_0 rfl ?_
  refine j_iload_n C 1 rfl dJ0_checkIndex_df160_1 rfl ?_
  refine j_sio C wd818 dJ0_checkIndex_df160_2 (fun tv1 => ?_) ?_
  · obtain ⟨r2, h3, h⟩ := bd1_elim h
    refine j_callS (As := [.int a1, .int a2, .ref tv1]) (rest := []) C (kJ3_checkIndex_8e157_t l B D ad cA hI tv1 S V L a1 a2 _ h3) mw_J3_checkIndex_8e157 wd821 wd820 ⟨rfl, rfl, by decide, by decide⟩ ⟨Nat.zero_le _, Nat.zero_le _⟩ rfl rfl (Nat.le_of_ble_eq_true rfl) dJ0_checkIndex_df160_5 ?_
    refine j_pop C dJ0_checkIndex_df160_8 rfl ?_
    cases h
    exact j_vret C hr hlk rfl dJ0_checkIndex_df160_9
  · obtain ⟨r4, h5, h⟩ := bd1_elim h
    refine j_callS (As := [.int a1, .int a2, .null]) (rest := []) C (kJ3_checkIndex_8e157_n l B D ad cA hI S V L a1 a2 _ h5) mw_J3_checkIndex_8e157 wd821 wd820 ⟨rfl, rfl, by decide, by decide⟩ ⟨Nat.zero_le _, Nat.zero_le _⟩ rfl rfl (Nat.le_of_ble_eq_true rfl) dJ0_checkIndex_df160_5 ?_
    refine j_pop C dJ0_checkIndex_df160_8 rfl ?_
    cases h
    exact j_vret C hr hlk rfl dJ0_checkIndex_df160_9
theorem dJ1_charAt_3b067_0 : decode cJ1_charAt_3b067 0 = .ok (.iload_n 1, 1) := by decide +kernel
theorem dJ1_charAt_3b067_1 : decode cJ1_charAt_3b067 1 = .ok (.aload_n 0, 1) := by decide +kernel
theorem dJ1_charAt_3b067_2 : decode cJ1_charAt_3b067 2 = .ok (.arraylength, 1) := by decide +kernel
theorem dJ1_charAt_3b067_3 : decode cJ1_charAt_3b067 3 = .ok (.invokestatic 9, 3) := by decide +kernel
theorem dJ1_charAt_3b067_6 : decode cJ1_charAt_3b067 6 = .ok (.aload_n 0, 1) := by decide +kernel
theorem dJ1_charAt_3b067_7 : decode cJ1_charAt_3b067 7 = .ok (.iload_n 1, 1) := by decide +kernel
theorem dJ1_charAt_3b067_8 : decode cJ1_charAt_3b067 8 = .ok (.baload, 1) := by decide +kernel
theorem dJ1_charAt_3b067_9 : decode cJ1_charAt_3b067 9 = .ok (.sipush 255, 3) := by decide +kernel
theorem dJ1_charAt_3b067_12 : decode cJ1_charAt_3b067 12 = .ok (.iand, 1) := by decide +kernel
theorem dJ1_charAt_3b067_13 : decode cJ1_charAt_3b067 13 = .ok (.i2c, 1) := by decide +kernel
theorem dJ1_charAt_3b067_14 : decode cJ1_charAt_3b067 14 = .ok (.ireturn, 1) := by decide +kernel
def fJ1_charAt_3b067_v1 (a1 : Int32) : Option (Int32) :=
  bd0 (fJ0_checkIndex_df160 a1 (99 : Int32)) (
  gd (ib a1 99) (
  lt (((sch 1 (a1).toNatClampNeg) &&& (255 : Int32))) (fun x3 =>
  lt ((((x3).toUInt32 % 65536).toInt32)) (fun x4 =>
  gd (isch x4) (
  some x4)))))
set_option maxHeartbeats 4000000 in
set_option maxRecDepth 100000 in
theorem kJ1_charAt_3b067_v1 (l : Launch) (B : jBT) (D : va_G) (ad : Nat → Nat) (cA : Nat → ClassId) (hI : jI ad TC) (S : Nat → Int32) (V : Nat → Nat → Int32) (L : Nat → Int64) (a1 : Int32) (r0 : Int32) (h : fJ1_charAt_3b067_v1 a1 = some r0) : jM l yJ1_charAt_3b067 cJ1_charAt_3b067 2 (some .char) ({ frames := 2, cells := 0, slots := 0, locals := 43 }) B D TC ad cA [.ref (B.2.2 1), .int a1] S V L (some (.int r0)) S V L := by
  refine jM_of (plainFor_of_name (by decide)) TC_ok hI (Nat.le_of_ble_eq_true rfl) ?_
  intro p e s m args below meth c C hr hlk
  refine j_lv (lv2 := [(0, .ref (B.2.2 1)), (1, .int a1)]) rfl ?_
  unfold fJ1_charAt_3b067_v1 at h
  refine j_iload_n C 1 rfl dJ1_charAt_3b067_0 rfl ?_
  refine j_aload_n C 0 rfl dJ1_charAt_3b067_1 rfl ?_
  refine j_salen (n := 99) (v := (99 : Int32)) (k := 1) C (by decide) rfl (by decide) dJ1_charAt_3b067_2 ?_
  obtain ⟨h1, h⟩ := bd0_elim h
  refine j_callS (As := [.int a1, .int (99 : Int32)]) (rest := []) C (kJ0_checkIndex_df160 l B D ad cA hI S V L a1 (99 : Int32) h1) mw_J0_checkIndex_df160 wd816 wd815 ⟨rfl, rfl, by decide, by decide⟩ ⟨Nat.zero_le _, Nat.zero_le _⟩ rfl rfl (Nat.le_of_ble_eq_true rfl) dJ1_charAt_3b067_3 ?_
  refine j_aload_n C 0 rfl dJ1_charAt_3b067_6 rfl ?_
  refine j_iload_n C 1 rfl dJ1_charAt_3b067_7 rfl ?_
  obtain ⟨g2, h⟩ := gd_elim h
  refine j_sbald (n := 99) (k := 1) C (by decide) rfl (ib_in g2) dJ1_charAt_3b067_8 ?_
  refine j_sipush C dJ1_charAt_3b067_9 cs_255 ?_
  refine j_iand C dJ1_charAt_3b067_12 ?_
  refine lt_elim h (fun x3 e_x3 h => ?_)
  refine j_top e_x3 ?_
  refine j_i2c C dJ1_charAt_3b067_13 ?_
  refine lt_elim h (fun x4 e_x4 h => ?_)
  refine j_top e_x4 ?_
  obtain ⟨g5, h⟩ := gd_elim h
  cases h
  exact j_nret C hr hlk rfl (isch_n g5) dJ1_charAt_3b067_14
theorem dJ0_charAt_5068e_0 : decode cJ0_charAt_5068e 0 = .ok (.aload_n 0, 1) := by decide +kernel
theorem dJ0_charAt_5068e_1 : decode cJ0_charAt_5068e 1 = .ok (.invokevirtual 492, 3) := by decide +kernel
theorem dJ0_charAt_5068e_4 : decode cJ0_charAt_5068e 4 = .ok (.ifCond .eq 12, 3) := by decide +kernel
theorem dJ0_charAt_5068e_7 : decode cJ0_charAt_5068e 7 = .ok (.aload_n 0, 1) := by decide +kernel
theorem dJ0_charAt_5068e_8 : decode cJ0_charAt_5068e 8 = .ok (.getfield 9, 3) := by decide +kernel
theorem dJ0_charAt_5068e_11 : decode cJ0_charAt_5068e 11 = .ok (.iload_n 1, 1) := by decide +kernel
theorem dJ0_charAt_5068e_12 : decode cJ0_charAt_5068e 12 = .ok (.invokestatic 495, 3) := by decide +kernel
theorem dJ0_charAt_5068e_15 : decode cJ0_charAt_5068e 15 = .ok (.ireturn, 1) := by decide +kernel
theorem dJ0_charAt_5068e_16 : decode cJ0_charAt_5068e 16 = .ok (.aload_n 0, 1) := by decide +kernel
theorem dJ0_charAt_5068e_17 : decode cJ0_charAt_5068e 17 = .ok (.getfield 9, 3) := by decide +kernel
theorem dJ0_charAt_5068e_20 : decode cJ0_charAt_5068e 20 = .ok (.iload_n 1, 1) := by decide +kernel
theorem dJ0_charAt_5068e_21 : decode cJ0_charAt_5068e 21 = .ok (.invokestatic 498, 3) := by decide +kernel
def fJ0_charAt_5068e_s1 (a1 : Int32) : Option (Int32) :=
  bd1 (fJ0_isLatin1_aae02_s1) (fun r1 =>
  (if r1 = 0 then
  none
  else
  bd1 (fJ1_charAt_3b067_v1 a1) (fun r4 =>
  gd (isch r4) (
  some r4))))
set_option maxHeartbeats 4000000 in
set_option maxRecDepth 100000 in
theorem kJ0_charAt_5068e_s1 (l : Launch) (B : jBT) (D : va_G) (ad : Nat → Nat) (cA : Nat → ClassId) (hI : jI ad TC) (S : Nat → Int32) (V : Nat → Nat → Int32) (L : Nat → Int64) (a1 : Int32) (r0 : Int32) (h : fJ0_charAt_5068e_s1 a1 = some r0) : jM l yJ0_charAt_5068e cJ0_charAt_5068e 2 (some .char) ({ frames := 3, cells := 0, slots := 0, locals := 64 }) B D TC ad cA [.ref (B.2.1 1), .int a1] S V L (some (.int r0)) S V L := by
  refine jM_of (plainFor_of_name (by decide)) TC_ok hI (Nat.le_of_ble_eq_true rfl) ?_
  intro p e s m args below meth c C hr hlk
  refine j_lv (lv2 := [(0, .ref (B.2.1 1)), (1, .int a1)]) rfl ?_
  unfold fJ0_charAt_5068e_s1 at h
  refine j_aload_n C 0 rfl dJ0_charAt_5068e_0 rfl ?_
  obtain ⟨r1, h2, h⟩ := bd1_elim h
  refine j_callT (k := 1) (As := []) (rest := []) C (kJ0_isLatin1_aae02_s1 l B D ad cA hI S V L _ h2) mw_J0_isLatin1_aae02 wd809 wd810 wd808 (by decide) rfl ⟨rfl, rfl, by decide, by decide⟩ ⟨Nat.zero_le _, Nat.zero_le _⟩ rfl rfl (Nat.le_of_ble_eq_true rfl) dJ0_charAt_5068e_1 ?_
  refine j_if_eq (tgt := 16) C dJ0_charAt_5068e_4 (by decide) (fun c3 => ?_) (fun c3 => ?_)
  · have h := (if_pos c3).symm.trans h
    cases h
  · have h := (if_neg c3).symm.trans h
    refine j_aload_n C 0 rfl dJ0_charAt_5068e_7 rfl ?_
    refine j_sval C (by decide) wd1981 dJ0_charAt_5068e_8 ?_
    refine j_iload_n C 1 rfl dJ0_charAt_5068e_11 rfl ?_
    obtain ⟨r4, h5, h⟩ := bd1_elim h
    refine j_callS (As := [.ref (B.2.2 1), .int a1]) (rest := []) C (kJ1_charAt_3b067_v1 l B D ad cA hI S V L a1 _ h5) mw_J1_charAt_3b067 wd813 wd812 ⟨rfl, rfl, by decide, by decide⟩ ⟨Nat.zero_le _, Nat.zero_le _⟩ rfl rfl (Nat.le_of_ble_eq_true rfl) dJ0_charAt_5068e_12 ?_
    obtain ⟨g6, h⟩ := gd_elim h
    cases h
    exact j_nret C hr hlk rfl (isch_n g6) dJ0_charAt_5068e_15
theorem dX10_isWordAt_0 : decode cX10_isWordAt 0 = .ok (.iload_n 2, 1) := by decide +kernel
theorem dX10_isWordAt_1 : decode cX10_isWordAt 1 = .ok (.istore 4, 2) := by decide +kernel
theorem dX10_isWordAt_3 : decode cX10_isWordAt 3 = .ok (.iload 4, 2) := by decide +kernel
theorem dX10_isWordAt_5 : decode cX10_isWordAt 5 = .ok (.iload_n 3, 1) := by decide +kernel
theorem dX10_isWordAt_6 : decode cX10_isWordAt 6 = .ok (.if_icmp .ge 32, 3) := by decide +kernel
theorem dX10_isWordAt_9 : decode cX10_isWordAt 9 = .ok (.ldc 75, 2) := by decide +kernel
theorem dX10_isWordAt_11 : decode cX10_isWordAt 11 = .ok (.iload_n 1, 1) := by decide +kernel
theorem dX10_isWordAt_12 : decode cX10_isWordAt 12 = .ok (.iload 4, 2) := by decide +kernel
theorem dX10_isWordAt_14 : decode cX10_isWordAt 14 = .ok (.iadd, 1) := by decide +kernel
theorem dX10_isWordAt_15 : decode cX10_isWordAt 15 = .ok (.iload_n 2, 1) := by decide +kernel
theorem dX10_isWordAt_16 : decode cX10_isWordAt 16 = .ok (.isub, 1) := by decide +kernel
theorem dX10_isWordAt_17 : decode cX10_isWordAt 17 = .ok (.invokevirtual 81, 3) := by decide +kernel
theorem dX10_isWordAt_20 : decode cX10_isWordAt 20 = .ok (.aload_n 0, 1) := by decide +kernel
theorem dX10_isWordAt_21 : decode cX10_isWordAt 21 = .ok (.getfield 9, 3) := by decide +kernel
theorem dX10_isWordAt_24 : decode cX10_isWordAt 24 = .ok (.iload 4, 2) := by decide +kernel
theorem dX10_isWordAt_26 : decode cX10_isWordAt 26 = .ok (.baload, 1) := by decide +kernel
theorem dX10_isWordAt_27 : decode cX10_isWordAt 27 = .ok (.if_icmp .eq 5, 3) := by decide +kernel
theorem dX10_isWordAt_30 : decode cX10_isWordAt 30 = .ok (.iconst 0, 1) := by decide +kernel
theorem dX10_isWordAt_31 : decode cX10_isWordAt 31 = .ok (.ireturn, 1) := by decide +kernel
theorem dX10_isWordAt_32 : decode cX10_isWordAt 32 = .ok (.iinc 4 1, 3) := by decide +kernel
theorem dX10_isWordAt_35 : decode cX10_isWordAt 35 = .ok (.goto (-32), 3) := by decide +kernel
theorem dX10_isWordAt_38 : decode cX10_isWordAt 38 = .ok (.iconst 1, 1) := by decide +kernel
theorem dX10_isWordAt_39 : decode cX10_isWordAt 39 = .ok (.ireturn, 1) := by decide +kernel
def fX10_isWordAt_20_L3 (V : Nat → Nat → Int32) : Nat → Int32 → Int32 → Int32 → Int32 → Option (Int32)
  | 0, _, _, _, _ => none
  | n + 1, x1, x2, x3, x4 =>
    (if x3 ≤ x4 then
    some (1 : Int32)
    else
    bd1 (fJ0_charAt_5068e_s1 (((x1 + x4) - x2))) (fun r6 =>
    gd (ib x4 600) (
    (if r6 = (V 21 (x4).toNatClampNeg) then
    lt (x4 + (1 : Int32)) (fun x10 =>
    fX10_isWordAt_20_L3 V n x1 x2 x3 x10)
    else
    some (0 : Int32)))))
def fX10_isWordAt_20 (V : Nat → Nat → Int32) (a1 : Int32) (a2 : Int32) (a3 : Int32) : Option (Int32) :=
  fX10_isWordAt_20_L3 V FU a1 a2 a3 a2
set_option maxHeartbeats 4000000 in
set_option maxRecDepth 100000 in
theorem kX10_isWordAt_20 (l : Launch) (B : jBT) (D : va_G) (ad : Nat → Nat) (cA : Nat → ClassId) (hI : jI ad TC) (S : Nat → Int32) (V : Nat → Nat → Int32) (L : Nat → Int64) (a1 : Int32) (a2 : Int32) (a3 : Int32) (r0 : Int32) (h : fX10_isWordAt_20 V a1 a2 a3 = some r0) : jM l yX10_isWordAt cX10_isWordAt 5 (some .boolean) ({ frames := 4, cells := 0, slots := 0, locals := 85 }) B D TC ad cA [.ref (ad 20), .int a1, .int a2, .int a3] S V L (some (.int r0)) S V L := by
  refine jM_of (plainFor_of_name (by decide)) TC_ok hI (Nat.le_of_ble_eq_true rfl) ?_
  intro p e s m args below meth c C hr hlk
  refine j_lv (lv2 := [(0, .ref (ad 20)), (1, .int a1), (2, .int a2), (3, .int a3)]) rfl ?_
  unfold fX10_isWordAt_20 at h
  have H_fX10_isWordAt_20_L3 : ∀ (n : Nat) (x1 : Int32) (x2 : Int32) (x3 : Int32) (x4 : Int32), fX10_isWordAt_20_L3 V n x1 x2 x3 x4 = some r0 → jW p l e ({ frames := 4, cells := 0, slots := 0, locals := 85 }) s m args below meth c (MQ below (jQc D TC ad cA (some (.int r0)) s.heap.size S V L) args s 0 0 (jA ad TC s.heap.size)) D TC ad cA (jA ad TC s.heap.size) 5 0 0 3 [(0, .ref (ad 20)), (1, .int x1), (2, .int x2), (3, .int x3), (4, .int x4)] [] S V L := by
    intro n
    induction n with
    | zero =>
      intro x1 x2 x3 x4 h
      cases (show (none : Option (Int32)) = some r0 from h)
    | succ n ih =>
      intro x1 x2 x3 x4 h
      unfold fX10_isWordAt_20_L3 at h
      refine j_iload C 4 rfl dX10_isWordAt_3 ?_
      refine j_iload_n C 3 rfl dX10_isWordAt_5 rfl ?_
      refine j_icmp_ge (tgt := 38) C dX10_isWordAt_6 (by decide) (fun c5 => ?_) (fun c5 => ?_)
      · have h := (if_pos c5).symm.trans h
        refine j_iconst C dX10_isWordAt_38 ci_1 ?_
        cases h
        exact j_zret C hr hlk rfl rfl dX10_isWordAt_39
      · have h := (if_neg c5).symm.trans h
        refine j_sldc (i := 1) C rfl dX10_isWordAt_9 ?_
        refine j_iload_n C 1 rfl dX10_isWordAt_11 rfl ?_
        refine j_iload C 4 rfl dX10_isWordAt_12 ?_
        refine j_iadd C dX10_isWordAt_14 ?_
        refine j_iload_n C 2 rfl dX10_isWordAt_15 rfl ?_
        refine j_isub C dX10_isWordAt_16 ?_
        obtain ⟨r6, h7, h⟩ := bd1_elim h
        refine j_callT (k := 1) (As := [.int ((x1 + x4) - x2)]) (rest := []) C (kJ0_charAt_5068e_s1 l B D ad cA hI S V L (((x1 + x4) - x2)) _ h7) mw_J0_charAt_5068e wd805 wd806 wd804 (by decide) rfl ⟨rfl, rfl, by decide, by decide⟩ ⟨Nat.zero_le _, Nat.zero_le _⟩ rfl rfl (Nat.le_of_ble_eq_true rfl) dX10_isWordAt_17 ?_
        refine j_aload_n C 0 rfl dX10_isWordAt_20 rfl ?_
        refine fg_X10_9_TC_20 C dX10_isWordAt_21 ?_
        refine j_iload C 4 rfl dX10_isWordAt_24 ?_
        obtain ⟨g8, h⟩ := gd_elim h
        refine j_bald C tc_21 (ib_in g8) dX10_isWordAt_26 ?_
        refine j_icmp_eq (tgt := 32) C dX10_isWordAt_27 (by decide) (fun c9 => ?_) (fun c9 => ?_)
        · have h := (if_pos c9).symm.trans h
          refine lt_elim h (fun x10 e_x10 h => ?_)
          refine j_iinc C [(4, .int x10), (0, .ref (ad 20)), (1, .int x1), (2, .int x2), (3, .int x3)] 4 dX10_isWordAt_32 rfl ((iinc_eq ci_1).trans e_x10.symm) (by decide) rfl ?_
          refine j_goto (tgt := 3) C dX10_isWordAt_35 (by decide) ?_
          exact j_sub [1, 2, 3, 4, 0] rfl (ih _ _ _ _ h)
        · have h := (if_neg c9).symm.trans h
          refine j_iconst C dX10_isWordAt_30 ci_0 ?_
          cases h
          exact j_zret C hr hlk rfl rfl dX10_isWordAt_31
  refine j_iload_n C 2 rfl dX10_isWordAt_0 rfl ?_
  refine j_istore C [(4, .int a2), (0, .ref (ad 20)), (1, .int a1), (2, .int a2), (3, .int a3)] dX10_isWordAt_1 (by decide) rfl ?_
  exact j_sub [1, 2, 3, 4, 0] rfl (H_fX10_isWordAt_20_L3 FU _ _ _ _ h)
theorem dX10_kind_0 : decode cX10_kind 0 = .ok (.aload_n 0, 1) := by decide +kernel
theorem dX10_kind_1 : decode cX10_kind 1 = .ok (.getfield 15, 3) := by decide +kernel
theorem dX10_kind_4 : decode cX10_kind 4 = .ok (.aload_n 0, 1) := by decide +kernel
theorem dX10_kind_5 : decode cX10_kind 5 = .ok (.getfield 44, 3) := by decide +kernel
theorem dX10_kind_8 : decode cX10_kind 8 = .ok (.iaload, 1) := by decide +kernel
theorem dX10_kind_9 : decode cX10_kind 9 = .ok (.ireturn, 1) := by decide +kernel
def fX10_kind_20 (S : Nat → Int32) (V : Nat → Nat → Int32) : Option (Int32) :=
  lt ((S 2005)) (fun x1 =>
  gd (ib x1 601) (
  some ((V 22 (x1).toNatClampNeg))))
set_option maxHeartbeats 4000000 in
set_option maxRecDepth 100000 in
theorem kX10_kind_20 (l : Launch) (B : jBT) (D : va_G) (ad : Nat → Nat) (cA : Nat → ClassId) (hI : jI ad TC) (S : Nat → Int32) (V : Nat → Nat → Int32) (L : Nat → Int64) (r0 : Int32) (h : fX10_kind_20 S V = some r0) : jM l yX10_kind cX10_kind 1 (some .int) ({ frames := 0, cells := 0, slots := 0, locals := 0 }) B D TC ad cA [.ref (ad 20)] S V L (some (.int r0)) S V L := by
  refine jM_of (plainFor_of_name (by decide)) TC_ok hI (Nat.le_of_ble_eq_true rfl) ?_
  intro p e s m args below meth c C hr hlk
  refine j_lv (lv2 := [(0, .ref (ad 20))]) rfl ?_
  unfold fX10_kind_20 at h
  refine j_aload_n C 0 rfl dX10_kind_0 rfl ?_
  refine fg_X10_15_TC_20 C dX10_kind_1 ?_
  refine j_aload_n C 0 rfl dX10_kind_4 rfl ?_
  refine fg_X10_44_TC_20 C dX10_kind_5 ?_
  refine lt_elim h (fun x1 e_x1 h => ?_)
  refine j_top e_x1 ?_
  obtain ⟨g2, h⟩ := gd_elim h
  refine j_iald C tc_22 (ib_in g2) dX10_kind_8 ?_
  cases h
  exact j_iret C hr hlk rfl dX10_kind_9
theorem dJ0_coder_7d493_0 : decode cJ0_coder_7d493 0 = .ok (.getstatic 38, 3) := by decide +kernel
theorem dJ0_coder_7d493_3 : decode cJ0_coder_7d493 3 = .ok (.ifCond .eq 10, 3) := by decide +kernel
theorem dJ0_coder_7d493_6 : decode cJ0_coder_7d493 6 = .ok (.aload_n 0, 1) := by decide +kernel
theorem dJ0_coder_7d493_7 : decode cJ0_coder_7d493 7 = .ok (.getfield 15, 3) := by decide +kernel
theorem dJ0_coder_7d493_10 : decode cJ0_coder_7d493 10 = .ok (.goto 4, 3) := by decide +kernel
theorem dJ0_coder_7d493_14 : decode cJ0_coder_7d493 14 = .ok (.ireturn, 1) := by decide +kernel
def fJ0_coder_7d493_s1 : Option (Int32) :=
  some (0 : Int32)
set_option maxHeartbeats 4000000 in
set_option maxRecDepth 100000 in
theorem kJ0_coder_7d493_s1 (l : Launch) (B : jBT) (D : va_G) (ad : Nat → Nat) (cA : Nat → ClassId) (hI : jI ad TC) (S : Nat → Int32) (V : Nat → Nat → Int32) (L : Nat → Int64) (r0 : Int32) (h : fJ0_coder_7d493_s1 = some r0) : jM l yJ0_coder_7d493 cJ0_coder_7d493 1 (some .byte) ({ frames := 0, cells := 0, slots := 0, locals := 0 }) B D TC ad cA [.ref (B.2.1 1)] S V L (some (.int r0)) S V L := by
  refine jM_of (plainFor_of_name (by decide)) TC_ok hI (Nat.le_of_ble_eq_true rfl) ?_
  intro p e s m args below meth c C hr hlk
  refine j_lv (lv2 := [(0, .ref (B.2.1 1))]) rfl ?_
  unfold fJ0_coder_7d493_s1 at h
  refine j_compact C wd802 dJ0_coder_7d493_0 ?_
  refine j_if_eq (tgt := 13) C dJ0_coder_7d493_3 (by decide) (fun c => absurd c (by decide)) (fun _ => ?_)
  refine j_aload_n C 0 rfl dJ0_coder_7d493_6 rfl ?_
  refine j_scod C (by decide) wd1982 dJ0_coder_7d493_7 ?_
  refine j_goto (tgt := 14) C dJ0_coder_7d493_10 (by decide) ?_
  cases h
  exact j_nret C hr hlk rfl rfl dJ0_coder_7d493_14
theorem dJ0_length_8abf5_0 : decode cJ0_length_8abf5 0 = .ok (.aload_n 0, 1) := by decide +kernel
theorem dJ0_length_8abf5_1 : decode cJ0_length_8abf5 1 = .ok (.getfield 9, 3) := by decide +kernel
theorem dJ0_length_8abf5_4 : decode cJ0_length_8abf5 4 = .ok (.arraylength, 1) := by decide +kernel
theorem dJ0_length_8abf5_5 : decode cJ0_length_8abf5 5 = .ok (.aload_n 0, 1) := by decide +kernel
theorem dJ0_length_8abf5_6 : decode cJ0_length_8abf5 6 = .ok (.invokevirtual 335, 3) := by decide +kernel
theorem dJ0_length_8abf5_9 : decode cJ0_length_8abf5 9 = .ok (.ishr, 1) := by decide +kernel
theorem dJ0_length_8abf5_10 : decode cJ0_length_8abf5 10 = .ok (.ireturn, 1) := by decide +kernel
def fJ0_length_8abf5_s1 : Option (Int32) :=
  bd1 (fJ0_coder_7d493_s1) (fun r1 =>
  some (((99 : Int32) >>> (r1 &&& 31))))
set_option maxHeartbeats 4000000 in
set_option maxRecDepth 100000 in
theorem kJ0_length_8abf5_s1 (l : Launch) (B : jBT) (D : va_G) (ad : Nat → Nat) (cA : Nat → ClassId) (hI : jI ad TC) (S : Nat → Int32) (V : Nat → Nat → Int32) (L : Nat → Int64) (r0 : Int32) (h : fJ0_length_8abf5_s1 = some r0) : jM l yJ0_length_8abf5 cJ0_length_8abf5 1 (some .int) ({ frames := 1, cells := 0, slots := 0, locals := 20 }) B D TC ad cA [.ref (B.2.1 1)] S V L (some (.int r0)) S V L := by
  refine jM_of (plainFor_of_name (by decide)) TC_ok hI (Nat.le_of_ble_eq_true rfl) ?_
  intro p e s m args below meth c C hr hlk
  refine j_lv (lv2 := [(0, .ref (B.2.1 1))]) rfl ?_
  unfold fJ0_length_8abf5_s1 at h
  refine j_aload_n C 0 rfl dJ0_length_8abf5_0 rfl ?_
  refine j_sval C (by decide) wd1981 dJ0_length_8abf5_1 ?_
  refine j_salen (n := 99) (v := (99 : Int32)) (k := 1) C (by decide) rfl (by decide) dJ0_length_8abf5_4 ?_
  refine j_aload_n C 0 rfl dJ0_length_8abf5_5 rfl ?_
  obtain ⟨r1, h2, h⟩ := bd1_elim h
  refine j_callT (k := 1) (As := []) (rest := [.int (99 : Int32)]) C (kJ0_coder_7d493_s1 l B D ad cA hI S V L _ h2) mw_J0_coder_7d493 wd799 wd800 wd798 (by decide) rfl ⟨rfl, rfl, by decide, by decide⟩ ⟨Nat.zero_le _, Nat.zero_le _⟩ rfl rfl (Nat.le_of_ble_eq_true rfl) dJ0_length_8abf5_6 ?_
  refine j_ishr C dJ0_length_8abf5_9 ?_
  cases h
  exact j_iret C hr hlk rfl dJ0_length_8abf5_10
theorem dX10_kindOfWord_0 : decode cX10_kindOfWord 0 = .ok (.bipush 101, 2) := by decide +kernel
theorem dX10_kindOfWord_2 : decode cX10_kindOfWord 2 = .ok (.istore_n 3, 1) := by decide +kernel
theorem dX10_kindOfWord_3 : decode cX10_kindOfWord 3 = .ok (.iconst 0, 1) := by decide +kernel
theorem dX10_kindOfWord_4 : decode cX10_kindOfWord 4 = .ok (.istore 4, 2) := by decide +kernel
theorem dX10_kindOfWord_6 : decode cX10_kindOfWord 6 = .ok (.iconst 0, 1) := by decide +kernel
theorem dX10_kindOfWord_7 : decode cX10_kindOfWord 7 = .ok (.istore 5, 2) := by decide +kernel
theorem dX10_kindOfWord_9 : decode cX10_kindOfWord 9 = .ok (.iload 5, 2) := by decide +kernel
theorem dX10_kindOfWord_11 : decode cX10_kindOfWord 11 = .ok (.ldc 75, 2) := by decide +kernel
theorem dX10_kindOfWord_13 : decode cX10_kindOfWord 13 = .ok (.invokevirtual 77, 3) := by decide +kernel
theorem dX10_kindOfWord_16 : decode cX10_kindOfWord 16 = .ok (.if_icmp .ge 54, 3) := by decide +kernel
theorem dX10_kindOfWord_19 : decode cX10_kindOfWord 19 = .ok (.ldc 75, 2) := by decide +kernel
theorem dX10_kindOfWord_21 : decode cX10_kindOfWord 21 = .ok (.iload 5, 2) := by decide +kernel
theorem dX10_kindOfWord_23 : decode cX10_kindOfWord 23 = .ok (.invokevirtual 81, 3) := by decide +kernel
theorem dX10_kindOfWord_26 : decode cX10_kindOfWord 26 = .ok (.bipush 32, 2) := by decide +kernel
theorem dX10_kindOfWord_28 : decode cX10_kindOfWord 28 = .ok (.if_icmp .ne 36, 3) := by decide +kernel
theorem dX10_kindOfWord_31 : decode cX10_kindOfWord 31 = .ok (.iload 5, 2) := by decide +kernel
theorem dX10_kindOfWord_33 : decode cX10_kindOfWord 33 = .ok (.iload 4, 2) := by decide +kernel
theorem dX10_kindOfWord_35 : decode cX10_kindOfWord 35 = .ok (.isub, 1) := by decide +kernel
theorem dX10_kindOfWord_36 : decode cX10_kindOfWord 36 = .ok (.iload_n 2, 1) := by decide +kernel
theorem dX10_kindOfWord_37 : decode cX10_kindOfWord 37 = .ok (.iload_n 1, 1) := by decide +kernel
theorem dX10_kindOfWord_38 : decode cX10_kindOfWord 38 = .ok (.isub, 1) := by decide +kernel
theorem dX10_kindOfWord_39 : decode cX10_kindOfWord 39 = .ok (.if_icmp .ne 16, 3) := by decide +kernel
theorem dX10_kindOfWord_42 : decode cX10_kindOfWord 42 = .ok (.aload_n 0, 1) := by decide +kernel
theorem dX10_kindOfWord_43 : decode cX10_kindOfWord 43 = .ok (.iload 4, 2) := by decide +kernel
theorem dX10_kindOfWord_45 : decode cX10_kindOfWord 45 = .ok (.iload_n 1, 1) := by decide +kernel
theorem dX10_kindOfWord_46 : decode cX10_kindOfWord 46 = .ok (.iload_n 2, 1) := by decide +kernel
theorem dX10_kindOfWord_47 : decode cX10_kindOfWord 47 = .ok (.invokevirtual 85, 3) := by decide +kernel
theorem dX10_kindOfWord_50 : decode cX10_kindOfWord 50 = .ok (.ifCond .eq 5, 3) := by decide +kernel
theorem dX10_kindOfWord_53 : decode cX10_kindOfWord 53 = .ok (.iload_n 3, 1) := by decide +kernel
theorem dX10_kindOfWord_54 : decode cX10_kindOfWord 54 = .ok (.ireturn, 1) := by decide +kernel
theorem dX10_kindOfWord_55 : decode cX10_kindOfWord 55 = .ok (.iinc 3 1, 3) := by decide +kernel
theorem dX10_kindOfWord_58 : decode cX10_kindOfWord 58 = .ok (.iload 5, 2) := by decide +kernel
theorem dX10_kindOfWord_60 : decode cX10_kindOfWord 60 = .ok (.iconst 1, 1) := by decide +kernel
theorem dX10_kindOfWord_61 : decode cX10_kindOfWord 61 = .ok (.iadd, 1) := by decide +kernel
theorem dX10_kindOfWord_62 : decode cX10_kindOfWord 62 = .ok (.istore 4, 2) := by decide +kernel
theorem dX10_kindOfWord_64 : decode cX10_kindOfWord 64 = .ok (.iinc 5 1, 3) := by decide +kernel
theorem dX10_kindOfWord_67 : decode cX10_kindOfWord 67 = .ok (.goto (-58), 3) := by decide +kernel
theorem dX10_kindOfWord_70 : decode cX10_kindOfWord 70 = .ok (.bipush 100, 2) := by decide +kernel
theorem dX10_kindOfWord_72 : decode cX10_kindOfWord 72 = .ok (.ireturn, 1) := by decide +kernel
def fX10_kindOfWord_20_L9 (V : Nat → Nat → Int32) : Nat → Int32 → Int32 → Int32 → Int32 → Int32 → Option (Int32)
  | 0, _, _, _, _, _ => none
  | n + 1, x1, x2, x3, x4, x5 =>
    bd1 (fJ0_length_8abf5_s1) (fun r6 =>
    (if r6 ≤ x5 then
    some (100 : Int32)
    else
    bd1 (fJ0_charAt_5068e_s1 x5) (fun r9 =>
    bk (fun (x12 : Int32) (x13 : Int32) (x14 : Int32) (x15 : Int32) (x16 : Int32) =>
    lt (x16 + (1 : Int32)) (fun x17 =>
    fX10_kindOfWord_20_L9 V n x12 x13 x14 x15 x17)) (fun K64_11 =>
    (if r9 = (32 : Int32) then
    bk (fun (x20 : Int32) (x21 : Int32) (x22 : Int32) (x23 : Int32) =>
    lt (x22 + (1 : Int32)) (fun x24 =>
    lt ((x23 + (1 : Int32))) (fun x25 =>
    K64_11 x20 x21 x24 x25 x23))) (fun K55_19 =>
    (if (x5 - x4) = (x2 - x1) then
    bd1 (fX10_isWordAt_20 V x4 x1 x2) (fun r27 =>
    (if r27 = 0 then
    K55_19 x1 x2 x3 x5
    else
    some x3))
    else
    K55_19 x1 x2 x3 x5))
    else
    K64_11 x1 x2 x3 x4 x5)))))
def fX10_kindOfWord_20 (V : Nat → Nat → Int32) (a1 : Int32) (a2 : Int32) : Option (Int32) :=
  fX10_kindOfWord_20_L9 V FU a1 a2 (101 : Int32) (0 : Int32) (0 : Int32)
set_option maxHeartbeats 4000000 in
set_option maxRecDepth 100000 in
theorem kX10_kindOfWord_20 (l : Launch) (B : jBT) (D : va_G) (ad : Nat → Nat) (cA : Nat → ClassId) (hI : jI ad TC) (S : Nat → Int32) (V : Nat → Nat → Int32) (L : Nat → Int64) (a1 : Int32) (a2 : Int32) (r0 : Int32) (h : fX10_kindOfWord_20 V a1 a2 = some r0) : jM l yX10_kindOfWord cX10_kindOfWord 6 (some .int) ({ frames := 5, cells := 0, slots := 0, locals := 109 }) B D TC ad cA [.ref (ad 20), .int a1, .int a2] S V L (some (.int r0)) S V L := by
  refine jM_of (plainFor_of_name (by decide)) TC_ok hI (Nat.le_of_ble_eq_true rfl) ?_
  intro p e s m args below meth c C hr hlk
  refine j_lv (lv2 := [(0, .ref (ad 20)), (1, .int a1), (2, .int a2)]) rfl ?_
  unfold fX10_kindOfWord_20 at h
  have H_fX10_kindOfWord_20_L9 : ∀ (n : Nat) (x1 : Int32) (x2 : Int32) (x3 : Int32) (x4 : Int32) (x5 : Int32), fX10_kindOfWord_20_L9 V n x1 x2 x3 x4 x5 = some r0 → jW p l e ({ frames := 5, cells := 0, slots := 0, locals := 109 }) s m args below meth c (MQ below (jQc D TC ad cA (some (.int r0)) s.heap.size S V L) args s 0 0 (jA ad TC s.heap.size)) D TC ad cA (jA ad TC s.heap.size) 6 0 0 9 [(0, .ref (ad 20)), (1, .int x1), (2, .int x2), (3, .int x3), (4, .int x4), (5, .int x5)] [] S V L := by
    intro n
    induction n with
    | zero =>
      intro x1 x2 x3 x4 x5 h
      cases (show (none : Option (Int32)) = some r0 from h)
    | succ n ih =>
      intro x1 x2 x3 x4 x5 h
      unfold fX10_kindOfWord_20_L9 at h
      refine j_iload C 5 rfl dX10_kindOfWord_9 ?_
      refine j_sldc (i := 1) C rfl dX10_kindOfWord_11 ?_
      obtain ⟨r6, h7, h⟩ := bd1_elim h
      refine j_callT (k := 1) (As := []) (rest := [.int x5]) C (kJ0_length_8abf5_s1 l B D ad cA hI S V L _ h7) mw_J0_length_8abf5 wd795 wd796 wd794 (by decide) rfl ⟨rfl, rfl, by decide, by decide⟩ ⟨Nat.zero_le _, Nat.zero_le _⟩ rfl rfl (Nat.le_of_ble_eq_true rfl) dX10_kindOfWord_13 ?_
      refine j_icmp_ge (tgt := 70) C dX10_kindOfWord_16 (by decide) (fun c8 => ?_) (fun c8 => ?_)
      · have h := (if_pos c8).symm.trans h
        refine j_bipush C dX10_kindOfWord_70 cb_100 ?_
        cases h
        exact j_iret C hr hlk rfl dX10_kindOfWord_72
      · have h := (if_neg c8).symm.trans h
        refine j_sldc (i := 1) C rfl dX10_kindOfWord_19 ?_
        refine j_iload C 5 rfl dX10_kindOfWord_21 ?_
        obtain ⟨r9, h10, h⟩ := bd1_elim h
        refine j_callT (k := 1) (As := [.int x5]) (rest := []) C (kJ0_charAt_5068e_s1 l B D ad cA hI S V L x5 _ h10) mw_J0_charAt_5068e wd805 wd806 wd804 (by decide) rfl ⟨rfl, rfl, by decide, by decide⟩ ⟨Nat.zero_le _, Nat.zero_le _⟩ rfl rfl (Nat.le_of_ble_eq_true rfl) dX10_kindOfWord_23 ?_
        refine j_bipush C dX10_kindOfWord_26 cb_32 ?_
        refine bk_elim h (fun K64_11 e_K64_11 h => ?_)
        have HK64_11 : ∀ (x12 : Int32) (x13 : Int32) (x14 : Int32) (x15 : Int32) (x16 : Int32), K64_11 x12 x13 x14 x15 x16 = some r0 → jW p l e ({ frames := 5, cells := 0, slots := 0, locals := 109 }) s m args below meth c (MQ below (jQc D TC ad cA (some (.int r0)) s.heap.size S V L) args s 0 0 (jA ad TC s.heap.size)) D TC ad cA (jA ad TC s.heap.size) 6 0 0 64 [(0, .ref (ad 20)), (1, .int x12), (2, .int x13), (3, .int x14), (4, .int x15), (5, .int x16)] [] S V L := by
          subst e_K64_11
          intro x12 x13 x14 x15 x16 h
          refine lt_elim h (fun x17 e_x17 h => ?_)
          refine j_iinc C [(5, .int x17), (0, .ref (ad 20)), (1, .int x12), (2, .int x13), (3, .int x14), (4, .int x15)] 5 dX10_kindOfWord_64 rfl ((iinc_eq ci_1).trans e_x17.symm) (by decide) rfl ?_
          refine j_goto (tgt := 9) C dX10_kindOfWord_67 (by decide) ?_
          exact j_sub [1, 2, 3, 4, 5, 0] rfl (ih _ _ _ _ _ h)
        refine j_icmp_ne (tgt := 64) C dX10_kindOfWord_28 (by decide) (fun c18 => ?_) (fun c18 => ?_)
        · have h := (if_neg c18).symm.trans h
          exact j_sub [0, 1, 2, 3, 4, 5] rfl (HK64_11 _ _ _ _ _ h)
        · have h := (if_pos c18).symm.trans h
          refine j_iload C 5 rfl dX10_kindOfWord_31 ?_
          refine j_iload C 4 rfl dX10_kindOfWord_33 ?_
          refine j_isub C dX10_kindOfWord_35 ?_
          refine j_iload_n C 2 rfl dX10_kindOfWord_36 rfl ?_
          refine j_iload_n C 1 rfl dX10_kindOfWord_37 rfl ?_
          refine j_isub C dX10_kindOfWord_38 ?_
          refine bk_elim h (fun K55_19 e_K55_19 h => ?_)
          have HK55_19 : ∀ (x20 : Int32) (x21 : Int32) (x22 : Int32) (x23 : Int32), K55_19 x20 x21 x22 x23 = some r0 → jW p l e ({ frames := 5, cells := 0, slots := 0, locals := 109 }) s m args below meth c (MQ below (jQc D TC ad cA (some (.int r0)) s.heap.size S V L) args s 0 0 (jA ad TC s.heap.size)) D TC ad cA (jA ad TC s.heap.size) 6 0 0 55 [(0, .ref (ad 20)), (1, .int x20), (2, .int x21), (3, .int x22), (5, .int x23)] [] S V L := by
            subst e_K55_19
            intro x20 x21 x22 x23 h
            refine lt_elim h (fun x24 e_x24 h => ?_)
            refine j_iinc C [(3, .int x24), (0, .ref (ad 20)), (1, .int x20), (2, .int x21), (5, .int x23)] 3 dX10_kindOfWord_55 rfl ((iinc_eq ci_1).trans e_x24.symm) (by decide) rfl ?_
            refine j_iload C 4 rfl dX10_kindOfWord_58 ?_
            refine j_iconst C dX10_kindOfWord_60 ci_1 ?_
            refine j_iadd C dX10_kindOfWord_61 ?_
            refine lt_elim h (fun x25 e_x25 h => ?_)
            refine j_top e_x25 ?_
            refine j_istore C [(4, .int x25), (3, .int x24), (0, .ref (ad 20)), (1, .int x20), (2, .int x21), (5, .int x23)] dX10_kindOfWord_62 (by decide) rfl ?_
            exact j_sub [2, 3, 4, 1, 0, 5] rfl (HK64_11 _ _ _ _ _ h)
          refine j_icmp_ne (tgt := 55) C dX10_kindOfWord_39 (by decide) (fun c26 => ?_) (fun c26 => ?_)
          · have h := (if_neg c26).symm.trans h
            exact j_sub [0, 1, 2, 3, 5] rfl (HK55_19 _ _ _ _ h)
          · have h := (if_pos c26).symm.trans h
            refine j_aload_n C 0 rfl dX10_kindOfWord_42 rfl ?_
            refine j_iload C 4 rfl dX10_kindOfWord_43 ?_
            refine j_iload_n C 1 rfl dX10_kindOfWord_45 rfl ?_
            refine j_iload_n C 2 rfl dX10_kindOfWord_46 rfl ?_
            obtain ⟨r27, h28, h⟩ := bd1_elim h
            refine j_callV (As := [.int x4, .int x1, .int x2]) (rest := []) C (kX10_isWordAt_20 l B D ad cA hI S V L x4 x1 x2 _ h28) mw_X10_isWordAt wd844 wd14 wd842 tc_20 rfl rfl ⟨rfl, rfl, by decide, by decide⟩ ⟨Nat.zero_le _, Nat.zero_le _⟩ rfl rfl (Nat.le_of_ble_eq_true rfl) dX10_kindOfWord_47 ?_
            refine j_if_eq (tgt := 55) C dX10_kindOfWord_50 (by decide) (fun c29 => ?_) (fun c29 => ?_)
            · have h := (if_pos c29).symm.trans h
              exact j_sub [0, 1, 2, 3, 5] rfl (HK55_19 _ _ _ _ h)
            · have h := (if_neg c29).symm.trans h
              refine j_iload_n C 3 rfl dX10_kindOfWord_53 rfl ?_
              cases h
              exact j_iret C hr hlk rfl dX10_kindOfWord_54
  refine j_bipush C dX10_kindOfWord_0 cb_101 ?_
  refine j_istore_n C [(3, .int (101 : Int32)), (0, .ref (ad 20)), (1, .int a1), (2, .int a2)] dX10_kindOfWord_2 rfl (by decide) rfl ?_
  refine j_iconst C dX10_kindOfWord_3 ci_0 ?_
  refine j_istore C [(4, .int (0 : Int32)), (3, .int (101 : Int32)), (0, .ref (ad 20)), (1, .int a1), (2, .int a2)] dX10_kindOfWord_4 (by decide) rfl ?_
  refine j_iconst C dX10_kindOfWord_6 ci_0 ?_
  refine j_istore C [(5, .int (0 : Int32)), (4, .int (0 : Int32)), (3, .int (101 : Int32)), (0, .ref (ad 20)), (1, .int a1), (2, .int a2)] dX10_kindOfWord_7 (by decide) rfl ?_
  exact j_sub [3, 4, 5, 2, 1, 0] rfl (H_fX10_kindOfWord_20_L9 FU _ _ _ _ _ h)
theorem dX10_number_0 : decode cX10_number 0 = .ok (.aload_n 0, 1) := by decide +kernel
theorem dX10_number_1 : decode cX10_number 1 = .ok (.getfield 22, 3) := by decide +kernel
theorem dX10_number_4 : decode cX10_number 4 = .ok (.aload_n 0, 1) := by decide +kernel
theorem dX10_number_5 : decode cX10_number 5 = .ok (.getfield 44, 3) := by decide +kernel
theorem dX10_number_8 : decode cX10_number 8 = .ok (.iaload, 1) := by decide +kernel
theorem dX10_number_9 : decode cX10_number 9 = .ok (.ireturn, 1) := by decide +kernel
def fX10_number_20 (S : Nat → Int32) (V : Nat → Nat → Int32) : Option (Int32) :=
  lt ((S 2005)) (fun x1 =>
  gd (ib x1 601) (
  some ((V 24 (x1).toNatClampNeg))))
set_option maxHeartbeats 4000000 in
set_option maxRecDepth 100000 in
theorem kX10_number_20 (l : Launch) (B : jBT) (D : va_G) (ad : Nat → Nat) (cA : Nat → ClassId) (hI : jI ad TC) (S : Nat → Int32) (V : Nat → Nat → Int32) (L : Nat → Int64) (r0 : Int32) (h : fX10_number_20 S V = some r0) : jM l yX10_number cX10_number 1 (some .int) ({ frames := 0, cells := 0, slots := 0, locals := 0 }) B D TC ad cA [.ref (ad 20)] S V L (some (.int r0)) S V L := by
  refine jM_of (plainFor_of_name (by decide)) TC_ok hI (Nat.le_of_ble_eq_true rfl) ?_
  intro p e s m args below meth c C hr hlk
  refine j_lv (lv2 := [(0, .ref (ad 20))]) rfl ?_
  unfold fX10_number_20 at h
  refine j_aload_n C 0 rfl dX10_number_0 rfl ?_
  refine fg_X10_22_TC_20 C dX10_number_1 ?_
  refine j_aload_n C 0 rfl dX10_number_4 rfl ?_
  refine fg_X10_44_TC_20 C dX10_number_5 ?_
  refine lt_elim h (fun x1 e_x1 h => ?_)
  refine j_top e_x1 ?_
  obtain ⟨g2, h⟩ := gd_elim h
  refine j_iald C tc_24 (ib_in g2) dX10_number_8 ?_
  cases h
  exact j_iret C hr hlk rfl dX10_number_9
