theorem dX0_forget_0 : decode cX0_forget 0 = .ok (.aload_n 0, 1) := by decide +kernel
theorem dX0_forget_1 : decode cX0_forget 1 = .ok (.iconst 0, 1) := by decide +kernel
theorem dX0_forget_2 : decode cX0_forget 2 = .ok (.putfield 44, 3) := by decide +kernel
theorem dX0_forget_5 : decode cX0_forget 5 = .ok (.return_, 1) := by decide +kernel
def fX0_forget_49 (S : Nat → Int32) : Option ((Nat → Int32)) :=
  lt (va_up S 4911 (0 : Int32)) (fun S1 =>
  some S1)
set_option maxHeartbeats 4000000 in
set_option maxRecDepth 100000 in
theorem kX0_forget_49 (l : Launch) (B : jBT) (D : va_G) (ad : Nat → Nat) (cA : Nat → ClassId) (hI : jI ad TC) (S : Nat → Int32) (V : Nat → Nat → Int32) (L : Nat → Int64) (S0 : Nat → Int32) (h : fX0_forget_49 S = some S0) : jM l yX0_forget cX0_forget 1 none ({ frames := 0, cells := 0, slots := 0, locals := 0 }) B D TC ad cA [.ref (ad 49)] S V L none S0 V L := by
  refine jM_of (by decide) TC_ok hI (Nat.le_of_ble_eq_true rfl) ?_
  intro p e s m args below meth c C hr hlk
  refine j_lv (lv2 := [(0, .ref (ad 49))]) rfl ?_
  unfold fX0_forget_49 at h
  refine j_aload_n C 0 rfl dX0_forget_0 rfl ?_
  refine j_iconst C dX0_forget_1 ci_0 ?_
  refine fp_X0_44_TC_49 C rfl rfl dX0_forget_2 ?_
  refine lt_elim h (fun S1 e_S1 h => ?_)
  refine j_S e_S1 ?_
  cases h
  exact j_vret C hr hlk rfl dX0_forget_5
theorem dX10_advance_0 : decode cX10_advance 0 = .ok (.aload_n 0, 1) := by decide +kernel
theorem dX10_advance_1 : decode cX10_advance 1 = .ok (.getfield 15, 3) := by decide +kernel
theorem dX10_advance_4 : decode cX10_advance 4 = .ok (.aload_n 0, 1) := by decide +kernel
theorem dX10_advance_5 : decode cX10_advance 5 = .ok (.getfield 44, 3) := by decide +kernel
theorem dX10_advance_8 : decode cX10_advance 8 = .ok (.iaload, 1) := by decide +kernel
theorem dX10_advance_9 : decode cX10_advance 9 = .ok (.ifCond .eq 23, 3) := by decide +kernel
theorem dX10_advance_12 : decode cX10_advance 12 = .ok (.aload_n 0, 1) := by decide +kernel
theorem dX10_advance_13 : decode cX10_advance 13 = .ok (.getfield 44, 3) := by decide +kernel
theorem dX10_advance_16 : decode cX10_advance 16 = .ok (.sipush 600, 3) := by decide +kernel
theorem dX10_advance_19 : decode cX10_advance 19 = .ok (.if_icmp .ge 13, 3) := by decide +kernel
theorem dX10_advance_22 : decode cX10_advance 22 = .ok (.aload_n 0, 1) := by decide +kernel
theorem dX10_advance_23 : decode cX10_advance 23 = .ok (.dup, 1) := by decide +kernel
theorem dX10_advance_24 : decode cX10_advance 24 = .ok (.getfield 44, 3) := by decide +kernel
theorem dX10_advance_27 : decode cX10_advance 27 = .ok (.iconst 1, 1) := by decide +kernel
theorem dX10_advance_28 : decode cX10_advance 28 = .ok (.iadd, 1) := by decide +kernel
theorem dX10_advance_29 : decode cX10_advance 29 = .ok (.putfield 44, 3) := by decide +kernel
theorem dX10_advance_32 : decode cX10_advance 32 = .ok (.return_, 1) := by decide +kernel
def fX10_advance_20 (S : Nat → Int32) (V : Nat → Nat → Int32) : Option ((Nat → Int32)) :=
  lt ((S 2005)) (fun x1 =>
  gd (ib x1 601) (
  (if (V 22 (x1).toNatClampNeg) = 0 then
  some S
  else
  (if (600 : Int32) ≤ (S 2005) then
  some S
  else
  lt (((S 2005) + (1 : Int32))) (fun x5 =>
  lt (va_up S 2005 x5) (fun S6 =>
  some S6))))))
set_option maxHeartbeats 4000000 in
set_option maxRecDepth 100000 in
theorem kX10_advance_20 (l : Launch) (B : jBT) (D : va_G) (ad : Nat → Nat) (cA : Nat → ClassId) (hI : jI ad TC) (S : Nat → Int32) (V : Nat → Nat → Int32) (L : Nat → Int64) (S0 : Nat → Int32) (h : fX10_advance_20 S V = some S0) : jM l yX10_advance cX10_advance 1 none ({ frames := 0, cells := 0, slots := 0, locals := 0 }) B D TC ad cA [.ref (ad 20)] S V L none S0 V L := by
  refine jM_of (by decide) TC_ok hI (Nat.le_of_ble_eq_true rfl) ?_
  intro p e s m args below meth c C hr hlk
  refine j_lv (lv2 := [(0, .ref (ad 20))]) rfl ?_
  unfold fX10_advance_20 at h
  refine j_aload_n C 0 rfl dX10_advance_0 rfl ?_
  refine fg_X10_15_TC_20 C dX10_advance_1 ?_
  refine j_aload_n C 0 rfl dX10_advance_4 rfl ?_
  refine fg_X10_44_TC_20 C dX10_advance_5 ?_
  refine lt_elim h (fun x1 e_x1 h => ?_)
  refine j_top e_x1 ?_
  obtain ⟨g2, h⟩ := gd_elim h
  refine j_iald C tc_22 (ib_in g2) dX10_advance_8 ?_
  refine j_if_eq (tgt := 32) C dX10_advance_9 (by decide) (fun c3 => ?_) (fun c3 => ?_)
  · have h := (if_pos c3).symm.trans h
    cases h
    exact j_vret C hr hlk rfl dX10_advance_32
  · have h := (if_neg c3).symm.trans h
    refine j_aload_n C 0 rfl dX10_advance_12 rfl ?_
    refine fg_X10_44_TC_20 C dX10_advance_13 ?_
    refine j_sipush C dX10_advance_16 cs_600 ?_
    refine j_icmp_ge (tgt := 32) C dX10_advance_19 (by decide) (fun c4 => ?_) (fun c4 => ?_)
    · have h := (if_pos c4).symm.trans h
      cases h
      exact j_vret C hr hlk rfl dX10_advance_32
    · have h := (if_neg c4).symm.trans h
      refine j_aload_n C 0 rfl dX10_advance_22 rfl ?_
      refine j_dup C dX10_advance_23 rfl ?_
      refine fg_X10_44_TC_20 C dX10_advance_24 ?_
      refine j_iconst C dX10_advance_27 ci_1 ?_
      refine j_iadd C dX10_advance_28 ?_
      refine lt_elim h (fun x5 e_x5 h => ?_)
      refine j_top e_x5 ?_
      refine fp_X10_44_TC_20 C dX10_advance_29 ?_
      refine lt_elim h (fun S6 e_S6 h => ?_)
      refine j_S e_S6 ?_
      cases h
      exact j_vret C hr hlk rfl dX10_advance_32
theorem dX10_isLetter_0 : decode cX10_isLetter 0 = .ok (.aload_n 0, 1) := by decide +kernel
theorem dX10_isLetter_1 : decode cX10_isLetter 1 = .ok (.getfield 9, 3) := by decide +kernel
theorem dX10_isLetter_4 : decode cX10_isLetter 4 = .ok (.iload_n 1, 1) := by decide +kernel
theorem dX10_isLetter_5 : decode cX10_isLetter 5 = .ok (.baload, 1) := by decide +kernel
theorem dX10_isLetter_6 : decode cX10_isLetter 6 = .ok (.bipush 97, 2) := by decide +kernel
theorem dX10_isLetter_8 : decode cX10_isLetter 8 = .ok (.if_icmp .lt 18, 3) := by decide +kernel
theorem dX10_isLetter_11 : decode cX10_isLetter 11 = .ok (.aload_n 0, 1) := by decide +kernel
theorem dX10_isLetter_12 : decode cX10_isLetter 12 = .ok (.getfield 9, 3) := by decide +kernel
theorem dX10_isLetter_15 : decode cX10_isLetter 15 = .ok (.iload_n 1, 1) := by decide +kernel
theorem dX10_isLetter_16 : decode cX10_isLetter 16 = .ok (.baload, 1) := by decide +kernel
theorem dX10_isLetter_17 : decode cX10_isLetter 17 = .ok (.bipush 122, 2) := by decide +kernel
theorem dX10_isLetter_19 : decode cX10_isLetter 19 = .ok (.if_icmp .gt 7, 3) := by decide +kernel
theorem dX10_isLetter_22 : decode cX10_isLetter 22 = .ok (.iconst 1, 1) := by decide +kernel
theorem dX10_isLetter_23 : decode cX10_isLetter 23 = .ok (.goto 4, 3) := by decide +kernel
theorem dX10_isLetter_26 : decode cX10_isLetter 26 = .ok (.iconst 0, 1) := by decide +kernel
theorem dX10_isLetter_27 : decode cX10_isLetter 27 = .ok (.ireturn, 1) := by decide +kernel
def fX10_isLetter_20 (V : Nat → Nat → Int32) (a1 : Int32) : Option (Int32) :=
  gd (ib a1 600) (
  (if (V 21 (a1).toNatClampNeg) < (97 : Int32) then
  some (0 : Int32)
  else
  gd (ib a1 600) (
  (if (122 : Int32) < (V 21 (a1).toNatClampNeg) then
  some (0 : Int32)
  else
  some (1 : Int32)))))
set_option maxHeartbeats 4000000 in
set_option maxRecDepth 100000 in
theorem kX10_isLetter_20 (l : Launch) (B : jBT) (D : va_G) (ad : Nat → Nat) (cA : Nat → ClassId) (hI : jI ad TC) (S : Nat → Int32) (V : Nat → Nat → Int32) (L : Nat → Int64) (a1 : Int32) (r0 : Int32) (h : fX10_isLetter_20 V a1 = some r0) : jM l yX10_isLetter cX10_isLetter 2 (some .boolean) ({ frames := 0, cells := 0, slots := 0, locals := 0 }) B D TC ad cA [.ref (ad 20), .int a1] S V L (some (.int r0)) S V L := by
  refine jM_of (by decide) TC_ok hI (Nat.le_of_ble_eq_true rfl) ?_
  intro p e s m args below meth c C hr hlk
  refine j_lv (lv2 := [(0, .ref (ad 20)), (1, .int a1)]) rfl ?_
  unfold fX10_isLetter_20 at h
  refine j_aload_n C 0 rfl dX10_isLetter_0 rfl ?_
  refine fg_X10_9_TC_20 C dX10_isLetter_1 ?_
  refine j_iload_n C 1 rfl dX10_isLetter_4 rfl ?_
  obtain ⟨g1, h⟩ := gd_elim h
  refine j_bald C tc_21 (ib_in g1) dX10_isLetter_5 ?_
  refine j_bipush C dX10_isLetter_6 cb_97 ?_
  refine j_icmp_lt (tgt := 26) C dX10_isLetter_8 (by decide) (fun c2 => ?_) (fun c2 => ?_)
  · have h := (if_pos c2).symm.trans h
    refine j_iconst C dX10_isLetter_26 ci_0 ?_
    cases h
    exact j_zret C hr hlk rfl rfl dX10_isLetter_27
  · have h := (if_neg c2).symm.trans h
    refine j_aload_n C 0 rfl dX10_isLetter_11 rfl ?_
    refine fg_X10_9_TC_20 C dX10_isLetter_12 ?_
    refine j_iload_n C 1 rfl dX10_isLetter_15 rfl ?_
    obtain ⟨g3, h⟩ := gd_elim h
    refine j_bald C tc_21 (ib_in g3) dX10_isLetter_16 ?_
    refine j_bipush C dX10_isLetter_17 cb_122 ?_
    refine j_icmp_gt (tgt := 26) C dX10_isLetter_19 (by decide) (fun c4 => ?_) (fun c4 => ?_)
    · have h := (if_pos c4).symm.trans h
      refine j_iconst C dX10_isLetter_26 ci_0 ?_
      cases h
      exact j_zret C hr hlk rfl rfl dX10_isLetter_27
    · have h := (if_neg c4).symm.trans h
      refine j_iconst C dX10_isLetter_22 ci_1 ?_
      refine j_goto (tgt := 27) C dX10_isLetter_23 (by decide) ?_
      cases h
      exact j_zret C hr hlk rfl rfl dX10_isLetter_27
theorem dX10_isDigit_0 : decode cX10_isDigit 0 = .ok (.aload_n 0, 1) := by decide +kernel
theorem dX10_isDigit_1 : decode cX10_isDigit 1 = .ok (.getfield 9, 3) := by decide +kernel
theorem dX10_isDigit_4 : decode cX10_isDigit 4 = .ok (.iload_n 1, 1) := by decide +kernel
theorem dX10_isDigit_5 : decode cX10_isDigit 5 = .ok (.baload, 1) := by decide +kernel
theorem dX10_isDigit_6 : decode cX10_isDigit 6 = .ok (.bipush 48, 2) := by decide +kernel
theorem dX10_isDigit_8 : decode cX10_isDigit 8 = .ok (.if_icmp .lt 18, 3) := by decide +kernel
theorem dX10_isDigit_11 : decode cX10_isDigit 11 = .ok (.aload_n 0, 1) := by decide +kernel
theorem dX10_isDigit_12 : decode cX10_isDigit 12 = .ok (.getfield 9, 3) := by decide +kernel
theorem dX10_isDigit_15 : decode cX10_isDigit 15 = .ok (.iload_n 1, 1) := by decide +kernel
theorem dX10_isDigit_16 : decode cX10_isDigit 16 = .ok (.baload, 1) := by decide +kernel
theorem dX10_isDigit_17 : decode cX10_isDigit 17 = .ok (.bipush 57, 2) := by decide +kernel
theorem dX10_isDigit_19 : decode cX10_isDigit 19 = .ok (.if_icmp .gt 7, 3) := by decide +kernel
theorem dX10_isDigit_22 : decode cX10_isDigit 22 = .ok (.iconst 1, 1) := by decide +kernel
theorem dX10_isDigit_23 : decode cX10_isDigit 23 = .ok (.goto 4, 3) := by decide +kernel
theorem dX10_isDigit_26 : decode cX10_isDigit 26 = .ok (.iconst 0, 1) := by decide +kernel
theorem dX10_isDigit_27 : decode cX10_isDigit 27 = .ok (.ireturn, 1) := by decide +kernel
def fX10_isDigit_20 (V : Nat → Nat → Int32) (a1 : Int32) : Option (Int32) :=
  gd (ib a1 600) (
  (if (V 21 (a1).toNatClampNeg) < (48 : Int32) then
  some (0 : Int32)
  else
  gd (ib a1 600) (
  (if (57 : Int32) < (V 21 (a1).toNatClampNeg) then
  some (0 : Int32)
  else
  some (1 : Int32)))))
set_option maxHeartbeats 4000000 in
set_option maxRecDepth 100000 in
theorem kX10_isDigit_20 (l : Launch) (B : jBT) (D : va_G) (ad : Nat → Nat) (cA : Nat → ClassId) (hI : jI ad TC) (S : Nat → Int32) (V : Nat → Nat → Int32) (L : Nat → Int64) (a1 : Int32) (r0 : Int32) (h : fX10_isDigit_20 V a1 = some r0) : jM l yX10_isDigit cX10_isDigit 2 (some .boolean) ({ frames := 0, cells := 0, slots := 0, locals := 0 }) B D TC ad cA [.ref (ad 20), .int a1] S V L (some (.int r0)) S V L := by
  refine jM_of (by decide) TC_ok hI (Nat.le_of_ble_eq_true rfl) ?_
  intro p e s m args below meth c C hr hlk
  refine j_lv (lv2 := [(0, .ref (ad 20)), (1, .int a1)]) rfl ?_
  unfold fX10_isDigit_20 at h
  refine j_aload_n C 0 rfl dX10_isDigit_0 rfl ?_
  refine fg_X10_9_TC_20 C dX10_isDigit_1 ?_
  refine j_iload_n C 1 rfl dX10_isDigit_4 rfl ?_
  obtain ⟨g1, h⟩ := gd_elim h
  refine j_bald C tc_21 (ib_in g1) dX10_isDigit_5 ?_
  refine j_bipush C dX10_isDigit_6 cb_48 ?_
  refine j_icmp_lt (tgt := 26) C dX10_isDigit_8 (by decide) (fun c2 => ?_) (fun c2 => ?_)
  · have h := (if_pos c2).symm.trans h
    refine j_iconst C dX10_isDigit_26 ci_0 ?_
    cases h
    exact j_zret C hr hlk rfl rfl dX10_isDigit_27
  · have h := (if_neg c2).symm.trans h
    refine j_aload_n C 0 rfl dX10_isDigit_11 rfl ?_
    refine fg_X10_9_TC_20 C dX10_isDigit_12 ?_
    refine j_iload_n C 1 rfl dX10_isDigit_15 rfl ?_
    obtain ⟨g3, h⟩ := gd_elim h
    refine j_bald C tc_21 (ib_in g3) dX10_isDigit_16 ?_
    refine j_bipush C dX10_isDigit_17 cb_57 ?_
    refine j_icmp_gt (tgt := 26) C dX10_isDigit_19 (by decide) (fun c4 => ?_) (fun c4 => ?_)
    · have h := (if_pos c4).symm.trans h
      refine j_iconst C dX10_isDigit_26 ci_0 ?_
      cases h
      exact j_zret C hr hlk rfl rfl dX10_isDigit_27
    · have h := (if_neg c4).symm.trans h
      refine j_iconst C dX10_isDigit_22 ci_1 ?_
      refine j_goto (tgt := 27) C dX10_isDigit_23 (by decide) ?_
      cases h
      exact j_zret C hr hlk rfl rfl dX10_isDigit_27
theorem dX10_endOfToken_0 : decode cX10_endOfToken 0 = .ok (.iload_n 1, 1) := by decide +kernel
theorem dX10_endOfToken_1 : decode cX10_endOfToken 1 = .ok (.iconst 1, 1) := by decide +kernel
theorem dX10_endOfToken_2 : decode cX10_endOfToken 2 = .ok (.iadd, 1) := by decide +kernel
theorem dX10_endOfToken_3 : decode cX10_endOfToken 3 = .ok (.istore_n 2, 1) := by decide +kernel
theorem dX10_endOfToken_4 : decode cX10_endOfToken 4 = .ok (.aload_n 0, 1) := by decide +kernel
theorem dX10_endOfToken_5 : decode cX10_endOfToken 5 = .ok (.iload_n 1, 1) := by decide +kernel
theorem dX10_endOfToken_6 : decode cX10_endOfToken 6 = .ok (.invokevirtual 55, 3) := by decide +kernel
theorem dX10_endOfToken_9 : decode cX10_endOfToken 9 = .ok (.ifCond .eq 25, 3) := by decide +kernel
theorem dX10_endOfToken_12 : decode cX10_endOfToken 12 = .ok (.iload_n 2, 1) := by decide +kernel
theorem dX10_endOfToken_13 : decode cX10_endOfToken 13 = .ok (.aload_n 0, 1) := by decide +kernel
theorem dX10_endOfToken_14 : decode cX10_endOfToken 14 = .ok (.getfield 34, 3) := by decide +kernel
theorem dX10_endOfToken_17 : decode cX10_endOfToken 17 = .ok (.if_icmp .ge 47, 3) := by decide +kernel
theorem dX10_endOfToken_20 : decode cX10_endOfToken 20 = .ok (.aload_n 0, 1) := by decide +kernel
theorem dX10_endOfToken_21 : decode cX10_endOfToken 21 = .ok (.iload_n 2, 1) := by decide +kernel
theorem dX10_endOfToken_22 : decode cX10_endOfToken 22 = .ok (.invokevirtual 55, 3) := by decide +kernel
theorem dX10_endOfToken_25 : decode cX10_endOfToken 25 = .ok (.ifCond .eq 39, 3) := by decide +kernel
theorem dX10_endOfToken_28 : decode cX10_endOfToken 28 = .ok (.iinc 2 1, 3) := by decide +kernel
theorem dX10_endOfToken_31 : decode cX10_endOfToken 31 = .ok (.goto (-19), 3) := by decide +kernel
theorem dX10_endOfToken_34 : decode cX10_endOfToken 34 = .ok (.aload_n 0, 1) := by decide +kernel
theorem dX10_endOfToken_35 : decode cX10_endOfToken 35 = .ok (.iload_n 1, 1) := by decide +kernel
theorem dX10_endOfToken_36 : decode cX10_endOfToken 36 = .ok (.invokevirtual 59, 3) := by decide +kernel
theorem dX10_endOfToken_39 : decode cX10_endOfToken 39 = .ok (.ifCond .eq 25, 3) := by decide +kernel
theorem dX10_endOfToken_42 : decode cX10_endOfToken 42 = .ok (.iload_n 2, 1) := by decide +kernel
theorem dX10_endOfToken_43 : decode cX10_endOfToken 43 = .ok (.aload_n 0, 1) := by decide +kernel
theorem dX10_endOfToken_44 : decode cX10_endOfToken 44 = .ok (.getfield 34, 3) := by decide +kernel
theorem dX10_endOfToken_47 : decode cX10_endOfToken 47 = .ok (.if_icmp .ge 17, 3) := by decide +kernel
theorem dX10_endOfToken_50 : decode cX10_endOfToken 50 = .ok (.aload_n 0, 1) := by decide +kernel
theorem dX10_endOfToken_51 : decode cX10_endOfToken 51 = .ok (.iload_n 2, 1) := by decide +kernel
theorem dX10_endOfToken_52 : decode cX10_endOfToken 52 = .ok (.invokevirtual 59, 3) := by decide +kernel
theorem dX10_endOfToken_55 : decode cX10_endOfToken 55 = .ok (.ifCond .eq 9, 3) := by decide +kernel
theorem dX10_endOfToken_58 : decode cX10_endOfToken 58 = .ok (.iinc 2 1, 3) := by decide +kernel
theorem dX10_endOfToken_61 : decode cX10_endOfToken 61 = .ok (.goto (-19), 3) := by decide +kernel
theorem dX10_endOfToken_64 : decode cX10_endOfToken 64 = .ok (.iload_n 2, 1) := by decide +kernel
theorem dX10_endOfToken_65 : decode cX10_endOfToken 65 = .ok (.ireturn, 1) := by decide +kernel
def fX10_endOfToken_20_L42 (S : Nat → Int32) (V : Nat → Nat → Int32) : Nat → Int32 → Option (Int32)
  | 0, _ => none
  | n + 1, x8 =>
    (if (S 2001) ≤ x8 then
    some x8
    else
    bd1 (fX10_isDigit_20 V x8) (fun r10 =>
    (if r10 = 0 then
    some x8
    else
    lt (x8 + (1 : Int32)) (fun x13 =>
    fX10_endOfToken_20_L42 S V n x13))))
def fX10_endOfToken_20_L12 (S : Nat → Int32) (V : Nat → Nat → Int32) : Nat → Int32 → Option (Int32)
  | 0, _ => none
  | n + 1, x14 =>
    (if (S 2001) ≤ x14 then
    some x14
    else
    bd1 (fX10_isLetter_20 V x14) (fun r16 =>
    (if r16 = 0 then
    some x14
    else
    lt (x14 + (1 : Int32)) (fun x19 =>
    fX10_endOfToken_20_L12 S V n x19))))
def fX10_endOfToken_20 (S : Nat → Int32) (V : Nat → Nat → Int32) (a1 : Int32) : Option (Int32) :=
  lt ((a1 + (1 : Int32))) (fun x1 =>
  bd1 (fX10_isLetter_20 V a1) (fun r2 =>
  (if r2 = 0 then
  bd1 (fX10_isDigit_20 V a1) (fun r5 =>
  (if r5 = 0 then
  some x1
  else
  fX10_endOfToken_20_L42 S V FU x1))
  else
  fX10_endOfToken_20_L12 S V FU x1)))
set_option maxHeartbeats 4000000 in
set_option maxRecDepth 100000 in
theorem kX10_endOfToken_20 (l : Launch) (B : jBT) (D : va_G) (ad : Nat → Nat) (cA : Nat → ClassId) (hI : jI ad TC) (S : Nat → Int32) (V : Nat → Nat → Int32) (L : Nat → Int64) (a1 : Int32) (r0 : Int32) (h : fX10_endOfToken_20 S V a1 = some r0) : jM l yX10_endOfToken cX10_endOfToken 3 (some .int) ({ frames := 1, cells := 0, slots := 0, locals := 21 }) B D TC ad cA [.ref (ad 20), .int a1] S V L (some (.int r0)) S V L := by
  refine jM_of (by decide) TC_ok hI (Nat.le_of_ble_eq_true rfl) ?_
  intro p e s m args below meth c C hr hlk
  refine j_lv (lv2 := [(0, .ref (ad 20)), (1, .int a1)]) rfl ?_
  unfold fX10_endOfToken_20 at h
  have H_fX10_endOfToken_20_L42 : ∀ (n : Nat) (x8 : Int32), fX10_endOfToken_20_L42 S V n x8 = some r0 → jW p l e ({ frames := 1, cells := 0, slots := 0, locals := 21 }) s m args below meth c (MQ below (jQc D TC ad cA (some (.int r0)) s.heap.size S V L) args s 0 0 (jA ad TC s.heap.size)) D TC ad cA (jA ad TC s.heap.size) 3 0 0 42 [(0, .ref (ad 20)), (2, .int x8)] [] S V L := by
    intro n
    induction n with
    | zero =>
      intro x8 h
      cases (show (none : Option (Int32)) = some r0 from h)
    | succ n ih =>
      intro x8 h
      unfold fX10_endOfToken_20_L42 at h
      refine j_iload_n C 1 rfl dX10_endOfToken_42 rfl ?_
      refine j_aload_n C 0 rfl dX10_endOfToken_43 rfl ?_
      refine fg_X10_34_TC_20 C dX10_endOfToken_44 ?_
      refine j_icmp_ge (tgt := 64) C dX10_endOfToken_47 (by decide) (fun c9 => ?_) (fun c9 => ?_)
      · have h := (if_pos c9).symm.trans h
        refine j_iload_n C 1 rfl dX10_endOfToken_64 rfl ?_
        cases h
        exact j_iret C hr hlk rfl dX10_endOfToken_65
      · have h := (if_neg c9).symm.trans h
        refine j_aload_n C 0 rfl dX10_endOfToken_50 rfl ?_
        refine j_iload_n C 1 rfl dX10_endOfToken_51 rfl ?_
        obtain ⟨r10, h11, h⟩ := bd1_elim h
        refine j_callV (As := [.int x8]) (rest := []) C (kX10_isDigit_20 l B D ad cA hI S V L x8 _ h11) mw_X10_isDigit wd783 wd11 wd781 tc_20 rfl rfl ⟨rfl, rfl, by decide, by decide⟩ ⟨Nat.zero_le _, Nat.zero_le _⟩ rfl rfl (Nat.le_of_ble_eq_true rfl) dX10_endOfToken_52 ?_
        refine j_if_eq (tgt := 64) C dX10_endOfToken_55 (by decide) (fun c12 => ?_) (fun c12 => ?_)
        · have h := (if_pos c12).symm.trans h
          refine j_iload_n C 1 rfl dX10_endOfToken_64 rfl ?_
          cases h
          exact j_iret C hr hlk rfl dX10_endOfToken_65
        · have h := (if_neg c12).symm.trans h
          refine lt_elim h (fun x13 e_x13 h => ?_)
          refine j_iinc C [(2, .int x13), (0, .ref (ad 20))] 1 dX10_endOfToken_58 rfl ((iinc_eq ci_1).trans e_x13.symm) (by decide) rfl ?_
          refine j_goto (tgt := 42) C dX10_endOfToken_61 (by decide) ?_
          exact j_sub [1, 0] rfl (ih _ h)
  have H_fX10_endOfToken_20_L12 : ∀ (n : Nat) (x14 : Int32), fX10_endOfToken_20_L12 S V n x14 = some r0 → jW p l e ({ frames := 1, cells := 0, slots := 0, locals := 21 }) s m args below meth c (MQ below (jQc D TC ad cA (some (.int r0)) s.heap.size S V L) args s 0 0 (jA ad TC s.heap.size)) D TC ad cA (jA ad TC s.heap.size) 3 0 0 12 [(0, .ref (ad 20)), (2, .int x14)] [] S V L := by
    intro n
    induction n with
    | zero =>
      intro x14 h
      cases (show (none : Option (Int32)) = some r0 from h)
    | succ n ih =>
      intro x14 h
      unfold fX10_endOfToken_20_L12 at h
      refine j_iload_n C 1 rfl dX10_endOfToken_12 rfl ?_
      refine j_aload_n C 0 rfl dX10_endOfToken_13 rfl ?_
      refine fg_X10_34_TC_20 C dX10_endOfToken_14 ?_
      refine j_icmp_ge (tgt := 64) C dX10_endOfToken_17 (by decide) (fun c15 => ?_) (fun c15 => ?_)
      · have h := (if_pos c15).symm.trans h
        refine j_iload_n C 1 rfl dX10_endOfToken_64 rfl ?_
        cases h
        exact j_iret C hr hlk rfl dX10_endOfToken_65
      · have h := (if_neg c15).symm.trans h
        refine j_aload_n C 0 rfl dX10_endOfToken_20 rfl ?_
        refine j_iload_n C 1 rfl dX10_endOfToken_21 rfl ?_
        obtain ⟨r16, h17, h⟩ := bd1_elim h
        refine j_callV (As := [.int x14]) (rest := []) C (kX10_isLetter_20 l B D ad cA hI S V L x14 _ h17) mw_X10_isLetter wd779 wd10 wd777 tc_20 rfl rfl ⟨rfl, rfl, by decide, by decide⟩ ⟨Nat.zero_le _, Nat.zero_le _⟩ rfl rfl (Nat.le_of_ble_eq_true rfl) dX10_endOfToken_22 ?_
        refine j_if_eq (tgt := 64) C dX10_endOfToken_25 (by decide) (fun c18 => ?_) (fun c18 => ?_)
        · have h := (if_pos c18).symm.trans h
          refine j_iload_n C 1 rfl dX10_endOfToken_64 rfl ?_
          cases h
          exact j_iret C hr hlk rfl dX10_endOfToken_65
        · have h := (if_neg c18).symm.trans h
          refine lt_elim h (fun x19 e_x19 h => ?_)
          refine j_iinc C [(2, .int x19), (0, .ref (ad 20))] 1 dX10_endOfToken_28 rfl ((iinc_eq ci_1).trans e_x19.symm) (by decide) rfl ?_
          refine j_goto (tgt := 12) C dX10_endOfToken_31 (by decide) ?_
          exact j_sub [1, 0] rfl (ih _ h)
  refine j_iload_n C 1 rfl dX10_endOfToken_0 rfl ?_
  refine j_iconst C dX10_endOfToken_1 ci_1 ?_
  refine j_iadd C dX10_endOfToken_2 ?_
  refine lt_elim h (fun x1 e_x1 h => ?_)
  refine j_top e_x1 ?_
  refine j_istore_n C [(2, .int x1), (0, .ref (ad 20)), (1, .int a1)] dX10_endOfToken_3 rfl (by decide) rfl ?_
  refine j_aload_n C 1 rfl dX10_endOfToken_4 rfl ?_
  refine j_iload_n C 2 rfl dX10_endOfToken_5 rfl ?_
  obtain ⟨r2, h3, h⟩ := bd1_elim h
  refine j_callV (As := [.int a1]) (rest := []) C (kX10_isLetter_20 l B D ad cA hI S V L a1 _ h3) mw_X10_isLetter wd779 wd10 wd777 tc_20 rfl rfl ⟨rfl, rfl, by decide, by decide⟩ ⟨Nat.zero_le _, Nat.zero_le _⟩ rfl rfl (Nat.le_of_ble_eq_true rfl) dX10_endOfToken_6 ?_
  refine j_if_eq (tgt := 34) C dX10_endOfToken_9 (by decide) (fun c4 => ?_) (fun c4 => ?_)
  · have h := (if_pos c4).symm.trans h
    refine j_aload_n C 1 rfl dX10_endOfToken_34 rfl ?_
    refine j_iload_n C 2 rfl dX10_endOfToken_35 rfl ?_
    obtain ⟨r5, h6, h⟩ := bd1_elim h
    refine j_callV (As := [.int a1]) (rest := []) C (kX10_isDigit_20 l B D ad cA hI S V L a1 _ h6) mw_X10_isDigit wd783 wd11 wd781 tc_20 rfl rfl ⟨rfl, rfl, by decide, by decide⟩ ⟨Nat.zero_le _, Nat.zero_le _⟩ rfl rfl (Nat.le_of_ble_eq_true rfl) dX10_endOfToken_36 ?_
    refine j_if_eq (tgt := 64) C dX10_endOfToken_39 (by decide) (fun c7 => ?_) (fun c7 => ?_)
    · have h := (if_pos c7).symm.trans h
      refine j_iload_n C 0 rfl dX10_endOfToken_64 rfl ?_
      cases h
      exact j_iret C hr hlk rfl dX10_endOfToken_65
    · have h := (if_neg c7).symm.trans h
      exact j_sub [1, 0] rfl (H_fX10_endOfToken_20_L42 FU _ h)
  · have h := (if_neg c4).symm.trans h
    exact j_sub [1, 0] rfl (H_fX10_endOfToken_20_L12 FU _ h)
theorem dX10_isWord_0 : decode cX10_isWord 0 = .ok (.aload_n 0, 1) := by decide +kernel
theorem dX10_isWord_1 : decode cX10_isWord 1 = .ok (.getfield 15, 3) := by decide +kernel
theorem dX10_isWord_4 : decode cX10_isWord 4 = .ok (.aload_n 0, 1) := by decide +kernel
theorem dX10_isWord_5 : decode cX10_isWord 5 = .ok (.getfield 44, 3) := by decide +kernel
theorem dX10_isWord_8 : decode cX10_isWord 8 = .ok (.iaload, 1) := by decide +kernel
theorem dX10_isWord_9 : decode cX10_isWord 9 = .ok (.bipush 100, 2) := by decide +kernel
theorem dX10_isWord_11 : decode cX10_isWord 11 = .ok (.if_icmp .lt 7, 3) := by decide +kernel
theorem dX10_isWord_14 : decode cX10_isWord 14 = .ok (.iconst 1, 1) := by decide +kernel
theorem dX10_isWord_15 : decode cX10_isWord 15 = .ok (.goto 4, 3) := by decide +kernel
theorem dX10_isWord_18 : decode cX10_isWord 18 = .ok (.iconst 0, 1) := by decide +kernel
theorem dX10_isWord_19 : decode cX10_isWord 19 = .ok (.ireturn, 1) := by decide +kernel
def fX10_isWord_20 (S : Nat → Int32) (V : Nat → Nat → Int32) : Option (Int32) :=
  lt ((S 2005)) (fun x1 =>
  gd (ib x1 601) (
  (if (V 22 (x1).toNatClampNeg) < (100 : Int32) then
  some (0 : Int32)
  else
  some (1 : Int32))))
set_option maxHeartbeats 4000000 in
set_option maxRecDepth 100000 in
theorem kX10_isWord_20 (l : Launch) (B : jBT) (D : va_G) (ad : Nat → Nat) (cA : Nat → ClassId) (hI : jI ad TC) (S : Nat → Int32) (V : Nat → Nat → Int32) (L : Nat → Int64) (r0 : Int32) (h : fX10_isWord_20 S V = some r0) : jM l yX10_isWord cX10_isWord 1 (some .boolean) ({ frames := 0, cells := 0, slots := 0, locals := 0 }) B D TC ad cA [.ref (ad 20)] S V L (some (.int r0)) S V L := by
  refine jM_of (by decide) TC_ok hI (Nat.le_of_ble_eq_true rfl) ?_
  intro p e s m args below meth c C hr hlk
  refine j_lv (lv2 := [(0, .ref (ad 20))]) rfl ?_
  unfold fX10_isWord_20 at h
  refine j_aload_n C 0 rfl dX10_isWord_0 rfl ?_
  refine fg_X10_15_TC_20 C dX10_isWord_1 ?_
  refine j_aload_n C 0 rfl dX10_isWord_4 rfl ?_
  refine fg_X10_44_TC_20 C dX10_isWord_5 ?_
  refine lt_elim h (fun x1 e_x1 h => ?_)
  refine j_top e_x1 ?_
  obtain ⟨g2, h⟩ := gd_elim h
  refine j_iald C tc_22 (ib_in g2) dX10_isWord_8 ?_
  refine j_bipush C dX10_isWord_9 cb_100 ?_
  refine j_icmp_lt (tgt := 18) C dX10_isWord_11 (by decide) (fun c3 => ?_) (fun c3 => ?_)
  · have h := (if_pos c3).symm.trans h
    refine j_iconst C dX10_isWord_18 ci_0 ?_
    cases h
    exact j_zret C hr hlk rfl rfl dX10_isWord_19
  · have h := (if_neg c3).symm.trans h
    refine j_iconst C dX10_isWord_14 ci_1 ?_
    refine j_goto (tgt := 19) C dX10_isWord_15 (by decide) ?_
    cases h
    exact j_zret C hr hlk rfl rfl dX10_isWord_19
theorem dX10_kind_0 : decode cX10_kind 0 = .ok (.aload_n 0, 1) := by decide +kernel
theorem dX10_kind_1 : decode cX10_kind 1 = .ok (.getfield 15, 3) := by decide +kernel
theorem dX10_kind_4 : decode cX10_kind 4 = .ok (.aload_n 0, 1) := by decide +kernel
theorem dX10_kind_5 : decode cX10_kind 5 = .ok (.getfield 44, 3) := by decide +kernel
theorem dX10_kind_8 : decode cX10_kind 8 = .ok (.iaload, 1) := by decide +kernel
theorem dX10_kind_9 : decode cX10_kind 9 = .ok (.ireturn, 1) := by decide +kernel
def fX10_kind_20 (S : Nat → Int32) (V : Nat → Nat → Int32) : Option (Int32) :=
  lt ((S 2005)) (fun x1 =>
  gd (ib x1 601) (
  some ((V 22 (x1).toNatClampNeg))))
set_option maxHeartbeats 4000000 in
set_option maxRecDepth 100000 in
theorem kX10_kind_20 (l : Launch) (B : jBT) (D : va_G) (ad : Nat → Nat) (cA : Nat → ClassId) (hI : jI ad TC) (S : Nat → Int32) (V : Nat → Nat → Int32) (L : Nat → Int64) (r0 : Int32) (h : fX10_kind_20 S V = some r0) : jM l yX10_kind cX10_kind 1 (some .int) ({ frames := 0, cells := 0, slots := 0, locals := 0 }) B D TC ad cA [.ref (ad 20)] S V L (some (.int r0)) S V L := by
  refine jM_of (by decide) TC_ok hI (Nat.le_of_ble_eq_true rfl) ?_
  intro p e s m args below meth c C hr hlk
  refine j_lv (lv2 := [(0, .ref (ad 20))]) rfl ?_
  unfold fX10_kind_20 at h
  refine j_aload_n C 0 rfl dX10_kind_0 rfl ?_
  refine fg_X10_15_TC_20 C dX10_kind_1 ?_
  refine j_aload_n C 0 rfl dX10_kind_4 rfl ?_
  refine fg_X10_44_TC_20 C dX10_kind_5 ?_
  refine lt_elim h (fun x1 e_x1 h => ?_)
  refine j_top e_x1 ?_
  obtain ⟨g2, h⟩ := gd_elim h
  refine j_iald C tc_22 (ib_in g2) dX10_kind_8 ?_
  cases h
  exact j_iret C hr hlk rfl dX10_kind_9
theorem dX10_number_0 : decode cX10_number 0 = .ok (.aload_n 0, 1) := by decide +kernel
theorem dX10_number_1 : decode cX10_number 1 = .ok (.getfield 22, 3) := by decide +kernel
theorem dX10_number_4 : decode cX10_number 4 = .ok (.aload_n 0, 1) := by decide +kernel
theorem dX10_number_5 : decode cX10_number 5 = .ok (.getfield 44, 3) := by decide +kernel
theorem dX10_number_8 : decode cX10_number 8 = .ok (.iaload, 1) := by decide +kernel
theorem dX10_number_9 : decode cX10_number 9 = .ok (.ireturn, 1) := by decide +kernel
def fX10_number_20 (S : Nat → Int32) (V : Nat → Nat → Int32) : Option (Int32) :=
  lt ((S 2005)) (fun x1 =>
  gd (ib x1 601) (
  some ((V 24 (x1).toNatClampNeg))))
set_option maxHeartbeats 4000000 in
set_option maxRecDepth 100000 in
theorem kX10_number_20 (l : Launch) (B : jBT) (D : va_G) (ad : Nat → Nat) (cA : Nat → ClassId) (hI : jI ad TC) (S : Nat → Int32) (V : Nat → Nat → Int32) (L : Nat → Int64) (r0 : Int32) (h : fX10_number_20 S V = some r0) : jM l yX10_number cX10_number 1 (some .int) ({ frames := 0, cells := 0, slots := 0, locals := 0 }) B D TC ad cA [.ref (ad 20)] S V L (some (.int r0)) S V L := by
  refine jM_of (by decide) TC_ok hI (Nat.le_of_ble_eq_true rfl) ?_
  intro p e s m args below meth c C hr hlk
  refine j_lv (lv2 := [(0, .ref (ad 20))]) rfl ?_
  unfold fX10_number_20 at h
  refine j_aload_n C 0 rfl dX10_number_0 rfl ?_
  refine fg_X10_22_TC_20 C dX10_number_1 ?_
  refine j_aload_n C 0 rfl dX10_number_4 rfl ?_
  refine fg_X10_44_TC_20 C dX10_number_5 ?_
  refine lt_elim h (fun x1 e_x1 h => ?_)
  refine j_top e_x1 ?_
  obtain ⟨g2, h⟩ := gd_elim h
  refine j_iald C tc_24 (ib_in g2) dX10_number_8 ?_
  cases h
  exact j_iret C hr hlk rfl dX10_number_9
theorem dX10_numberOf_0 : decode cX10_numberOf 0 = .ok (.iload_n 2, 1) := by decide +kernel
theorem dX10_numberOf_1 : decode cX10_numberOf 1 = .ok (.iload_n 1, 1) := by decide +kernel
theorem dX10_numberOf_2 : decode cX10_numberOf 2 = .ok (.isub, 1) := by decide +kernel
theorem dX10_numberOf_3 : decode cX10_numberOf 3 = .ok (.iconst 4, 1) := by decide +kernel
theorem dX10_numberOf_4 : decode cX10_numberOf 4 = .ok (.if_icmp .le 5, 3) := by decide +kernel
theorem dX10_numberOf_7 : decode cX10_numberOf 7 = .ok (.iconst (-1), 1) := by decide +kernel
theorem dX10_numberOf_8 : decode cX10_numberOf 8 = .ok (.ireturn, 1) := by decide +kernel
theorem dX10_numberOf_9 : decode cX10_numberOf 9 = .ok (.iconst 0, 1) := by decide +kernel
theorem dX10_numberOf_10 : decode cX10_numberOf 10 = .ok (.istore_n 3, 1) := by decide +kernel
theorem dX10_numberOf_11 : decode cX10_numberOf 11 = .ok (.iload_n 1, 1) := by decide +kernel
theorem dX10_numberOf_12 : decode cX10_numberOf 12 = .ok (.istore 4, 2) := by decide +kernel
theorem dX10_numberOf_14 : decode cX10_numberOf 14 = .ok (.iload 4, 2) := by decide +kernel
theorem dX10_numberOf_16 : decode cX10_numberOf 16 = .ok (.iload_n 2, 1) := by decide +kernel
theorem dX10_numberOf_17 : decode cX10_numberOf 17 = .ok (.if_icmp .ge 25, 3) := by decide +kernel
theorem dX10_numberOf_20 : decode cX10_numberOf 20 = .ok (.iload_n 3, 1) := by decide +kernel
theorem dX10_numberOf_21 : decode cX10_numberOf 21 = .ok (.bipush 10, 2) := by decide +kernel
theorem dX10_numberOf_23 : decode cX10_numberOf 23 = .ok (.imul, 1) := by decide +kernel
theorem dX10_numberOf_24 : decode cX10_numberOf 24 = .ok (.aload_n 0, 1) := by decide +kernel
theorem dX10_numberOf_25 : decode cX10_numberOf 25 = .ok (.getfield 9, 3) := by decide +kernel
theorem dX10_numberOf_28 : decode cX10_numberOf 28 = .ok (.iload 4, 2) := by decide +kernel
theorem dX10_numberOf_30 : decode cX10_numberOf 30 = .ok (.baload, 1) := by decide +kernel
theorem dX10_numberOf_31 : decode cX10_numberOf 31 = .ok (.iadd, 1) := by decide +kernel
theorem dX10_numberOf_32 : decode cX10_numberOf 32 = .ok (.bipush 48, 2) := by decide +kernel
theorem dX10_numberOf_34 : decode cX10_numberOf 34 = .ok (.isub, 1) := by decide +kernel
theorem dX10_numberOf_35 : decode cX10_numberOf 35 = .ok (.istore_n 3, 1) := by decide +kernel
theorem dX10_numberOf_36 : decode cX10_numberOf 36 = .ok (.iinc 4 1, 3) := by decide +kernel
theorem dX10_numberOf_39 : decode cX10_numberOf 39 = .ok (.goto (-25), 3) := by decide +kernel
theorem dX10_numberOf_42 : decode cX10_numberOf 42 = .ok (.iload_n 3, 1) := by decide +kernel
theorem dX10_numberOf_43 : decode cX10_numberOf 43 = .ok (.ireturn, 1) := by decide +kernel
def fX10_numberOf_20_L14 (V : Nat → Nat → Int32) : Nat → Int32 → Int32 → Int32 → Option (Int32)
  | 0, _, _, _ => none
  | n + 1, x2, x3, x4 =>
    (if x2 ≤ x4 then
    some x3
    else
    gd (ib x4 600) (
    lt ((((x3 * (10 : Int32)) + (V 21 (x4).toNatClampNeg)) - (48 : Int32))) (fun x7 =>
    lt (x4 + (1 : Int32)) (fun x8 =>
    fX10_numberOf_20_L14 V n x2 x7 x8))))
def fX10_numberOf_20 (V : Nat → Nat → Int32) (a1 : Int32) (a2 : Int32) : Option (Int32) :=
  (if (a2 - a1) ≤ (4 : Int32) then
  fX10_numberOf_20_L14 V FU a2 (0 : Int32) a1
  else
  some (-1 : Int32))
set_option maxHeartbeats 4000000 in
set_option maxRecDepth 100000 in
theorem kX10_numberOf_20 (l : Launch) (B : jBT) (D : va_G) (ad : Nat → Nat) (cA : Nat → ClassId) (hI : jI ad TC) (S : Nat → Int32) (V : Nat → Nat → Int32) (L : Nat → Int64) (a1 : Int32) (a2 : Int32) (r0 : Int32) (h : fX10_numberOf_20 V a1 a2 = some r0) : jM l yX10_numberOf cX10_numberOf 5 (some .int) ({ frames := 0, cells := 0, slots := 0, locals := 0 }) B D TC ad cA [.ref (ad 20), .int a1, .int a2] S V L (some (.int r0)) S V L := by
  refine jM_of (by decide) TC_ok hI (Nat.le_of_ble_eq_true rfl) ?_
  intro p e s m args below meth c C hr hlk
  refine j_lv (lv2 := [(0, .ref (ad 20)), (1, .int a1), (2, .int a2)]) rfl ?_
  unfold fX10_numberOf_20 at h
  have H_fX10_numberOf_20_L14 : ∀ (n : Nat) (x2 : Int32) (x3 : Int32) (x4 : Int32), fX10_numberOf_20_L14 V n x2 x3 x4 = some r0 → jW p l e ({ frames := 0, cells := 0, slots := 0, locals := 0 }) s m args below meth c (MQ below (jQc D TC ad cA (some (.int r0)) s.heap.size S V L) args s 0 0 (jA ad TC s.heap.size)) D TC ad cA (jA ad TC s.heap.size) 5 0 0 14 [(0, .ref (ad 20)), (2, .int x2), (3, .int x3), (4, .int x4)] [] S V L := by
    intro n
    induction n with
    | zero =>
      intro x2 x3 x4 h
      cases (show (none : Option (Int32)) = some r0 from h)
    | succ n ih =>
      intro x2 x3 x4 h
      unfold fX10_numberOf_20_L14 at h
      refine j_iload C 3 rfl dX10_numberOf_14 ?_
      refine j_iload_n C 1 rfl dX10_numberOf_16 rfl ?_
      refine j_icmp_ge (tgt := 42) C dX10_numberOf_17 (by decide) (fun c5 => ?_) (fun c5 => ?_)
      · have h := (if_pos c5).symm.trans h
        refine j_iload_n C 2 rfl dX10_numberOf_42 rfl ?_
        cases h
        exact j_iret C hr hlk rfl dX10_numberOf_43
      · have h := (if_neg c5).symm.trans h
        refine j_iload_n C 2 rfl dX10_numberOf_20 rfl ?_
        refine j_bipush C dX10_numberOf_21 cb_10 ?_
        refine j_imul C dX10_numberOf_23 ?_
        refine j_aload_n C 0 rfl dX10_numberOf_24 rfl ?_
        refine fg_X10_9_TC_20 C dX10_numberOf_25 ?_
        refine j_iload C 3 rfl dX10_numberOf_28 ?_
        obtain ⟨g6, h⟩ := gd_elim h
        refine j_bald C tc_21 (ib_in g6) dX10_numberOf_30 ?_
        refine j_iadd C dX10_numberOf_31 ?_
        refine j_bipush C dX10_numberOf_32 cb_48 ?_
        refine j_isub C dX10_numberOf_34 ?_
        refine lt_elim h (fun x7 e_x7 h => ?_)
        refine j_top e_x7 ?_
        refine j_istore_n C [(3, .int x7), (0, .ref (ad 20)), (2, .int x2), (4, .int x4)] dX10_numberOf_35 rfl (by decide) rfl ?_
        refine lt_elim h (fun x8 e_x8 h => ?_)
        refine j_iinc C [(4, .int x8), (3, .int x7), (0, .ref (ad 20)), (2, .int x2)] 3 dX10_numberOf_36 rfl ((iinc_eq ci_1).trans e_x8.symm) (by decide) rfl ?_
        refine j_goto (tgt := 14) C dX10_numberOf_39 (by decide) ?_
        exact j_sub [2, 3, 1, 0] rfl (ih _ _ _ h)
  refine j_iload_n C 2 rfl dX10_numberOf_0 rfl ?_
  refine j_iload_n C 1 rfl dX10_numberOf_1 rfl ?_
  refine j_isub C dX10_numberOf_2 ?_
  refine j_iconst C dX10_numberOf_3 ci_4 ?_
  refine j_icmp_le (tgt := 9) C dX10_numberOf_4 (by decide) (fun c1 => ?_) (fun c1 => ?_)
  · have h := (if_pos c1).symm.trans h
    refine j_iconst C dX10_numberOf_9 ci_0 ?_
    refine j_istore_n C [(3, .int (0 : Int32)), (0, .ref (ad 20)), (1, .int a1), (2, .int a2)] dX10_numberOf_10 rfl (by decide) rfl ?_
    refine j_iload_n C 2 rfl dX10_numberOf_11 rfl ?_
    refine j_istore C [(4, .int a1), (3, .int (0 : Int32)), (0, .ref (ad 20)), (1, .int a1), (2, .int a2)] dX10_numberOf_12 (by decide) rfl ?_
    exact j_sub [2, 4, 1, 0] rfl (H_fX10_numberOf_20_L14 FU _ _ _ h)
  · have h := (if_neg c1).symm.trans h
    refine j_iconst C dX10_numberOf_7 ci_m1 ?_
    cases h
    exact j_iret C hr hlk rfl dX10_numberOf_8
theorem dX10_place_0 : decode cX10_place 0 = .ok (.aload_n 0, 1) := by decide +kernel
theorem dX10_place_1 : decode cX10_place 1 = .ok (.getfield 19, 3) := by decide +kernel
theorem dX10_place_4 : decode cX10_place 4 = .ok (.aload_n 0, 1) := by decide +kernel
theorem dX10_place_5 : decode cX10_place 5 = .ok (.getfield 44, 3) := by decide +kernel
theorem dX10_place_8 : decode cX10_place 8 = .ok (.iaload, 1) := by decide +kernel
theorem dX10_place_9 : decode cX10_place 9 = .ok (.ireturn, 1) := by decide +kernel
def fX10_place_20 (S : Nat → Int32) (V : Nat → Nat → Int32) : Option (Int32) :=
  lt ((S 2005)) (fun x1 =>
  gd (ib x1 601) (
  some ((V 23 (x1).toNatClampNeg))))
set_option maxHeartbeats 4000000 in
set_option maxRecDepth 100000 in
theorem kX10_place_20 (l : Launch) (B : jBT) (D : va_G) (ad : Nat → Nat) (cA : Nat → ClassId) (hI : jI ad TC) (S : Nat → Int32) (V : Nat → Nat → Int32) (L : Nat → Int64) (r0 : Int32) (h : fX10_place_20 S V = some r0) : jM l yX10_place cX10_place 1 (some .int) ({ frames := 0, cells := 0, slots := 0, locals := 0 }) B D TC ad cA [.ref (ad 20)] S V L (some (.int r0)) S V L := by
  refine jM_of (by decide) TC_ok hI (Nat.le_of_ble_eq_true rfl) ?_
  intro p e s m args below meth c C hr hlk
  refine j_lv (lv2 := [(0, .ref (ad 20))]) rfl ?_
  unfold fX10_place_20 at h
  refine j_aload_n C 0 rfl dX10_place_0 rfl ?_
  refine fg_X10_19_TC_20 C dX10_place_1 ?_
  refine j_aload_n C 0 rfl dX10_place_4 rfl ?_
  refine fg_X10_44_TC_20 C dX10_place_5 ?_
  refine lt_elim h (fun x1 e_x1 h => ?_)
  refine j_top e_x1 ?_
  obtain ⟨g2, h⟩ := gd_elim h
  refine j_iald C tc_23 (ib_in g2) dX10_place_8 ?_
  cases h
  exact j_iret C hr hlk rfl dX10_place_9
theorem dX11_fault_0 : decode cX11_fault 0 = .ok (.aload_n 0, 1) := by decide +kernel
theorem dX11_fault_1 : decode cX11_fault 1 = .ok (.getfield 13, 3) := by decide +kernel
theorem dX11_fault_4 : decode cX11_fault 4 = .ok (.ireturn, 1) := by decide +kernel
def fX11_fault_0 (S : Nat → Int32) : Option (Int32) :=
  some ((S 2))
set_option maxHeartbeats 4000000 in
set_option maxRecDepth 100000 in
theorem kX11_fault_0 (l : Launch) (B : jBT) (D : va_G) (ad : Nat → Nat) (cA : Nat → ClassId) (hI : jI ad TC) (S : Nat → Int32) (V : Nat → Nat → Int32) (L : Nat → Int64) (r0 : Int32) (h : fX11_fault_0 S = some r0) : jM l yX11_fault cX11_fault 1 (some .int) ({ frames := 0, cells := 0, slots := 0, locals := 0 }) B D TC ad cA [.ref (ad 0)] S V L (some (.int r0)) S V L := by
  refine jM_of (by decide) TC_ok hI (Nat.le_of_ble_eq_true rfl) ?_
  intro p e s m args below meth c C hr hlk
  refine j_lv (lv2 := [(0, .ref (ad 0))]) rfl ?_
  unfold fX11_fault_0 at h
  refine j_aload_n C 0 rfl dX11_fault_0 rfl ?_
  refine fg_X11_13_TC_0 C dX11_fault_1 ?_
  cases h
  exact j_iret C hr hlk rfl dX11_fault_4
theorem dX11_putBytes_0 : decode cX11_putBytes 0 = .ok (.bipush 24, 2) := by decide +kernel
theorem dX11_putBytes_2 : decode cX11_putBytes 2 = .ok (.istore_n 2, 1) := by decide +kernel
theorem dX11_putBytes_3 : decode cX11_putBytes 3 = .ok (.iload_n 2, 1) := by decide +kernel
theorem dX11_putBytes_4 : decode cX11_putBytes 4 = .ok (.ifCond .lt 42, 3) := by decide +kernel
theorem dX11_putBytes_7 : decode cX11_putBytes 7 = .ok (.aload_n 0, 1) := by decide +kernel
theorem dX11_putBytes_8 : decode cX11_putBytes 8 = .ok (.getfield 98, 3) := by decide +kernel
theorem dX11_putBytes_11 : decode cX11_putBytes 11 = .ok (.sipush 600, 3) := by decide +kernel
theorem dX11_putBytes_14 : decode cX11_putBytes 14 = .ok (.if_icmp .ge 26, 3) := by decide +kernel
theorem dX11_putBytes_17 : decode cX11_putBytes 17 = .ok (.aload_n 0, 1) := by decide +kernel
theorem dX11_putBytes_18 : decode cX11_putBytes 18 = .ok (.getfield 9, 3) := by decide +kernel
theorem dX11_putBytes_21 : decode cX11_putBytes 21 = .ok (.aload_n 0, 1) := by decide +kernel
theorem dX11_putBytes_22 : decode cX11_putBytes 22 = .ok (.getfield 98, 3) := by decide +kernel
theorem dX11_putBytes_25 : decode cX11_putBytes 25 = .ok (.iload_n 1, 1) := by decide +kernel
theorem dX11_putBytes_26 : decode cX11_putBytes 26 = .ok (.iload_n 2, 1) := by decide +kernel
theorem dX11_putBytes_27 : decode cX11_putBytes 27 = .ok (.iushr, 1) := by decide +kernel
theorem dX11_putBytes_28 : decode cX11_putBytes 28 = .ok (.i2b, 1) := by decide +kernel
theorem dX11_putBytes_29 : decode cX11_putBytes 29 = .ok (.bastore, 1) := by decide +kernel
theorem dX11_putBytes_30 : decode cX11_putBytes 30 = .ok (.aload_n 0, 1) := by decide +kernel
theorem dX11_putBytes_31 : decode cX11_putBytes 31 = .ok (.dup, 1) := by decide +kernel
theorem dX11_putBytes_32 : decode cX11_putBytes 32 = .ok (.getfield 98, 3) := by decide +kernel
theorem dX11_putBytes_35 : decode cX11_putBytes 35 = .ok (.iconst 1, 1) := by decide +kernel
theorem dX11_putBytes_36 : decode cX11_putBytes 36 = .ok (.iadd, 1) := by decide +kernel
theorem dX11_putBytes_37 : decode cX11_putBytes 37 = .ok (.putfield 98, 3) := by decide +kernel
theorem dX11_putBytes_40 : decode cX11_putBytes 40 = .ok (.iinc 2 (-8), 3) := by decide +kernel
theorem dX11_putBytes_43 : decode cX11_putBytes 43 = .ok (.goto (-40), 3) := by decide +kernel
theorem dX11_putBytes_46 : decode cX11_putBytes 46 = .ok (.return_, 1) := by decide +kernel
def fX11_putBytes_0_L3 : Nat → Int32 → Int32 → (Nat → Int32) → (Nat → Nat → Int32) → Option ((Nat → Int32) × (Nat → Nat → Int32))
  | 0, _, _, _, _ => none
  | n + 1, x1, x2, S3, V4 =>
    (if x2 < 0 then
    some (S3, V4)
    else
    bk (fun (x7 : Int32) (x8 : Int32) (S9 : Nat → Int32) (V10 : Nat → Nat → Int32) =>
    lt (x8 + (-8 : Int32)) (fun x11 =>
    fX11_putBytes_0_L3 n x7 x11 S9 V10)) (fun K40_6 =>
    (if (600 : Int32) ≤ (S3 1) then
    K40_6 x1 x2 S3 V4
    else
    lt (((x1).toUInt32 >>> ((x2).toUInt32 &&& Int32.toUInt32 31)).toInt32) (fun x13 =>
    lt (((x13).toInt8.toInt32)) (fun x14 =>
    lt ((S3 1)) (fun x15 =>
    gd (ib x15 600) (
    lt (va_up V4 1 (upd (V4 1) (x15).toNatClampNeg (vp_nar .byte x14))) (fun V17 =>
    lt (((S3 1) + (1 : Int32))) (fun x18 =>
    lt (va_up S3 1 x18) (fun S19 =>
    K40_6 x1 x2 S19 V17))))))))))
def fX11_putBytes_0 (S : Nat → Int32) (V : Nat → Nat → Int32) (a1 : Int32) : Option ((Nat → Int32) × (Nat → Nat → Int32)) :=
  fX11_putBytes_0_L3 FU a1 (24 : Int32) S V
set_option maxHeartbeats 4000000 in
set_option maxRecDepth 100000 in
theorem kX11_putBytes_0 (l : Launch) (B : jBT) (D : va_G) (ad : Nat → Nat) (cA : Nat → ClassId) (hI : jI ad TC) (S : Nat → Int32) (V : Nat → Nat → Int32) (L : Nat → Int64) (a1 : Int32) (S0 : Nat → Int32) (V0 : Nat → Nat → Int32) (h : fX11_putBytes_0 S V a1 = some (S0, V0)) : jM l yX11_putBytes cX11_putBytes 3 none ({ frames := 0, cells := 0, slots := 0, locals := 0 }) B D TC ad cA [.ref (ad 0), .int a1] S V L none S0 V0 L := by
  refine jM_of (by decide) TC_ok hI (Nat.le_of_ble_eq_true rfl) ?_
  intro p e s m args below meth c C hr hlk
  refine j_lv (lv2 := [(0, .ref (ad 0)), (1, .int a1)]) rfl ?_
  unfold fX11_putBytes_0 at h
  have H_fX11_putBytes_0_L3 : ∀ (n : Nat) (x1 : Int32) (x2 : Int32) (S3 : Nat → Int32) (V4 : Nat → Nat → Int32), fX11_putBytes_0_L3 n x1 x2 S3 V4 = some (S0, V0) → jW p l e ({ frames := 0, cells := 0, slots := 0, locals := 0 }) s m args below meth c (MQ below (jQc D TC ad cA none s.heap.size S0 V0 L) args s 0 0 (jA ad TC s.heap.size)) D TC ad cA (jA ad TC s.heap.size) 3 0 0 3 [(0, .ref (ad 0)), (1, .int x1), (2, .int x2)] [] S3 V4 L := by
    intro n
    induction n with
    | zero =>
      intro x1 x2 S3 V4 h
      cases (show (none : Option ((Nat → Int32) × (Nat → Nat → Int32))) = some (S0, V0) from h)
    | succ n ih =>
      intro x1 x2 S3 V4 h
      unfold fX11_putBytes_0_L3 at h
      refine j_iload_n C 2 rfl dX11_putBytes_3 rfl ?_
      refine j_if_lt (tgt := 46) C dX11_putBytes_4 (by decide) (fun c5 => ?_) (fun c5 => ?_)
      · have h := (if_pos c5).symm.trans h
        cases h
        exact j_vret C hr hlk rfl dX11_putBytes_46
      · have h := (if_neg c5).symm.trans h
        refine j_aload_n C 0 rfl dX11_putBytes_7 rfl ?_
        refine fg_X11_98_TC_0 C dX11_putBytes_8 ?_
        refine j_sipush C dX11_putBytes_11 cs_600 ?_
        refine bk_elim h (fun K40_6 e_K40_6 h => ?_)
        have HK40_6 : ∀ (x7 : Int32) (x8 : Int32) (S9 : Nat → Int32) (V10 : Nat → Nat → Int32), K40_6 x7 x8 S9 V10 = some (S0, V0) → jW p l e ({ frames := 0, cells := 0, slots := 0, locals := 0 }) s m args below meth c (MQ below (jQc D TC ad cA none s.heap.size S0 V0 L) args s 0 0 (jA ad TC s.heap.size)) D TC ad cA (jA ad TC s.heap.size) 3 0 0 40 [(0, .ref (ad 0)), (1, .int x7), (2, .int x8)] [] S9 V10 L := by
          subst e_K40_6
          intro x7 x8 S9 V10 h
          refine lt_elim h (fun x11 e_x11 h => ?_)
          refine j_iinc C [(2, .int x11), (0, .ref (ad 0)), (1, .int x7)] 2 dX11_putBytes_40 rfl ((iinc_eq ci_m8).trans e_x11.symm) (by decide) rfl ?_
          refine j_goto (tgt := 3) C dX11_putBytes_43 (by decide) ?_
          exact j_sub [1, 2, 0] rfl (ih _ _ _ _ h)
        refine j_icmp_ge (tgt := 40) C dX11_putBytes_14 (by decide) (fun c12 => ?_) (fun c12 => ?_)
        · have h := (if_pos c12).symm.trans h
          exact j_sub [0, 1, 2] rfl (HK40_6 _ _ _ _ h)
        · have h := (if_neg c12).symm.trans h
          refine j_aload_n C 0 rfl dX11_putBytes_17 rfl ?_
          refine fg_X11_9_TC_0 C dX11_putBytes_18 ?_
          refine j_aload_n C 0 rfl dX11_putBytes_21 rfl ?_
          refine fg_X11_98_TC_0 C dX11_putBytes_22 ?_
          refine j_iload_n C 1 rfl dX11_putBytes_25 rfl ?_
          refine j_iload_n C 2 rfl dX11_putBytes_26 rfl ?_
          refine j_iushr C dX11_putBytes_27 ?_
          refine lt_elim h (fun x13 e_x13 h => ?_)
          refine j_top e_x13 ?_
          refine j_i2b C dX11_putBytes_28 ?_
          refine lt_elim h (fun x14 e_x14 h => ?_)
          refine j_top e_x14 ?_
          refine lt_elim h (fun x15 e_x15 h => ?_)
          refine j_top2 e_x15 ?_
          obtain ⟨g16, h⟩ := gd_elim h
          refine j_bast C tc_1 (ib_in g16) dX11_putBytes_29 ?_
          refine lt_elim h (fun V17 e_V17 h => ?_)
          refine j_V e_V17 ?_
          refine j_aload_n C 0 rfl dX11_putBytes_30 rfl ?_
          refine j_dup C dX11_putBytes_31 rfl ?_
          refine fg_X11_98_TC_0 C dX11_putBytes_32 ?_
          refine j_iconst C dX11_putBytes_35 ci_1 ?_
          refine j_iadd C dX11_putBytes_36 ?_
          refine lt_elim h (fun x18 e_x18 h => ?_)
          refine j_top e_x18 ?_
          refine fp_X11_98_TC_0 C dX11_putBytes_37 ?_
          refine lt_elim h (fun S19 e_S19 h => ?_)
          refine j_S e_S19 ?_
          exact j_sub [0, 1, 2] rfl (HK40_6 _ _ _ _ h)
  refine j_bipush C dX11_putBytes_0 cb_24 ?_
  refine j_istore_n C [(2, .int (24 : Int32)), (0, .ref (ad 0)), (1, .int a1)] dX11_putBytes_2 rfl (by decide) rfl ?_
  exact j_sub [1, 2, 0] rfl (H_fX11_putBytes_0_L3 FU _ _ _ _ h)
theorem dX11_feed_0 : decode cX11_feed 0 = .ok (.aload_n 0, 1) := by decide +kernel
theorem dX11_feed_1 : decode cX11_feed 1 = .ok (.getfield 98, 3) := by decide +kernel
theorem dX11_feed_4 : decode cX11_feed 4 = .ok (.bipush 20, 2) := by decide +kernel
theorem dX11_feed_6 : decode cX11_feed 6 = .ok (.iadd, 1) := by decide +kernel
theorem dX11_feed_7 : decode cX11_feed 7 = .ok (.sipush 600, 3) := by decide +kernel
theorem dX11_feed_10 : decode cX11_feed 10 = .ok (.if_icmp .le 5, 3) := by decide +kernel
theorem dX11_feed_13 : decode cX11_feed 13 = .ok (.iconst (-1), 1) := by decide +kernel
theorem dX11_feed_14 : decode cX11_feed 14 = .ok (.ireturn, 1) := by decide +kernel
theorem dX11_feed_15 : decode cX11_feed 15 = .ok (.aload_n 0, 1) := by decide +kernel
theorem dX11_feed_16 : decode cX11_feed 16 = .ok (.iload_n 1, 1) := by decide +kernel
theorem dX11_feed_17 : decode cX11_feed 17 = .ok (.invokevirtual 101, 3) := by decide +kernel
theorem dX11_feed_20 : decode cX11_feed 20 = .ok (.aload_n 0, 1) := by decide +kernel
theorem dX11_feed_21 : decode cX11_feed 21 = .ok (.iload_n 2, 1) := by decide +kernel
theorem dX11_feed_22 : decode cX11_feed 22 = .ok (.invokevirtual 101, 3) := by decide +kernel
theorem dX11_feed_25 : decode cX11_feed 25 = .ok (.aload_n 0, 1) := by decide +kernel
theorem dX11_feed_26 : decode cX11_feed 26 = .ok (.iload_n 3, 1) := by decide +kernel
theorem dX11_feed_27 : decode cX11_feed 27 = .ok (.invokevirtual 101, 3) := by decide +kernel
theorem dX11_feed_30 : decode cX11_feed 30 = .ok (.aload_n 0, 1) := by decide +kernel
theorem dX11_feed_31 : decode cX11_feed 31 = .ok (.iload 4, 2) := by decide +kernel
theorem dX11_feed_33 : decode cX11_feed 33 = .ok (.invokevirtual 101, 3) := by decide +kernel
theorem dX11_feed_36 : decode cX11_feed 36 = .ok (.aload_n 0, 1) := by decide +kernel
theorem dX11_feed_37 : decode cX11_feed 37 = .ok (.iload 5, 2) := by decide +kernel
theorem dX11_feed_39 : decode cX11_feed 39 = .ok (.invokevirtual 101, 3) := by decide +kernel
theorem dX11_feed_42 : decode cX11_feed 42 = .ok (.aload_n 0, 1) := by decide +kernel
theorem dX11_feed_43 : decode cX11_feed 43 = .ok (.getfield 98, 3) := by decide +kernel
theorem dX11_feed_46 : decode cX11_feed 46 = .ok (.ireturn, 1) := by decide +kernel
def fX11_feed_0 (S : Nat → Int32) (V : Nat → Nat → Int32) (a1 : Int32) (a2 : Int32) (a3 : Int32) (a4 : Int32) (a5 : Int32) : Option (Int32 × (Nat → Int32) × (Nat → Nat → Int32)) :=
  (if ((S 1) + (20 : Int32)) ≤ (600 : Int32) then
  bd2 (fX11_putBytes_0 S V a1) (fun S2 V3 =>
  bd2 (fX11_putBytes_0 S2 V3 a2) (fun S5 V6 =>
  bd2 (fX11_putBytes_0 S5 V6 a3) (fun S8 V9 =>
  bd2 (fX11_putBytes_0 S8 V9 a4) (fun S11 V12 =>
  bd2 (fX11_putBytes_0 S11 V12 a5) (fun S14 V15 =>
  some ((S14 1), S14, V15))))))
  else
  some ((-1 : Int32), S, V))
set_option maxHeartbeats 4000000 in
set_option maxRecDepth 100000 in
theorem kX11_feed_0 (l : Launch) (B : jBT) (D : va_G) (ad : Nat → Nat) (cA : Nat → ClassId) (hI : jI ad TC) (S : Nat → Int32) (V : Nat → Nat → Int32) (L : Nat → Int64) (a1 : Int32) (a2 : Int32) (a3 : Int32) (a4 : Int32) (a5 : Int32) (r0 : Int32) (S0 : Nat → Int32) (V0 : Nat → Nat → Int32) (h : fX11_feed_0 S V a1 a2 a3 a4 a5 = some (r0, S0, V0)) : jM l yX11_feed cX11_feed 6 (some .int) ({ frames := 1, cells := 0, slots := 0, locals := 22 }) B D TC ad cA [.ref (ad 0), .int a1, .int a2, .int a3, .int a4, .int a5] S V L (some (.int r0)) S0 V0 L := by
  refine jM_of (by decide) TC_ok hI (Nat.le_of_ble_eq_true rfl) ?_
  intro p e s m args below meth c C hr hlk
  refine j_lv (lv2 := [(0, .ref (ad 0)), (1, .int a1), (2, .int a2), (3, .int a3), (4, .int a4), (5, .int a5)]) rfl ?_
  unfold fX11_feed_0 at h
  refine j_aload_n C 0 rfl dX11_feed_0 rfl ?_
  refine fg_X11_98_TC_0 C dX11_feed_1 ?_
  refine j_bipush C dX11_feed_4 cb_20 ?_
  refine j_iadd C dX11_feed_6 ?_
  refine j_sipush C dX11_feed_7 cs_600 ?_
  refine j_icmp_le (tgt := 15) C dX11_feed_10 (by decide) (fun c1 => ?_) (fun c1 => ?_)
  · have h := (if_pos c1).symm.trans h
    refine j_aload_n C 0 rfl dX11_feed_15 rfl ?_
    refine j_iload_n C 1 rfl dX11_feed_16 rfl ?_
    obtain ⟨S2, V3, h4, h⟩ := bd2_elim h
    refine j_callV (As := [.int a1]) (rest := []) C (kX11_putBytes_0 l B D ad cA hI S V L a1 _ _ h4) mw_X11_putBytes wd562 wd0 wd560 tc_0 rfl rfl ⟨rfl, rfl, by decide, by decide⟩ ⟨Nat.zero_le _, Nat.zero_le _⟩ rfl rfl (Nat.le_of_ble_eq_true rfl) dX11_feed_17 ?_
    refine j_aload_n C 0 rfl dX11_feed_20 rfl ?_
    refine j_iload_n C 2 rfl dX11_feed_21 rfl ?_
    obtain ⟨S5, V6, h7, h⟩ := bd2_elim h
    refine j_callV (As := [.int a2]) (rest := []) C (kX11_putBytes_0 l B D ad cA hI S2 V3 L a2 _ _ h7) mw_X11_putBytes wd562 wd0 wd560 tc_0 rfl rfl ⟨rfl, rfl, by decide, by decide⟩ ⟨Nat.zero_le _, Nat.zero_le _⟩ rfl rfl (Nat.le_of_ble_eq_true rfl) dX11_feed_22 ?_
    refine j_aload_n C 0 rfl dX11_feed_25 rfl ?_
    refine j_iload_n C 3 rfl dX11_feed_26 rfl ?_
    obtain ⟨S8, V9, h10, h⟩ := bd2_elim h
    refine j_callV (As := [.int a3]) (rest := []) C (kX11_putBytes_0 l B D ad cA hI S5 V6 L a3 _ _ h10) mw_X11_putBytes wd562 wd0 wd560 tc_0 rfl rfl ⟨rfl, rfl, by decide, by decide⟩ ⟨Nat.zero_le _, Nat.zero_le _⟩ rfl rfl (Nat.le_of_ble_eq_true rfl) dX11_feed_27 ?_
    refine j_aload_n C 0 rfl dX11_feed_30 rfl ?_
    refine j_iload C 4 rfl dX11_feed_31 ?_
    obtain ⟨S11, V12, h13, h⟩ := bd2_elim h
    refine j_callV (As := [.int a4]) (rest := []) C (kX11_putBytes_0 l B D ad cA hI S8 V9 L a4 _ _ h13) mw_X11_putBytes wd562 wd0 wd560 tc_0 rfl rfl ⟨rfl, rfl, by decide, by decide⟩ ⟨Nat.zero_le _, Nat.zero_le _⟩ rfl rfl (Nat.le_of_ble_eq_true rfl) dX11_feed_33 ?_
    refine j_aload_n C 0 rfl dX11_feed_36 rfl ?_
    refine j_iload C 5 rfl dX11_feed_37 ?_
    obtain ⟨S14, V15, h16, h⟩ := bd2_elim h
    refine j_callV (As := [.int a5]) (rest := []) C (kX11_putBytes_0 l B D ad cA hI S11 V12 L a5 _ _ h16) mw_X11_putBytes wd562 wd0 wd560 tc_0 rfl rfl ⟨rfl, rfl, by decide, by decide⟩ ⟨Nat.zero_le _, Nat.zero_le _⟩ rfl rfl (Nat.le_of_ble_eq_true rfl) dX11_feed_39 ?_
    refine j_aload_n C 0 rfl dX11_feed_42 rfl ?_
    refine fg_X11_98_TC_0 C dX11_feed_43 ?_
    cases h
    exact j_iret C hr hlk rfl dX11_feed_46
  · have h := (if_neg c1).symm.trans h
    refine j_iconst C dX11_feed_13 ci_m1 ?_
    cases h
    exact j_iret C hr hlk rfl dX11_feed_14
