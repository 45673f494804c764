theorem dX2_hasTenant_0 : decode cX2_hasTenant 0 = .ok (.iload_n 1, 1) := by decide +kernel
theorem dX2_hasTenant_1 : decode cX2_hasTenant 1 = .ok (.ifCond .lt 15, 3) := by decide +kernel
theorem dX2_hasTenant_4 : decode cX2_hasTenant 4 = .ok (.iload_n 1, 1) := by decide +kernel
theorem dX2_hasTenant_5 : decode cX2_hasTenant 5 = .ok (.aload_n 0, 1) := by decide +kernel
theorem dX2_hasTenant_6 : decode cX2_hasTenant 6 = .ok (.getfield 46, 3) := by decide +kernel
theorem dX2_hasTenant_9 : decode cX2_hasTenant 9 = .ok (.if_icmp .ge 7, 3) := by decide +kernel
theorem dX2_hasTenant_12 : decode cX2_hasTenant 12 = .ok (.iconst 1, 1) := by decide +kernel
theorem dX2_hasTenant_13 : decode cX2_hasTenant 13 = .ok (.goto 4, 3) := by decide +kernel
theorem dX2_hasTenant_16 : decode cX2_hasTenant 16 = .ok (.iconst 0, 1) := by decide +kernel
theorem dX2_hasTenant_17 : decode cX2_hasTenant 17 = .ok (.ireturn, 1) := by decide +kernel
def fX2_hasTenant_3 (S : Nat → Int32) (a1 : Int32) : Option (Int32) :=
  (if a1 < 0 then
  some (0 : Int32)
  else
  (if (S 304) ≤ a1 then
  some (0 : Int32)
  else
  some (1 : Int32)))
set_option maxHeartbeats 4000000 in
set_option maxRecDepth 100000 in
theorem kX2_hasTenant_3 (l : Launch) (B : jBT) (D : va_G) (ad : Nat → Nat) (cA : Nat → ClassId) (hI : jI ad TC) (S : Nat → Int32) (V : Nat → Nat → Int32) (L : Nat → Int64) (a1 : Int32) (r0 : Int32) (h : fX2_hasTenant_3 S a1 = some r0) : jM l yX2_hasTenant cX2_hasTenant 2 (some .boolean) ({ frames := 0, cells := 0, slots := 0, locals := 0 }) B D TC ad cA [.ref (ad 3), .int a1] S V L (some (.int r0)) S V L := by
  refine jM_of (plainFor_of_name (by decide)) TC_ok hI (Nat.le_of_ble_eq_true rfl) ?_
  intro p e s m args below meth c C hr hlk
  refine j_lv (lv2 := [(0, .ref (ad 3)), (1, .int a1)]) rfl ?_
  unfold fX2_hasTenant_3 at h
  refine j_iload_n C 1 rfl dX2_hasTenant_0 rfl ?_
  refine j_if_lt (tgt := 16) C dX2_hasTenant_1 (by decide) (fun c1 => ?_) (fun c1 => ?_)
  · have h := (if_pos c1).symm.trans h
    refine j_iconst C dX2_hasTenant_16 ci_0 ?_
    cases h
    exact j_zret C hr hlk rfl rfl dX2_hasTenant_17
  · have h := (if_neg c1).symm.trans h
    refine j_iload_n C 1 rfl dX2_hasTenant_4 rfl ?_
    refine j_aload_n C 0 rfl dX2_hasTenant_5 rfl ?_
    refine fg_X2_46_TC_3 C dX2_hasTenant_6 ?_
    refine j_icmp_ge (tgt := 16) C dX2_hasTenant_9 (by decide) (fun c2 => ?_) (fun c2 => ?_)
    · have h := (if_pos c2).symm.trans h
      refine j_iconst C dX2_hasTenant_16 ci_0 ?_
      cases h
      exact j_zret C hr hlk rfl rfl dX2_hasTenant_17
    · have h := (if_neg c2).symm.trans h
      refine j_iconst C dX2_hasTenant_12 ci_1 ?_
      refine j_goto (tgt := 17) C dX2_hasTenant_13 (by decide) ?_
      cases h
      exact j_zret C hr hlk rfl rfl dX2_hasTenant_17
theorem dX4_letHours_0 : decode cX4_letHours 0 = .ok (.iconst 0, 1) := by decide +kernel
theorem dX4_letHours_1 : decode cX4_letHours 1 = .ok (.istore_n 2, 1) := by decide +kernel
theorem dX4_letHours_2 : decode cX4_letHours 2 = .ok (.iconst 0, 1) := by decide +kernel
theorem dX4_letHours_3 : decode cX4_letHours 3 = .ok (.istore_n 3, 1) := by decide +kernel
theorem dX4_letHours_4 : decode cX4_letHours 4 = .ok (.iload_n 3, 1) := by decide +kernel
theorem dX4_letHours_5 : decode cX4_letHours 5 = .ok (.aload_n 0, 1) := by decide +kernel
theorem dX4_letHours_6 : decode cX4_letHours 6 = .ok (.getfield 41, 3) := by decide +kernel
theorem dX4_letHours_9 : decode cX4_letHours 9 = .ok (.if_icmp .ge 37, 3) := by decide +kernel
theorem dX4_letHours_12 : decode cX4_letHours 12 = .ok (.aload_n 0, 1) := by decide +kernel
theorem dX4_letHours_13 : decode cX4_letHours 13 = .ok (.getfield 15, 3) := by decide +kernel
theorem dX4_letHours_16 : decode cX4_letHours 16 = .ok (.iload_n 3, 1) := by decide +kernel
theorem dX4_letHours_17 : decode cX4_letHours 17 = .ok (.iaload, 1) := by decide +kernel
theorem dX4_letHours_18 : decode cX4_letHours 18 = .ok (.iload_n 1, 1) := by decide +kernel
theorem dX4_letHours_19 : decode cX4_letHours 19 = .ok (.if_icmp .ne 21, 3) := by decide +kernel
theorem dX4_letHours_22 : decode cX4_letHours 22 = .ok (.iload_n 2, 1) := by decide +kernel
theorem dX4_letHours_23 : decode cX4_letHours 23 = .ok (.aload_n 0, 1) := by decide +kernel
theorem dX4_letHours_24 : decode cX4_letHours 24 = .ok (.getfield 18, 3) := by decide +kernel
theorem dX4_letHours_27 : decode cX4_letHours 27 = .ok (.iload_n 3, 1) := by decide +kernel
theorem dX4_letHours_28 : decode cX4_letHours 28 = .ok (.iaload, 1) := by decide +kernel
theorem dX4_letHours_29 : decode cX4_letHours 29 = .ok (.aload_n 0, 1) := by decide +kernel
theorem dX4_letHours_30 : decode cX4_letHours 30 = .ok (.getfield 21, 3) := by decide +kernel
theorem dX4_letHours_33 : decode cX4_letHours 33 = .ok (.iload_n 3, 1) := by decide +kernel
theorem dX4_letHours_34 : decode cX4_letHours 34 = .ok (.iaload, 1) := by decide +kernel
theorem dX4_letHours_35 : decode cX4_letHours 35 = .ok (.invokestatic 61, 3) := by decide +kernel
theorem dX4_letHours_38 : decode cX4_letHours 38 = .ok (.ior, 1) := by decide +kernel
theorem dX4_letHours_39 : decode cX4_letHours 39 = .ok (.istore_n 2, 1) := by decide +kernel
theorem dX4_letHours_40 : decode cX4_letHours 40 = .ok (.iinc 3 1, 3) := by decide +kernel
theorem dX4_letHours_43 : decode cX4_letHours 43 = .ok (.goto (-39), 3) := by decide +kernel
theorem dX4_letHours_46 : decode cX4_letHours 46 = .ok (.iload_n 2, 1) := by decide +kernel
theorem dX4_letHours_47 : decode cX4_letHours 47 = .ok (.ireturn, 1) := by decide +kernel
def fX4_letHours_30_L4 (S : Nat → Int32) (V : Nat → Nat → Int32) : Nat → Int32 → Int32 → Int32 → Option (Int32)
  | 0, _, _, _ => none
  | n + 1, x1, x2, x3 =>
    (if (S 3002) ≤ x3 then
    some x2
    else
    gd (ib x3 13) (
    bk (fun (x7 : Int32) (x8 : Int32) (x9 : Int32) =>
    lt (x9 + (1 : Int32)) (fun x10 =>
    fX4_letHours_30_L4 S V n x7 x8 x10)) (fun K40_6 =>
    (if (V 32 (x3).toNatClampNeg) = x1 then
    gd (ib x3 13) (
    gd (ib x3 13) (
    bd1 (fX11_hourBits ((V 33 (x3).toNatClampNeg)) ((V 34 (x3).toNatClampNeg))) (fun r14 =>
    lt ((x2 ||| r14)) (fun x16 =>
    K40_6 x1 x16 x3))))
    else
    K40_6 x1 x2 x3))))
def fX4_letHours_30 (S : Nat → Int32) (V : Nat → Nat → Int32) (a1 : Int32) : Option (Int32) :=
  fX4_letHours_30_L4 S V FU a1 (0 : Int32) (0 : Int32)
set_option maxHeartbeats 4000000 in
set_option maxRecDepth 100000 in
theorem kX4_letHours_30 (l : Launch) (B : jBT) (D : va_G) (ad : Nat → Nat) (cA : Nat → ClassId) (hI : jI ad TC) (S : Nat → Int32) (V : Nat → Nat → Int32) (L : Nat → Int64) (a1 : Int32) (r0 : Int32) (h : fX4_letHours_30 S V a1 = some r0) : jM l yX4_letHours cX4_letHours 4 (some .int) ({ frames := 1, cells := 0, slots := 0, locals := 21 }) B D TC ad cA [.ref (ad 30), .int a1] S V L (some (.int r0)) S V L := by
  refine jM_of (plainFor_of_name (by decide)) TC_ok hI (Nat.le_of_ble_eq_true rfl) ?_
  intro p e s m args below meth c C hr hlk
  refine j_lv (lv2 := [(0, .ref (ad 30)), (1, .int a1)]) rfl ?_
  unfold fX4_letHours_30 at h
  have H_fX4_letHours_30_L4 : ∀ (n : Nat) (x1 : Int32) (x2 : Int32) (x3 : Int32), fX4_letHours_30_L4 S V n x1 x2 x3 = some r0 → jW p l e ({ frames := 1, cells := 0, slots := 0, locals := 21 }) s m args below meth c (MQ below (jQc D TC ad cA (some (.int r0)) s.heap.size S V L) args s 0 0 (jA ad TC s.heap.size)) D TC ad cA (jA ad TC s.heap.size) 4 0 0 4 [(0, .ref (ad 30)), (1, .int x1), (2, .int x2), (3, .int x3)] [] S V L := by
    intro n
    induction n with
    | zero =>
      intro x1 x2 x3 h
      cases (show (none : Option (Int32)) = some r0 from h)
    | succ n ih =>
      intro x1 x2 x3 h
      unfold fX4_letHours_30_L4 at h
      refine j_iload_n C 3 rfl dX4_letHours_4 rfl ?_
      refine j_aload_n C 0 rfl dX4_letHours_5 rfl ?_
      refine fg_X4_41_TC_30 C dX4_letHours_6 ?_
      refine j_icmp_ge (tgt := 46) C dX4_letHours_9 (by decide) (fun c4 => ?_) (fun c4 => ?_)
      · have h := (if_pos c4).symm.trans h
        refine j_iload_n C 2 rfl dX4_letHours_46 rfl ?_
        cases h
        exact j_iret C hr hlk rfl dX4_letHours_47
      · have h := (if_neg c4).symm.trans h
        refine j_aload_n C 0 rfl dX4_letHours_12 rfl ?_
        refine fg_X4_15_TC_30 C dX4_letHours_13 ?_
        refine j_iload_n C 3 rfl dX4_letHours_16 rfl ?_
        obtain ⟨g5, h⟩ := gd_elim h
        refine j_iald C tc_32 (ib_in g5) dX4_letHours_17 ?_
        refine j_iload_n C 1 rfl dX4_letHours_18 rfl ?_
        refine bk_elim h (fun K40_6 e_K40_6 h => ?_)
        have HK40_6 : ∀ (x7 : Int32) (x8 : Int32) (x9 : Int32), K40_6 x7 x8 x9 = some r0 → jW p l e ({ frames := 1, cells := 0, slots := 0, locals := 21 }) s m args below meth c (MQ below (jQc D TC ad cA (some (.int r0)) s.heap.size S V L) args s 0 0 (jA ad TC s.heap.size)) D TC ad cA (jA ad TC s.heap.size) 4 0 0 40 [(0, .ref (ad 30)), (1, .int x7), (2, .int x8), (3, .int x9)] [] S V L := by
          subst e_K40_6
          intro x7 x8 x9 h
          refine lt_elim h (fun x10 e_x10 h => ?_)
          refine j_iinc C [(3, .int x10), (0, .ref (ad 30)), (1, .int x7), (2, .int x8)] 3 dX4_letHours_40 rfl ((iinc_eq ci_1).trans e_x10.symm) (by decide) rfl ?_
          refine j_goto (tgt := 4) C dX4_letHours_43 (by decide) ?_
          exact j_sub [1, 2, 3, 0] rfl (ih _ _ _ h)
        refine j_icmp_ne (tgt := 40) C dX4_letHours_19 (by decide) (fun c11 => ?_) (fun c11 => ?_)
        · have h := (if_neg c11).symm.trans h
          exact j_sub [0, 1, 2, 3] rfl (HK40_6 _ _ _ h)
        · have h := (if_pos c11).symm.trans h
          refine j_iload_n C 2 rfl dX4_letHours_22 rfl ?_
          refine j_aload_n C 0 rfl dX4_letHours_23 rfl ?_
          refine fg_X4_18_TC_30 C dX4_letHours_24 ?_
          refine j_iload_n C 3 rfl dX4_letHours_27 rfl ?_
          obtain ⟨g12, h⟩ := gd_elim h
          refine j_iald C tc_33 (ib_in g12) dX4_letHours_28 ?_
          refine j_aload_n C 0 rfl dX4_letHours_29 rfl ?_
          refine fg_X4_21_TC_30 C dX4_letHours_30 ?_
          refine j_iload_n C 3 rfl dX4_letHours_33 rfl ?_
          obtain ⟨g13, h⟩ := gd_elim h
          refine j_iald C tc_34 (ib_in g13) dX4_letHours_34 ?_
          obtain ⟨r14, h15, h⟩ := bd1_elim h
          refine j_callN (As := [.int (V 33 (x3).toNatClampNeg), .int (V 34 (x3).toNatClampNeg)]) (rest := [.int x2]) (host := "ClockLodgers") C (kX11_hourBits l B D ad cA hI S V L ((V 33 (x3).toNatClampNeg)) ((V 34 (x3).toNatClampNeg)) _ h15) mw_X11_hourBits wd585 (by decide +kernel) ⟨rfl, rfl, by decide, by decide⟩ ⟨Nat.zero_le _, Nat.zero_le _⟩ rfl rfl (Nat.le_of_ble_eq_true rfl) dX4_letHours_35 ?_
          refine j_ior C dX4_letHours_38 ?_
          refine lt_elim h (fun x16 e_x16 h => ?_)
          refine j_top e_x16 ?_
          refine j_istore_n C [(2, .int x16), (0, .ref (ad 30)), (1, .int x1), (3, .int x3)] dX4_letHours_39 rfl (by decide) rfl ?_
          exact j_sub [1, 2, 0, 3] rfl (HK40_6 _ _ _ h)
  refine j_iconst C dX4_letHours_0 ci_0 ?_
  refine j_istore_n C [(2, .int (0 : Int32)), (0, .ref (ad 30)), (1, .int a1)] dX4_letHours_1 rfl (by decide) rfl ?_
  refine j_iconst C dX4_letHours_2 ci_0 ?_
  refine j_istore_n C [(3, .int (0 : Int32)), (2, .int (0 : Int32)), (0, .ref (ad 30)), (1, .int a1)] dX4_letHours_3 rfl (by decide) rfl ?_
  exact j_sub [2, 3, 1, 0] rfl (H_fX4_letHours_30_L4 FU _ _ _ h)
theorem dX4_hoursOf_0 : decode cX4_hoursOf 0 = .ok (.iconst 0, 1) := by decide +kernel
theorem dX4_hoursOf_1 : decode cX4_hoursOf 1 = .ok (.istore_n 2, 1) := by decide +kernel
theorem dX4_hoursOf_2 : decode cX4_hoursOf 2 = .ok (.iconst 0, 1) := by decide +kernel
theorem dX4_hoursOf_3 : decode cX4_hoursOf 3 = .ok (.istore_n 3, 1) := by decide +kernel
theorem dX4_hoursOf_4 : decode cX4_hoursOf 4 = .ok (.iload_n 3, 1) := by decide +kernel
theorem dX4_hoursOf_5 : decode cX4_hoursOf 5 = .ok (.aload_n 0, 1) := by decide +kernel
theorem dX4_hoursOf_6 : decode cX4_hoursOf 6 = .ok (.getfield 41, 3) := by decide +kernel
theorem dX4_hoursOf_9 : decode cX4_hoursOf 9 = .ok (.if_icmp .ge 37, 3) := by decide +kernel
theorem dX4_hoursOf_12 : decode cX4_hoursOf 12 = .ok (.aload_n 0, 1) := by decide +kernel
theorem dX4_hoursOf_13 : decode cX4_hoursOf 13 = .ok (.getfield 9, 3) := by decide +kernel
theorem dX4_hoursOf_16 : decode cX4_hoursOf 16 = .ok (.iload_n 3, 1) := by decide +kernel
theorem dX4_hoursOf_17 : decode cX4_hoursOf 17 = .ok (.iaload, 1) := by decide +kernel
theorem dX4_hoursOf_18 : decode cX4_hoursOf 18 = .ok (.iload_n 1, 1) := by decide +kernel
theorem dX4_hoursOf_19 : decode cX4_hoursOf 19 = .ok (.if_icmp .ne 21, 3) := by decide +kernel
theorem dX4_hoursOf_22 : decode cX4_hoursOf 22 = .ok (.iload_n 2, 1) := by decide +kernel
theorem dX4_hoursOf_23 : decode cX4_hoursOf 23 = .ok (.aload_n 0, 1) := by decide +kernel
theorem dX4_hoursOf_24 : decode cX4_hoursOf 24 = .ok (.getfield 18, 3) := by decide +kernel
theorem dX4_hoursOf_27 : decode cX4_hoursOf 27 = .ok (.iload_n 3, 1) := by decide +kernel
theorem dX4_hoursOf_28 : decode cX4_hoursOf 28 = .ok (.iaload, 1) := by decide +kernel
theorem dX4_hoursOf_29 : decode cX4_hoursOf 29 = .ok (.aload_n 0, 1) := by decide +kernel
theorem dX4_hoursOf_30 : decode cX4_hoursOf 30 = .ok (.getfield 21, 3) := by decide +kernel
theorem dX4_hoursOf_33 : decode cX4_hoursOf 33 = .ok (.iload_n 3, 1) := by decide +kernel
theorem dX4_hoursOf_34 : decode cX4_hoursOf 34 = .ok (.iaload, 1) := by decide +kernel
theorem dX4_hoursOf_35 : decode cX4_hoursOf 35 = .ok (.invokestatic 61, 3) := by decide +kernel
theorem dX4_hoursOf_38 : decode cX4_hoursOf 38 = .ok (.ior, 1) := by decide +kernel
theorem dX4_hoursOf_39 : decode cX4_hoursOf 39 = .ok (.istore_n 2, 1) := by decide +kernel
theorem dX4_hoursOf_40 : decode cX4_hoursOf 40 = .ok (.iinc 3 1, 3) := by decide +kernel
theorem dX4_hoursOf_43 : decode cX4_hoursOf 43 = .ok (.goto (-39), 3) := by decide +kernel
theorem dX4_hoursOf_46 : decode cX4_hoursOf 46 = .ok (.iload_n 2, 1) := by decide +kernel
theorem dX4_hoursOf_47 : decode cX4_hoursOf 47 = .ok (.ireturn, 1) := by decide +kernel
def fX4_hoursOf_30_L4 (S : Nat → Int32) (V : Nat → Nat → Int32) : Nat → Int32 → Int32 → Int32 → Option (Int32)
  | 0, _, _, _ => none
  | n + 1, x1, x2, x3 =>
    (if (S 3002) ≤ x3 then
    some x2
    else
    gd (ib x3 13) (
    bk (fun (x7 : Int32) (x8 : Int32) (x9 : Int32) =>
    lt (x9 + (1 : Int32)) (fun x10 =>
    fX4_hoursOf_30_L4 S V n x7 x8 x10)) (fun K40_6 =>
    (if (V 31 (x3).toNatClampNeg) = x1 then
    gd (ib x3 13) (
    gd (ib x3 13) (
    bd1 (fX11_hourBits ((V 33 (x3).toNatClampNeg)) ((V 34 (x3).toNatClampNeg))) (fun r14 =>
    lt ((x2 ||| r14)) (fun x16 =>
    K40_6 x1 x16 x3))))
    else
    K40_6 x1 x2 x3))))
def fX4_hoursOf_30 (S : Nat → Int32) (V : Nat → Nat → Int32) (a1 : Int32) : Option (Int32) :=
  fX4_hoursOf_30_L4 S V FU a1 (0 : Int32) (0 : Int32)
set_option maxHeartbeats 4000000 in
set_option maxRecDepth 100000 in
theorem kX4_hoursOf_30 (l : Launch) (B : jBT) (D : va_G) (ad : Nat → Nat) (cA : Nat → ClassId) (hI : jI ad TC) (S : Nat → Int32) (V : Nat → Nat → Int32) (L : Nat → Int64) (a1 : Int32) (r0 : Int32) (h : fX4_hoursOf_30 S V a1 = some r0) : jM l yX4_hoursOf cX4_hoursOf 4 (some .int) ({ frames := 1, cells := 0, slots := 0, locals := 21 }) B D TC ad cA [.ref (ad 30), .int a1] S V L (some (.int r0)) S V L := by
  refine jM_of (plainFor_of_name (by decide)) TC_ok hI (Nat.le_of_ble_eq_true rfl) ?_
  intro p e s m args below meth c C hr hlk
  refine j_lv (lv2 := [(0, .ref (ad 30)), (1, .int a1)]) rfl ?_
  unfold fX4_hoursOf_30 at h
  have H_fX4_hoursOf_30_L4 : ∀ (n : Nat) (x1 : Int32) (x2 : Int32) (x3 : Int32), fX4_hoursOf_30_L4 S V n x1 x2 x3 = some r0 → jW p l e ({ frames := 1, cells := 0, slots := 0, locals := 21 }) s m args below meth c (MQ below (jQc D TC ad cA (some (.int r0)) s.heap.size S V L) args s 0 0 (jA ad TC s.heap.size)) D TC ad cA (jA ad TC s.heap.size) 4 0 0 4 [(0, .ref (ad 30)), (1, .int x1), (2, .int x2), (3, .int x3)] [] S V L := by
    intro n
    induction n with
    | zero =>
      intro x1 x2 x3 h
      cases (show (none : Option (Int32)) = some r0 from h)
    | succ n ih =>
      intro x1 x2 x3 h
      unfold fX4_hoursOf_30_L4 at h
      refine j_iload_n C 3 rfl dX4_hoursOf_4 rfl ?_
      refine j_aload_n C 0 rfl dX4_hoursOf_5 rfl ?_
      refine fg_X4_41_TC_30 C dX4_hoursOf_6 ?_
      refine j_icmp_ge (tgt := 46) C dX4_hoursOf_9 (by decide) (fun c4 => ?_) (fun c4 => ?_)
      · have h := (if_pos c4).symm.trans h
        refine j_iload_n C 2 rfl dX4_hoursOf_46 rfl ?_
        cases h
        exact j_iret C hr hlk rfl dX4_hoursOf_47
      · have h := (if_neg c4).symm.trans h
        refine j_aload_n C 0 rfl dX4_hoursOf_12 rfl ?_
        refine fg_X4_9_TC_30 C dX4_hoursOf_13 ?_
        refine j_iload_n C 3 rfl dX4_hoursOf_16 rfl ?_
        obtain ⟨g5, h⟩ := gd_elim h
        refine j_iald C tc_31 (ib_in g5) dX4_hoursOf_17 ?_
        refine j_iload_n C 1 rfl dX4_hoursOf_18 rfl ?_
        refine bk_elim h (fun K40_6 e_K40_6 h => ?_)
        have HK40_6 : ∀ (x7 : Int32) (x8 : Int32) (x9 : Int32), K40_6 x7 x8 x9 = some r0 → jW p l e ({ frames := 1, cells := 0, slots := 0, locals := 21 }) s m args below meth c (MQ below (jQc D TC ad cA (some (.int r0)) s.heap.size S V L) args s 0 0 (jA ad TC s.heap.size)) D TC ad cA (jA ad TC s.heap.size) 4 0 0 40 [(0, .ref (ad 30)), (1, .int x7), (2, .int x8), (3, .int x9)] [] S V L := by
          subst e_K40_6
          intro x7 x8 x9 h
          refine lt_elim h (fun x10 e_x10 h => ?_)
          refine j_iinc C [(3, .int x10), (0, .ref (ad 30)), (1, .int x7), (2, .int x8)] 3 dX4_hoursOf_40 rfl ((iinc_eq ci_1).trans e_x10.symm) (by decide) rfl ?_
          refine j_goto (tgt := 4) C dX4_hoursOf_43 (by decide) ?_
          exact j_sub [1, 2, 3, 0] rfl (ih _ _ _ h)
        refine j_icmp_ne (tgt := 40) C dX4_hoursOf_19 (by decide) (fun c11 => ?_) (fun c11 => ?_)
        · have h := (if_neg c11).symm.trans h
          exact j_sub [0, 1, 2, 3] rfl (HK40_6 _ _ _ h)
        · have h := (if_pos c11).symm.trans h
          refine j_iload_n C 2 rfl dX4_hoursOf_22 rfl ?_
          refine j_aload_n C 0 rfl dX4_hoursOf_23 rfl ?_
          refine fg_X4_18_TC_30 C dX4_hoursOf_24 ?_
          refine j_iload_n C 3 rfl dX4_hoursOf_27 rfl ?_
          obtain ⟨g12, h⟩ := gd_elim h
          refine j_iald C tc_33 (ib_in g12) dX4_hoursOf_28 ?_
          refine j_aload_n C 0 rfl dX4_hoursOf_29 rfl ?_
          refine fg_X4_21_TC_30 C dX4_hoursOf_30 ?_
          refine j_iload_n C 3 rfl dX4_hoursOf_33 rfl ?_
          obtain ⟨g13, h⟩ := gd_elim h
          refine j_iald C tc_34 (ib_in g13) dX4_hoursOf_34 ?_
          obtain ⟨r14, h15, h⟩ := bd1_elim h
          refine j_callN (As := [.int (V 33 (x3).toNatClampNeg), .int (V 34 (x3).toNatClampNeg)]) (rest := [.int x2]) (host := "ClockLodgers") C (kX11_hourBits l B D ad cA hI S V L ((V 33 (x3).toNatClampNeg)) ((V 34 (x3).toNatClampNeg)) _ h15) mw_X11_hourBits wd585 (by decide +kernel) ⟨rfl, rfl, by decide, by decide⟩ ⟨Nat.zero_le _, Nat.zero_le _⟩ rfl rfl (Nat.le_of_ble_eq_true rfl) dX4_hoursOf_35 ?_
          refine j_ior C dX4_hoursOf_38 ?_
          refine lt_elim h (fun x16 e_x16 h => ?_)
          refine j_top e_x16 ?_
          refine j_istore_n C [(2, .int x16), (0, .ref (ad 30)), (1, .int x1), (3, .int x3)] dX4_hoursOf_39 rfl (by decide) rfl ?_
          exact j_sub [1, 2, 0, 3] rfl (HK40_6 _ _ _ h)
  refine j_iconst C dX4_hoursOf_0 ci_0 ?_
  refine j_istore_n C [(2, .int (0 : Int32)), (0, .ref (ad 30)), (1, .int a1)] dX4_hoursOf_1 rfl (by decide) rfl ?_
  refine j_iconst C dX4_hoursOf_2 ci_0 ?_
  refine j_istore_n C [(3, .int (0 : Int32)), (2, .int (0 : Int32)), (0, .ref (ad 30)), (1, .int a1)] dX4_hoursOf_3 rfl (by decide) rfl ?_
  exact j_sub [2, 3, 1, 0] rfl (H_fX4_hoursOf_30_L4 FU _ _ _ h)
theorem dX4_fillCells_0 : decode cX4_fillCells 0 = .ok (.aload_n 0, 1) := by decide +kernel
theorem dX4_fillCells_1 : decode cX4_fillCells 1 = .ok (.getfield 18, 3) := by decide +kernel
theorem dX4_fillCells_4 : decode cX4_fillCells 4 = .ok (.aload_n 0, 1) := by decide +kernel
theorem dX4_fillCells_5 : decode cX4_fillCells 5 = .ok (.getfield 41, 3) := by decide +kernel
theorem dX4_fillCells_8 : decode cX4_fillCells 8 = .ok (.iaload, 1) := by decide +kernel
theorem dX4_fillCells_9 : decode cX4_fillCells 9 = .ok (.istore_n 2, 1) := by decide +kernel
theorem dX4_fillCells_10 : decode cX4_fillCells 10 = .ok (.iload_n 2, 1) := by decide +kernel
theorem dX4_fillCells_11 : decode cX4_fillCells 11 = .ok (.aload_n 0, 1) := by decide +kernel
theorem dX4_fillCells_12 : decode cX4_fillCells 12 = .ok (.getfield 21, 3) := by decide +kernel
theorem dX4_fillCells_15 : decode cX4_fillCells 15 = .ok (.aload_n 0, 1) := by decide +kernel
theorem dX4_fillCells_16 : decode cX4_fillCells 16 = .ok (.getfield 41, 3) := by decide +kernel
theorem dX4_fillCells_19 : decode cX4_fillCells 19 = .ok (.iaload, 1) := by decide +kernel
theorem dX4_fillCells_20 : decode cX4_fillCells 20 = .ok (.if_icmp .gt 29, 3) := by decide +kernel
theorem dX4_fillCells_23 : decode cX4_fillCells 23 = .ok (.aload_n 0, 1) := by decide +kernel
theorem dX4_fillCells_24 : decode cX4_fillCells 24 = .ok (.getfield 24, 3) := by decide +kernel
theorem dX4_fillCells_27 : decode cX4_fillCells 27 = .ok (.aload_n 0, 1) := by decide +kernel
theorem dX4_fillCells_28 : decode cX4_fillCells 28 = .ok (.getfield 15, 3) := by decide +kernel
theorem dX4_fillCells_31 : decode cX4_fillCells 31 = .ok (.aload_n 0, 1) := by decide +kernel
theorem dX4_fillCells_32 : decode cX4_fillCells 32 = .ok (.getfield 41, 3) := by decide +kernel
theorem dX4_fillCells_35 : decode cX4_fillCells 35 = .ok (.iaload, 1) := by decide +kernel
theorem dX4_fillCells_36 : decode cX4_fillCells 36 = .ok (.bipush 24, 2) := by decide +kernel
theorem dX4_fillCells_38 : decode cX4_fillCells 38 = .ok (.imul, 1) := by decide +kernel
theorem dX4_fillCells_39 : decode cX4_fillCells 39 = .ok (.iload_n 2, 1) := by decide +kernel
theorem dX4_fillCells_40 : decode cX4_fillCells 40 = .ok (.iadd, 1) := by decide +kernel
theorem dX4_fillCells_41 : decode cX4_fillCells 41 = .ok (.iload_n 1, 1) := by decide +kernel
theorem dX4_fillCells_42 : decode cX4_fillCells 42 = .ok (.iastore, 1) := by decide +kernel
theorem dX4_fillCells_43 : decode cX4_fillCells 43 = .ok (.iinc 2 1, 3) := by decide +kernel
theorem dX4_fillCells_46 : decode cX4_fillCells 46 = .ok (.goto (-36), 3) := by decide +kernel
theorem dX4_fillCells_49 : decode cX4_fillCells 49 = .ok (.return_, 1) := by decide +kernel
def fX4_fillCells_30_L10 (S : Nat → Int32) : Nat → Int32 → Int32 → (Nat → Nat → Int32) → Option ((Nat → Nat → Int32))
  | 0, _, _, _ => none
  | n + 1, x4, x5, V6 =>
    lt ((S 3002)) (fun x7 =>
    gd (ib x7 13) (
    (if (V6 34 (x7).toNatClampNeg) < x5 then
    some V6
    else
    lt ((S 3002)) (fun x10 =>
    gd (ib x10 13) (
    lt ((((V6 32 (x10).toNatClampNeg) * (24 : Int32)) + x5)) (fun x12 =>
    gd (ib x12 72) (
    lt (va_up V6 35 (upd (V6 35) (x12).toNatClampNeg x4)) (fun V14 =>
    lt (x5 + (1 : Int32)) (fun x15 =>
    fX4_fillCells_30_L10 S n x4 x15 V14)))))))))
def fX4_fillCells_30 (S : Nat → Int32) (V : Nat → Nat → Int32) (a1 : Int32) : Option ((Nat → Nat → Int32)) :=
  lt ((S 3002)) (fun x1 =>
  gd (ib x1 13) (
  lt ((V 33 (x1).toNatClampNeg)) (fun x3 =>
  fX4_fillCells_30_L10 S FU a1 x3 V)))
set_option maxHeartbeats 4000000 in
set_option maxRecDepth 100000 in
theorem kX4_fillCells_30 (l : Launch) (B : jBT) (D : va_G) (ad : Nat → Nat) (cA : Nat → ClassId) (hI : jI ad TC) (S : Nat → Int32) (V : Nat → Nat → Int32) (L : Nat → Int64) (a1 : Int32) (V0 : Nat → Nat → Int32) (h : fX4_fillCells_30 S V a1 = some V0) : jM l yX4_fillCells cX4_fillCells 3 none ({ frames := 0, cells := 0, slots := 0, locals := 0 }) B D TC ad cA [.ref (ad 30), .int a1] S V L none S V0 L := by
  refine jM_of (plainFor_of_name (by decide)) TC_ok hI (Nat.le_of_ble_eq_true rfl) ?_
  intro p e s m args below meth c C hr hlk
  refine j_lv (lv2 := [(0, .ref (ad 30)), (1, .int a1)]) rfl ?_
  unfold fX4_fillCells_30 at h
  have H_fX4_fillCells_30_L10 : ∀ (n : Nat) (x4 : Int32) (x5 : Int32) (V6 : Nat → Nat → Int32), fX4_fillCells_30_L10 S n x4 x5 V6 = some V0 → jW p l e ({ frames := 0, cells := 0, slots := 0, locals := 0 }) s m args below meth c (MQ below (jQc D TC ad cA none s.heap.size S V0 L) args s 0 0 (jA ad TC s.heap.size)) D TC ad cA (jA ad TC s.heap.size) 3 0 0 10 [(0, .ref (ad 30)), (1, .int x4), (2, .int x5)] [] S V6 L := by
    intro n
    induction n with
    | zero =>
      intro x4 x5 V6 h
      cases (show (none : Option ((Nat → Nat → Int32))) = some V0 from h)
    | succ n ih =>
      intro x4 x5 V6 h
      unfold fX4_fillCells_30_L10 at h
      refine j_iload_n C 2 rfl dX4_fillCells_10 rfl ?_
      refine j_aload_n C 0 rfl dX4_fillCells_11 rfl ?_
      refine fg_X4_21_TC_30 C dX4_fillCells_12 ?_
      refine j_aload_n C 0 rfl dX4_fillCells_15 rfl ?_
      refine fg_X4_41_TC_30 C dX4_fillCells_16 ?_
      refine lt_elim h (fun x7 e_x7 h => ?_)
      refine j_top e_x7 ?_
      obtain ⟨g8, h⟩ := gd_elim h
      refine j_iald C tc_34 (ib_in g8) dX4_fillCells_19 ?_
      refine j_icmp_gt (tgt := 49) C dX4_fillCells_20 (by decide) (fun c9 => ?_) (fun c9 => ?_)
      · have h := (if_pos c9).symm.trans h
        cases h
        exact j_vret C hr hlk rfl dX4_fillCells_49
      · have h := (if_neg c9).symm.trans h
        refine j_aload_n C 0 rfl dX4_fillCells_23 rfl ?_
        refine fg_X4_24_TC_30 C dX4_fillCells_24 ?_
        refine j_aload_n C 0 rfl dX4_fillCells_27 rfl ?_
        refine fg_X4_15_TC_30 C dX4_fillCells_28 ?_
        refine j_aload_n C 0 rfl dX4_fillCells_31 rfl ?_
        refine fg_X4_41_TC_30 C dX4_fillCells_32 ?_
        refine lt_elim h (fun x10 e_x10 h => ?_)
        refine j_top e_x10 ?_
        obtain ⟨g11, h⟩ := gd_elim h
        refine j_iald C tc_32 (ib_in g11) dX4_fillCells_35 ?_
        refine j_bipush C dX4_fillCells_36 cb_24 ?_
        refine j_imul C dX4_fillCells_38 ?_
        refine j_iload_n C 2 rfl dX4_fillCells_39 rfl ?_
        refine j_iadd C dX4_fillCells_40 ?_
        refine j_iload_n C 1 rfl dX4_fillCells_41 rfl ?_
        refine lt_elim h (fun x12 e_x12 h => ?_)
        refine j_top2 e_x12 ?_
        obtain ⟨g13, h⟩ := gd_elim h
        refine j_iast C tc_35 (ib_in g13) dX4_fillCells_42 ?_
        refine lt_elim h (fun V14 e_V14 h => ?_)
        refine j_V e_V14 ?_
        refine lt_elim h (fun x15 e_x15 h => ?_)
        refine j_iinc C [(2, .int x15), (0, .ref (ad 30)), (1, .int x4)] 2 dX4_fillCells_43 rfl ((iinc_eq ci_1).trans e_x15.symm) (by decide) rfl ?_
        refine j_goto (tgt := 10) C dX4_fillCells_46 (by decide) ?_
        exact j_sub [1, 2, 0] rfl (ih _ _ _ h)
  refine j_aload_n C 0 rfl dX4_fillCells_0 rfl ?_
  refine fg_X4_18_TC_30 C dX4_fillCells_1 ?_
  refine j_aload_n C 0 rfl dX4_fillCells_4 rfl ?_
  refine fg_X4_41_TC_30 C dX4_fillCells_5 ?_
  refine lt_elim h (fun x1 e_x1 h => ?_)
  refine j_top e_x1 ?_
  obtain ⟨g2, h⟩ := gd_elim h
  refine j_iald C tc_33 (ib_in g2) dX4_fillCells_8 ?_
  refine lt_elim h (fun x3 e_x3 h => ?_)
  refine j_top e_x3 ?_
  refine j_istore_n C [(2, .int x3), (0, .ref (ad 30)), (1, .int a1)] dX4_fillCells_9 rfl (by decide) rfl ?_
  exact j_sub [1, 2, 0] rfl (H_fX4_fillCells_30_L10 FU _ _ _ h)
theorem dX4_moveIn_0 : decode cX4_moveIn 0 = .ok (.aload_n 0, 1) := by decide +kernel
theorem dX4_moveIn_1 : decode cX4_moveIn 1 = .ok (.getfield 9, 3) := by decide +kernel
theorem dX4_moveIn_4 : decode cX4_moveIn 4 = .ok (.aload_n 0, 1) := by decide +kernel
theorem dX4_moveIn_5 : decode cX4_moveIn 5 = .ok (.getfield 41, 3) := by decide +kernel
theorem dX4_moveIn_8 : decode cX4_moveIn 8 = .ok (.iload_n 1, 1) := by decide +kernel
theorem dX4_moveIn_9 : decode cX4_moveIn 9 = .ok (.iastore, 1) := by decide +kernel
theorem dX4_moveIn_10 : decode cX4_moveIn 10 = .ok (.aload_n 0, 1) := by decide +kernel
theorem dX4_moveIn_11 : decode cX4_moveIn 11 = .ok (.getfield 15, 3) := by decide +kernel
theorem dX4_moveIn_14 : decode cX4_moveIn 14 = .ok (.aload_n 0, 1) := by decide +kernel
theorem dX4_moveIn_15 : decode cX4_moveIn 15 = .ok (.getfield 41, 3) := by decide +kernel
theorem dX4_moveIn_18 : decode cX4_moveIn 18 = .ok (.iload_n 2, 1) := by decide +kernel
theorem dX4_moveIn_19 : decode cX4_moveIn 19 = .ok (.iastore, 1) := by decide +kernel
theorem dX4_moveIn_20 : decode cX4_moveIn 20 = .ok (.aload_n 0, 1) := by decide +kernel
theorem dX4_moveIn_21 : decode cX4_moveIn 21 = .ok (.getfield 18, 3) := by decide +kernel
theorem dX4_moveIn_24 : decode cX4_moveIn 24 = .ok (.aload_n 0, 1) := by decide +kernel
theorem dX4_moveIn_25 : decode cX4_moveIn 25 = .ok (.getfield 41, 3) := by decide +kernel
theorem dX4_moveIn_28 : decode cX4_moveIn 28 = .ok (.iload_n 3, 1) := by decide +kernel
theorem dX4_moveIn_29 : decode cX4_moveIn 29 = .ok (.iastore, 1) := by decide +kernel
theorem dX4_moveIn_30 : decode cX4_moveIn 30 = .ok (.aload_n 0, 1) := by decide +kernel
theorem dX4_moveIn_31 : decode cX4_moveIn 31 = .ok (.getfield 21, 3) := by decide +kernel
theorem dX4_moveIn_34 : decode cX4_moveIn 34 = .ok (.aload_n 0, 1) := by decide +kernel
theorem dX4_moveIn_35 : decode cX4_moveIn 35 = .ok (.getfield 41, 3) := by decide +kernel
theorem dX4_moveIn_38 : decode cX4_moveIn 38 = .ok (.iload 4, 2) := by decide +kernel
theorem dX4_moveIn_40 : decode cX4_moveIn 40 = .ok (.iastore, 1) := by decide +kernel
theorem dX4_moveIn_41 : decode cX4_moveIn 41 = .ok (.aload_n 0, 1) := by decide +kernel
theorem dX4_moveIn_42 : decode cX4_moveIn 42 = .ok (.aload_n 0, 1) := by decide +kernel
theorem dX4_moveIn_43 : decode cX4_moveIn 43 = .ok (.getfield 41, 3) := by decide +kernel
theorem dX4_moveIn_46 : decode cX4_moveIn 46 = .ok (.invokevirtual 83, 3) := by decide +kernel
theorem dX4_moveIn_49 : decode cX4_moveIn 49 = .ok (.return_, 1) := by decide +kernel
def fX4_moveIn_30 (S : Nat → Int32) (V : Nat → Nat → Int32) (a1 : Int32) (a2 : Int32) (a3 : Int32) (a4 : Int32) : Option ((Nat → Nat → Int32)) :=
  lt ((S 3002)) (fun x1 =>
  gd (ib x1 13) (
  lt (va_up V 31 (upd (V 31) (x1).toNatClampNeg a1)) (fun V3 =>
  lt ((S 3002)) (fun x4 =>
  gd (ib x4 13) (
  lt (va_up V3 32 (upd (V3 32) (x4).toNatClampNeg a2)) (fun V6 =>
  lt ((S 3002)) (fun x7 =>
  gd (ib x7 13) (
  lt (va_up V6 33 (upd (V6 33) (x7).toNatClampNeg a3)) (fun V9 =>
  lt ((S 3002)) (fun x10 =>
  gd (ib x10 13) (
  lt (va_up V9 34 (upd (V9 34) (x10).toNatClampNeg a4)) (fun V12 =>
  bd1 (fX4_fillCells_30 S V12 ((S 3002))) (fun V13 =>
  some V13)))))))))))))
set_option maxHeartbeats 4000000 in
set_option maxRecDepth 100000 in
theorem kX4_moveIn_30 (l : Launch) (B : jBT) (D : va_G) (ad : Nat → Nat) (cA : Nat → ClassId) (hI : jI ad TC) (S : Nat → Int32) (V : Nat → Nat → Int32) (L : Nat → Int64) (a1 : Int32) (a2 : Int32) (a3 : Int32) (a4 : Int32) (V0 : Nat → Nat → Int32) (h : fX4_moveIn_30 S V a1 a2 a3 a4 = some V0) : jM l yX4_moveIn cX4_moveIn 5 none ({ frames := 1, cells := 0, slots := 0, locals := 22 }) B D TC ad cA [.ref (ad 30), .int a1, .int a2, .int a3, .int a4] S V L none S V0 L := by
  refine jM_of (plainFor_of_name (by decide)) TC_ok hI (Nat.le_of_ble_eq_true rfl) ?_
  intro p e s m args below meth c C hr hlk
  refine j_lv (lv2 := [(0, .ref (ad 30)), (1, .int a1), (2, .int a2), (3, .int a3), (4, .int a4)]) rfl ?_
  unfold fX4_moveIn_30 at h
  refine j_aload_n C 0 rfl dX4_moveIn_0 rfl ?_
  refine fg_X4_9_TC_30 C dX4_moveIn_1 ?_
  refine j_aload_n C 0 rfl dX4_moveIn_4 rfl ?_
  refine fg_X4_41_TC_30 C dX4_moveIn_5 ?_
  refine j_iload_n C 1 rfl dX4_moveIn_8 rfl ?_
  refine lt_elim h (fun x1 e_x1 h => ?_)
  refine j_top2 e_x1 ?_
  obtain ⟨g2, h⟩ := gd_elim h
  refine j_iast C tc_31 (ib_in g2) dX4_moveIn_9 ?_
  refine lt_elim h (fun V3 e_V3 h => ?_)
  refine j_V e_V3 ?_
  refine j_aload_n C 0 rfl dX4_moveIn_10 rfl ?_
  refine fg_X4_15_TC_30 C dX4_moveIn_11 ?_
  refine j_aload_n C 0 rfl dX4_moveIn_14 rfl ?_
  refine fg_X4_41_TC_30 C dX4_moveIn_15 ?_
  refine j_iload_n C 2 rfl dX4_moveIn_18 rfl ?_
  refine lt_elim h (fun x4 e_x4 h => ?_)
  refine j_top2 e_x4 ?_
  obtain ⟨g5, h⟩ := gd_elim h
  refine j_iast C tc_32 (ib_in g5) dX4_moveIn_19 ?_
  refine lt_elim h (fun V6 e_V6 h => ?_)
  refine j_V e_V6 ?_
  refine j_aload_n C 0 rfl dX4_moveIn_20 rfl ?_
  refine fg_X4_18_TC_30 C dX4_moveIn_21 ?_
  refine j_aload_n C 0 rfl dX4_moveIn_24 rfl ?_
  refine fg_X4_41_TC_30 C dX4_moveIn_25 ?_
  refine j_iload_n C 3 rfl dX4_moveIn_28 rfl ?_
  refine lt_elim h (fun x7 e_x7 h => ?_)
  refine j_top2 e_x7 ?_
  obtain ⟨g8, h⟩ := gd_elim h
  refine j_iast C tc_33 (ib_in g8) dX4_moveIn_29 ?_
  refine lt_elim h (fun V9 e_V9 h => ?_)
  refine j_V e_V9 ?_
  refine j_aload_n C 0 rfl dX4_moveIn_30 rfl ?_
  refine fg_X4_21_TC_30 C dX4_moveIn_31 ?_
  refine j_aload_n C 0 rfl dX4_moveIn_34 rfl ?_
  refine fg_X4_41_TC_30 C dX4_moveIn_35 ?_
  refine j_iload C 4 rfl dX4_moveIn_38 ?_
  refine lt_elim h (fun x10 e_x10 h => ?_)
  refine j_top2 e_x10 ?_
  obtain ⟨g11, h⟩ := gd_elim h
  refine j_iast C tc_34 (ib_in g11) dX4_moveIn_40 ?_
  refine lt_elim h (fun V12 e_V12 h => ?_)
  refine j_V e_V12 ?_
  refine j_aload_n C 0 rfl dX4_moveIn_41 rfl ?_
  refine j_aload_n C 0 rfl dX4_moveIn_42 rfl ?_
  refine fg_X4_41_TC_30 C dX4_moveIn_43 ?_
  obtain ⟨V13, h14, h⟩ := bd1_elim h
  refine j_callV (As := [.int (S 3002)]) (rest := []) C (kX4_fillCells_30 l B D ad cA hI S V12 L ((S 3002)) _ h14) mw_X4_fillCells wd605 wd4 wd603 tc_30 rfl rfl ⟨rfl, rfl, by decide, by decide⟩ ⟨Nat.zero_le _, Nat.zero_le _⟩ rfl rfl (Nat.le_of_ble_eq_true rfl) dX4_moveIn_46 ?_
  cases h
  exact j_vret C hr hlk rfl dX4_moveIn_49
theorem dX4_moveOut_0 : decode cX4_moveOut 0 = .ok (.aload_n 0, 1) := by decide +kernel
theorem dX4_moveOut_1 : decode cX4_moveOut 1 = .ok (.iconst (-1), 1) := by decide +kernel
theorem dX4_moveOut_2 : decode cX4_moveOut 2 = .ok (.invokevirtual 83, 3) := by decide +kernel
theorem dX4_moveOut_5 : decode cX4_moveOut 5 = .ok (.return_, 1) := by decide +kernel
def fX4_moveOut_30 (S : Nat → Int32) (V : Nat → Nat → Int32) : Option ((Nat → Nat → Int32)) :=
  bd1 (fX4_fillCells_30 S V (-1 : Int32)) (fun V1 =>
  some V1)
set_option maxHeartbeats 4000000 in
set_option maxRecDepth 100000 in
theorem kX4_moveOut_30 (l : Launch) (B : jBT) (D : va_G) (ad : Nat → Nat) (cA : Nat → ClassId) (hI : jI ad TC) (S : Nat → Int32) (V : Nat → Nat → Int32) (L : Nat → Int64) (V0 : Nat → Nat → Int32) (h : fX4_moveOut_30 S V = some V0) : jM l yX4_moveOut cX4_moveOut 1 none ({ frames := 1, cells := 0, slots := 0, locals := 22 }) B D TC ad cA [.ref (ad 30)] S V L none S V0 L := by
  refine jM_of (plainFor_of_name (by decide)) TC_ok hI (Nat.le_of_ble_eq_true rfl) ?_
  intro p e s m args below meth c C hr hlk
  refine j_lv (lv2 := [(0, .ref (ad 30))]) rfl ?_
  unfold fX4_moveOut_30 at h
  refine j_aload_n C 0 rfl dX4_moveOut_0 rfl ?_
  refine j_iconst C dX4_moveOut_1 ci_m1 ?_
  obtain ⟨V1, h2, h⟩ := bd1_elim h
  refine j_callV (As := [.int (-1 : Int32)]) (rest := []) C (kX4_fillCells_30 l B D ad cA hI S V L (-1 : Int32) _ h2) mw_X4_fillCells wd605 wd4 wd603 tc_30 rfl rfl ⟨rfl, rfl, by decide, by decide⟩ ⟨Nat.zero_le _, Nat.zero_le _⟩ rfl rfl (Nat.le_of_ble_eq_true rfl) dX4_moveOut_2 ?_
  cases h
  exact j_vret C hr hlk rfl dX4_moveOut_5
theorem dX4_who_0 : decode cX4_who 0 = .ok (.aload_n 0, 1) := by decide +kernel
theorem dX4_who_1 : decode cX4_who 1 = .ok (.getfield 24, 3) := by decide +kernel
theorem dX4_who_4 : decode cX4_who 4 = .ok (.iload_n 1, 1) := by decide +kernel
theorem dX4_who_5 : decode cX4_who 5 = .ok (.bipush 24, 2) := by decide +kernel
theorem dX4_who_7 : decode cX4_who 7 = .ok (.imul, 1) := by decide +kernel
theorem dX4_who_8 : decode cX4_who 8 = .ok (.iload_n 2, 1) := by decide +kernel
theorem dX4_who_9 : decode cX4_who 9 = .ok (.iadd, 1) := by decide +kernel
theorem dX4_who_10 : decode cX4_who 10 = .ok (.iaload, 1) := by decide +kernel
theorem dX4_who_11 : decode cX4_who 11 = .ok (.istore_n 3, 1) := by decide +kernel
theorem dX4_who_12 : decode cX4_who 12 = .ok (.iload_n 3, 1) := by decide +kernel
theorem dX4_who_13 : decode cX4_who 13 = .ok (.iconst (-1), 1) := by decide +kernel
theorem dX4_who_14 : decode cX4_who 14 = .ok (.if_icmp .ne 7, 3) := by decide +kernel
theorem dX4_who_17 : decode cX4_who 17 = .ok (.iconst (-1), 1) := by decide +kernel
theorem dX4_who_18 : decode cX4_who 18 = .ok (.goto 9, 3) := by decide +kernel
theorem dX4_who_21 : decode cX4_who 21 = .ok (.aload_n 0, 1) := by decide +kernel
theorem dX4_who_22 : decode cX4_who 22 = .ok (.getfield 9, 3) := by decide +kernel
theorem dX4_who_25 : decode cX4_who 25 = .ok (.iload_n 3, 1) := by decide +kernel
theorem dX4_who_26 : decode cX4_who 26 = .ok (.iaload, 1) := by decide +kernel
theorem dX4_who_27 : decode cX4_who 27 = .ok (.ireturn, 1) := by decide +kernel
def fX4_who_30 (V : Nat → Nat → Int32) (a1 : Int32) (a2 : Int32) : Option (Int32) :=
  lt (((a1 * (24 : Int32)) + a2)) (fun x1 =>
  gd (ib x1 72) (
  lt ((V 35 (x1).toNatClampNeg)) (fun x3 =>
  (if x3 = (-1 : Int32) then
  some (-1 : Int32)
  else
  gd (ib x3 13) (
  some ((V 31 (x3).toNatClampNeg)))))))
set_option maxHeartbeats 4000000 in
set_option maxRecDepth 100000 in
theorem kX4_who_30 (l : Launch) (B : jBT) (D : va_G) (ad : Nat → Nat) (cA : Nat → ClassId) (hI : jI ad TC) (S : Nat → Int32) (V : Nat → Nat → Int32) (L : Nat → Int64) (a1 : Int32) (a2 : Int32) (r0 : Int32) (h : fX4_who_30 V a1 a2 = some r0) : jM l yX4_who cX4_who 4 (some .int) ({ frames := 0, cells := 0, slots := 0, locals := 0 }) B D TC ad cA [.ref (ad 30), .int a1, .int a2] S V L (some (.int r0)) S V L := by
  refine jM_of (plainFor_of_name (by decide)) TC_ok hI (Nat.le_of_ble_eq_true rfl) ?_
  intro p e s m args below meth c C hr hlk
  refine j_lv (lv2 := [(0, .ref (ad 30)), (1, .int a1), (2, .int a2)]) rfl ?_
  unfold fX4_who_30 at h
  refine j_aload_n C 0 rfl dX4_who_0 rfl ?_
  refine fg_X4_24_TC_30 C dX4_who_1 ?_
  refine j_iload_n C 1 rfl dX4_who_4 rfl ?_
  refine j_bipush C dX4_who_5 cb_24 ?_
  refine j_imul C dX4_who_7 ?_
  refine j_iload_n C 2 rfl dX4_who_8 rfl ?_
  refine j_iadd C dX4_who_9 ?_
  refine lt_elim h (fun x1 e_x1 h => ?_)
  refine j_top e_x1 ?_
  obtain ⟨g2, h⟩ := gd_elim h
  refine j_iald C tc_35 (ib_in g2) dX4_who_10 ?_
  refine lt_elim h (fun x3 e_x3 h => ?_)
  refine j_top e_x3 ?_
  refine j_istore_n C [(3, .int x3), (0, .ref (ad 30)), (1, .int a1), (2, .int a2)] dX4_who_11 rfl (by decide) rfl ?_
  refine j_iload_n C 0 rfl dX4_who_12 rfl ?_
  refine j_iconst C dX4_who_13 ci_m1 ?_
  refine j_icmp_ne (tgt := 21) C dX4_who_14 (by decide) (fun c4 => ?_) (fun c4 => ?_)
  · have h := (if_neg c4).symm.trans h
    refine j_aload_n C 1 rfl dX4_who_21 rfl ?_
    refine fg_X4_9_TC_30 C dX4_who_22 ?_
    refine j_iload_n C 0 rfl dX4_who_25 rfl ?_
    obtain ⟨g5, h⟩ := gd_elim h
    refine j_iald C tc_31 (ib_in g5) dX4_who_26 ?_
    cases h
    exact j_iret C hr hlk rfl dX4_who_27
  · have h := (if_pos c4).symm.trans h
    refine j_iconst C dX4_who_17 ci_m1 ?_
    refine j_goto (tgt := 27) C dX4_who_18 (by decide) ?_
    cases h
    exact j_iret C hr hlk rfl dX4_who_27
theorem dX4_rulesHoldIn_0 : decode cX4_rulesHoldIn 0 = .ok (.aload_n 0, 1) := by decide +kernel
theorem dX4_rulesHoldIn_1 : decode cX4_rulesHoldIn 1 = .ok (.getfield 24, 3) := by decide +kernel
theorem dX4_rulesHoldIn_4 : decode cX4_rulesHoldIn 4 = .ok (.iload_n 1, 1) := by decide +kernel
theorem dX4_rulesHoldIn_5 : decode cX4_rulesHoldIn 5 = .ok (.bipush 24, 2) := by decide +kernel
theorem dX4_rulesHoldIn_7 : decode cX4_rulesHoldIn 7 = .ok (.imul, 1) := by decide +kernel
theorem dX4_rulesHoldIn_8 : decode cX4_rulesHoldIn 8 = .ok (.iload_n 2, 1) := by decide +kernel
theorem dX4_rulesHoldIn_9 : decode cX4_rulesHoldIn 9 = .ok (.iadd, 1) := by decide +kernel
theorem dX4_rulesHoldIn_10 : decode cX4_rulesHoldIn 10 = .ok (.iaload, 1) := by decide +kernel
theorem dX4_rulesHoldIn_11 : decode cX4_rulesHoldIn 11 = .ok (.istore_n 3, 1) := by decide +kernel
theorem dX4_rulesHoldIn_12 : decode cX4_rulesHoldIn 12 = .ok (.iload_n 3, 1) := by decide +kernel
theorem dX4_rulesHoldIn_13 : decode cX4_rulesHoldIn 13 = .ok (.iconst (-1), 1) := by decide +kernel
theorem dX4_rulesHoldIn_14 : decode cX4_rulesHoldIn 14 = .ok (.if_icmp .ne 5, 3) := by decide +kernel
theorem dX4_rulesHoldIn_17 : decode cX4_rulesHoldIn 17 = .ok (.iconst 1, 1) := by decide +kernel
theorem dX4_rulesHoldIn_18 : decode cX4_rulesHoldIn 18 = .ok (.ireturn, 1) := by decide +kernel
theorem dX4_rulesHoldIn_19 : decode cX4_rulesHoldIn 19 = .ok (.aload_n 0, 1) := by decide +kernel
theorem dX4_rulesHoldIn_20 : decode cX4_rulesHoldIn 20 = .ok (.iconst 0, 1) := by decide +kernel
theorem dX4_rulesHoldIn_21 : decode cX4_rulesHoldIn 21 = .ok (.iload_n 2, 1) := by decide +kernel
theorem dX4_rulesHoldIn_22 : decode cX4_rulesHoldIn 22 = .ok (.invokevirtual 93, 3) := by decide +kernel
theorem dX4_rulesHoldIn_25 : decode cX4_rulesHoldIn 25 = .ok (.istore 4, 2) := by decide +kernel
theorem dX4_rulesHoldIn_27 : decode cX4_rulesHoldIn 27 = .ok (.aload_n 0, 1) := by decide +kernel
theorem dX4_rulesHoldIn_28 : decode cX4_rulesHoldIn 28 = .ok (.iconst 1, 1) := by decide +kernel
theorem dX4_rulesHoldIn_29 : decode cX4_rulesHoldIn 29 = .ok (.iload_n 2, 1) := by decide +kernel
theorem dX4_rulesHoldIn_30 : decode cX4_rulesHoldIn 30 = .ok (.invokevirtual 93, 3) := by decide +kernel
theorem dX4_rulesHoldIn_33 : decode cX4_rulesHoldIn 33 = .ok (.istore 5, 2) := by decide +kernel
theorem dX4_rulesHoldIn_35 : decode cX4_rulesHoldIn 35 = .ok (.aload_n 0, 1) := by decide +kernel
theorem dX4_rulesHoldIn_36 : decode cX4_rulesHoldIn 36 = .ok (.getfield 9, 3) := by decide +kernel
theorem dX4_rulesHoldIn_39 : decode cX4_rulesHoldIn 39 = .ok (.iload_n 3, 1) := by decide +kernel
theorem dX4_rulesHoldIn_40 : decode cX4_rulesHoldIn 40 = .ok (.iaload, 1) := by decide +kernel
theorem dX4_rulesHoldIn_41 : decode cX4_rulesHoldIn 41 = .ok (.istore 6, 2) := by decide +kernel
theorem dX4_rulesHoldIn_43 : decode cX4_rulesHoldIn 43 = .ok (.iload_n 1, 1) := by decide +kernel
theorem dX4_rulesHoldIn_44 : decode cX4_rulesHoldIn 44 = .ok (.ifCond .ne 7, 3) := by decide +kernel
theorem dX4_rulesHoldIn_47 : decode cX4_rulesHoldIn 47 = .ok (.iconst 0, 1) := by decide +kernel
theorem dX4_rulesHoldIn_48 : decode cX4_rulesHoldIn 48 = .ok (.goto 12, 3) := by decide +kernel
theorem dX4_rulesHoldIn_51 : decode cX4_rulesHoldIn 51 = .ok (.aload_n 0, 1) := by decide +kernel
theorem dX4_rulesHoldIn_52 : decode cX4_rulesHoldIn 52 = .ok (.getfield 27, 3) := by decide +kernel
theorem dX4_rulesHoldIn_55 : decode cX4_rulesHoldIn 55 = .ok (.iload 4, 2) := by decide +kernel
theorem dX4_rulesHoldIn_57 : decode cX4_rulesHoldIn 57 = .ok (.invokevirtual 96, 3) := by decide +kernel
theorem dX4_rulesHoldIn_60 : decode cX4_rulesHoldIn 60 = .ok (.istore 7, 2) := by decide +kernel
theorem dX4_rulesHoldIn_62 : decode cX4_rulesHoldIn 62 = .ok (.iload 7, 2) := by decide +kernel
theorem dX4_rulesHoldIn_64 : decode cX4_rulesHoldIn 64 = .ok (.iload_n 1, 1) := by decide +kernel
theorem dX4_rulesHoldIn_65 : decode cX4_rulesHoldIn 65 = .ok (.iconst 1, 1) := by decide +kernel
theorem dX4_rulesHoldIn_66 : decode cX4_rulesHoldIn 66 = .ok (.if_icmp .ne 7, 3) := by decide +kernel
theorem dX4_rulesHoldIn_69 : decode cX4_rulesHoldIn 69 = .ok (.iconst 0, 1) := by decide +kernel
theorem dX4_rulesHoldIn_70 : decode cX4_rulesHoldIn 70 = .ok (.goto 12, 3) := by decide +kernel
theorem dX4_rulesHoldIn_73 : decode cX4_rulesHoldIn 73 = .ok (.aload_n 0, 1) := by decide +kernel
theorem dX4_rulesHoldIn_74 : decode cX4_rulesHoldIn 74 = .ok (.getfield 27, 3) := by decide +kernel
theorem dX4_rulesHoldIn_77 : decode cX4_rulesHoldIn 77 = .ok (.iload 5, 2) := by decide +kernel
theorem dX4_rulesHoldIn_79 : decode cX4_rulesHoldIn 79 = .ok (.invokevirtual 96, 3) := by decide +kernel
theorem dX4_rulesHoldIn_82 : decode cX4_rulesHoldIn 82 = .ok (.iadd, 1) := by decide +kernel
theorem dX4_rulesHoldIn_83 : decode cX4_rulesHoldIn 83 = .ok (.istore 7, 2) := by decide +kernel
theorem dX4_rulesHoldIn_85 : decode cX4_rulesHoldIn 85 = .ok (.aload_n 0, 1) := by decide +kernel
theorem dX4_rulesHoldIn_86 : decode cX4_rulesHoldIn 86 = .ok (.getfield 27, 3) := by decide +kernel
theorem dX4_rulesHoldIn_89 : decode cX4_rulesHoldIn 89 = .ok (.iload 6, 2) := by decide +kernel
theorem dX4_rulesHoldIn_91 : decode cX4_rulesHoldIn 91 = .ok (.iload 4, 2) := by decide +kernel
theorem dX4_rulesHoldIn_93 : decode cX4_rulesHoldIn 93 = .ok (.invokevirtual 99, 3) := by decide +kernel
theorem dX4_rulesHoldIn_96 : decode cX4_rulesHoldIn 96 = .ok (.aload_n 0, 1) := by decide +kernel
theorem dX4_rulesHoldIn_97 : decode cX4_rulesHoldIn 97 = .ok (.getfield 27, 3) := by decide +kernel
theorem dX4_rulesHoldIn_100 : decode cX4_rulesHoldIn 100 = .ok (.iload 6, 2) := by decide +kernel
theorem dX4_rulesHoldIn_102 : decode cX4_rulesHoldIn 102 = .ok (.iload 5, 2) := by decide +kernel
theorem dX4_rulesHoldIn_104 : decode cX4_rulesHoldIn 104 = .ok (.invokevirtual 99, 3) := by decide +kernel
theorem dX4_rulesHoldIn_107 : decode cX4_rulesHoldIn 107 = .ok (.iadd, 1) := by decide +kernel
theorem dX4_rulesHoldIn_108 : decode cX4_rulesHoldIn 108 = .ok (.aload_n 0, 1) := by decide +kernel
theorem dX4_rulesHoldIn_109 : decode cX4_rulesHoldIn 109 = .ok (.getfield 27, 3) := by decide +kernel
theorem dX4_rulesHoldIn_112 : decode cX4_rulesHoldIn 112 = .ok (.iload 6, 2) := by decide +kernel
theorem dX4_rulesHoldIn_114 : decode cX4_rulesHoldIn 114 = .ok (.aload_n 0, 1) := by decide +kernel
theorem dX4_rulesHoldIn_115 : decode cX4_rulesHoldIn 115 = .ok (.iconst 2, 1) := by decide +kernel
theorem dX4_rulesHoldIn_116 : decode cX4_rulesHoldIn 116 = .ok (.iload_n 2, 1) := by decide +kernel
theorem dX4_rulesHoldIn_117 : decode cX4_rulesHoldIn 117 = .ok (.invokevirtual 93, 3) := by decide +kernel
theorem dX4_rulesHoldIn_120 : decode cX4_rulesHoldIn 120 = .ok (.invokevirtual 99, 3) := by decide +kernel
theorem dX4_rulesHoldIn_123 : decode cX4_rulesHoldIn 123 = .ok (.iadd, 1) := by decide +kernel
theorem dX4_rulesHoldIn_124 : decode cX4_rulesHoldIn 124 = .ok (.istore 8, 2) := by decide +kernel
theorem dX4_rulesHoldIn_126 : decode cX4_rulesHoldIn 126 = .ok (.aload_n 0, 1) := by decide +kernel
theorem dX4_rulesHoldIn_127 : decode cX4_rulesHoldIn 127 = .ok (.getfield 31, 3) := by decide +kernel
theorem dX4_rulesHoldIn_130 : decode cX4_rulesHoldIn 130 = .ok (.iload 6, 2) := by decide +kernel
theorem dX4_rulesHoldIn_132 : decode cX4_rulesHoldIn 132 = .ok (.iload_n 1, 1) := by decide +kernel
theorem dX4_rulesHoldIn_133 : decode cX4_rulesHoldIn 133 = .ok (.iload_n 2, 1) := by decide +kernel
theorem dX4_rulesHoldIn_134 : decode cX4_rulesHoldIn 134 = .ok (.aload_n 0, 1) := by decide +kernel
theorem dX4_rulesHoldIn_135 : decode cX4_rulesHoldIn 135 = .ok (.getfield 21, 3) := by decide +kernel
theorem dX4_rulesHoldIn_138 : decode cX4_rulesHoldIn 138 = .ok (.iload_n 3, 1) := by decide +kernel
theorem dX4_rulesHoldIn_139 : decode cX4_rulesHoldIn 139 = .ok (.iaload, 1) := by decide +kernel
theorem dX4_rulesHoldIn_140 : decode cX4_rulesHoldIn 140 = .ok (.aload_n 0, 1) := by decide +kernel
theorem dX4_rulesHoldIn_141 : decode cX4_rulesHoldIn 141 = .ok (.getfield 18, 3) := by decide +kernel
theorem dX4_rulesHoldIn_144 : decode cX4_rulesHoldIn 144 = .ok (.iload_n 3, 1) := by decide +kernel
theorem dX4_rulesHoldIn_145 : decode cX4_rulesHoldIn 145 = .ok (.iaload, 1) := by decide +kernel
theorem dX4_rulesHoldIn_146 : decode cX4_rulesHoldIn 146 = .ok (.isub, 1) := by decide +kernel
theorem dX4_rulesHoldIn_147 : decode cX4_rulesHoldIn 147 = .ok (.iconst 1, 1) := by decide +kernel
theorem dX4_rulesHoldIn_148 : decode cX4_rulesHoldIn 148 = .ok (.iadd, 1) := by decide +kernel
theorem dX4_rulesHoldIn_149 : decode cX4_rulesHoldIn 149 = .ok (.iload 7, 2) := by decide +kernel
theorem dX4_rulesHoldIn_151 : decode cX4_rulesHoldIn 151 = .ok (.iload 8, 2) := by decide +kernel
theorem dX4_rulesHoldIn_153 : decode cX4_rulesHoldIn 153 = .ok (.invokevirtual 102, 3) := by decide +kernel
theorem dX4_rulesHoldIn_156 : decode cX4_rulesHoldIn 156 = .ok (.ireturn, 1) := by decide +kernel
def fX4_rulesHoldIn_30 (S : Nat → Int32) (V : Nat → Nat → Int32) (a1 : Int32) (a2 : Int32) : Option (Int32 × (Nat → Nat → Int32)) :=
  lt (((a1 * (24 : Int32)) + a2)) (fun x1 =>
  gd (ib x1 72) (
  lt ((V 35 (x1).toNatClampNeg)) (fun x3 =>
  (if x3 = (-1 : Int32) then
  some ((1 : Int32), V)
  else
  bd1 (fX4_who_30 V (0 : Int32) a2) (fun r5 =>
  bd1 (fX4_who_30 V (1 : Int32) a2) (fun r7 =>
  gd (ib x3 13) (
  lt ((V 31 (x3).toNatClampNeg)) (fun x10 =>
  bk (fun (x12 : Int32) (x13 : Int32) (x14 : Int32) (x15 : Int32) (x16 : Int32) (x17 : Int32) (x18 : Int32) (V19 : Nat → Nat → Int32) =>
  bk (fun (x21 : Int32) (x22 : Int32) (x23 : Int32) (x24 : Int32) (x25 : Int32) (x26 : Int32) (x27 : Int32) (x28 : Int32) (V29 : Nat → Nat → Int32) =>
  lt ((x28 + x27)) (fun x30 =>
  bd1 (fX2_quarrelsOf_3 V29 x26 x24) (fun r31 =>
  bd1 (fX2_quarrelsOf_3 V29 x26 x25) (fun r33 =>
  bd1 (fX4_who_30 V29 (2 : Int32) x22) (fun r35 =>
  bd1 (fX2_quarrelsOf_3 V29 x26 r35) (fun r37 =>
  lt (((r31 + r33) + r37)) (fun x39 =>
  gd (ib x23 13) (
  gd (ib x23 13) (
  bd2 (fX8_holdOf_27 S V29 x26 x21 x22 ((((V29 34 (x23).toNatClampNeg) - (V29 33 (x23).toNatClampNeg)) + (1 : Int32))) x30 x39) (fun r42 V43 =>
  gd (isb r42) (
  some (r42, V43)))))))))))) (fun K82_20 =>
  (if x12 = (1 : Int32) then
  K82_20 x12 x13 x14 x15 x16 x17 (0 : Int32) x18 V19
  else
  bd1 (fX2_weightOf_3 V19 x16) (fun r47 =>
  K82_20 x12 x13 x14 x15 x16 x17 r47 x18 V19)))) (fun K60_11 =>
  (if a1 = 0 then
  K60_11 a1 a2 x3 r5 r7 x10 (0 : Int32) V
  else
  bd1 (fX2_weightOf_3 V r5) (fun r50 =>
  K60_11 a1 a2 x3 r5 r7 x10 r50 V)))))))))))
set_option maxHeartbeats 4000000 in
set_option maxRecDepth 100000 in
theorem kX4_rulesHoldIn_30 (l : Launch) (B : jBT) (D : va_G) (ad : Nat → Nat) (cA : Nat → ClassId) (hI : jI ad TC) (S : Nat → Int32) (V : Nat → Nat → Int32) (L : Nat → Int64) (a1 : Int32) (a2 : Int32) (r0 : Int32) (V0 : Nat → Nat → Int32) (h : fX4_rulesHoldIn_30 S V a1 a2 = some (r0, V0)) : jM l yX4_rulesHoldIn cX4_rulesHoldIn 9 (some .boolean) ({ frames := 3, cells := 0, slots := 0, locals := 75 }) B D TC ad cA [.ref (ad 30), .int a1, .int a2] S V L (some (.int r0)) S V0 L := by
  refine jM_of (plainFor_of_name (by decide)) TC_ok hI (Nat.le_of_ble_eq_true rfl) ?_
  intro p e s m args below meth c C hr hlk
  refine j_lv (lv2 := [(0, .ref (ad 30)), (1, .int a1), (2, .int a2)]) rfl ?_
  unfold fX4_rulesHoldIn_30 at h
  refine j_aload_n C 0 rfl dX4_rulesHoldIn_0 rfl ?_
  refine fg_X4_24_TC_30 C dX4_rulesHoldIn_1 ?_
  refine j_iload_n C 1 rfl dX4_rulesHoldIn_4 rfl ?_
  refine j_bipush C dX4_rulesHoldIn_5 cb_24 ?_
  refine j_imul C dX4_rulesHoldIn_7 ?_
  refine j_iload_n C 2 rfl dX4_rulesHoldIn_8 rfl ?_
  refine j_iadd C dX4_rulesHoldIn_9 ?_
  refine lt_elim h (fun x1 e_x1 h => ?_)
  refine j_top e_x1 ?_
  obtain ⟨g2, h⟩ := gd_elim h
  refine j_iald C tc_35 (ib_in g2) dX4_rulesHoldIn_10 ?_
  refine lt_elim h (fun x3 e_x3 h => ?_)
  refine j_top e_x3 ?_
  refine j_istore_n C [(3, .int x3), (0, .ref (ad 30)), (1, .int a1), (2, .int a2)] dX4_rulesHoldIn_11 rfl (by decide) rfl ?_
  refine j_iload_n C 0 rfl dX4_rulesHoldIn_12 rfl ?_
  refine j_iconst C dX4_rulesHoldIn_13 ci_m1 ?_
  refine j_icmp_ne (tgt := 19) C dX4_rulesHoldIn_14 (by decide) (fun c4 => ?_) (fun c4 => ?_)
  · have h := (if_neg c4).symm.trans h
    refine j_aload_n C 1 rfl dX4_rulesHoldIn_19 rfl ?_
    refine j_iconst C dX4_rulesHoldIn_20 ci_0 ?_
    refine j_iload_n C 3 rfl dX4_rulesHoldIn_21 rfl ?_
    obtain ⟨r5, h6, h⟩ := bd1_elim h
    refine j_callV (As := [.int (0 : Int32), .int a2]) (rest := []) C (kX4_who_30 l B D ad cA hI S V L (0 : Int32) a2 _ h6) mw_X4_who wd612 wd613 wd611 tc_30 rfl rfl ⟨rfl, rfl, by decide, by decide⟩ ⟨Nat.zero_le _, Nat.zero_le _⟩ rfl rfl (Nat.le_of_ble_eq_true rfl) dX4_rulesHoldIn_22 ?_
    refine j_istore C [(4, .int r5), (3, .int x3), (0, .ref (ad 30)), (1, .int a1), (2, .int a2)] dX4_rulesHoldIn_25 (by decide) rfl ?_
    refine j_aload_n C 2 rfl dX4_rulesHoldIn_27 rfl ?_
    refine j_iconst C dX4_rulesHoldIn_28 ci_1 ?_
    refine j_iload_n C 4 rfl dX4_rulesHoldIn_29 rfl ?_
    obtain ⟨r7, h8, h⟩ := bd1_elim h
    refine j_callV (As := [.int (1 : Int32), .int a2]) (rest := []) C (kX4_who_30 l B D ad cA hI S V L (1 : Int32) a2 _ h8) mw_X4_who wd612 wd613 wd611 tc_30 rfl rfl ⟨rfl, rfl, by decide, by decide⟩ ⟨Nat.zero_le _, Nat.zero_le _⟩ rfl rfl (Nat.le_of_ble_eq_true rfl) dX4_rulesHoldIn_30 ?_
    refine j_istore C [(5, .int r7), (4, .int r5), (3, .int x3), (0, .ref (ad 30)), (1, .int a1), (2, .int a2)] dX4_rulesHoldIn_33 (by decide) rfl ?_
    refine j_aload_n C 3 rfl dX4_rulesHoldIn_35 rfl ?_
    refine fg_X4_9_TC_30 C dX4_rulesHoldIn_36 ?_
    refine j_iload_n C 2 rfl dX4_rulesHoldIn_39 rfl ?_
    obtain ⟨g9, h⟩ := gd_elim h
    refine j_iald C tc_31 (ib_in g9) dX4_rulesHoldIn_40 ?_
    refine lt_elim h (fun x10 e_x10 h => ?_)
    refine j_top e_x10 ?_
    refine j_istore C [(6, .int x10), (5, .int r7), (4, .int r5), (3, .int x3), (0, .ref (ad 30)), (1, .int a1), (2, .int a2)] dX4_rulesHoldIn_41 (by decide) rfl ?_
    refine j_iload_n C 5 rfl dX4_rulesHoldIn_43 rfl ?_
    refine bk_elim h (fun K60_11 e_K60_11 h => ?_)
    have HK60_11 : ∀ (x12 : Int32) (x13 : Int32) (x14 : Int32) (x15 : Int32) (x16 : Int32) (x17 : Int32) (x18 : Int32) (V19 : Nat → Nat → Int32), K60_11 x12 x13 x14 x15 x16 x17 x18 V19 = some (r0, V0) → jW p l e ({ frames := 3, cells := 0, slots := 0, locals := 75 }) s m args below meth c (MQ below (jQc D TC ad cA (some (.int r0)) s.heap.size S V0 L) args s 0 0 (jA ad TC s.heap.size)) D TC ad cA (jA ad TC s.heap.size) 9 0 0 60 [(0, .ref (ad 30)), (1, .int x12), (2, .int x13), (3, .int x14), (4, .int x15), (5, .int x16), (6, .int x17)] [.int x18] S V19 L := by
      subst e_K60_11
      intro x12 x13 x14 x15 x16 x17 x18 V19 h
      refine j_istore C [(7, .int x18), (0, .ref (ad 30)), (1, .int x12), (2, .int x13), (3, .int x14), (4, .int x15), (5, .int x16), (6, .int x17)] dX4_rulesHoldIn_60 (by decide) rfl ?_
      refine j_iload C 0 rfl dX4_rulesHoldIn_62 ?_
      refine j_iload_n C 2 rfl dX4_rulesHoldIn_64 rfl ?_
      refine j_iconst C dX4_rulesHoldIn_65 ci_1 ?_
      refine bk_elim h (fun K82_20 e_K82_20 h => ?_)
      have HK82_20 : ∀ (x21 : Int32) (x22 : Int32) (x23 : Int32) (x24 : Int32) (x25 : Int32) (x26 : Int32) (x27 : Int32) (x28 : Int32) (V29 : Nat → Nat → Int32), K82_20 x21 x22 x23 x24 x25 x26 x27 x28 V29 = some (r0, V0) → jW p l e ({ frames := 3, cells := 0, slots := 0, locals := 75 }) s m args below meth c (MQ below (jQc D TC ad cA (some (.int r0)) s.heap.size S V0 L) args s 0 0 (jA ad TC s.heap.size)) D TC ad cA (jA ad TC s.heap.size) 9 0 0 82 [(0, .ref (ad 30)), (1, .int x21), (2, .int x22), (3, .int x23), (4, .int x24), (5, .int x25), (6, .int x26)] [.int x27, .int x28] S V29 L := by
        subst e_K82_20
        intro x21 x22 x23 x24 x25 x26 x27 x28 V29 h
        refine j_iadd C dX4_rulesHoldIn_82 ?_
        refine lt_elim h (fun x30 e_x30 h => ?_)
        refine j_top e_x30 ?_
        refine j_istore C [(7, .int x30), (0, .ref (ad 30)), (1, .int x21), (2, .int x22), (3, .int x23), (4, .int x24), (5, .int x25), (6, .int x26)] dX4_rulesHoldIn_83 (by decide) rfl ?_
        refine j_aload_n C 1 rfl dX4_rulesHoldIn_85 rfl ?_
        refine fg_X4_27_TC_30 C dX4_rulesHoldIn_86 ?_
        refine j_iload C 7 rfl dX4_rulesHoldIn_89 ?_
        refine j_iload C 5 rfl dX4_rulesHoldIn_91 ?_
        obtain ⟨r31, h32, h⟩ := bd1_elim h
        refine j_callV (As := [.int x26, .int x24]) (rest := []) C (kX2_quarrelsOf_3 l B D ad cA hI S V29 L x26 x24 _ h32) mw_X2_quarrelsOf wd620 wd621 wd619 tc_3 rfl rfl ⟨rfl, rfl, by decide, by decide⟩ ⟨Nat.zero_le _, Nat.zero_le _⟩ rfl rfl (Nat.le_of_ble_eq_true rfl) dX4_rulesHoldIn_93 ?_
        refine j_aload_n C 1 rfl dX4_rulesHoldIn_96 rfl ?_
        refine fg_X4_27_TC_30 C dX4_rulesHoldIn_97 ?_
        refine j_iload C 7 rfl dX4_rulesHoldIn_100 ?_
        refine j_iload C 6 rfl dX4_rulesHoldIn_102 ?_
        obtain ⟨r33, h34, h⟩ := bd1_elim h
        refine j_callV (As := [.int x26, .int x25]) (rest := [.int r31]) C (kX2_quarrelsOf_3 l B D ad cA hI S V29 L x26 x25 _ h34) mw_X2_quarrelsOf wd620 wd621 wd619 tc_3 rfl rfl ⟨rfl, rfl, by decide, by decide⟩ ⟨Nat.zero_le _, Nat.zero_le _⟩ rfl rfl (Nat.le_of_ble_eq_true rfl) dX4_rulesHoldIn_104 ?_
        refine j_iadd C dX4_rulesHoldIn_107 ?_
        refine j_aload_n C 1 rfl dX4_rulesHoldIn_108 rfl ?_
        refine fg_X4_27_TC_30 C dX4_rulesHoldIn_109 ?_
        refine j_iload C 7 rfl dX4_rulesHoldIn_112 ?_
        refine j_aload_n C 1 rfl dX4_rulesHoldIn_114 rfl ?_
        refine j_iconst C dX4_rulesHoldIn_115 ci_2 ?_
        refine j_iload_n C 3 rfl dX4_rulesHoldIn_116 rfl ?_
        obtain ⟨r35, h36, h⟩ := bd1_elim h
        refine j_callV (As := [.int (2 : Int32), .int x22]) (rest := [.int x26, .ref (ad 3), .int (r31 + r33)]) C (kX4_who_30 l B D ad cA hI S V29 L (2 : Int32) x22 _ h36) mw_X4_who wd612 wd613 wd611 tc_30 rfl rfl ⟨rfl, rfl, by decide, by decide⟩ ⟨Nat.zero_le _, Nat.zero_le _⟩ rfl rfl (Nat.le_of_ble_eq_true rfl) dX4_rulesHoldIn_117 ?_
        obtain ⟨r37, h38, h⟩ := bd1_elim h
        refine j_callV (As := [.int x26, .int r35]) (rest := [.int (r31 + r33)]) C (kX2_quarrelsOf_3 l B D ad cA hI S V29 L x26 r35 _ h38) mw_X2_quarrelsOf wd620 wd621 wd619 tc_3 rfl rfl ⟨rfl, rfl, by decide, by decide⟩ ⟨Nat.zero_le _, Nat.zero_le _⟩ rfl rfl (Nat.le_of_ble_eq_true rfl) dX4_rulesHoldIn_120 ?_
        refine j_iadd C dX4_rulesHoldIn_123 ?_
        refine lt_elim h (fun x39 e_x39 h => ?_)
        refine j_top e_x39 ?_
        refine j_istore C [(8, .int x39), (7, .int x30), (0, .ref (ad 30)), (1, .int x21), (2, .int x22), (3, .int x23), (4, .int x24), (5, .int x25), (6, .int x26)] dX4_rulesHoldIn_124 (by decide) rfl ?_
        refine j_aload_n C 2 rfl dX4_rulesHoldIn_126 rfl ?_
        refine fg_X4_31_TC_30 C dX4_rulesHoldIn_127 ?_
        refine j_iload C 8 rfl dX4_rulesHoldIn_130 ?_
        refine j_iload_n C 3 rfl dX4_rulesHoldIn_132 rfl ?_
        refine j_iload_n C 4 rfl dX4_rulesHoldIn_133 rfl ?_
        refine j_aload_n C 2 rfl dX4_rulesHoldIn_134 rfl ?_
        refine fg_X4_21_TC_30 C dX4_rulesHoldIn_135 ?_
        refine j_iload_n C 5 rfl dX4_rulesHoldIn_138 rfl ?_
        obtain ⟨g40, h⟩ := gd_elim h
        refine j_iald C tc_34 (ib_in g40) dX4_rulesHoldIn_139 ?_
        refine j_aload_n C 2 rfl dX4_rulesHoldIn_140 rfl ?_
        refine fg_X4_18_TC_30 C dX4_rulesHoldIn_141 ?_
        refine j_iload_n C 5 rfl dX4_rulesHoldIn_144 rfl ?_
        obtain ⟨g41, h⟩ := gd_elim h
        refine j_iald C tc_33 (ib_in g41) dX4_rulesHoldIn_145 ?_
        refine j_isub C dX4_rulesHoldIn_146 ?_
        refine j_iconst C dX4_rulesHoldIn_147 ci_1 ?_
        refine j_iadd C dX4_rulesHoldIn_148 ?_
        refine j_iload C 1 rfl dX4_rulesHoldIn_149 ?_
        refine j_iload C 0 rfl dX4_rulesHoldIn_151 ?_
        obtain ⟨r42, V43, h44, h⟩ := bd2_elim h
        refine j_callV (As := [.int x26, .int x21, .int x22, .int (((V29 34 (x23).toNatClampNeg) - (V29 33 (x23).toNatClampNeg)) + (1 : Int32)), .int x30, .int x39]) (rest := []) C (kX8_holdOf_27 l B D ad cA hI S V29 L x26 x21 x22 ((((V29 34 (x23).toNatClampNeg) - (V29 33 (x23).toNatClampNeg)) + (1 : Int32))) x30 x39 _ _ h44) mw_X8_holdOf wd624 wd625 wd623 tc_27 rfl rfl ⟨rfl, rfl, by decide, by decide⟩ ⟨Nat.zero_le _, Nat.zero_le _⟩ rfl rfl (Nat.le_of_ble_eq_true rfl) dX4_rulesHoldIn_153 ?_
        obtain ⟨g45, h⟩ := gd_elim h
        cases h
        exact j_zret C hr hlk rfl (isb_n g45) dX4_rulesHoldIn_156
      refine j_icmp_ne (tgt := 73) C dX4_rulesHoldIn_66 (by decide) (fun c46 => ?_) (fun c46 => ?_)
      · have h := (if_neg c46).symm.trans h
        refine j_aload_n C 1 rfl dX4_rulesHoldIn_73 rfl ?_
        refine fg_X4_27_TC_30 C dX4_rulesHoldIn_74 ?_
        refine j_iload C 6 rfl dX4_rulesHoldIn_77 ?_
        obtain ⟨r47, h48, h⟩ := bd1_elim h
        refine j_callV (As := [.int x16]) (rest := [.int x18]) C (kX2_weightOf_3 l B D ad cA hI S V19 L x16 _ h48) mw_X2_weightOf wd616 wd617 wd615 tc_3 rfl rfl ⟨rfl, rfl, by decide, by decide⟩ ⟨Nat.zero_le _, Nat.zero_le _⟩ rfl rfl (Nat.le_of_ble_eq_true rfl) dX4_rulesHoldIn_79 ?_
        exact j_sub [1, 2, 3, 4, 5, 6, 7] rfl (HK82_20 _ _ _ _ _ _ _ _ _ h)
      · have h := (if_pos c46).symm.trans h
        refine j_iconst C dX4_rulesHoldIn_69 ci_0 ?_
        refine j_goto (tgt := 82) C dX4_rulesHoldIn_70 (by decide) ?_
        exact j_sub [1, 2, 3, 4, 5, 6, 7] rfl (HK82_20 _ _ _ _ _ _ _ _ _ h)
    refine j_if_ne (tgt := 51) C dX4_rulesHoldIn_44 (by decide) (fun c49 => ?_) (fun c49 => ?_)
    · have h := (if_neg c49).symm.trans h
      refine j_aload_n C 4 rfl dX4_rulesHoldIn_51 rfl ?_
      refine fg_X4_27_TC_30 C dX4_rulesHoldIn_52 ?_
      refine j_iload C 2 rfl dX4_rulesHoldIn_55 ?_
      obtain ⟨r50, h51, h⟩ := bd1_elim h
      refine j_callV (As := [.int r5]) (rest := []) C (kX2_weightOf_3 l B D ad cA hI S V L r5 _ h51) mw_X2_weightOf wd616 wd617 wd615 tc_3 rfl rfl ⟨rfl, rfl, by decide, by decide⟩ ⟨Nat.zero_le _, Nat.zero_le _⟩ rfl rfl (Nat.le_of_ble_eq_true rfl) dX4_rulesHoldIn_57 ?_
      exact j_sub [4, 5, 6, 3, 2, 1, 0] rfl (HK60_11 _ _ _ _ _ _ _ _ h)
    · have h := (if_pos c49).symm.trans h
      refine j_iconst C dX4_rulesHoldIn_47 ci_0 ?_
      refine j_goto (tgt := 60) C dX4_rulesHoldIn_48 (by decide) ?_
      exact j_sub [4, 5, 6, 3, 2, 1, 0] rfl (HK60_11 _ _ _ _ _ _ _ _ h)
  · have h := (if_pos c4).symm.trans h
    refine j_iconst C dX4_rulesHoldIn_17 ci_1 ?_
    cases h
    exact j_zret C hr hlk rfl rfl dX4_rulesHoldIn_18
theorem dX4_rulesWouldHold_0 : decode cX4_rulesWouldHold 0 = .ok (.aload_n 0, 1) := by decide +kernel
theorem dX4_rulesWouldHold_1 : decode cX4_rulesWouldHold 1 = .ok (.getfield 27, 3) := by decide +kernel
theorem dX4_rulesWouldHold_4 : decode cX4_rulesWouldHold 4 = .ok (.getfield 87, 3) := by decide +kernel
theorem dX4_rulesWouldHold_7 : decode cX4_rulesWouldHold 7 = .ok (.ifCond .ne 5, 3) := by decide +kernel
theorem dX4_rulesWouldHold_10 : decode cX4_rulesWouldHold 10 = .ok (.iconst 1, 1) := by decide +kernel
theorem dX4_rulesWouldHold_11 : decode cX4_rulesWouldHold 11 = .ok (.ireturn, 1) := by decide +kernel
theorem dX4_rulesWouldHold_12 : decode cX4_rulesWouldHold 12 = .ok (.aload_n 0, 1) := by decide +kernel
theorem dX4_rulesWouldHold_13 : decode cX4_rulesWouldHold 13 = .ok (.iload_n 1, 1) := by decide +kernel
theorem dX4_rulesWouldHold_14 : decode cX4_rulesWouldHold 14 = .ok (.iload_n 2, 1) := by decide +kernel
theorem dX4_rulesWouldHold_15 : decode cX4_rulesWouldHold 15 = .ok (.iload_n 3, 1) := by decide +kernel
theorem dX4_rulesWouldHold_16 : decode cX4_rulesWouldHold 16 = .ok (.iload 4, 2) := by decide +kernel
theorem dX4_rulesWouldHold_18 : decode cX4_rulesWouldHold 18 = .ok (.invokevirtual 76, 3) := by decide +kernel
theorem dX4_rulesWouldHold_21 : decode cX4_rulesWouldHold 21 = .ok (.iconst 1, 1) := by decide +kernel
theorem dX4_rulesWouldHold_22 : decode cX4_rulesWouldHold 22 = .ok (.istore 5, 2) := by decide +kernel
theorem dX4_rulesWouldHold_24 : decode cX4_rulesWouldHold 24 = .ok (.iload_n 3, 1) := by decide +kernel
theorem dX4_rulesWouldHold_25 : decode cX4_rulesWouldHold 25 = .ok (.istore 6, 2) := by decide +kernel
theorem dX4_rulesWouldHold_27 : decode cX4_rulesWouldHold 27 = .ok (.iload 6, 2) := by decide +kernel
theorem dX4_rulesWouldHold_29 : decode cX4_rulesWouldHold 29 = .ok (.iload 4, 2) := by decide +kernel
theorem dX4_rulesWouldHold_31 : decode cX4_rulesWouldHold 31 = .ok (.if_icmp .gt 51, 3) := by decide +kernel
theorem dX4_rulesWouldHold_34 : decode cX4_rulesWouldHold 34 = .ok (.iload 5, 2) := by decide +kernel
theorem dX4_rulesWouldHold_36 : decode cX4_rulesWouldHold 36 = .ok (.ifCond .eq 46, 3) := by decide +kernel
theorem dX4_rulesWouldHold_39 : decode cX4_rulesWouldHold 39 = .ok (.aload_n 0, 1) := by decide +kernel
theorem dX4_rulesWouldHold_40 : decode cX4_rulesWouldHold 40 = .ok (.iconst 0, 1) := by decide +kernel
theorem dX4_rulesWouldHold_41 : decode cX4_rulesWouldHold 41 = .ok (.iload 6, 2) := by decide +kernel
theorem dX4_rulesWouldHold_43 : decode cX4_rulesWouldHold 43 = .ok (.invokevirtual 90, 3) := by decide +kernel
theorem dX4_rulesWouldHold_46 : decode cX4_rulesWouldHold 46 = .ok (.ifCond .eq 27, 3) := by decide +kernel
theorem dX4_rulesWouldHold_49 : decode cX4_rulesWouldHold 49 = .ok (.aload_n 0, 1) := by decide +kernel
theorem dX4_rulesWouldHold_50 : decode cX4_rulesWouldHold 50 = .ok (.iconst 1, 1) := by decide +kernel
theorem dX4_rulesWouldHold_51 : decode cX4_rulesWouldHold 51 = .ok (.iload 6, 2) := by decide +kernel
theorem dX4_rulesWouldHold_53 : decode cX4_rulesWouldHold 53 = .ok (.invokevirtual 90, 3) := by decide +kernel
theorem dX4_rulesWouldHold_56 : decode cX4_rulesWouldHold 56 = .ok (.ifCond .eq 17, 3) := by decide +kernel
theorem dX4_rulesWouldHold_59 : decode cX4_rulesWouldHold 59 = .ok (.aload_n 0, 1) := by decide +kernel
theorem dX4_rulesWouldHold_60 : decode cX4_rulesWouldHold 60 = .ok (.iconst 2, 1) := by decide +kernel
theorem dX4_rulesWouldHold_61 : decode cX4_rulesWouldHold 61 = .ok (.iload 6, 2) := by decide +kernel
theorem dX4_rulesWouldHold_63 : decode cX4_rulesWouldHold 63 = .ok (.invokevirtual 90, 3) := by decide +kernel
theorem dX4_rulesWouldHold_66 : decode cX4_rulesWouldHold 66 = .ok (.ifCond .eq 7, 3) := by decide +kernel
theorem dX4_rulesWouldHold_69 : decode cX4_rulesWouldHold 69 = .ok (.iconst 1, 1) := by decide +kernel
theorem dX4_rulesWouldHold_70 : decode cX4_rulesWouldHold 70 = .ok (.goto 4, 3) := by decide +kernel
theorem dX4_rulesWouldHold_73 : decode cX4_rulesWouldHold 73 = .ok (.iconst 0, 1) := by decide +kernel
theorem dX4_rulesWouldHold_74 : decode cX4_rulesWouldHold 74 = .ok (.istore 5, 2) := by decide +kernel
theorem dX4_rulesWouldHold_76 : decode cX4_rulesWouldHold 76 = .ok (.iinc 6 1, 3) := by decide +kernel
theorem dX4_rulesWouldHold_79 : decode cX4_rulesWouldHold 79 = .ok (.goto (-52), 3) := by decide +kernel
theorem dX4_rulesWouldHold_82 : decode cX4_rulesWouldHold 82 = .ok (.aload_n 0, 1) := by decide +kernel
theorem dX4_rulesWouldHold_83 : decode cX4_rulesWouldHold 83 = .ok (.invokevirtual 80, 3) := by decide +kernel
theorem dX4_rulesWouldHold_86 : decode cX4_rulesWouldHold 86 = .ok (.iload 5, 2) := by decide +kernel
theorem dX4_rulesWouldHold_88 : decode cX4_rulesWouldHold 88 = .ok (.ireturn, 1) := by decide +kernel
def fX4_rulesWouldHold_30_L27 (E82 : Int32 → (Nat → Nat → Int32) → Option (Int32 × (Nat → Nat → Int32))) (S : Nat → Int32) : Nat → Int32 → Int32 → Int32 → (Nat → Nat → Int32) → Option (Int32 × (Nat → Nat → Int32))
  | 0, _, _, _, _ => none
  | n + 1, x4, x5, x6, V7 =>
    (if x4 < x6 then
    E82 x5 V7
    else
    (if x5 = 0 then
    E82 x5 V7
    else
    bd2 (fX4_rulesHoldIn_30 S V7 (0 : Int32) x6) (fun r10 V11 =>
    bk (fun (x14 : Int32) (x15 : Int32) (x16 : Int32) (V17 : Nat → Nat → Int32) =>
    lt (x15 + (1 : Int32)) (fun x18 =>
    fX4_rulesWouldHold_30_L27 E82 S n x14 x16 x18 V17)) (fun K74_13 =>
    bk (fun (x20 : Int32) (x21 : Int32) (V22 : Nat → Nat → Int32) =>
    K74_13 x20 x21 (0 : Int32) V22) (fun K73_19 =>
    (if r10 = 0 then
    K73_19 x4 x6 V11
    else
    bd2 (fX4_rulesHoldIn_30 S V11 (1 : Int32) x6) (fun r24 V25 =>
    (if r24 = 0 then
    K73_19 x4 x6 V25
    else
    bd2 (fX4_rulesHoldIn_30 S V25 (2 : Int32) x6) (fun r28 V29 =>
    (if r28 = 0 then
    K73_19 x4 x6 V29
    else
    K74_13 x4 x6 (1 : Int32) V29))))))))))
def fX4_rulesWouldHold_30 (S : Nat → Int32) (V : Nat → Nat → Int32) (a1 : Int32) (a2 : Int32) (a3 : Int32) (a4 : Int32) : Option (Int32 × (Nat → Nat → Int32)) :=
  (if (S 306) = 0 then
  some ((1 : Int32), V)
  else
  bd1 (fX4_moveIn_30 S V a1 a2 a3 a4) (fun V2 =>
  bk (fun (x35 : Int32) (V36 : Nat → Nat → Int32) =>
  bd1 (fX4_moveOut_30 S V36) (fun V37 =>
  gd (isb x35) (
  some (x35, V37)))) (fun X82_34 =>
  fX4_rulesWouldHold_30_L27 X82_34 S FU a4 (1 : Int32) a3 V2)))
set_option maxHeartbeats 4000000 in
set_option maxRecDepth 100000 in
theorem kX4_rulesWouldHold_30 (l : Launch) (B : jBT) (D : va_G) (ad : Nat → Nat) (cA : Nat → ClassId) (hI : jI ad TC) (S : Nat → Int32) (V : Nat → Nat → Int32) (L : Nat → Int64) (a1 : Int32) (a2 : Int32) (a3 : Int32) (a4 : Int32) (r0 : Int32) (V0 : Nat → Nat → Int32) (h : fX4_rulesWouldHold_30 S V a1 a2 a3 a4 = some (r0, V0)) : jM l yX4_rulesWouldHold cX4_rulesWouldHold 7 (some .boolean) ({ frames := 4, cells := 0, slots := 0, locals := 103 }) B D TC ad cA [.ref (ad 30), .int a1, .int a2, .int a3, .int a4] S V L (some (.int r0)) S V0 L := by
  refine jM_of (plainFor_of_name (by decide)) TC_ok hI (Nat.le_of_ble_eq_true rfl) ?_
  intro p e s m args below meth c C hr hlk
  refine j_lv (lv2 := [(0, .ref (ad 30)), (1, .int a1), (2, .int a2), (3, .int a3), (4, .int a4)]) rfl ?_
  unfold fX4_rulesWouldHold_30 at h
  have H_fX4_rulesWouldHold_30_L27 : ∀ (E82 : Int32 → (Nat → Nat → Int32) → Option (Int32 × (Nat → Nat → Int32))) (_ : ∀ (x32 : Int32) (V33 : Nat → Nat → Int32), E82 x32 V33 = some (r0, V0) → jW p l e ({ frames := 4, cells := 0, slots := 0, locals := 103 }) s m args below meth c (MQ below (jQc D TC ad cA (some (.int r0)) s.heap.size S V0 L) args s 0 0 (jA ad TC s.heap.size)) D TC ad cA (jA ad TC s.heap.size) 7 0 0 82 [(0, .ref (ad 30)), (5, .int x32)] [] S V33 L) (n : Nat) (x4 : Int32) (x5 : Int32) (x6 : Int32) (V7 : Nat → Nat → Int32), fX4_rulesWouldHold_30_L27 E82 S n x4 x5 x6 V7 = some (r0, V0) → jW p l e ({ frames := 4, cells := 0, slots := 0, locals := 103 }) s m args below meth c (MQ below (jQc D TC ad cA (some (.int r0)) s.heap.size S V0 L) args s 0 0 (jA ad TC s.heap.size)) D TC ad cA (jA ad TC s.heap.size) 7 0 0 27 [(0, .ref (ad 30)), (4, .int x4), (5, .int x5), (6, .int x6)] [] S V7 L := by
    intro E82 HE82
    intro n
    induction n with
    | zero =>
      intro x4 x5 x6 V7 h
      cases (show (none : Option (Int32 × (Nat → Nat → Int32))) = some (r0, V0) from h)
    | succ n ih =>
      intro x4 x5 x6 V7 h
      unfold fX4_rulesWouldHold_30_L27 at h
      refine j_iload C 3 rfl dX4_rulesWouldHold_27 ?_
      refine j_iload C 1 rfl dX4_rulesWouldHold_29 ?_
      refine j_icmp_gt (tgt := 82) C dX4_rulesWouldHold_31 (by decide) (fun c8 => ?_) (fun c8 => ?_)
      · have h := (if_pos c8).symm.trans h
        exact j_sub [0, 2] rfl (HE82 _ _ h)
      · have h := (if_neg c8).symm.trans h
        refine j_iload C 2 rfl dX4_rulesWouldHold_34 ?_
        refine j_if_eq (tgt := 82) C dX4_rulesWouldHold_36 (by decide) (fun c9 => ?_) (fun c9 => ?_)
        · have h := (if_pos c9).symm.trans h
          exact j_sub [0, 2] rfl (HE82 _ _ h)
        · have h := (if_neg c9).symm.trans h
          refine j_aload_n C 0 rfl dX4_rulesWouldHold_39 rfl ?_
          refine j_iconst C dX4_rulesWouldHold_40 ci_0 ?_
          refine j_iload C 3 rfl dX4_rulesWouldHold_41 ?_
          obtain ⟨r10, V11, h12, h⟩ := bd2_elim h
          refine j_callV (As := [.int (0 : Int32), .int x6]) (rest := []) C (kX4_rulesHoldIn_30 l B D ad cA hI S V7 L (0 : Int32) x6 _ _ h12) mw_X4_rulesHoldIn wd609 wd5 wd607 tc_30 rfl rfl ⟨rfl, rfl, by decide, by decide⟩ ⟨Nat.zero_le _, Nat.zero_le _⟩ rfl rfl (Nat.le_of_ble_eq_true rfl) dX4_rulesWouldHold_43 ?_
          refine bk_elim h (fun K74_13 e_K74_13 h => ?_)
          have HK74_13 : ∀ (x14 : Int32) (x15 : Int32) (x16 : Int32) (V17 : Nat → Nat → Int32), K74_13 x14 x15 x16 V17 = some (r0, V0) → jW p l e ({ frames := 4, cells := 0, slots := 0, locals := 103 }) s m args below meth c (MQ below (jQc D TC ad cA (some (.int r0)) s.heap.size S V0 L) args s 0 0 (jA ad TC s.heap.size)) D TC ad cA (jA ad TC s.heap.size) 7 0 0 74 [(0, .ref (ad 30)), (4, .int x14), (6, .int x15)] [.int x16] S V17 L := by
            subst e_K74_13
            intro x14 x15 x16 V17 h
            refine j_istore C [(5, .int x16), (0, .ref (ad 30)), (4, .int x14), (6, .int x15)] dX4_rulesWouldHold_74 (by decide) rfl ?_
            refine lt_elim h (fun x18 e_x18 h => ?_)
            refine j_iinc C [(6, .int x18), (5, .int x16), (0, .ref (ad 30)), (4, .int x14)] 3 dX4_rulesWouldHold_76 rfl ((iinc_eq ci_1).trans e_x18.symm) (by decide) rfl ?_
            refine j_goto (tgt := 27) C dX4_rulesWouldHold_79 (by decide) ?_
            exact j_sub [2, 3, 1, 0] rfl (ih _ _ _ _ h)
          refine bk_elim h (fun K73_19 e_K73_19 h => ?_)
          have HK73_19 : ∀ (x20 : Int32) (x21 : Int32) (V22 : Nat → Nat → Int32), K73_19 x20 x21 V22 = some (r0, V0) → jW p l e ({ frames := 4, cells := 0, slots := 0, locals := 103 }) s m args below meth c (MQ below (jQc D TC ad cA (some (.int r0)) s.heap.size S V0 L) args s 0 0 (jA ad TC s.heap.size)) D TC ad cA (jA ad TC s.heap.size) 7 0 0 73 [(0, .ref (ad 30)), (4, .int x20), (6, .int x21)] [] S V22 L := by
            subst e_K73_19
            intro x20 x21 V22 h
            refine j_iconst C dX4_rulesWouldHold_73 ci_0 ?_
            exact j_sub [0, 1, 2] rfl (HK74_13 _ _ _ _ h)
          refine j_if_eq (tgt := 73) C dX4_rulesWouldHold_46 (by decide) (fun c23 => ?_) (fun c23 => ?_)
          · have h := (if_pos c23).symm.trans h
            exact j_sub [0, 1, 3] rfl (HK73_19 _ _ _ h)
          · have h := (if_neg c23).symm.trans h
            refine j_aload_n C 0 rfl dX4_rulesWouldHold_49 rfl ?_
            refine j_iconst C dX4_rulesWouldHold_50 ci_1 ?_
            refine j_iload C 3 rfl dX4_rulesWouldHold_51 ?_
            obtain ⟨r24, V25, h26, h⟩ := bd2_elim h
            refine j_callV (As := [.int (1 : Int32), .int x6]) (rest := []) C (kX4_rulesHoldIn_30 l B D ad cA hI S V11 L (1 : Int32) x6 _ _ h26) mw_X4_rulesHoldIn wd609 wd5 wd607 tc_30 rfl rfl ⟨rfl, rfl, by decide, by decide⟩ ⟨Nat.zero_le _, Nat.zero_le _⟩ rfl rfl (Nat.le_of_ble_eq_true rfl) dX4_rulesWouldHold_53 ?_
            refine j_if_eq (tgt := 73) C dX4_rulesWouldHold_56 (by decide) (fun c27 => ?_) (fun c27 => ?_)
            · have h := (if_pos c27).symm.trans h
              exact j_sub [0, 1, 3] rfl (HK73_19 _ _ _ h)
            · have h := (if_neg c27).symm.trans h
              refine j_aload_n C 0 rfl dX4_rulesWouldHold_59 rfl ?_
              refine j_iconst C dX4_rulesWouldHold_60 ci_2 ?_
              refine j_iload C 3 rfl dX4_rulesWouldHold_61 ?_
              obtain ⟨r28, V29, h30, h⟩ := bd2_elim h
              refine j_callV (As := [.int (2 : Int32), .int x6]) (rest := []) C (kX4_rulesHoldIn_30 l B D ad cA hI S V25 L (2 : Int32) x6 _ _ h30) mw_X4_rulesHoldIn wd609 wd5 wd607 tc_30 rfl rfl ⟨rfl, rfl, by decide, by decide⟩ ⟨Nat.zero_le _, Nat.zero_le _⟩ rfl rfl (Nat.le_of_ble_eq_true rfl) dX4_rulesWouldHold_63 ?_
              refine j_if_eq (tgt := 73) C dX4_rulesWouldHold_66 (by decide) (fun c31 => ?_) (fun c31 => ?_)
              · have h := (if_pos c31).symm.trans h
                exact j_sub [0, 1, 3] rfl (HK73_19 _ _ _ h)
              · have h := (if_neg c31).symm.trans h
                refine j_iconst C dX4_rulesWouldHold_69 ci_1 ?_
                refine j_goto (tgt := 74) C dX4_rulesWouldHold_70 (by decide) ?_
                exact j_sub [0, 1, 3] rfl (HK74_13 _ _ _ _ h)
  refine j_aload_n C 0 rfl dX4_rulesWouldHold_0 rfl ?_
  refine fg_X4_27_TC_30 C dX4_rulesWouldHold_1 ?_
  refine fg_X4_87_TC_3 C dX4_rulesWouldHold_4 ?_
  refine j_if_ne (tgt := 12) C dX4_rulesWouldHold_7 (by decide) (fun c1 => ?_) (fun c1 => ?_)
  · have h := (if_neg c1).symm.trans h
    refine j_aload_n C 0 rfl dX4_rulesWouldHold_12 rfl ?_
    refine j_iload_n C 1 rfl dX4_rulesWouldHold_13 rfl ?_
    refine j_iload_n C 2 rfl dX4_rulesWouldHold_14 rfl ?_
    refine j_iload_n C 3 rfl dX4_rulesWouldHold_15 rfl ?_
    refine j_iload C 4 rfl dX4_rulesWouldHold_16 ?_
    obtain ⟨V2, h3, h⟩ := bd1_elim h
    refine j_callV (As := [.int a1, .int a2, .int a3, .int a4]) (rest := []) C (kX4_moveIn_30 l B D ad cA hI S V L a1 a2 a3 a4 _ h3) mw_X4_moveIn wd601 wd3 wd599 tc_30 rfl rfl ⟨rfl, rfl, by decide, by decide⟩ ⟨Nat.zero_le _, Nat.zero_le _⟩ rfl rfl (Nat.le_of_ble_eq_true rfl) dX4_rulesWouldHold_18 ?_
    refine j_iconst C dX4_rulesWouldHold_21 ci_1 ?_
    refine j_istore C [(5, .int (1 : Int32)), (0, .ref (ad 30)), (1, .int a1), (2, .int a2), (3, .int a3), (4, .int a4)] dX4_rulesWouldHold_22 (by decide) rfl ?_
    refine j_iload_n C 4 rfl dX4_rulesWouldHold_24 rfl ?_
    refine j_istore C [(6, .int a3), (5, .int (1 : Int32)), (0, .ref (ad 30)), (1, .int a1), (2, .int a2), (3, .int a3), (4, .int a4)] dX4_rulesWouldHold_25 (by decide) rfl ?_
    refine bk_elim h (fun X82_34 e_X82_34 h => ?_)
    have HX82_34 : ∀ (x35 : Int32) (V36 : Nat → Nat → Int32), X82_34 x35 V36 = some (r0, V0) → jW p l e ({ frames := 4, cells := 0, slots := 0, locals := 103 }) s m args below meth c (MQ below (jQc D TC ad cA (some (.int r0)) s.heap.size S V0 L) args s 0 0 (jA ad TC s.heap.size)) D TC ad cA (jA ad TC s.heap.size) 7 0 0 82 [(0, .ref (ad 30)), (5, .int x35)] [] S V36 L := by
      subst e_X82_34
      intro x35 V36 h
      refine j_aload_n C 0 rfl dX4_rulesWouldHold_82 rfl ?_
      obtain ⟨V37, h38, h⟩ := bd1_elim h
      refine j_callV (As := []) (rest := []) C (kX4_moveOut_30 l B D ad cA hI S V36 L _ h38) mw_X4_moveOut wd637 wd7 wd635 tc_30 rfl rfl ⟨rfl, rfl, by decide, by decide⟩ ⟨Nat.zero_le _, Nat.zero_le _⟩ rfl rfl (Nat.le_of_ble_eq_true rfl) dX4_rulesWouldHold_83 ?_
      refine j_iload C 1 rfl dX4_rulesWouldHold_86 ?_
      obtain ⟨g39, h⟩ := gd_elim h
      cases h
      exact j_zret C hr hlk rfl (isb_n g39) dX4_rulesWouldHold_88
    exact j_sub [2, 6, 1, 0] rfl (H_fX4_rulesWouldHold_30_L27 _ HX82_34 FU _ _ _ _ h)
  · have h := (if_pos c1).symm.trans h
    refine j_iconst C dX4_rulesWouldHold_10 ci_1 ?_
    cases h
    exact j_zret C hr hlk rfl rfl dX4_rulesWouldHold_11
theorem dX4_troubleOf_0 : decode cX4_troubleOf 0 = .ok (.iload_n 2, 1) := by decide +kernel
theorem dX4_troubleOf_1 : decode cX4_troubleOf 1 = .ok (.ifCond .lt 12, 3) := by decide +kernel
theorem dX4_troubleOf_4 : decode cX4_troubleOf 4 = .ok (.iload_n 2, 1) := by decide +kernel
theorem dX4_troubleOf_5 : decode cX4_troubleOf 5 = .ok (.iconst 3, 1) := by decide +kernel
theorem dX4_troubleOf_6 : decode cX4_troubleOf 6 = .ok (.if_icmp .ge 7, 3) := by decide +kernel
theorem dX4_troubleOf_9 : decode cX4_troubleOf 9 = .ok (.iconst 1, 1) := by decide +kernel
theorem dX4_troubleOf_10 : decode cX4_troubleOf 10 = .ok (.goto 4, 3) := by decide +kernel
theorem dX4_troubleOf_13 : decode cX4_troubleOf 13 = .ok (.iconst 0, 1) := by decide +kernel
theorem dX4_troubleOf_14 : decode cX4_troubleOf 14 = .ok (.istore 5, 2) := by decide +kernel
theorem dX4_troubleOf_16 : decode cX4_troubleOf 16 = .ok (.aload_n 0, 1) := by decide +kernel
theorem dX4_troubleOf_17 : decode cX4_troubleOf 17 = .ok (.getfield 27, 3) := by decide +kernel
theorem dX4_troubleOf_20 : decode cX4_troubleOf 20 = .ok (.iload_n 1, 1) := by decide +kernel
theorem dX4_troubleOf_21 : decode cX4_troubleOf 21 = .ok (.invokevirtual 51, 3) := by decide +kernel
theorem dX4_troubleOf_24 : decode cX4_troubleOf 24 = .ok (.ifCond .eq 25, 3) := by decide +kernel
theorem dX4_troubleOf_27 : decode cX4_troubleOf 27 = .ok (.iload 5, 2) := by decide +kernel
theorem dX4_troubleOf_29 : decode cX4_troubleOf 29 = .ok (.ifCond .eq 20, 3) := by decide +kernel
theorem dX4_troubleOf_32 : decode cX4_troubleOf 32 = .ok (.iload_n 3, 1) := by decide +kernel
theorem dX4_troubleOf_33 : decode cX4_troubleOf 33 = .ok (.ifCond .lt 16, 3) := by decide +kernel
theorem dX4_troubleOf_36 : decode cX4_troubleOf 36 = .ok (.iload 4, 2) := by decide +kernel
theorem dX4_troubleOf_38 : decode cX4_troubleOf 38 = .ok (.iload_n 3, 1) := by decide +kernel
theorem dX4_troubleOf_39 : decode cX4_troubleOf 39 = .ok (.if_icmp .lt 10, 3) := by decide +kernel
theorem dX4_troubleOf_42 : decode cX4_troubleOf 42 = .ok (.iload 4, 2) := by decide +kernel
theorem dX4_troubleOf_44 : decode cX4_troubleOf 44 = .ok (.bipush 23, 2) := by decide +kernel
theorem dX4_troubleOf_46 : decode cX4_troubleOf 46 = .ok (.if_icmp .le 5, 3) := by decide +kernel
theorem dX4_troubleOf_49 : decode cX4_troubleOf 49 = .ok (.iconst 1, 1) := by decide +kernel
theorem dX4_troubleOf_50 : decode cX4_troubleOf 50 = .ok (.ireturn, 1) := by decide +kernel
theorem dX4_troubleOf_51 : decode cX4_troubleOf 51 = .ok (.aload_n 0, 1) := by decide +kernel
theorem dX4_troubleOf_52 : decode cX4_troubleOf 52 = .ok (.getfield 27, 3) := by decide +kernel
theorem dX4_troubleOf_55 : decode cX4_troubleOf 55 = .ok (.iload_n 1, 1) := by decide +kernel
theorem dX4_troubleOf_56 : decode cX4_troubleOf 56 = .ok (.iload_n 2, 1) := by decide +kernel
theorem dX4_troubleOf_57 : decode cX4_troubleOf 57 = .ok (.invokevirtual 57, 3) := by decide +kernel
theorem dX4_troubleOf_60 : decode cX4_troubleOf 60 = .ok (.ifCond .ne 5, 3) := by decide +kernel
theorem dX4_troubleOf_63 : decode cX4_troubleOf 63 = .ok (.iconst 2, 1) := by decide +kernel
theorem dX4_troubleOf_64 : decode cX4_troubleOf 64 = .ok (.ireturn, 1) := by decide +kernel
theorem dX4_troubleOf_65 : decode cX4_troubleOf 65 = .ok (.iload_n 3, 1) := by decide +kernel
theorem dX4_troubleOf_66 : decode cX4_troubleOf 66 = .ok (.iload 4, 2) := by decide +kernel
theorem dX4_troubleOf_68 : decode cX4_troubleOf 68 = .ok (.invokestatic 61, 3) := by decide +kernel
theorem dX4_troubleOf_71 : decode cX4_troubleOf 71 = .ok (.istore 6, 2) := by decide +kernel
theorem dX4_troubleOf_73 : decode cX4_troubleOf 73 = .ok (.iload 6, 2) := by decide +kernel
theorem dX4_troubleOf_75 : decode cX4_troubleOf 75 = .ok (.aload_n 0, 1) := by decide +kernel
theorem dX4_troubleOf_76 : decode cX4_troubleOf 76 = .ok (.iload_n 2, 1) := by decide +kernel
theorem dX4_troubleOf_77 : decode cX4_troubleOf 77 = .ok (.invokevirtual 65, 3) := by decide +kernel
theorem dX4_troubleOf_80 : decode cX4_troubleOf 80 = .ok (.iand, 1) := by decide +kernel
theorem dX4_troubleOf_81 : decode cX4_troubleOf 81 = .ok (.ifCond .eq 5, 3) := by decide +kernel
theorem dX4_troubleOf_84 : decode cX4_troubleOf 84 = .ok (.iconst 3, 1) := by decide +kernel
theorem dX4_troubleOf_85 : decode cX4_troubleOf 85 = .ok (.ireturn, 1) := by decide +kernel
theorem dX4_troubleOf_86 : decode cX4_troubleOf 86 = .ok (.iload 6, 2) := by decide +kernel
theorem dX4_troubleOf_88 : decode cX4_troubleOf 88 = .ok (.aload_n 0, 1) := by decide +kernel
theorem dX4_troubleOf_89 : decode cX4_troubleOf 89 = .ok (.iload_n 1, 1) := by decide +kernel
theorem dX4_troubleOf_90 : decode cX4_troubleOf 90 = .ok (.invokevirtual 69, 3) := by decide +kernel
theorem dX4_troubleOf_93 : decode cX4_troubleOf 93 = .ok (.iand, 1) := by decide +kernel
theorem dX4_troubleOf_94 : decode cX4_troubleOf 94 = .ok (.ifCond .eq 5, 3) := by decide +kernel
theorem dX4_troubleOf_97 : decode cX4_troubleOf 97 = .ok (.iconst 4, 1) := by decide +kernel
theorem dX4_troubleOf_98 : decode cX4_troubleOf 98 = .ok (.ireturn, 1) := by decide +kernel
theorem dX4_troubleOf_99 : decode cX4_troubleOf 99 = .ok (.iload_n 2, 1) := by decide +kernel
theorem dX4_troubleOf_100 : decode cX4_troubleOf 100 = .ok (.iconst 2, 1) := by decide +kernel
theorem dX4_troubleOf_101 : decode cX4_troubleOf 101 = .ok (.if_icmp .ne 24, 3) := by decide +kernel
theorem dX4_troubleOf_104 : decode cX4_troubleOf 104 = .ok (.iload 6, 2) := by decide +kernel
theorem dX4_troubleOf_106 : decode cX4_troubleOf 106 = .ok (.aload_n 0, 1) := by decide +kernel
theorem dX4_troubleOf_107 : decode cX4_troubleOf 107 = .ok (.iconst 0, 1) := by decide +kernel
theorem dX4_troubleOf_108 : decode cX4_troubleOf 108 = .ok (.invokevirtual 65, 3) := by decide +kernel
theorem dX4_troubleOf_111 : decode cX4_troubleOf 111 = .ok (.aload_n 0, 1) := by decide +kernel
theorem dX4_troubleOf_112 : decode cX4_troubleOf 112 = .ok (.iconst 1, 1) := by decide +kernel
theorem dX4_troubleOf_113 : decode cX4_troubleOf 113 = .ok (.invokevirtual 65, 3) := by decide +kernel
theorem dX4_troubleOf_116 : decode cX4_troubleOf 116 = .ok (.iand, 1) := by decide +kernel
theorem dX4_troubleOf_117 : decode cX4_troubleOf 117 = .ok (.iconst (-1), 1) := by decide +kernel
theorem dX4_troubleOf_118 : decode cX4_troubleOf 118 = .ok (.ixor, 1) := by decide +kernel
theorem dX4_troubleOf_119 : decode cX4_troubleOf 119 = .ok (.iand, 1) := by decide +kernel
theorem dX4_troubleOf_120 : decode cX4_troubleOf 120 = .ok (.ifCond .eq 5, 3) := by decide +kernel
theorem dX4_troubleOf_123 : decode cX4_troubleOf 123 = .ok (.iconst 5, 1) := by decide +kernel
theorem dX4_troubleOf_124 : decode cX4_troubleOf 124 = .ok (.ireturn, 1) := by decide +kernel
theorem dX4_troubleOf_125 : decode cX4_troubleOf 125 = .ok (.aload_n 0, 1) := by decide +kernel
theorem dX4_troubleOf_126 : decode cX4_troubleOf 126 = .ok (.iload_n 1, 1) := by decide +kernel
theorem dX4_troubleOf_127 : decode cX4_troubleOf 127 = .ok (.iload_n 2, 1) := by decide +kernel
theorem dX4_troubleOf_128 : decode cX4_troubleOf 128 = .ok (.iload_n 3, 1) := by decide +kernel
theorem dX4_troubleOf_129 : decode cX4_troubleOf 129 = .ok (.iload 4, 2) := by decide +kernel
theorem dX4_troubleOf_131 : decode cX4_troubleOf 131 = .ok (.invokevirtual 72, 3) := by decide +kernel
theorem dX4_troubleOf_134 : decode cX4_troubleOf 134 = .ok (.ifCond .ne 6, 3) := by decide +kernel
theorem dX4_troubleOf_137 : decode cX4_troubleOf 137 = .ok (.bipush 6, 2) := by decide +kernel
theorem dX4_troubleOf_139 : decode cX4_troubleOf 139 = .ok (.ireturn, 1) := by decide +kernel
theorem dX4_troubleOf_140 : decode cX4_troubleOf 140 = .ok (.aload_n 0, 1) := by decide +kernel
theorem dX4_troubleOf_141 : decode cX4_troubleOf 141 = .ok (.getfield 41, 3) := by decide +kernel
theorem dX4_troubleOf_144 : decode cX4_troubleOf 144 = .ok (.bipush 12, 2) := by decide +kernel
theorem dX4_troubleOf_146 : decode cX4_troubleOf 146 = .ok (.if_icmp .lt 8, 3) := by decide +kernel
theorem dX4_troubleOf_149 : decode cX4_troubleOf 149 = .ok (.bipush 7, 2) := by decide +kernel
theorem dX4_troubleOf_151 : decode cX4_troubleOf 151 = .ok (.goto 4, 3) := by decide +kernel
theorem dX4_troubleOf_154 : decode cX4_troubleOf 154 = .ok (.iconst 0, 1) := by decide +kernel
theorem dX4_troubleOf_155 : decode cX4_troubleOf 155 = .ok (.ireturn, 1) := by decide +kernel
def fX4_troubleOf_30 (S : Nat → Int32) (V : Nat → Nat → Int32) (a1 : Int32) (a2 : Int32) (a3 : Int32) (a4 : Int32) : Option (Int32 × (Nat → Nat → Int32)) :=
  bk (fun (x2 : Int32) (x3 : Int32) (x4 : Int32) (x5 : Int32) (x6 : Int32) (V7 : Nat → Nat → Int32) =>
  bd1 (fX2_hasTenant_3 S x2) (fun r8 =>
  (if r8 = 0 then
  some ((1 : Int32), V7)
  else
  (if x6 = 0 then
  some ((1 : Int32), V7)
  else
  (if x4 < 0 then
  some ((1 : Int32), V7)
  else
  (if x5 < x4 then
  some ((1 : Int32), V7)
  else
  (if x5 ≤ (23 : Int32) then
  bd1 (fX2_breathLets_3 V7 x2 x3) (fun r15 =>
  (if r15 = 0 then
  some ((2 : Int32), V7)
  else
  bd1 (fX11_hourBits x4 x5) (fun r18 =>
  bd1 (fX4_letHours_30 S V7 x3) (fun r20 =>
  (if (r18 &&& r20) = 0 then
  bd1 (fX4_hoursOf_30 S V7 x2) (fun r23 =>
  (if (r18 &&& r23) = 0 then
  bk (fun (x27 : Int32) (x28 : Int32) (x29 : Int32) (x30 : Int32) (V31 : Nat → Nat → Int32) =>
  bd2 (fX4_rulesWouldHold_30 S V31 x27 x28 x29 x30) (fun r32 V33 =>
  (if r32 = 0 then
  some ((6 : Int32), V33)
  else
  (if (S 3002) < (12 : Int32) then
  some ((0 : Int32), V33)
  else
  some ((7 : Int32), V33))))) (fun K125_26 =>
  (if x3 = (2 : Int32) then
  bd1 (fX4_letHours_30 S V7 (0 : Int32)) (fun r38 =>
  bd1 (fX4_letHours_30 S V7 (1 : Int32)) (fun r40 =>
  (if (r18 &&& ((r38 &&& r40) ^^^ (-1 : Int32))) = 0 then
  K125_26 x2 x3 x4 x5 V7
  else
  some ((5 : Int32), V7))))
  else
  K125_26 x2 x3 x4 x5 V7))
  else
  some ((4 : Int32), V7)))
  else
  some ((3 : Int32), V7))))))
  else
  some ((1 : Int32), V7)))))))) (fun K14_1 =>
  bk (fun (x44 : Int32) (x45 : Int32) (x46 : Int32) (x47 : Int32) (V48 : Nat → Nat → Int32) =>
  K14_1 x44 x45 x46 x47 (0 : Int32) V48) (fun K13_43 =>
  (if a2 < 0 then
  K13_43 a1 a2 a3 a4 V
  else
  (if (3 : Int32) ≤ a2 then
  K13_43 a1 a2 a3 a4 V
  else
  K14_1 a1 a2 a3 a4 (1 : Int32) V))))
set_option maxHeartbeats 4000000 in
set_option maxRecDepth 100000 in
theorem kX4_troubleOf_30 (l : Launch) (B : jBT) (D : va_G) (ad : Nat → Nat) (cA : Nat → ClassId) (hI : jI ad TC) (S : Nat → Int32) (V : Nat → Nat → Int32) (L : Nat → Int64) (a1 : Int32) (a2 : Int32) (a3 : Int32) (a4 : Int32) (r0 : Int32) (V0 : Nat → Nat → Int32) (h : fX4_troubleOf_30 S V a1 a2 a3 a4 = some (r0, V0)) : jM l yX4_troubleOf cX4_troubleOf 7 (some .int) ({ frames := 5, cells := 0, slots := 0, locals := 129 }) B D TC ad cA [.ref (ad 30), .int a1, .int a2, .int a3, .int a4] S V L (some (.int r0)) S V0 L := by
  refine jM_of (plainFor_of_name (by decide)) TC_ok hI (Nat.le_of_ble_eq_true rfl) ?_
  intro p e s m args below meth c C hr hlk
  refine j_lv (lv2 := [(0, .ref (ad 30)), (1, .int a1), (2, .int a2), (3, .int a3), (4, .int a4)]) rfl ?_
  unfold fX4_troubleOf_30 at h
  refine j_iload_n C 2 rfl dX4_troubleOf_0 rfl ?_
  refine bk_elim h (fun K14_1 e_K14_1 h => ?_)
  have HK14_1 : ∀ (x2 : Int32) (x3 : Int32) (x4 : Int32) (x5 : Int32) (x6 : Int32) (V7 : Nat → Nat → Int32), K14_1 x2 x3 x4 x5 x6 V7 = some (r0, V0) → jW p l e ({ frames := 5, cells := 0, slots := 0, locals := 129 }) s m args below meth c (MQ below (jQc D TC ad cA (some (.int r0)) s.heap.size S V0 L) args s 0 0 (jA ad TC s.heap.size)) D TC ad cA (jA ad TC s.heap.size) 7 0 0 14 [(0, .ref (ad 30)), (1, .int x2), (2, .int x3), (3, .int x4), (4, .int x5)] [.int x6] S V7 L := by
    subst e_K14_1
    intro x2 x3 x4 x5 x6 V7 h
    refine j_istore C [(5, .int x6), (0, .ref (ad 30)), (1, .int x2), (2, .int x3), (3, .int x4), (4, .int x5)] dX4_troubleOf_14 (by decide) rfl ?_
    refine j_aload_n C 1 rfl dX4_troubleOf_16 rfl ?_
    refine fg_X4_27_TC_30 C dX4_troubleOf_17 ?_
    refine j_iload_n C 2 rfl dX4_troubleOf_20 rfl ?_
    obtain ⟨r8, h9, h⟩ := bd1_elim h
    refine j_callV (As := [.int x2]) (rest := []) C (kX2_hasTenant_3 l B D ad cA hI S V7 L x2 _ h9) mw_X2_hasTenant wd577 wd578 wd576 tc_3 rfl rfl ⟨rfl, rfl, by decide, by decide⟩ ⟨Nat.zero_le _, Nat.zero_le _⟩ rfl rfl (Nat.le_of_ble_eq_true rfl) dX4_troubleOf_21 ?_
    refine j_if_eq (tgt := 49) C dX4_troubleOf_24 (by decide) (fun c10 => ?_) (fun c10 => ?_)
    · have h := (if_pos c10).symm.trans h
      refine j_iconst C dX4_troubleOf_49 ci_1 ?_
      cases h
      exact j_iret C hr hlk rfl dX4_troubleOf_50
    · have h := (if_neg c10).symm.trans h
      refine j_iload C 0 rfl dX4_troubleOf_27 ?_
      refine j_if_eq (tgt := 49) C dX4_troubleOf_29 (by decide) (fun c11 => ?_) (fun c11 => ?_)
      · have h := (if_pos c11).symm.trans h
        refine j_iconst C dX4_troubleOf_49 ci_1 ?_
        cases h
        exact j_iret C hr hlk rfl dX4_troubleOf_50
      · have h := (if_neg c11).symm.trans h
        refine j_iload_n C 4 rfl dX4_troubleOf_32 rfl ?_
        refine j_if_lt (tgt := 49) C dX4_troubleOf_33 (by decide) (fun c12 => ?_) (fun c12 => ?_)
        · have h := (if_pos c12).symm.trans h
          refine j_iconst C dX4_troubleOf_49 ci_1 ?_
          cases h
          exact j_iret C hr hlk rfl dX4_troubleOf_50
        · have h := (if_neg c12).symm.trans h
          refine j_iload C 5 rfl dX4_troubleOf_36 ?_
          refine j_iload_n C 4 rfl dX4_troubleOf_38 rfl ?_
          refine j_icmp_lt (tgt := 49) C dX4_troubleOf_39 (by decide) (fun c13 => ?_) (fun c13 => ?_)
          · have h := (if_pos c13).symm.trans h
            refine j_iconst C dX4_troubleOf_49 ci_1 ?_
            cases h
            exact j_iret C hr hlk rfl dX4_troubleOf_50
          · have h := (if_neg c13).symm.trans h
            refine j_iload C 5 rfl dX4_troubleOf_42 ?_
            refine j_bipush C dX4_troubleOf_44 cb_23 ?_
            refine j_icmp_le (tgt := 51) C dX4_troubleOf_46 (by decide) (fun c14 => ?_) (fun c14 => ?_)
            · have h := (if_pos c14).symm.trans h
              refine j_aload_n C 1 rfl dX4_troubleOf_51 rfl ?_
              refine fg_X4_27_TC_30 C dX4_troubleOf_52 ?_
              refine j_iload_n C 2 rfl dX4_troubleOf_55 rfl ?_
              refine j_iload_n C 3 rfl dX4_troubleOf_56 rfl ?_
              obtain ⟨r15, h16, h⟩ := bd1_elim h
              refine j_callV (As := [.int x2, .int x3]) (rest := []) C (kX2_breathLets_3 l B D ad cA hI S V7 L x2 x3 _ h16) mw_X2_breathLets wd581 wd582 wd580 tc_3 rfl rfl ⟨rfl, rfl, by decide, by decide⟩ ⟨Nat.zero_le _, Nat.zero_le _⟩ rfl rfl (Nat.le_of_ble_eq_true rfl) dX4_troubleOf_57 ?_
              refine j_if_ne (tgt := 65) C dX4_troubleOf_60 (by decide) (fun c17 => ?_) (fun c17 => ?_)
              · have h := (if_neg c17).symm.trans h
                refine j_iload_n C 4 rfl dX4_troubleOf_65 rfl ?_
                refine j_iload C 5 rfl dX4_troubleOf_66 ?_
                obtain ⟨r18, h19, h⟩ := bd1_elim h
                refine j_callN (As := [.int x4, .int x5]) (rest := []) (host := "ClockLodgers") C (kX11_hourBits l B D ad cA hI S V7 L x4 x5 _ h19) mw_X11_hourBits wd585 (by decide +kernel) ⟨rfl, rfl, by decide, by decide⟩ ⟨Nat.zero_le _, Nat.zero_le _⟩ rfl rfl (Nat.le_of_ble_eq_true rfl) dX4_troubleOf_68 ?_
                refine j_istore C [(6, .int r18), (5, .int x6), (0, .ref (ad 30)), (1, .int x2), (2, .int x3), (3, .int x4), (4, .int x5)] dX4_troubleOf_71 (by decide) rfl ?_
                refine j_iload C 0 rfl dX4_troubleOf_73 ?_
                refine j_aload_n C 2 rfl dX4_troubleOf_75 rfl ?_
                refine j_iload_n C 4 rfl dX4_troubleOf_76 rfl ?_
                obtain ⟨r20, h21, h⟩ := bd1_elim h
                refine j_callV (As := [.int x3]) (rest := [.int r18]) C (kX4_letHours_30 l B D ad cA hI S V7 L x3 _ h21) mw_X4_letHours wd589 wd1 wd587 tc_30 rfl rfl ⟨rfl, rfl, by decide, by decide⟩ ⟨Nat.zero_le _, Nat.zero_le _⟩ rfl rfl (Nat.le_of_ble_eq_true rfl) dX4_troubleOf_77 ?_
                refine j_iand C dX4_troubleOf_80 ?_
                refine j_if_eq (tgt := 86) C dX4_troubleOf_81 (by decide) (fun c22 => ?_) (fun c22 => ?_)
                · have h := (if_pos c22).symm.trans h
                  refine j_iload C 0 rfl dX4_troubleOf_86 ?_
                  refine j_aload_n C 2 rfl dX4_troubleOf_88 rfl ?_
                  refine j_iload_n C 3 rfl dX4_troubleOf_89 rfl ?_
                  obtain ⟨r23, h24, h⟩ := bd1_elim h
                  refine j_callV (As := [.int x2]) (rest := [.int r18]) C (kX4_hoursOf_30 l B D ad cA hI S V7 L x2 _ h24) mw_X4_hoursOf wd592 wd593 wd591 tc_30 rfl rfl ⟨rfl, rfl, by decide, by decide⟩ ⟨Nat.zero_le _, Nat.zero_le _⟩ rfl rfl (Nat.le_of_ble_eq_true rfl) dX4_troubleOf_90 ?_
                  refine j_iand C dX4_troubleOf_93 ?_
                  refine j_if_eq (tgt := 99) C dX4_troubleOf_94 (by decide) (fun c25 => ?_) (fun c25 => ?_)
                  · have h := (if_pos c25).symm.trans h
                    refine j_iload_n C 4 rfl dX4_troubleOf_99 rfl ?_
                    refine j_iconst C dX4_troubleOf_100 ci_2 ?_
                    refine bk_elim h (fun K125_26 e_K125_26 h => ?_)
                    have HK125_26 : ∀ (x27 : Int32) (x28 : Int32) (x29 : Int32) (x30 : Int32) (V31 : Nat → Nat → Int32), K125_26 x27 x28 x29 x30 V31 = some (r0, V0) → jW p l e ({ frames := 5, cells := 0, slots := 0, locals := 129 }) s m args below meth c (MQ below (jQc D TC ad cA (some (.int r0)) s.heap.size S V0 L) args s 0 0 (jA ad TC s.heap.size)) D TC ad cA (jA ad TC s.heap.size) 7 0 0 125 [(0, .ref (ad 30)), (1, .int x27), (2, .int x28), (3, .int x29), (4, .int x30)] [] S V31 L := by
                      subst e_K125_26
                      intro x27 x28 x29 x30 V31 h
                      refine j_aload_n C 0 rfl dX4_troubleOf_125 rfl ?_
                      refine j_iload_n C 1 rfl dX4_troubleOf_126 rfl ?_
                      refine j_iload_n C 2 rfl dX4_troubleOf_127 rfl ?_
                      refine j_iload_n C 3 rfl dX4_troubleOf_128 rfl ?_
                      refine j_iload C 4 rfl dX4_troubleOf_129 ?_
                      obtain ⟨r32, V33, h34, h⟩ := bd2_elim h
                      refine j_callV (As := [.int x27, .int x28, .int x29, .int x30]) (rest := []) C (kX4_rulesWouldHold_30 l B D ad cA hI S V31 L x27 x28 x29 x30 _ _ h34) mw_X4_rulesWouldHold wd597 wd2 wd595 tc_30 rfl rfl ⟨rfl, rfl, by decide, by decide⟩ ⟨Nat.zero_le _, Nat.zero_le _⟩ rfl rfl (Nat.le_of_ble_eq_true rfl) dX4_troubleOf_131 ?_
                      refine j_if_ne (tgt := 140) C dX4_troubleOf_134 (by decide) (fun c35 => ?_) (fun c35 => ?_)
                      · have h := (if_neg c35).symm.trans h
                        refine j_aload_n C 0 rfl dX4_troubleOf_140 rfl ?_
                        refine fg_X4_41_TC_30 C dX4_troubleOf_141 ?_
                        refine j_bipush C dX4_troubleOf_144 cb_12 ?_
                        refine j_icmp_lt (tgt := 154) C dX4_troubleOf_146 (by decide) (fun c36 => ?_) (fun c36 => ?_)
                        · have h := (if_pos c36).symm.trans h
                          refine j_iconst C dX4_troubleOf_154 ci_0 ?_
                          cases h
                          exact j_iret C hr hlk rfl dX4_troubleOf_155
                        · have h := (if_neg c36).symm.trans h
                          refine j_bipush C dX4_troubleOf_149 cb_7 ?_
                          refine j_goto (tgt := 155) C dX4_troubleOf_151 (by decide) ?_
                          cases h
                          exact j_iret C hr hlk rfl dX4_troubleOf_155
                      · have h := (if_pos c35).symm.trans h
                        refine j_bipush C dX4_troubleOf_137 cb_6 ?_
                        cases h
                        exact j_iret C hr hlk rfl dX4_troubleOf_139
                    refine j_icmp_ne (tgt := 125) C dX4_troubleOf_101 (by decide) (fun c37 => ?_) (fun c37 => ?_)
                    · have h := (if_neg c37).symm.trans h
                      exact j_sub [2, 3, 4, 5, 6] rfl (HK125_26 _ _ _ _ _ h)
                    · have h := (if_pos c37).symm.trans h
                      refine j_iload C 0 rfl dX4_troubleOf_104 ?_
                      refine j_aload_n C 2 rfl dX4_troubleOf_106 rfl ?_
                      refine j_iconst C dX4_troubleOf_107 ci_0 ?_
                      obtain ⟨r38, h39, h⟩ := bd1_elim h
                      refine j_callV (As := [.int (0 : Int32)]) (rest := [.int r18]) C (kX4_letHours_30 l B D ad cA hI S V7 L (0 : Int32) _ h39) mw_X4_letHours wd589 wd1 wd587 tc_30 rfl rfl ⟨rfl, rfl, by decide, by decide⟩ ⟨Nat.zero_le _, Nat.zero_le _⟩ rfl rfl (Nat.le_of_ble_eq_true rfl) dX4_troubleOf_108 ?_
                      refine j_aload_n C 2 rfl dX4_troubleOf_111 rfl ?_
                      refine j_iconst C dX4_troubleOf_112 ci_1 ?_
                      obtain ⟨r40, h41, h⟩ := bd1_elim h
                      refine j_callV (As := [.int (1 : Int32)]) (rest := [.int r38, .int r18]) C (kX4_letHours_30 l B D ad cA hI S V7 L (1 : Int32) _ h41) mw_X4_letHours wd589 wd1 wd587 tc_30 rfl rfl ⟨rfl, rfl, by decide, by decide⟩ ⟨Nat.zero_le _, Nat.zero_le _⟩ rfl rfl (Nat.le_of_ble_eq_true rfl) dX4_troubleOf_113 ?_
                      refine j_iand C dX4_troubleOf_116 ?_
                      refine j_iconst C dX4_troubleOf_117 ci_m1 ?_
                      refine j_ixor C dX4_troubleOf_118 ?_
                      refine j_iand C dX4_troubleOf_119 ?_
                      refine j_if_eq (tgt := 125) C dX4_troubleOf_120 (by decide) (fun c42 => ?_) (fun c42 => ?_)
                      · have h := (if_pos c42).symm.trans h
                        exact j_sub [2, 3, 4, 5, 6] rfl (HK125_26 _ _ _ _ _ h)
                      · have h := (if_neg c42).symm.trans h
                        refine j_iconst C dX4_troubleOf_123 ci_5 ?_
                        cases h
                        exact j_iret C hr hlk rfl dX4_troubleOf_124
                  · have h := (if_neg c25).symm.trans h
                    refine j_iconst C dX4_troubleOf_97 ci_4 ?_
                    cases h
                    exact j_iret C hr hlk rfl dX4_troubleOf_98
                · have h := (if_neg c22).symm.trans h
                  refine j_iconst C dX4_troubleOf_84 ci_3 ?_
                  cases h
                  exact j_iret C hr hlk rfl dX4_troubleOf_85
              · have h := (if_pos c17).symm.trans h
                refine j_iconst C dX4_troubleOf_63 ci_2 ?_
                cases h
                exact j_iret C hr hlk rfl dX4_troubleOf_64
            · have h := (if_neg c14).symm.trans h
              refine j_iconst C dX4_troubleOf_49 ci_1 ?_
              cases h
              exact j_iret C hr hlk rfl dX4_troubleOf_50
  refine bk_elim h (fun K13_43 e_K13_43 h => ?_)
  have HK13_43 : ∀ (x44 : Int32) (x45 : Int32) (x46 : Int32) (x47 : Int32) (V48 : Nat → Nat → Int32), K13_43 x44 x45 x46 x47 V48 = some (r0, V0) → jW p l e ({ frames := 5, cells := 0, slots := 0, locals := 129 }) s m args below meth c (MQ below (jQc D TC ad cA (some (.int r0)) s.heap.size S V0 L) args s 0 0 (jA ad TC s.heap.size)) D TC ad cA (jA ad TC s.heap.size) 7 0 0 13 [(0, .ref (ad 30)), (1, .int x44), (2, .int x45), (3, .int x46), (4, .int x47)] [] S V48 L := by
    subst e_K13_43
    intro x44 x45 x46 x47 V48 h
    refine j_iconst C dX4_troubleOf_13 ci_0 ?_
    exact j_sub [0, 1, 2, 3, 4] rfl (HK14_1 _ _ _ _ _ _ h)
  refine j_if_lt (tgt := 13) C dX4_troubleOf_1 (by decide) (fun c49 => ?_) (fun c49 => ?_)
  · have h := (if_pos c49).symm.trans h
    exact j_sub [0, 1, 2, 3, 4] rfl (HK13_43 _ _ _ _ _ h)
  · have h := (if_neg c49).symm.trans h
    refine j_iload_n C 2 rfl dX4_troubleOf_4 rfl ?_
    refine j_iconst C dX4_troubleOf_5 ci_3 ?_
    refine j_icmp_ge (tgt := 13) C dX4_troubleOf_6 (by decide) (fun c50 => ?_) (fun c50 => ?_)
    · have h := (if_pos c50).symm.trans h
      exact j_sub [0, 1, 2, 3, 4] rfl (HK13_43 _ _ _ _ _ h)
    · have h := (if_neg c50).symm.trans h
      refine j_iconst C dX4_troubleOf_9 ci_1 ?_
      refine j_goto (tgt := 14) C dX4_troubleOf_10 (by decide) ?_
      exact j_sub [0, 1, 2, 3, 4] rfl (HK14_1 _ _ _ _ _ _ h)
theorem dX11_judge_0 : decode cX11_judge 0 = .ok (.aload_n 0, 1) := by decide +kernel
theorem dX11_judge_1 : decode cX11_judge 1 = .ok (.getfield 49, 3) := by decide +kernel
theorem dX11_judge_4 : decode cX11_judge 4 = .ok (.iload_n 1, 1) := by decide +kernel
theorem dX11_judge_5 : decode cX11_judge 5 = .ok (.iload_n 2, 1) := by decide +kernel
theorem dX11_judge_6 : decode cX11_judge 6 = .ok (.iload_n 3, 1) := by decide +kernel
theorem dX11_judge_7 : decode cX11_judge 7 = .ok (.iload 4, 2) := by decide +kernel
theorem dX11_judge_9 : decode cX11_judge 9 = .ok (.invokevirtual 195, 3) := by decide +kernel
theorem dX11_judge_12 : decode cX11_judge 12 = .ok (.ireturn, 1) := by decide +kernel
def fX11_judge_0 (S : Nat → Int32) (V : Nat → Nat → Int32) (a1 : Int32) (a2 : Int32) (a3 : Int32) (a4 : Int32) : Option (Int32 × (Nat → Nat → Int32)) :=
  bd2 (fX4_troubleOf_30 S V a1 a2 a3 a4) (fun r1 V2 =>
  some (r1, V2))
set_option maxHeartbeats 4000000 in
set_option maxRecDepth 100000 in
theorem kX11_judge_0 (l : Launch) (B : jBT) (D : va_G) (ad : Nat → Nat) (cA : Nat → ClassId) (hI : jI ad TC) (S : Nat → Int32) (V : Nat → Nat → Int32) (L : Nat → Int64) (a1 : Int32) (a2 : Int32) (a3 : Int32) (a4 : Int32) (r0 : Int32) (V0 : Nat → Nat → Int32) (h : fX11_judge_0 S V a1 a2 a3 a4 = some (r0, V0)) : jM l yX11_judge cX11_judge 5 (some .int) ({ frames := 6, cells := 0, slots := 0, locals := 155 }) B D TC ad cA [.ref (ad 0), .int a1, .int a2, .int a3, .int a4] S V L (some (.int r0)) S V0 L := by
  refine jM_of (plainFor_of_name (by decide)) TC_ok hI (Nat.le_of_ble_eq_true rfl) ?_
  intro p e s m args below meth c C hr hlk
  refine j_lv (lv2 := [(0, .ref (ad 0)), (1, .int a1), (2, .int a2), (3, .int a3), (4, .int a4)]) rfl ?_
  unfold fX11_judge_0 at h
  refine j_aload_n C 0 rfl dX11_judge_0 rfl ?_
  refine fg_X11_49_TC_0 C dX11_judge_1 ?_
  refine j_iload_n C 1 rfl dX11_judge_4 rfl ?_
  refine j_iload_n C 2 rfl dX11_judge_5 rfl ?_
  refine j_iload_n C 3 rfl dX11_judge_6 rfl ?_
  refine j_iload C 4 rfl dX11_judge_7 ?_
  obtain ⟨r1, V2, h3, h⟩ := bd2_elim h
  refine j_callV (As := [.int a1, .int a2, .int a3, .int a4]) (rest := []) C (kX4_troubleOf_30 l B D ad cA hI S V L a1 a2 a3 a4 _ _ h3) mw_X4_troubleOf wd573 wd574 wd572 tc_30 rfl rfl ⟨rfl, rfl, by decide, by decide⟩ ⟨Nat.zero_le _, Nat.zero_le _⟩ rfl rfl (Nat.le_of_ble_eq_true rfl) dX11_judge_9 ?_
  cases h
  exact j_iret C hr hlk rfl dX11_judge_12
