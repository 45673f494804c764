theorem dX5_coinsOf_0 : decode cX5_coinsOf 0 = .ok (.iload_n 2, 1) := by decide +kernel
theorem dX5_coinsOf_1 : decode cX5_coinsOf 1 = .ok (.istore_n 3, 1) := by decide +kernel
theorem dX5_coinsOf_2 : decode cX5_coinsOf 2 = .ok (.iconst 0, 1) := by decide +kernel
theorem dX5_coinsOf_3 : decode cX5_coinsOf 3 = .ok (.istore 4, 2) := by decide +kernel
theorem dX5_coinsOf_5 : decode cX5_coinsOf 5 = .ok (.iconst 0, 1) := by decide +kernel
theorem dX5_coinsOf_6 : decode cX5_coinsOf 6 = .ok (.istore 5, 2) := by decide +kernel
theorem dX5_coinsOf_8 : decode cX5_coinsOf 8 = .ok (.iload 5, 2) := by decide +kernel
theorem dX5_coinsOf_10 : decode cX5_coinsOf 10 = .ok (.aload_n 0, 1) := by decide +kernel
theorem dX5_coinsOf_11 : decode cX5_coinsOf 11 = .ok (.getfield 18, 3) := by decide +kernel
theorem dX5_coinsOf_14 : decode cX5_coinsOf 14 = .ok (.if_icmp .ge 58, 3) := by decide +kernel
theorem dX5_coinsOf_17 : decode cX5_coinsOf 17 = .ok (.iload_n 1, 1) := by decide +kernel
theorem dX5_coinsOf_18 : decode cX5_coinsOf 18 = .ok (.iload 5, 2) := by decide +kernel
theorem dX5_coinsOf_20 : decode cX5_coinsOf 20 = .ok (.ishr, 1) := by decide +kernel
theorem dX5_coinsOf_21 : decode cX5_coinsOf 21 = .ok (.iconst 1, 1) := by decide +kernel
theorem dX5_coinsOf_22 : decode cX5_coinsOf 22 = .ok (.iand, 1) := by decide +kernel
theorem dX5_coinsOf_23 : decode cX5_coinsOf 23 = .ok (.ifCond .eq 43, 3) := by decide +kernel
theorem dX5_coinsOf_26 : decode cX5_coinsOf 26 = .ok (.aload_n 0, 1) := by decide +kernel
theorem dX5_coinsOf_27 : decode cX5_coinsOf 27 = .ok (.getfield 9, 3) := by decide +kernel
theorem dX5_coinsOf_30 : decode cX5_coinsOf 30 = .ok (.iload 5, 2) := by decide +kernel
theorem dX5_coinsOf_32 : decode cX5_coinsOf 32 = .ok (.iaload, 1) := by decide +kernel
theorem dX5_coinsOf_33 : decode cX5_coinsOf 33 = .ok (.iload_n 3, 1) := by decide +kernel
theorem dX5_coinsOf_34 : decode cX5_coinsOf 34 = .ok (.iconst (-1), 1) := by decide +kernel
theorem dX5_coinsOf_35 : decode cX5_coinsOf 35 = .ok (.ixor, 1) := by decide +kernel
theorem dX5_coinsOf_36 : decode cX5_coinsOf 36 = .ok (.iand, 1) := by decide +kernel
theorem dX5_coinsOf_37 : decode cX5_coinsOf 37 = .ok (.ifCond .eq 5, 3) := by decide +kernel
theorem dX5_coinsOf_40 : decode cX5_coinsOf 40 = .ok (.iconst (-1), 1) := by decide +kernel
theorem dX5_coinsOf_41 : decode cX5_coinsOf 41 = .ok (.ireturn, 1) := by decide +kernel
theorem dX5_coinsOf_42 : decode cX5_coinsOf 42 = .ok (.iload_n 3, 1) := by decide +kernel
theorem dX5_coinsOf_43 : decode cX5_coinsOf 43 = .ok (.aload_n 0, 1) := by decide +kernel
theorem dX5_coinsOf_44 : decode cX5_coinsOf 44 = .ok (.getfield 9, 3) := by decide +kernel
theorem dX5_coinsOf_47 : decode cX5_coinsOf 47 = .ok (.iload 5, 2) := by decide +kernel
theorem dX5_coinsOf_49 : decode cX5_coinsOf 49 = .ok (.iaload, 1) := by decide +kernel
theorem dX5_coinsOf_50 : decode cX5_coinsOf 50 = .ok (.iconst (-1), 1) := by decide +kernel
theorem dX5_coinsOf_51 : decode cX5_coinsOf 51 = .ok (.ixor, 1) := by decide +kernel
theorem dX5_coinsOf_52 : decode cX5_coinsOf 52 = .ok (.iand, 1) := by decide +kernel
theorem dX5_coinsOf_53 : decode cX5_coinsOf 53 = .ok (.istore_n 3, 1) := by decide +kernel
theorem dX5_coinsOf_54 : decode cX5_coinsOf 54 = .ok (.iload 4, 2) := by decide +kernel
theorem dX5_coinsOf_56 : decode cX5_coinsOf 56 = .ok (.aload_n 0, 1) := by decide +kernel
theorem dX5_coinsOf_57 : decode cX5_coinsOf 57 = .ok (.getfield 15, 3) := by decide +kernel
theorem dX5_coinsOf_60 : decode cX5_coinsOf 60 = .ok (.iload 5, 2) := by decide +kernel
theorem dX5_coinsOf_62 : decode cX5_coinsOf 62 = .ok (.iaload, 1) := by decide +kernel
theorem dX5_coinsOf_63 : decode cX5_coinsOf 63 = .ok (.iadd, 1) := by decide +kernel
theorem dX5_coinsOf_64 : decode cX5_coinsOf 64 = .ok (.istore 4, 2) := by decide +kernel
theorem dX5_coinsOf_66 : decode cX5_coinsOf 66 = .ok (.iinc 5 1, 3) := by decide +kernel
theorem dX5_coinsOf_69 : decode cX5_coinsOf 69 = .ok (.goto (-61), 3) := by decide +kernel
theorem dX5_coinsOf_72 : decode cX5_coinsOf 72 = .ok (.iload 4, 2) := by decide +kernel
theorem dX5_coinsOf_74 : decode cX5_coinsOf 74 = .ok (.ireturn, 1) := by decide +kernel
def fX5_coinsOf_42_L8 (S : Nat → Int32) (V : Nat → Nat → Int32) : Nat → Int32 → Int32 → Int32 → Int32 → Option (Int32)
  | 0, _, _, _, _ => none
  | n + 1, x1, x2, x3, x4 =>
    (if (S 4200) ≤ x4 then
    some x3
    else
    bk (fun (x7 : Int32) (x8 : Int32) (x9 : Int32) (x10 : Int32) =>
    lt (x10 + (1 : Int32)) (fun x11 =>
    fX5_coinsOf_42_L8 S V n x7 x8 x9 x11)) (fun K66_6 =>
    (if ((x1 >>> (x4 &&& 31)) &&& (1 : Int32)) = 0 then
    K66_6 x1 x2 x3 x4
    else
    gd (ib x4 8) (
    (if ((V 43 (x4).toNatClampNeg) &&& (x2 ^^^ (-1 : Int32))) = 0 then
    gd (ib x4 8) (
    lt ((x2 &&& ((V 43 (x4).toNatClampNeg) ^^^ (-1 : Int32)))) (fun x16 =>
    gd (ib x4 8) (
    lt ((x3 + (V 44 (x4).toNatClampNeg))) (fun x18 =>
    K66_6 x1 x16 x18 x4))))
    else
    some (-1 : Int32))))))
def fX5_coinsOf_42 (S : Nat → Int32) (V : Nat → Nat → Int32) (a1 : Int32) (a2 : Int32) : Option (Int32) :=
  fX5_coinsOf_42_L8 S V FU a1 a2 (0 : Int32) (0 : Int32)
set_option maxHeartbeats 4000000 in
set_option maxRecDepth 100000 in
theorem kX5_coinsOf_42 (l : Launch) (B : jBT) (D : va_G) (ad : Nat → Nat) (cA : Nat → ClassId) (hI : jI ad TC) (S : Nat → Int32) (V : Nat → Nat → Int32) (L : Nat → Int64) (a1 : Int32) (a2 : Int32) (r0 : Int32) (h : fX5_coinsOf_42 S V a1 a2 = some r0) : jM l yX5_coinsOf cX5_coinsOf 6 (some .int) ({ frames := 0, cells := 0, slots := 0, locals := 0 }) B D TC ad cA [.ref (ad 42), .int a1, .int a2] S V L (some (.int r0)) S V L := by
  refine jM_of (plainFor_of_name (by decide)) TC_ok hI (Nat.le_of_ble_eq_true rfl) ?_
  intro p e s m args below meth c C hr hlk
  refine j_lv (lv2 := [(0, .ref (ad 42)), (1, .int a1), (2, .int a2)]) rfl ?_
  unfold fX5_coinsOf_42 at h
  have H_fX5_coinsOf_42_L8 : ∀ (n : Nat) (x1 : Int32) (x2 : Int32) (x3 : Int32) (x4 : Int32), fX5_coinsOf_42_L8 S V n x1 x2 x3 x4 = some r0 → jW p l e ({ frames := 0, cells := 0, slots := 0, locals := 0 }) s m args below meth c (MQ below (jQc D TC ad cA (some (.int r0)) s.heap.size S V L) args s 0 0 (jA ad TC s.heap.size)) D TC ad cA (jA ad TC s.heap.size) 6 0 0 8 [(0, .ref (ad 42)), (1, .int x1), (3, .int x2), (4, .int x3), (5, .int x4)] [] S V L := by
    intro n
    induction n with
    | zero =>
      intro x1 x2 x3 x4 h
      cases (show (none : Option (Int32)) = some r0 from h)
    | succ n ih =>
      intro x1 x2 x3 x4 h
      unfold fX5_coinsOf_42_L8 at h
      refine j_iload C 4 rfl dX5_coinsOf_8 ?_
      refine j_aload_n C 0 rfl dX5_coinsOf_10 rfl ?_
      refine fg_X5_18_TC_42 C dX5_coinsOf_11 ?_
      refine j_icmp_ge (tgt := 72) C dX5_coinsOf_14 (by decide) (fun c5 => ?_) (fun c5 => ?_)
      · have h := (if_pos c5).symm.trans h
        refine j_iload C 3 rfl dX5_coinsOf_72 ?_
        cases h
        exact j_iret C hr hlk rfl dX5_coinsOf_74
      · have h := (if_neg c5).symm.trans h
        refine j_iload_n C 1 rfl dX5_coinsOf_17 rfl ?_
        refine j_iload C 4 rfl dX5_coinsOf_18 ?_
        refine j_ishr C dX5_coinsOf_20 ?_
        refine j_iconst C dX5_coinsOf_21 ci_1 ?_
        refine j_iand C dX5_coinsOf_22 ?_
        refine bk_elim h (fun K66_6 e_K66_6 h => ?_)
        have HK66_6 : ∀ (x7 : Int32) (x8 : Int32) (x9 : Int32) (x10 : Int32), K66_6 x7 x8 x9 x10 = some r0 → jW p l e ({ frames := 0, cells := 0, slots := 0, locals := 0 }) s m args below meth c (MQ below (jQc D TC ad cA (some (.int r0)) s.heap.size S V L) args s 0 0 (jA ad TC s.heap.size)) D TC ad cA (jA ad TC s.heap.size) 6 0 0 66 [(0, .ref (ad 42)), (1, .int x7), (3, .int x8), (4, .int x9), (5, .int x10)] [] S V L := by
          subst e_K66_6
          intro x7 x8 x9 x10 h
          refine lt_elim h (fun x11 e_x11 h => ?_)
          refine j_iinc C [(5, .int x11), (0, .ref (ad 42)), (1, .int x7), (3, .int x8), (4, .int x9)] 4 dX5_coinsOf_66 rfl ((iinc_eq ci_1).trans e_x11.symm) (by decide) rfl ?_
          refine j_goto (tgt := 8) C dX5_coinsOf_69 (by decide) ?_
          exact j_sub [1, 2, 3, 4, 0] rfl (ih _ _ _ _ h)
        refine j_if_eq (tgt := 66) C dX5_coinsOf_23 (by decide) (fun c12 => ?_) (fun c12 => ?_)
        · have h := (if_pos c12).symm.trans h
          exact j_sub [0, 1, 2, 3, 4] rfl (HK66_6 _ _ _ _ h)
        · have h := (if_neg c12).symm.trans h
          refine j_aload_n C 0 rfl dX5_coinsOf_26 rfl ?_
          refine fg_X5_9_TC_42 C dX5_coinsOf_27 ?_
          refine j_iload C 4 rfl dX5_coinsOf_30 ?_
          obtain ⟨g13, h⟩ := gd_elim h
          refine j_iald C tc_43 (ib_in g13) dX5_coinsOf_32 ?_
          refine j_iload_n C 2 rfl dX5_coinsOf_33 rfl ?_
          refine j_iconst C dX5_coinsOf_34 ci_m1 ?_
          refine j_ixor C dX5_coinsOf_35 ?_
          refine j_iand C dX5_coinsOf_36 ?_
          refine j_if_eq (tgt := 42) C dX5_coinsOf_37 (by decide) (fun c14 => ?_) (fun c14 => ?_)
          · have h := (if_pos c14).symm.trans h
            refine j_iload_n C 2 rfl dX5_coinsOf_42 rfl ?_
            refine j_aload_n C 0 rfl dX5_coinsOf_43 rfl ?_
            refine fg_X5_9_TC_42 C dX5_coinsOf_44 ?_
            refine j_iload C 4 rfl dX5_coinsOf_47 ?_
            obtain ⟨g15, h⟩ := gd_elim h
            refine j_iald C tc_43 (ib_in g15) dX5_coinsOf_49 ?_
            refine j_iconst C dX5_coinsOf_50 ci_m1 ?_
            refine j_ixor C dX5_coinsOf_51 ?_
            refine j_iand C dX5_coinsOf_52 ?_
            refine lt_elim h (fun x16 e_x16 h => ?_)
            refine j_top e_x16 ?_
            refine j_istore_n C [(3, .int x16), (0, .ref (ad 42)), (1, .int x1), (4, .int x3), (5, .int x4)] dX5_coinsOf_53 rfl (by decide) rfl ?_
            refine j_iload C 3 rfl dX5_coinsOf_54 ?_
            refine j_aload_n C 1 rfl dX5_coinsOf_56 rfl ?_
            refine fg_X5_15_TC_42 C dX5_coinsOf_57 ?_
            refine j_iload C 4 rfl dX5_coinsOf_60 ?_
            obtain ⟨g17, h⟩ := gd_elim h
            refine j_iald C tc_44 (ib_in g17) dX5_coinsOf_62 ?_
            refine j_iadd C dX5_coinsOf_63 ?_
            refine lt_elim h (fun x18 e_x18 h => ?_)
            refine j_top e_x18 ?_
            refine j_istore C [(4, .int x18), (3, .int x16), (0, .ref (ad 42)), (1, .int x1), (5, .int x4)] dX5_coinsOf_64 (by decide) rfl ?_
            exact j_sub [2, 3, 1, 0, 4] rfl (HK66_6 _ _ _ _ h)
          · have h := (if_neg c14).symm.trans h
            refine j_iconst C dX5_coinsOf_40 ci_m1 ?_
            cases h
            exact j_iret C hr hlk rfl dX5_coinsOf_41
  refine j_iload_n C 2 rfl dX5_coinsOf_0 rfl ?_
  refine j_istore_n C [(3, .int a2), (0, .ref (ad 42)), (1, .int a1), (2, .int a2)] dX5_coinsOf_1 rfl (by decide) rfl ?_
  refine j_iconst C dX5_coinsOf_2 ci_0 ?_
  refine j_istore C [(4, .int (0 : Int32)), (3, .int a2), (0, .ref (ad 42)), (1, .int a1), (2, .int a2)] dX5_coinsOf_3 (by decide) rfl ?_
  refine j_iconst C dX5_coinsOf_5 ci_0 ?_
  refine j_istore C [(5, .int (0 : Int32)), (4, .int (0 : Int32)), (3, .int a2), (0, .ref (ad 42)), (1, .int a1), (2, .int a2)] dX5_coinsOf_6 (by decide) rfl ?_
  exact j_sub [3, 4, 2, 1, 0] rfl (H_fX5_coinsOf_42_L8 FU _ _ _ _ h)
theorem dX5_choose_0 : decode cX5_choose 0 = .ok (.aload_n 0, 1) := by decide +kernel
theorem dX5_choose_1 : decode cX5_choose 1 = .ok (.iconst 0, 1) := by decide +kernel
theorem dX5_choose_2 : decode cX5_choose 2 = .ok (.putfield 32, 3) := by decide +kernel
theorem dX5_choose_5 : decode cX5_choose 5 = .ok (.aload_n 0, 1) := by decide +kernel
theorem dX5_choose_6 : decode cX5_choose 6 = .ok (.iconst 0, 1) := by decide +kernel
theorem dX5_choose_7 : decode cX5_choose 7 = .ok (.putfield 35, 3) := by decide +kernel
theorem dX5_choose_10 : decode cX5_choose 10 = .ok (.iconst 1, 1) := by decide +kernel
theorem dX5_choose_11 : decode cX5_choose 11 = .ok (.istore_n 2, 1) := by decide +kernel
theorem dX5_choose_12 : decode cX5_choose 12 = .ok (.iload_n 2, 1) := by decide +kernel
theorem dX5_choose_13 : decode cX5_choose 13 = .ok (.iconst 1, 1) := by decide +kernel
theorem dX5_choose_14 : decode cX5_choose 14 = .ok (.aload_n 0, 1) := by decide +kernel
theorem dX5_choose_15 : decode cX5_choose 15 = .ok (.getfield 18, 3) := by decide +kernel
theorem dX5_choose_18 : decode cX5_choose 18 = .ok (.ishl, 1) := by decide +kernel
theorem dX5_choose_19 : decode cX5_choose 19 = .ok (.if_icmp .ge 34, 3) := by decide +kernel
theorem dX5_choose_22 : decode cX5_choose 22 = .ok (.aload_n 0, 1) := by decide +kernel
theorem dX5_choose_23 : decode cX5_choose 23 = .ok (.iload_n 2, 1) := by decide +kernel
theorem dX5_choose_24 : decode cX5_choose 24 = .ok (.iload_n 1, 1) := by decide +kernel
theorem dX5_choose_25 : decode cX5_choose 25 = .ok (.invokevirtual 38, 3) := by decide +kernel
theorem dX5_choose_28 : decode cX5_choose 28 = .ok (.istore_n 3, 1) := by decide +kernel
theorem dX5_choose_29 : decode cX5_choose 29 = .ok (.iload_n 3, 1) := by decide +kernel
theorem dX5_choose_30 : decode cX5_choose 30 = .ok (.aload_n 0, 1) := by decide +kernel
theorem dX5_choose_31 : decode cX5_choose 31 = .ok (.getfield 32, 3) := by decide +kernel
theorem dX5_choose_34 : decode cX5_choose 34 = .ok (.if_icmp .le 13, 3) := by decide +kernel
theorem dX5_choose_37 : decode cX5_choose 37 = .ok (.aload_n 0, 1) := by decide +kernel
theorem dX5_choose_38 : decode cX5_choose 38 = .ok (.iload_n 3, 1) := by decide +kernel
theorem dX5_choose_39 : decode cX5_choose 39 = .ok (.putfield 32, 3) := by decide +kernel
theorem dX5_choose_42 : decode cX5_choose 42 = .ok (.aload_n 0, 1) := by decide +kernel
theorem dX5_choose_43 : decode cX5_choose 43 = .ok (.iload_n 2, 1) := by decide +kernel
theorem dX5_choose_44 : decode cX5_choose 44 = .ok (.putfield 35, 3) := by decide +kernel
theorem dX5_choose_47 : decode cX5_choose 47 = .ok (.iinc 2 1, 3) := by decide +kernel
theorem dX5_choose_50 : decode cX5_choose 50 = .ok (.goto (-38), 3) := by decide +kernel
theorem dX5_choose_53 : decode cX5_choose 53 = .ok (.return_, 1) := by decide +kernel
def fX5_choose_42_L12 (V : Nat → Nat → Int32) : Nat → Int32 → Int32 → (Nat → Int32) → Option ((Nat → Int32))
  | 0, _, _, _ => none
  | n + 1, x3, x4, S5 =>
    (if ((1 : Int32) <<< ((S5 4200) &&& 31)) ≤ x4 then
    some S5
    else
    bd1 (fX5_coinsOf_42 S5 V x4 x3) (fun r7 =>
    bk (fun (x10 : Int32) (x11 : Int32) (S12 : Nat → Int32) =>
    lt (x11 + (1 : Int32)) (fun x13 =>
    fX5_choose_42_L12 V n x10 x13 S12)) (fun K47_9 =>
    (if r7 ≤ (S5 4203) then
    K47_9 x3 x4 S5
    else
    lt (va_up S5 4203 r7) (fun S15 =>
    lt (va_up S15 4204 x4) (fun S16 =>
    K47_9 x3 x4 S16))))))
def fX5_choose_42 (S : Nat → Int32) (V : Nat → Nat → Int32) (a1 : Int32) : Option ((Nat → Int32)) :=
  lt (va_up S 4203 (0 : Int32)) (fun S1 =>
  lt (va_up S1 4204 (0 : Int32)) (fun S2 =>
  fX5_choose_42_L12 V FU a1 (1 : Int32) S2))
set_option maxHeartbeats 4000000 in
set_option maxRecDepth 100000 in
theorem kX5_choose_42 (l : Launch) (B : jBT) (D : va_G) (ad : Nat → Nat) (cA : Nat → ClassId) (hI : jI ad TC) (S : Nat → Int32) (V : Nat → Nat → Int32) (L : Nat → Int64) (a1 : Int32) (S0 : Nat → Int32) (h : fX5_choose_42 S V a1 = some S0) : jM l yX5_choose cX5_choose 4 none ({ frames := 1, cells := 0, slots := 0, locals := 25 }) B D TC ad cA [.ref (ad 42), .int a1] S V L none S0 V L := by
  refine jM_of (plainFor_of_name (by decide)) TC_ok hI (Nat.le_of_ble_eq_true rfl) ?_
  intro p e s m args below meth c C hr hlk
  refine j_lv (lv2 := [(0, .ref (ad 42)), (1, .int a1)]) rfl ?_
  unfold fX5_choose_42 at h
  have H_fX5_choose_42_L12 : ∀ (n : Nat) (x3 : Int32) (x4 : Int32) (S5 : Nat → Int32), fX5_choose_42_L12 V n x3 x4 S5 = some S0 → jW p l e ({ frames := 1, cells := 0, slots := 0, locals := 25 }) s m args below meth c (MQ below (jQc D TC ad cA none s.heap.size S0 V L) args s 0 0 (jA ad TC s.heap.size)) D TC ad cA (jA ad TC s.heap.size) 4 0 0 12 [(0, .ref (ad 42)), (1, .int x3), (2, .int x4)] [] S5 V L := by
    intro n
    induction n with
    | zero =>
      intro x3 x4 S5 h
      cases (show (none : Option ((Nat → Int32))) = some S0 from h)
    | succ n ih =>
      intro x3 x4 S5 h
      unfold fX5_choose_42_L12 at h
      refine j_iload_n C 2 rfl dX5_choose_12 rfl ?_
      refine j_iconst C dX5_choose_13 ci_1 ?_
      refine j_aload_n C 0 rfl dX5_choose_14 rfl ?_
      refine fg_X5_18_TC_42 C dX5_choose_15 ?_
      refine j_ishl C dX5_choose_18 ?_
      refine j_icmp_ge (tgt := 53) C dX5_choose_19 (by decide) (fun c6 => ?_) (fun c6 => ?_)
      · have h := (if_pos c6).symm.trans h
        cases h
        exact j_vret C hr hlk rfl dX5_choose_53
      · have h := (if_neg c6).symm.trans h
        refine j_aload_n C 0 rfl dX5_choose_22 rfl ?_
        refine j_iload_n C 2 rfl dX5_choose_23 rfl ?_
        refine j_iload_n C 1 rfl dX5_choose_24 rfl ?_
        obtain ⟨r7, h8, h⟩ := bd1_elim h
        refine j_callV (As := [.int x4, .int x3]) (rest := []) C (kX5_coinsOf_42 l B D ad cA hI S5 V L x4 x3 _ h8) mw_X5_coinsOf wd1362 wd54 wd1360 tc_42 rfl rfl ⟨rfl, rfl, by decide, by decide⟩ ⟨Nat.zero_le _, Nat.zero_le _⟩ rfl rfl (Nat.le_of_ble_eq_true rfl) dX5_choose_25 ?_
        refine j_istore_n C [(3, .int r7), (0, .ref (ad 42)), (1, .int x3), (2, .int x4)] dX5_choose_28 rfl (by decide) rfl ?_
        refine j_iload_n C 0 rfl dX5_choose_29 rfl ?_
        refine j_aload_n C 1 rfl dX5_choose_30 rfl ?_
        refine fg_X5_32_TC_42 C dX5_choose_31 ?_
        refine bk_elim h (fun K47_9 e_K47_9 h => ?_)
        have HK47_9 : ∀ (x10 : Int32) (x11 : Int32) (S12 : Nat → Int32), K47_9 x10 x11 S12 = some S0 → jW p l e ({ frames := 1, cells := 0, slots := 0, locals := 25 }) s m args below meth c (MQ below (jQc D TC ad cA none s.heap.size S0 V L) args s 0 0 (jA ad TC s.heap.size)) D TC ad cA (jA ad TC s.heap.size) 4 0 0 47 [(0, .ref (ad 42)), (1, .int x10), (2, .int x11)] [] S12 V L := by
          subst e_K47_9
          intro x10 x11 S12 h
          refine lt_elim h (fun x13 e_x13 h => ?_)
          refine j_iinc C [(2, .int x13), (0, .ref (ad 42)), (1, .int x10)] 2 dX5_choose_47 rfl ((iinc_eq ci_1).trans e_x13.symm) (by decide) rfl ?_
          refine j_goto (tgt := 12) C dX5_choose_50 (by decide) ?_
          exact j_sub [1, 2, 0] rfl (ih _ _ _ h)
        refine j_icmp_le (tgt := 47) C dX5_choose_34 (by decide) (fun c14 => ?_) (fun c14 => ?_)
        · have h := (if_pos c14).symm.trans h
          exact j_sub [1, 2, 3] rfl (HK47_9 _ _ _ h)
        · have h := (if_neg c14).symm.trans h
          refine j_aload_n C 1 rfl dX5_choose_37 rfl ?_
          refine j_iload_n C 0 rfl dX5_choose_38 rfl ?_
          refine fp_X5_32_TC_42 C dX5_choose_39 ?_
          refine lt_elim h (fun S15 e_S15 h => ?_)
          refine j_S e_S15 ?_
          refine j_aload_n C 1 rfl dX5_choose_42 rfl ?_
          refine j_iload_n C 3 rfl dX5_choose_43 rfl ?_
          refine fp_X5_35_TC_42 C dX5_choose_44 ?_
          refine lt_elim h (fun S16 e_S16 h => ?_)
          refine j_S e_S16 ?_
          exact j_sub [1, 2, 3] rfl (HK47_9 _ _ _ h)
  refine j_aload_n C 0 rfl dX5_choose_0 rfl ?_
  refine j_iconst C dX5_choose_1 ci_0 ?_
  refine fp_X5_32_TC_42 C dX5_choose_2 ?_
  refine lt_elim h (fun S1 e_S1 h => ?_)
  refine j_S e_S1 ?_
  refine j_aload_n C 0 rfl dX5_choose_5 rfl ?_
  refine j_iconst C dX5_choose_6 ci_0 ?_
  refine fp_X5_35_TC_42 C dX5_choose_7 ?_
  refine lt_elim h (fun S2 e_S2 h => ?_)
  refine j_S e_S2 ?_
  refine j_iconst C dX5_choose_10 ci_1 ?_
  refine j_istore_n C [(2, .int (1 : Int32)), (0, .ref (ad 42)), (1, .int a1)] dX5_choose_11 rfl (by decide) rfl ?_
  exact j_sub [1, 2, 0] rfl (H_fX5_choose_42_L12 FU _ _ _ h)
theorem dX5_clear_0 : decode cX5_clear 0 = .ok (.aload_n 0, 1) := by decide +kernel
theorem dX5_clear_1 : decode cX5_clear 1 = .ok (.iconst 0, 1) := by decide +kernel
theorem dX5_clear_2 : decode cX5_clear 2 = .ok (.putfield 18, 3) := by decide +kernel
theorem dX5_clear_5 : decode cX5_clear 5 = .ok (.return_, 1) := by decide +kernel
def fX5_clear_42 (S : Nat → Int32) : Option ((Nat → Int32)) :=
  lt (va_up S 4200 (0 : Int32)) (fun S1 =>
  some S1)
set_option maxHeartbeats 4000000 in
set_option maxRecDepth 100000 in
theorem kX5_clear_42 (l : Launch) (B : jBT) (D : va_G) (ad : Nat → Nat) (cA : Nat → ClassId) (hI : jI ad TC) (S : Nat → Int32) (V : Nat → Nat → Int32) (L : Nat → Int64) (S0 : Nat → Int32) (h : fX5_clear_42 S = some S0) : jM l yX5_clear cX5_clear 1 none ({ frames := 0, cells := 0, slots := 0, locals := 0 }) B D TC ad cA [.ref (ad 42)] S V L none S0 V L := by
  refine jM_of (plainFor_of_name (by decide)) TC_ok hI (Nat.le_of_ble_eq_true rfl) ?_
  intro p e s m args below meth c C hr hlk
  refine j_lv (lv2 := [(0, .ref (ad 42))]) rfl ?_
  unfold fX5_clear_42 at h
  refine j_aload_n C 0 rfl dX5_clear_0 rfl ?_
  refine j_iconst C dX5_clear_1 ci_0 ?_
  refine fp_X5_18_TC_42 C dX5_clear_2 ?_
  refine lt_elim h (fun S1 e_S1 h => ?_)
  refine j_S e_S1 ?_
  cases h
  exact j_vret C hr hlk rfl dX5_clear_5
theorem dX6_daysToADay_0 : decode cX6_daysToADay 0 = .ok (.iload_n 1, 1) := by decide +kernel
theorem dX6_daysToADay_1 : decode cX6_daysToADay 1 = .ok (.ifCond .gt 9, 3) := by decide +kernel
theorem dX6_daysToADay_4 : decode cX6_daysToADay 4 = .ok (.sipush 10001, 3) := by decide +kernel
theorem dX6_daysToADay_7 : decode cX6_daysToADay 7 = .ok (.goto 14, 3) := by decide +kernel
theorem dX6_daysToADay_10 : decode cX6_daysToADay 10 = .ok (.sipush 1440, 3) := by decide +kernel
theorem dX6_daysToADay_13 : decode cX6_daysToADay 13 = .ok (.iload_n 0, 1) := by decide +kernel
theorem dX6_daysToADay_14 : decode cX6_daysToADay 14 = .ok (.isub, 1) := by decide +kernel
theorem dX6_daysToADay_15 : decode cX6_daysToADay 15 = .ok (.iload_n 1, 1) := by decide +kernel
theorem dX6_daysToADay_16 : decode cX6_daysToADay 16 = .ok (.iadd, 1) := by decide +kernel
theorem dX6_daysToADay_17 : decode cX6_daysToADay 17 = .ok (.iconst 1, 1) := by decide +kernel
theorem dX6_daysToADay_18 : decode cX6_daysToADay 18 = .ok (.isub, 1) := by decide +kernel
theorem dX6_daysToADay_19 : decode cX6_daysToADay 19 = .ok (.iload_n 1, 1) := by decide +kernel
theorem dX6_daysToADay_20 : decode cX6_daysToADay 20 = .ok (.idiv, 1) := by decide +kernel
theorem dX6_daysToADay_21 : decode cX6_daysToADay 21 = .ok (.ireturn, 1) := by decide +kernel
def fX6_daysToADay (a1 : Int32) (a2 : Int32) : Option (Int32) :=
  (if 0 < a2 then
  gd (nz a2) (
  some ((((((1440 : Int32) - a1) + a2) - (1 : Int32)) / a2)))
  else
  some (10001 : Int32))
set_option maxHeartbeats 4000000 in
set_option maxRecDepth 100000 in
theorem kX6_daysToADay (l : Launch) (B : jBT) (D : va_G) (ad : Nat → Nat) (cA : Nat → ClassId) (hI : jI ad TC) (S : Nat → Int32) (V : Nat → Nat → Int32) (L : Nat → Int64) (a1 : Int32) (a2 : Int32) (r0 : Int32) (h : fX6_daysToADay a1 a2 = some r0) : jM l yX6_daysToADay cX6_daysToADay 2 (some .int) ({ frames := 0, cells := 0, slots := 0, locals := 0 }) B D TC ad cA [.int a1, .int a2] S V L (some (.int r0)) S V L := by
  refine jM_of (plainFor_of_name (by decide)) TC_ok hI (Nat.le_of_ble_eq_true rfl) ?_
  intro p e s m args below meth c C hr hlk
  refine j_lv (lv2 := [(0, .int a1), (1, .int a2)]) rfl ?_
  unfold fX6_daysToADay at h
  refine j_iload_n C 1 rfl dX6_daysToADay_0 rfl ?_
  refine j_if_gt (tgt := 10) C dX6_daysToADay_1 (by decide) (fun c1 => ?_) (fun c1 => ?_)
  · have h := (if_pos c1).symm.trans h
    refine j_sipush C dX6_daysToADay_10 cs_1440 ?_
    refine j_iload_n C 0 rfl dX6_daysToADay_13 rfl ?_
    refine j_isub C dX6_daysToADay_14 ?_
    refine j_iload_n C 1 rfl dX6_daysToADay_15 rfl ?_
    refine j_iadd C dX6_daysToADay_16 ?_
    refine j_iconst C dX6_daysToADay_17 ci_1 ?_
    refine j_isub C dX6_daysToADay_18 ?_
    refine j_iload_n C 1 rfl dX6_daysToADay_19 rfl ?_
    obtain ⟨g2, h⟩ := gd_elim h
    refine j_idiv C dX6_daysToADay_20 (nz_ne g2) ?_
    cases h
    exact j_iret C hr hlk rfl dX6_daysToADay_21
  · have h := (if_neg c1).symm.trans h
    refine j_sipush C dX6_daysToADay_4 cs_10001 ?_
    refine j_goto (tgt := 21) C dX6_daysToADay_7 (by decide) ?_
    cases h
    exact j_iret C hr hlk rfl dX6_daysToADay_21
theorem dX6_present_0 : decode cX6_present 0 = .ok (.aload_n 0, 1) := by decide +kernel
theorem dX6_present_1 : decode cX6_present 1 = .ok (.getfield 15, 3) := by decide +kernel
theorem dX6_present_4 : decode cX6_present 4 = .ok (.iload_n 1, 1) := by decide +kernel
theorem dX6_present_5 : decode cX6_present 5 = .ok (.iload_n 2, 1) := by decide +kernel
theorem dX6_present_6 : decode cX6_present 6 = .ok (.invokevirtual 29, 3) := by decide +kernel
theorem dX6_present_9 : decode cX6_present 9 = .ok (.istore 4, 2) := by decide +kernel
theorem dX6_present_11 : decode cX6_present 11 = .ok (.iload 4, 2) := by decide +kernel
theorem dX6_present_13 : decode cX6_present 13 = .ok (.iload_n 3, 1) := by decide +kernel
theorem dX6_present_14 : decode cX6_present 14 = .ok (.if_icmp .ne 7, 3) := by decide +kernel
theorem dX6_present_17 : decode cX6_present 17 = .ok (.iconst (-1), 1) := by decide +kernel
theorem dX6_present_18 : decode cX6_present 18 = .ok (.goto 5, 3) := by decide +kernel
theorem dX6_present_21 : decode cX6_present 21 = .ok (.iload 4, 2) := by decide +kernel
theorem dX6_present_23 : decode cX6_present 23 = .ok (.ireturn, 1) := by decide +kernel
def fX6_present_48 (V : Nat → Nat → Int32) (a1 : Int32) (a2 : Int32) (a3 : Int32) : Option (Int32) :=
  bd1 (fX4_who_30 V a1 a2) (fun r1 =>
  (if r1 = a3 then
  some (-1 : Int32)
  else
  some r1))
set_option maxHeartbeats 4000000 in
set_option maxRecDepth 100000 in
theorem kX6_present_48 (l : Launch) (B : jBT) (D : va_G) (ad : Nat → Nat) (cA : Nat → ClassId) (hI : jI ad TC) (S : Nat → Int32) (V : Nat → Nat → Int32) (L : Nat → Int64) (a1 : Int32) (a2 : Int32) (a3 : Int32) (r0 : Int32) (h : fX6_present_48 V a1 a2 a3 = some r0) : jM l yX6_present cX6_present 5 (some .int) ({ frames := 1, cells := 0, slots := 0, locals := 23 }) B D TC ad cA [.ref (ad 48), .int a1, .int a2, .int a3] S V L (some (.int r0)) S V L := by
  refine jM_of (plainFor_of_name (by decide)) TC_ok hI (Nat.le_of_ble_eq_true rfl) ?_
  intro p e s m args below meth c C hr hlk
  refine j_lv (lv2 := [(0, .ref (ad 48)), (1, .int a1), (2, .int a2), (3, .int a3)]) rfl ?_
  unfold fX6_present_48 at h
  refine j_aload_n C 0 rfl dX6_present_0 rfl ?_
  refine fg_X6_15_TC_48 C dX6_present_1 ?_
  refine j_iload_n C 1 rfl dX6_present_4 rfl ?_
  refine j_iload_n C 2 rfl dX6_present_5 rfl ?_
  obtain ⟨r1, h2, h⟩ := bd1_elim h
  refine j_callV (As := [.int a1, .int a2]) (rest := []) C (kX4_who_30 l B D ad cA hI S V L a1 a2 _ h2) mw_X4_who wd612 wd613 wd1140 tc_30 rfl rfl ⟨rfl, rfl, by decide, by decide⟩ ⟨Nat.zero_le _, Nat.zero_le _⟩ rfl rfl (Nat.le_of_ble_eq_true rfl) dX6_present_6 ?_
  refine j_istore C [(4, .int r1), (0, .ref (ad 48)), (1, .int a1), (2, .int a2), (3, .int a3)] dX6_present_9 (by decide) rfl ?_
  refine j_iload C 0 rfl dX6_present_11 ?_
  refine j_iload_n C 4 rfl dX6_present_13 rfl ?_
  refine j_icmp_ne (tgt := 21) C dX6_present_14 (by decide) (fun c3 => ?_) (fun c3 => ?_)
  · have h := (if_neg c3).symm.trans h
    refine j_iload C 0 rfl dX6_present_21 ?_
    cases h
    exact j_iret C hr hlk rfl dX6_present_23
  · have h := (if_pos c3).symm.trans h
    refine j_iconst C dX6_present_17 ci_m1 ?_
    refine j_goto (tgt := 23) C dX6_present_18 (by decide) ?_
    cases h
    exact j_iret C hr hlk rfl dX6_present_23
theorem dX6_swingIn_0 : decode cX6_swingIn 0 = .ok (.aload_n 0, 1) := by decide +kernel
theorem dX6_swingIn_1 : decode cX6_swingIn 1 = .ok (.getfield 9, 3) := by decide +kernel
theorem dX6_swingIn_4 : decode cX6_swingIn 4 = .ok (.aload_n 0, 1) := by decide +kernel
theorem dX6_swingIn_5 : decode cX6_swingIn 5 = .ok (.iconst 0, 1) := by decide +kernel
theorem dX6_swingIn_6 : decode cX6_swingIn 6 = .ok (.iload_n 1, 1) := by decide +kernel
theorem dX6_swingIn_7 : decode cX6_swingIn 7 = .ok (.iload_n 3, 1) := by decide +kernel
theorem dX6_swingIn_8 : decode cX6_swingIn 8 = .ok (.invokevirtual 19, 3) := by decide +kernel
theorem dX6_swingIn_11 : decode cX6_swingIn 11 = .ok (.aload_n 0, 1) := by decide +kernel
theorem dX6_swingIn_12 : decode cX6_swingIn 12 = .ok (.iconst 1, 1) := by decide +kernel
theorem dX6_swingIn_13 : decode cX6_swingIn 13 = .ok (.iload_n 1, 1) := by decide +kernel
theorem dX6_swingIn_14 : decode cX6_swingIn 14 = .ok (.iload_n 3, 1) := by decide +kernel
theorem dX6_swingIn_15 : decode cX6_swingIn 15 = .ok (.invokevirtual 19, 3) := by decide +kernel
theorem dX6_swingIn_18 : decode cX6_swingIn 18 = .ok (.aload_n 0, 1) := by decide +kernel
theorem dX6_swingIn_19 : decode cX6_swingIn 19 = .ok (.iconst 2, 1) := by decide +kernel
theorem dX6_swingIn_20 : decode cX6_swingIn 20 = .ok (.iload_n 1, 1) := by decide +kernel
theorem dX6_swingIn_21 : decode cX6_swingIn 21 = .ok (.iload_n 3, 1) := by decide +kernel
theorem dX6_swingIn_22 : decode cX6_swingIn 22 = .ok (.invokevirtual 19, 3) := by decide +kernel
theorem dX6_swingIn_25 : decode cX6_swingIn 25 = .ok (.iload_n 2, 1) := by decide +kernel
theorem dX6_swingIn_26 : decode cX6_swingIn 26 = .ok (.invokevirtual 23, 3) := by decide +kernel
theorem dX6_swingIn_29 : decode cX6_swingIn 29 = .ok (.ireturn, 1) := by decide +kernel
def fX6_swingIn_48 (S : Nat → Int32) (V : Nat → Nat → Int32) (a1 : Int32) (a2 : Int32) (a3 : Int32) : Option (Int32) :=
  bd1 (fX6_present_48 V (0 : Int32) a1 a3) (fun r1 =>
  bd1 (fX6_present_48 V (1 : Int32) a1 a3) (fun r3 =>
  bd1 (fX6_present_48 V (2 : Int32) a1 a3) (fun r5 =>
  bd1 (fX2_swingOf_3 S V r1 r3 r5 a2) (fun r7 =>
  some r7))))
set_option maxHeartbeats 4000000 in
set_option maxRecDepth 100000 in
theorem kX6_swingIn_48 (l : Launch) (B : jBT) (D : va_G) (ad : Nat → Nat) (cA : Nat → ClassId) (hI : jI ad TC) (S : Nat → Int32) (V : Nat → Nat → Int32) (L : Nat → Int64) (a1 : Int32) (a2 : Int32) (a3 : Int32) (r0 : Int32) (h : fX6_swingIn_48 S V a1 a2 a3 = some r0) : jM l yX6_swingIn cX6_swingIn 4 (some .int) ({ frames := 2, cells := 0, slots := 0, locals := 48 }) B D TC ad cA [.ref (ad 48), .int a1, .int a2, .int a3] S V L (some (.int r0)) S V L := by
  refine jM_of (plainFor_of_name (by decide)) TC_ok hI (Nat.le_of_ble_eq_true rfl) ?_
  intro p e s m args below meth c C hr hlk
  refine j_lv (lv2 := [(0, .ref (ad 48)), (1, .int a1), (2, .int a2), (3, .int a3)]) rfl ?_
  unfold fX6_swingIn_48 at h
  refine j_aload_n C 0 rfl dX6_swingIn_0 rfl ?_
  refine fg_X6_9_TC_48 C dX6_swingIn_1 ?_
  refine j_aload_n C 0 rfl dX6_swingIn_4 rfl ?_
  refine j_iconst C dX6_swingIn_5 ci_0 ?_
  refine j_iload_n C 1 rfl dX6_swingIn_6 rfl ?_
  refine j_iload_n C 3 rfl dX6_swingIn_7 rfl ?_
  obtain ⟨r1, h2, h⟩ := bd1_elim h
  refine j_callV (As := [.int (0 : Int32), .int a1, .int a3]) (rest := [.ref (ad 3)]) C (kX6_present_48 l B D ad cA hI S V L (0 : Int32) a1 a3 _ h2) mw_X6_present wd1138 wd37 wd1136 tc_48 rfl rfl ⟨rfl, rfl, by decide, by decide⟩ ⟨Nat.zero_le _, Nat.zero_le _⟩ rfl rfl (Nat.le_of_ble_eq_true rfl) dX6_swingIn_8 ?_
  refine j_aload_n C 0 rfl dX6_swingIn_11 rfl ?_
  refine j_iconst C dX6_swingIn_12 ci_1 ?_
  refine j_iload_n C 1 rfl dX6_swingIn_13 rfl ?_
  refine j_iload_n C 3 rfl dX6_swingIn_14 rfl ?_
  obtain ⟨r3, h4, h⟩ := bd1_elim h
  refine j_callV (As := [.int (1 : Int32), .int a1, .int a3]) (rest := [.int r1, .ref (ad 3)]) C (kX6_present_48 l B D ad cA hI S V L (1 : Int32) a1 a3 _ h4) mw_X6_present wd1138 wd37 wd1136 tc_48 rfl rfl ⟨rfl, rfl, by decide, by decide⟩ ⟨Nat.zero_le _, Nat.zero_le _⟩ rfl rfl (Nat.le_of_ble_eq_true rfl) dX6_swingIn_15 ?_
  refine j_aload_n C 0 rfl dX6_swingIn_18 rfl ?_
  refine j_iconst C dX6_swingIn_19 ci_2 ?_
  refine j_iload_n C 1 rfl dX6_swingIn_20 rfl ?_
  refine j_iload_n C 3 rfl dX6_swingIn_21 rfl ?_
  obtain ⟨r5, h6, h⟩ := bd1_elim h
  refine j_callV (As := [.int (2 : Int32), .int a1, .int a3]) (rest := [.int r3, .int r1, .ref (ad 3)]) C (kX6_present_48 l B D ad cA hI S V L (2 : Int32) a1 a3 _ h6) mw_X6_present wd1138 wd37 wd1136 tc_48 rfl rfl ⟨rfl, rfl, by decide, by decide⟩ ⟨Nat.zero_le _, Nat.zero_le _⟩ rfl rfl (Nat.le_of_ble_eq_true rfl) dX6_swingIn_22 ?_
  refine j_iload_n C 2 rfl dX6_swingIn_25 rfl ?_
  obtain ⟨r7, h8, h⟩ := bd1_elim h
  refine j_callV (As := [.int r1, .int r3, .int r5, .int a2]) (rest := []) C (kX2_swingOf_3 l B D ad cA hI S V L r1 r3 r5 a2 _ h8) mw_X2_swingOf wd1142 wd1143 wd1141 tc_3 rfl rfl ⟨rfl, rfl, by decide, by decide⟩ ⟨Nat.zero_le _, Nat.zero_le _⟩ rfl rfl (Nat.le_of_ble_eq_true rfl) dX6_swingIn_26 ?_
  cases h
  exact j_iret C hr hlk rfl dX6_swingIn_29
theorem dX6_slowness_0 : decode cX6_slowness 0 = .ok (.iconst 0, 1) := by decide +kernel
theorem dX6_slowness_1 : decode cX6_slowness 1 = .ok (.istore 5, 2) := by decide +kernel
theorem dX6_slowness_3 : decode cX6_slowness 3 = .ok (.iload_n 1, 1) := by decide +kernel
theorem dX6_slowness_4 : decode cX6_slowness 4 = .ok (.istore 6, 2) := by decide +kernel
theorem dX6_slowness_6 : decode cX6_slowness 6 = .ok (.iload 6, 2) := by decide +kernel
theorem dX6_slowness_8 : decode cX6_slowness 8 = .ok (.iload_n 2, 1) := by decide +kernel
theorem dX6_slowness_9 : decode cX6_slowness 9 = .ok (.if_icmp .gt 26, 3) := by decide +kernel
theorem dX6_slowness_12 : decode cX6_slowness 12 = .ok (.iload 5, 2) := by decide +kernel
theorem dX6_slowness_14 : decode cX6_slowness 14 = .ok (.aload_n 0, 1) := by decide +kernel
theorem dX6_slowness_15 : decode cX6_slowness 15 = .ok (.iload 6, 2) := by decide +kernel
theorem dX6_slowness_17 : decode cX6_slowness 17 = .ok (.iload_n 3, 1) := by decide +kernel
theorem dX6_slowness_18 : decode cX6_slowness 18 = .ok (.iload 4, 2) := by decide +kernel
theorem dX6_slowness_20 : decode cX6_slowness 20 = .ok (.invokevirtual 35, 3) := by decide +kernel
theorem dX6_slowness_23 : decode cX6_slowness 23 = .ok (.bipush 60, 2) := by decide +kernel
theorem dX6_slowness_25 : decode cX6_slowness 25 = .ok (.isub, 1) := by decide +kernel
theorem dX6_slowness_26 : decode cX6_slowness 26 = .ok (.iadd, 1) := by decide +kernel
theorem dX6_slowness_27 : decode cX6_slowness 27 = .ok (.istore 5, 2) := by decide +kernel
theorem dX6_slowness_29 : decode cX6_slowness 29 = .ok (.iinc 6 1, 3) := by decide +kernel
theorem dX6_slowness_32 : decode cX6_slowness 32 = .ok (.goto (-26), 3) := by decide +kernel
theorem dX6_slowness_35 : decode cX6_slowness 35 = .ok (.iload 5, 2) := by decide +kernel
theorem dX6_slowness_37 : decode cX6_slowness 37 = .ok (.ireturn, 1) := by decide +kernel
def fX6_slowness_48_L6 (S : Nat → Int32) (V : Nat → Nat → Int32) : Nat → Int32 → Int32 → Int32 → Int32 → Int32 → Option (Int32)
  | 0, _, _, _, _, _ => none
  | n + 1, x1, x2, x3, x4, x5 =>
    (if x1 < x5 then
    some x4
    else
    bd1 (fX6_swingIn_48 S V x5 x2 x3) (fun r7 =>
    lt ((x4 + (r7 - (60 : Int32)))) (fun x9 =>
    lt (x5 + (1 : Int32)) (fun x10 =>
    fX6_slowness_48_L6 S V n x1 x2 x3 x9 x10))))
def fX6_slowness_48 (S : Nat → Int32) (V : Nat → Nat → Int32) (a1 : Int32) (a2 : Int32) (a3 : Int32) (a4 : Int32) : Option (Int32) :=
  fX6_slowness_48_L6 S V FU a2 a3 a4 (0 : Int32) a1
set_option maxHeartbeats 4000000 in
set_option maxRecDepth 100000 in
theorem kX6_slowness_48 (l : Launch) (B : jBT) (D : va_G) (ad : Nat → Nat) (cA : Nat → ClassId) (hI : jI ad TC) (S : Nat → Int32) (V : Nat → Nat → Int32) (L : Nat → Int64) (a1 : Int32) (a2 : Int32) (a3 : Int32) (a4 : Int32) (r0 : Int32) (h : fX6_slowness_48 S V a1 a2 a3 a4 = some r0) : jM l yX6_slowness cX6_slowness 7 (some .int) ({ frames := 3, cells := 0, slots := 0, locals := 71 }) B D TC ad cA [.ref (ad 48), .int a1, .int a2, .int a3, .int a4] S V L (some (.int r0)) S V L := by
  refine jM_of (plainFor_of_name (by decide)) TC_ok hI (Nat.le_of_ble_eq_true rfl) ?_
  intro p e s m args below meth c C hr hlk
  refine j_lv (lv2 := [(0, .ref (ad 48)), (1, .int a1), (2, .int a2), (3, .int a3), (4, .int a4)]) rfl ?_
  unfold fX6_slowness_48 at h
  have H_fX6_slowness_48_L6 : ∀ (n : Nat) (x1 : Int32) (x2 : Int32) (x3 : Int32) (x4 : Int32) (x5 : Int32), fX6_slowness_48_L6 S V n x1 x2 x3 x4 x5 = some r0 → jW p l e ({ frames := 3, cells := 0, slots := 0, locals := 71 }) s m args below meth c (MQ below (jQc D TC ad cA (some (.int r0)) s.heap.size S V L) args s 0 0 (jA ad TC s.heap.size)) D TC ad cA (jA ad TC s.heap.size) 7 0 0 6 [(0, .ref (ad 48)), (2, .int x1), (3, .int x2), (4, .int x3), (5, .int x4), (6, .int x5)] [] S V L := by
    intro n
    induction n with
    | zero =>
      intro x1 x2 x3 x4 x5 h
      cases (show (none : Option (Int32)) = some r0 from h)
    | succ n ih =>
      intro x1 x2 x3 x4 x5 h
      unfold fX6_slowness_48_L6 at h
      refine j_iload C 5 rfl dX6_slowness_6 ?_
      refine j_iload_n C 1 rfl dX6_slowness_8 rfl ?_
      refine j_icmp_gt (tgt := 35) C dX6_slowness_9 (by decide) (fun c6 => ?_) (fun c6 => ?_)
      · have h := (if_pos c6).symm.trans h
        refine j_iload C 4 rfl dX6_slowness_35 ?_
        cases h
        exact j_iret C hr hlk rfl dX6_slowness_37
      · have h := (if_neg c6).symm.trans h
        refine j_iload C 4 rfl dX6_slowness_12 ?_
        refine j_aload_n C 0 rfl dX6_slowness_14 rfl ?_
        refine j_iload C 5 rfl dX6_slowness_15 ?_
        refine j_iload_n C 2 rfl dX6_slowness_17 rfl ?_
        refine j_iload C 3 rfl dX6_slowness_18 ?_
        obtain ⟨r7, h8, h⟩ := bd1_elim h
        refine j_callV (As := [.int x5, .int x2, .int x3]) (rest := [.int x4]) C (kX6_swingIn_48 l B D ad cA hI S V L x5 x2 x3 _ h8) mw_X6_swingIn wd1133 wd1134 wd1159 tc_48 rfl rfl ⟨rfl, rfl, by decide, by decide⟩ ⟨Nat.zero_le _, Nat.zero_le _⟩ rfl rfl (Nat.le_of_ble_eq_true rfl) dX6_slowness_20 ?_
        refine j_bipush C dX6_slowness_23 cb_60 ?_
        refine j_isub C dX6_slowness_25 ?_
        refine j_iadd C dX6_slowness_26 ?_
        refine lt_elim h (fun x9 e_x9 h => ?_)
        refine j_top e_x9 ?_
        refine j_istore C [(5, .int x9), (0, .ref (ad 48)), (2, .int x1), (3, .int x2), (4, .int x3), (6, .int x5)] dX6_slowness_27 (by decide) rfl ?_
        refine lt_elim h (fun x10 e_x10 h => ?_)
        refine j_iinc C [(6, .int x10), (5, .int x9), (0, .ref (ad 48)), (2, .int x1), (3, .int x2), (4, .int x3)] 5 dX6_slowness_29 rfl ((iinc_eq ci_1).trans e_x10.symm) (by decide) rfl ?_
        refine j_goto (tgt := 6) C dX6_slowness_32 (by decide) ?_
        exact j_sub [2, 3, 4, 5, 1, 0] rfl (ih _ _ _ _ _ h)
  refine j_iconst C dX6_slowness_0 ci_0 ?_
  refine j_istore C [(5, .int (0 : Int32)), (0, .ref (ad 48)), (1, .int a1), (2, .int a2), (3, .int a3), (4, .int a4)] dX6_slowness_1 (by decide) rfl ?_
  refine j_iload_n C 2 rfl dX6_slowness_3 rfl ?_
  refine j_istore C [(6, .int a1), (5, .int (0 : Int32)), (0, .ref (ad 48)), (1, .int a1), (2, .int a2), (3, .int a3), (4, .int a4)] dX6_slowness_4 (by decide) rfl ?_
  exact j_sub [2, 4, 5, 6, 1, 0] rfl (H_fX6_slowness_48_L6 FU _ _ _ _ _ h)
theorem dX6_slownessOfDay_0 : decode cX6_slownessOfDay 0 = .ok (.aload_n 0, 1) := by decide +kernel
theorem dX6_slownessOfDay_1 : decode cX6_slownessOfDay 1 = .ok (.iconst 0, 1) := by decide +kernel
theorem dX6_slownessOfDay_2 : decode cX6_slownessOfDay 2 = .ok (.bipush 23, 2) := by decide +kernel
theorem dX6_slownessOfDay_4 : decode cX6_slownessOfDay 4 = .ok (.iload_n 1, 1) := by decide +kernel
theorem dX6_slownessOfDay_5 : decode cX6_slownessOfDay 5 = .ok (.iconst (-1), 1) := by decide +kernel
theorem dX6_slownessOfDay_6 : decode cX6_slownessOfDay 6 = .ok (.invokevirtual 38, 3) := by decide +kernel
theorem dX6_slownessOfDay_9 : decode cX6_slownessOfDay 9 = .ok (.ireturn, 1) := by decide +kernel
def fX6_slownessOfDay_48 (S : Nat → Int32) (V : Nat → Nat → Int32) (a1 : Int32) : Option (Int32) :=
  bd1 (fX6_slowness_48 S V (0 : Int32) (23 : Int32) a1 (-1 : Int32)) (fun r1 =>
  some r1)
set_option maxHeartbeats 4000000 in
set_option maxRecDepth 100000 in
theorem kX6_slownessOfDay_48 (l : Launch) (B : jBT) (D : va_G) (ad : Nat → Nat) (cA : Nat → ClassId) (hI : jI ad TC) (S : Nat → Int32) (V : Nat → Nat → Int32) (L : Nat → Int64) (a1 : Int32) (r0 : Int32) (h : fX6_slownessOfDay_48 S V a1 = some r0) : jM l yX6_slownessOfDay cX6_slownessOfDay 2 (some .int) ({ frames := 4, cells := 0, slots := 0, locals := 97 }) B D TC ad cA [.ref (ad 48), .int a1] S V L (some (.int r0)) S V L := by
  refine jM_of (plainFor_of_name (by decide)) TC_ok hI (Nat.le_of_ble_eq_true rfl) ?_
  intro p e s m args below meth c C hr hlk
  refine j_lv (lv2 := [(0, .ref (ad 48)), (1, .int a1)]) rfl ?_
  unfold fX6_slownessOfDay_48 at h
  refine j_aload_n C 0 rfl dX6_slownessOfDay_0 rfl ?_
  refine j_iconst C dX6_slownessOfDay_1 ci_0 ?_
  refine j_bipush C dX6_slownessOfDay_2 cb_23 ?_
  refine j_iload_n C 1 rfl dX6_slownessOfDay_4 rfl ?_
  refine j_iconst C dX6_slownessOfDay_5 ci_m1 ?_
  obtain ⟨r1, h2, h⟩ := bd1_elim h
  refine j_callV (As := [.int (0 : Int32), .int (23 : Int32), .int a1, .int (-1 : Int32)]) (rest := []) C (kX6_slowness_48 l B D ad cA hI S V L (0 : Int32) (23 : Int32) a1 (-1 : Int32) _ h2) mw_X6_slowness wd1156 wd1157 wd1171 tc_48 rfl rfl ⟨rfl, rfl, by decide, by decide⟩ ⟨Nat.zero_le _, Nat.zero_le _⟩ rfl rfl (Nat.le_of_ble_eq_true rfl) dX6_slownessOfDay_6 ?_
  cases h
  exact j_iret C hr hlk rfl dX6_slownessOfDay_9
theorem dX6_daysToBirthday_0 : decode cX6_daysToBirthday 0 = .ok (.iconst 0, 1) := by decide +kernel
theorem dX6_daysToBirthday_1 : decode cX6_daysToBirthday 1 = .ok (.istore_n 2, 1) := by decide +kernel
theorem dX6_daysToBirthday_2 : decode cX6_daysToBirthday 2 = .ok (.iload_n 1, 1) := by decide +kernel
theorem dX6_daysToBirthday_3 : decode cX6_daysToBirthday 3 = .ok (.istore_n 3, 1) := by decide +kernel
theorem dX6_daysToBirthday_4 : decode cX6_daysToBirthday 4 = .ok (.iconst 0, 1) := by decide +kernel
theorem dX6_daysToBirthday_5 : decode cX6_daysToBirthday 5 = .ok (.istore 4, 2) := by decide +kernel
theorem dX6_daysToBirthday_7 : decode cX6_daysToBirthday 7 = .ok (.iload 4, 2) := by decide +kernel
theorem dX6_daysToBirthday_9 : decode cX6_daysToBirthday 9 = .ok (.bipush 30, 2) := by decide +kernel
theorem dX6_daysToBirthday_11 : decode cX6_daysToBirthday 11 = .ok (.if_icmp .gt 108, 3) := by decide +kernel
theorem dX6_daysToBirthday_14 : decode cX6_daysToBirthday 14 = .ok (.iload_n 3, 1) := by decide +kernel
theorem dX6_daysToBirthday_15 : decode cX6_daysToBirthday 15 = .ok (.sipush 9999, 3) := by decide +kernel
theorem dX6_daysToBirthday_18 : decode cX6_daysToBirthday 18 = .ok (.if_icmp .gt 101, 3) := by decide +kernel
theorem dX6_daysToBirthday_21 : decode cX6_daysToBirthday 21 = .ok (.aload_n 0, 1) := by decide +kernel
theorem dX6_daysToBirthday_22 : decode cX6_daysToBirthday 22 = .ok (.aload_n 0, 1) := by decide +kernel
theorem dX6_daysToBirthday_23 : decode cX6_daysToBirthday 23 = .ok (.getfield 9, 3) := by decide +kernel
theorem dX6_daysToBirthday_26 : decode cX6_daysToBirthday 26 = .ok (.iload_n 3, 1) := by decide +kernel
theorem dX6_daysToBirthday_27 : decode cX6_daysToBirthday 27 = .ok (.invokevirtual 49, 3) := by decide +kernel
theorem dX6_daysToBirthday_30 : decode cX6_daysToBirthday 30 = .ok (.invokevirtual 57, 3) := by decide +kernel
theorem dX6_daysToBirthday_33 : decode cX6_daysToBirthday 33 = .ok (.istore 5, 2) := by decide +kernel
theorem dX6_daysToBirthday_35 : decode cX6_daysToBirthday 35 = .ok (.aload_n 0, 1) := by decide +kernel
theorem dX6_daysToBirthday_36 : decode cX6_daysToBirthday 36 = .ok (.getfield 9, 3) := by decide +kernel
theorem dX6_daysToBirthday_39 : decode cX6_daysToBirthday 39 = .ok (.iload_n 3, 1) := by decide +kernel
theorem dX6_daysToBirthday_40 : decode cX6_daysToBirthday 40 = .ok (.invokevirtual 60, 3) := by decide +kernel
theorem dX6_daysToBirthday_43 : decode cX6_daysToBirthday 43 = .ok (.istore 6, 2) := by decide +kernel
theorem dX6_daysToBirthday_45 : decode cX6_daysToBirthday 45 = .ok (.iload 5, 2) := by decide +kernel
theorem dX6_daysToBirthday_47 : decode cX6_daysToBirthday 47 = .ok (.ifCond .ge 14, 3) := by decide +kernel
theorem dX6_daysToBirthday_50 : decode cX6_daysToBirthday 50 = .ok (.iload_n 2, 1) := by decide +kernel
theorem dX6_daysToBirthday_51 : decode cX6_daysToBirthday 51 = .ok (.ineg, 1) := by decide +kernel
theorem dX6_daysToBirthday_52 : decode cX6_daysToBirthday 52 = .ok (.iload 5, 2) := by decide +kernel
theorem dX6_daysToBirthday_54 : decode cX6_daysToBirthday 54 = .ok (.ineg, 1) := by decide +kernel
theorem dX6_daysToBirthday_55 : decode cX6_daysToBirthday 55 = .ok (.invokestatic 63, 3) := by decide +kernel
theorem dX6_daysToBirthday_58 : decode cX6_daysToBirthday 58 = .ok (.goto 9, 3) := by decide +kernel
theorem dX6_daysToBirthday_61 : decode cX6_daysToBirthday 61 = .ok (.iload_n 2, 1) := by decide +kernel
theorem dX6_daysToBirthday_62 : decode cX6_daysToBirthday 62 = .ok (.iload 5, 2) := by decide +kernel
theorem dX6_daysToBirthday_64 : decode cX6_daysToBirthday 64 = .ok (.invokestatic 63, 3) := by decide +kernel
theorem dX6_daysToBirthday_67 : decode cX6_daysToBirthday 67 = .ok (.istore 7, 2) := by decide +kernel
theorem dX6_daysToBirthday_69 : decode cX6_daysToBirthday 69 = .ok (.iload 7, 2) := by decide +kernel
theorem dX6_daysToBirthday_71 : decode cX6_daysToBirthday 71 = .ok (.iload 6, 2) := by decide +kernel
theorem dX6_daysToBirthday_73 : decode cX6_daysToBirthday 73 = .ok (.iload_n 3, 1) := by decide +kernel
theorem dX6_daysToBirthday_74 : decode cX6_daysToBirthday 74 = .ok (.isub, 1) := by decide +kernel
theorem dX6_daysToBirthday_75 : decode cX6_daysToBirthday 75 = .ok (.if_icmp .gt 25, 3) := by decide +kernel
theorem dX6_daysToBirthday_78 : decode cX6_daysToBirthday 78 = .ok (.iload_n 3, 1) := by decide +kernel
theorem dX6_daysToBirthday_79 : decode cX6_daysToBirthday 79 = .ok (.iload_n 1, 1) := by decide +kernel
theorem dX6_daysToBirthday_80 : decode cX6_daysToBirthday 80 = .ok (.isub, 1) := by decide +kernel
theorem dX6_daysToBirthday_81 : decode cX6_daysToBirthday 81 = .ok (.iload 7, 2) := by decide +kernel
theorem dX6_daysToBirthday_83 : decode cX6_daysToBirthday 83 = .ok (.iadd, 1) := by decide +kernel
theorem dX6_daysToBirthday_84 : decode cX6_daysToBirthday 84 = .ok (.istore 8, 2) := by decide +kernel
theorem dX6_daysToBirthday_86 : decode cX6_daysToBirthday 86 = .ok (.iload 5, 2) := by decide +kernel
theorem dX6_daysToBirthday_88 : decode cX6_daysToBirthday 88 = .ok (.ifCond .ge 9, 3) := by decide +kernel
theorem dX6_daysToBirthday_91 : decode cX6_daysToBirthday 91 = .ok (.iload 8, 2) := by decide +kernel
theorem dX6_daysToBirthday_93 : decode cX6_daysToBirthday 93 = .ok (.ineg, 1) := by decide +kernel
theorem dX6_daysToBirthday_94 : decode cX6_daysToBirthday 94 = .ok (.goto 5, 3) := by decide +kernel
theorem dX6_daysToBirthday_97 : decode cX6_daysToBirthday 97 = .ok (.iload 8, 2) := by decide +kernel
theorem dX6_daysToBirthday_99 : decode cX6_daysToBirthday 99 = .ok (.ireturn, 1) := by decide +kernel
theorem dX6_daysToBirthday_100 : decode cX6_daysToBirthday 100 = .ok (.iload_n 2, 1) := by decide +kernel
theorem dX6_daysToBirthday_101 : decode cX6_daysToBirthday 101 = .ok (.iload 5, 2) := by decide +kernel
theorem dX6_daysToBirthday_103 : decode cX6_daysToBirthday 103 = .ok (.iload 6, 2) := by decide +kernel
theorem dX6_daysToBirthday_105 : decode cX6_daysToBirthday 105 = .ok (.iload_n 3, 1) := by decide +kernel
theorem dX6_daysToBirthday_106 : decode cX6_daysToBirthday 106 = .ok (.isub, 1) := by decide +kernel
theorem dX6_daysToBirthday_107 : decode cX6_daysToBirthday 107 = .ok (.imul, 1) := by decide +kernel
theorem dX6_daysToBirthday_108 : decode cX6_daysToBirthday 108 = .ok (.iadd, 1) := by decide +kernel
theorem dX6_daysToBirthday_109 : decode cX6_daysToBirthday 109 = .ok (.istore_n 2, 1) := by decide +kernel
theorem dX6_daysToBirthday_110 : decode cX6_daysToBirthday 110 = .ok (.iload 6, 2) := by decide +kernel
theorem dX6_daysToBirthday_112 : decode cX6_daysToBirthday 112 = .ok (.istore_n 3, 1) := by decide +kernel
theorem dX6_daysToBirthday_113 : decode cX6_daysToBirthday 113 = .ok (.iinc 4 1, 3) := by decide +kernel
theorem dX6_daysToBirthday_116 : decode cX6_daysToBirthday 116 = .ok (.goto (-109), 3) := by decide +kernel
theorem dX6_daysToBirthday_119 : decode cX6_daysToBirthday 119 = .ok (.iconst 0, 1) := by decide +kernel
theorem dX6_daysToBirthday_120 : decode cX6_daysToBirthday 120 = .ok (.ireturn, 1) := by decide +kernel
def fX6_daysToBirthday_48_L7 (E78 : Int32 → Int32 → Int32 → Int32 → Option (Int32)) (S : Nat → Int32) (V : Nat → Nat → Int32) : Nat → Int32 → Int32 → Int32 → Int32 → Option (Int32)
  | 0, _, _, _, _ => none
  | n + 1, x1, x2, x3, x4 =>
    (if (30 : Int32) < x4 then
    some (0 : Int32)
    else
    (if (9999 : Int32) < x3 then
    some (0 : Int32)
    else
    bd1 (fX2_oilLeft_3 S x3) (fun r7 =>
    bd1 (fX6_slownessOfDay_48 S V r7) (fun r9 =>
    bd1 (fX2_dayOfLessOil_3 S x3) (fun r11 =>
    bk (fun (x14 : Int32) (x15 : Int32) (x16 : Int32) (x17 : Int32) (x18 : Int32) (x19 : Int32) (x20 : Int32) =>
    (if (x19 - x16) < x20 then
    lt ((x15 + (x18 * (x19 - x16)))) (fun x22 =>
    lt (x17 + (1 : Int32)) (fun x23 =>
    fX6_daysToBirthday_48_L7 E78 S V n x14 x22 x19 x23))
    else
    E78 x14 x16 x18 x20)) (fun K67_13 =>
    (if 0 ≤ r9 then
    bd1 (fX6_daysToADay x2 r9) (fun r25 =>
    K67_13 x1 x2 x3 x4 r9 r11 r25)
    else
    bd1 (fX6_daysToADay ((-x2)) ((-r9))) (fun r27 =>
    K67_13 x1 x2 x3 x4 r9 r11 r27))))))))
def fX6_daysToBirthday_48 (S : Nat → Int32) (V : Nat → Nat → Int32) (a1 : Int32) : Option (Int32) :=
  bk (fun (x34 : Int32) (x35 : Int32) (x36 : Int32) (x37 : Int32) =>
  lt (((x35 - x34) + x37)) (fun x38 =>
  (if 0 ≤ x36 then
  some x38
  else
  some ((-x38))))) (fun X78_33 =>
  fX6_daysToBirthday_48_L7 X78_33 S V FU a1 (0 : Int32) a1 (0 : Int32))
set_option maxHeartbeats 4000000 in
set_option maxRecDepth 100000 in
theorem kX6_daysToBirthday_48 (l : Launch) (B : jBT) (D : va_G) (ad : Nat → Nat) (cA : Nat → ClassId) (hI : jI ad TC) (S : Nat → Int32) (V : Nat → Nat → Int32) (L : Nat → Int64) (a1 : Int32) (r0 : Int32) (h : fX6_daysToBirthday_48 S V a1 = some r0) : jM l yX6_daysToBirthday cX6_daysToBirthday 9 (some .int) ({ frames := 5, cells := 0, slots := 0, locals := 118 }) B D TC ad cA [.ref (ad 48), .int a1] S V L (some (.int r0)) S V L := by
  refine jM_of (plainFor_of_name (by decide)) TC_ok hI (Nat.le_of_ble_eq_true rfl) ?_
  intro p e s m args below meth c C hr hlk
  refine j_lv (lv2 := [(0, .ref (ad 48)), (1, .int a1)]) rfl ?_
  unfold fX6_daysToBirthday_48 at h
  have H_fX6_daysToBirthday_48_L7 : ∀ (E78 : Int32 → Int32 → Int32 → Int32 → Option (Int32)) (_ : ∀ (x29 : Int32) (x30 : Int32) (x31 : Int32) (x32 : Int32), E78 x29 x30 x31 x32 = some r0 → jW p l e ({ frames := 5, cells := 0, slots := 0, locals := 118 }) s m args below meth c (MQ below (jQc D TC ad cA (some (.int r0)) s.heap.size S V L) args s 0 0 (jA ad TC s.heap.size)) D TC ad cA (jA ad TC s.heap.size) 9 0 0 78 [(1, .int x29), (3, .int x30), (5, .int x31), (7, .int x32)] [] S V L) (n : Nat) (x1 : Int32) (x2 : Int32) (x3 : Int32) (x4 : Int32), fX6_daysToBirthday_48_L7 E78 S V n x1 x2 x3 x4 = some r0 → jW p l e ({ frames := 5, cells := 0, slots := 0, locals := 118 }) s m args below meth c (MQ below (jQc D TC ad cA (some (.int r0)) s.heap.size S V L) args s 0 0 (jA ad TC s.heap.size)) D TC ad cA (jA ad TC s.heap.size) 9 0 0 7 [(0, .ref (ad 48)), (1, .int x1), (2, .int x2), (3, .int x3), (4, .int x4)] [] S V L := by
    intro E78 HE78
    intro n
    induction n with
    | zero =>
      intro x1 x2 x3 x4 h
      cases (show (none : Option (Int32)) = some r0 from h)
    | succ n ih =>
      intro x1 x2 x3 x4 h
      unfold fX6_daysToBirthday_48_L7 at h
      refine j_iload C 4 rfl dX6_daysToBirthday_7 ?_
      refine j_bipush C dX6_daysToBirthday_9 cb_30 ?_
      refine j_icmp_gt (tgt := 119) C dX6_daysToBirthday_11 (by decide) (fun c5 => ?_) (fun c5 => ?_)
      · have h := (if_pos c5).symm.trans h
        refine j_iconst C dX6_daysToBirthday_119 ci_0 ?_
        cases h
        exact j_iret C hr hlk rfl dX6_daysToBirthday_120
      · have h := (if_neg c5).symm.trans h
        refine j_iload_n C 3 rfl dX6_daysToBirthday_14 rfl ?_
        refine j_sipush C dX6_daysToBirthday_15 cs_9999 ?_
        refine j_icmp_gt (tgt := 119) C dX6_daysToBirthday_18 (by decide) (fun c6 => ?_) (fun c6 => ?_)
        · have h := (if_pos c6).symm.trans h
          refine j_iconst C dX6_daysToBirthday_119 ci_0 ?_
          cases h
          exact j_iret C hr hlk rfl dX6_daysToBirthday_120
        · have h := (if_neg c6).symm.trans h
          refine j_aload_n C 0 rfl dX6_daysToBirthday_21 rfl ?_
          refine j_aload_n C 0 rfl dX6_daysToBirthday_22 rfl ?_
          refine fg_X6_9_TC_48 C dX6_daysToBirthday_23 ?_
          refine j_iload_n C 3 rfl dX6_daysToBirthday_26 rfl ?_
          obtain ⟨r7, h8, h⟩ := bd1_elim h
          refine j_callV (As := [.int x3]) (rest := [.ref (ad 48)]) C (kX2_oilLeft_3 l B D ad cA hI S V L x3 _ h8) mw_X2_oilLeft wd1128 wd1129 wd1379 tc_3 rfl rfl ⟨rfl, rfl, by decide, by decide⟩ ⟨Nat.zero_le _, Nat.zero_le _⟩ rfl rfl (Nat.le_of_ble_eq_true rfl) dX6_daysToBirthday_27 ?_
          obtain ⟨r9, h10, h⟩ := bd1_elim h
          refine j_callV (As := [.int r7]) (rest := []) C (kX6_slownessOfDay_48 l B D ad cA hI S V L r7 _ h10) mw_X6_slownessOfDay wd1168 wd1169 wd1391 tc_48 rfl rfl ⟨rfl, rfl, by decide, by decide⟩ ⟨Nat.zero_le _, Nat.zero_le _⟩ rfl rfl (Nat.le_of_ble_eq_true rfl) dX6_daysToBirthday_30 ?_
          refine j_istore C [(5, .int r9), (0, .ref (ad 48)), (1, .int x1), (2, .int x2), (3, .int x3), (4, .int x4)] dX6_daysToBirthday_33 (by decide) rfl ?_
          refine j_aload_n C 1 rfl dX6_daysToBirthday_35 rfl ?_
          refine fg_X6_9_TC_48 C dX6_daysToBirthday_36 ?_
          refine j_iload_n C 4 rfl dX6_daysToBirthday_39 rfl ?_
          obtain ⟨r11, h12, h⟩ := bd1_elim h
          refine j_callV (As := [.int x3]) (rest := []) C (kX2_dayOfLessOil_3 l B D ad cA hI S V L x3 _ h12) mw_X2_dayOfLessOil wd1393 wd1394 wd1392 tc_3 rfl rfl ⟨rfl, rfl, by decide, by decide⟩ ⟨Nat.zero_le _, Nat.zero_le _⟩ rfl rfl (Nat.le_of_ble_eq_true rfl) dX6_daysToBirthday_40 ?_
          refine j_istore C [(6, .int r11), (5, .int r9), (0, .ref (ad 48)), (1, .int x1), (2, .int x2), (3, .int x3), (4, .int x4)] dX6_daysToBirthday_43 (by decide) rfl ?_
          refine j_iload C 1 rfl dX6_daysToBirthday_45 ?_
          refine bk_elim h (fun K67_13 e_K67_13 h => ?_)
          have HK67_13 : ∀ (x14 : Int32) (x15 : Int32) (x16 : Int32) (x17 : Int32) (x18 : Int32) (x19 : Int32) (x20 : Int32), K67_13 x14 x15 x16 x17 x18 x19 x20 = some r0 → jW p l e ({ frames := 5, cells := 0, slots := 0, locals := 118 }) s m args below meth c (MQ below (jQc D TC ad cA (some (.int r0)) s.heap.size S V L) args s 0 0 (jA ad TC s.heap.size)) D TC ad cA (jA ad TC s.heap.size) 9 0 0 67 [(0, .ref (ad 48)), (1, .int x14), (2, .int x15), (3, .int x16), (4, .int x17), (5, .int x18), (6, .int x19)] [.int x20] S V L := by
            subst e_K67_13
            intro x14 x15 x16 x17 x18 x19 x20 h
            refine j_istore C [(7, .int x20), (0, .ref (ad 48)), (1, .int x14), (2, .int x15), (3, .int x16), (4, .int x17), (5, .int x18), (6, .int x19)] dX6_daysToBirthday_67 (by decide) rfl ?_
            refine j_iload C 0 rfl dX6_daysToBirthday_69 ?_
            refine j_iload C 7 rfl dX6_daysToBirthday_71 ?_
            refine j_iload_n C 4 rfl dX6_daysToBirthday_73 rfl ?_
            refine j_isub C dX6_daysToBirthday_74 ?_
            refine j_icmp_gt (tgt := 100) C dX6_daysToBirthday_75 (by decide) (fun c21 => ?_) (fun c21 => ?_)
            · have h := (if_pos c21).symm.trans h
              refine j_iload_n C 3 rfl dX6_daysToBirthday_100 rfl ?_
              refine j_iload C 6 rfl dX6_daysToBirthday_101 ?_
              refine j_iload C 7 rfl dX6_daysToBirthday_103 ?_
              refine j_iload_n C 4 rfl dX6_daysToBirthday_105 rfl ?_
              refine j_isub C dX6_daysToBirthday_106 ?_
              refine j_imul C dX6_daysToBirthday_107 ?_
              refine j_iadd C dX6_daysToBirthday_108 ?_
              refine lt_elim h (fun x22 e_x22 h => ?_)
              refine j_top e_x22 ?_
              refine j_istore_n C [(2, .int x22), (7, .int x20), (0, .ref (ad 48)), (1, .int x14), (3, .int x16), (4, .int x17), (5, .int x18), (6, .int x19)] dX6_daysToBirthday_109 rfl (by decide) rfl ?_
              refine j_iload C 7 rfl dX6_daysToBirthday_110 ?_
              refine j_istore_n C [(3, .int x19), (2, .int x22), (7, .int x20), (0, .ref (ad 48)), (1, .int x14), (4, .int x17), (5, .int x18), (6, .int x19)] dX6_daysToBirthday_112 rfl (by decide) rfl ?_
              refine lt_elim h (fun x23 e_x23 h => ?_)
              refine j_iinc C [(4, .int x23), (3, .int x19), (2, .int x22), (7, .int x20), (0, .ref (ad 48)), (1, .int x14), (5, .int x18), (6, .int x19)] 5 dX6_daysToBirthday_113 rfl ((iinc_eq ci_1).trans e_x23.symm) (by decide) rfl ?_
              refine j_goto (tgt := 7) C dX6_daysToBirthday_116 (by decide) ?_
              exact j_sub [4, 5, 2, 1, 0] rfl (ih _ _ _ _ h)
            · have h := (if_neg c21).symm.trans h
              exact j_sub [2, 4, 6, 0] rfl (HE78 _ _ _ _ h)
          refine j_if_ge (tgt := 61) C dX6_daysToBirthday_47 (by decide) (fun c24 => ?_) (fun c24 => ?_)
          · have h := (if_pos c24).symm.trans h
            refine j_iload_n C 4 rfl dX6_daysToBirthday_61 rfl ?_
            refine j_iload C 1 rfl dX6_daysToBirthday_62 ?_
            obtain ⟨r25, h26, h⟩ := bd1_elim h
            refine j_callS (As := [.int x2, .int r9]) (rest := []) C (kX6_daysToADay l B D ad cA hI S V L x2 r9 _ h26) mw_X6_daysToADay wd1398 wd1397 ⟨rfl, rfl, by decide, by decide⟩ ⟨Nat.zero_le _, Nat.zero_le _⟩ rfl rfl (Nat.le_of_ble_eq_true rfl) dX6_daysToBirthday_64 ?_
            exact j_sub [2, 3, 4, 5, 6, 1, 0] rfl (HK67_13 _ _ _ _ _ _ _ h)
          · have h := (if_neg c24).symm.trans h
            refine j_iload_n C 4 rfl dX6_daysToBirthday_50 rfl ?_
            refine j_ineg C dX6_daysToBirthday_51 ?_
            refine j_iload C 1 rfl dX6_daysToBirthday_52 ?_
            refine j_ineg C dX6_daysToBirthday_54 ?_
            obtain ⟨r27, h28, h⟩ := bd1_elim h
            refine j_callS (As := [.int (-x2), .int (-r9)]) (rest := []) C (kX6_daysToADay l B D ad cA hI S V L ((-x2)) ((-r9)) _ h28) mw_X6_daysToADay wd1398 wd1397 ⟨rfl, rfl, by decide, by decide⟩ ⟨Nat.zero_le _, Nat.zero_le _⟩ rfl rfl (Nat.le_of_ble_eq_true rfl) dX6_daysToBirthday_55 ?_
            refine j_goto (tgt := 67) C dX6_daysToBirthday_58 (by decide) ?_
            exact j_sub [2, 3, 4, 5, 6, 1, 0] rfl (HK67_13 _ _ _ _ _ _ _ h)
  refine j_iconst C dX6_daysToBirthday_0 ci_0 ?_
  refine j_istore_n C [(2, .int (0 : Int32)), (0, .ref (ad 48)), (1, .int a1)] dX6_daysToBirthday_1 rfl (by decide) rfl ?_
  refine j_iload_n C 2 rfl dX6_daysToBirthday_2 rfl ?_
  refine j_istore_n C [(3, .int a1), (2, .int (0 : Int32)), (0, .ref (ad 48)), (1, .int a1)] dX6_daysToBirthday_3 rfl (by decide) rfl ?_
  refine j_iconst C dX6_daysToBirthday_4 ci_0 ?_
  refine j_istore C [(4, .int (0 : Int32)), (3, .int a1), (2, .int (0 : Int32)), (0, .ref (ad 48)), (1, .int a1)] dX6_daysToBirthday_5 (by decide) rfl ?_
  refine bk_elim h (fun X78_33 e_X78_33 h => ?_)
  have HX78_33 : ∀ (x34 : Int32) (x35 : Int32) (x36 : Int32) (x37 : Int32), X78_33 x34 x35 x36 x37 = some r0 → jW p l e ({ frames := 5, cells := 0, slots := 0, locals := 118 }) s m args below meth c (MQ below (jQc D TC ad cA (some (.int r0)) s.heap.size S V L) args s 0 0 (jA ad TC s.heap.size)) D TC ad cA (jA ad TC s.heap.size) 9 0 0 78 [(1, .int x34), (3, .int x35), (5, .int x36), (7, .int x37)] [] S V L := by
    subst e_X78_33
    intro x34 x35 x36 x37 h
    refine j_iload_n C 1 rfl dX6_daysToBirthday_78 rfl ?_
    refine j_iload_n C 0 rfl dX6_daysToBirthday_79 rfl ?_
    refine j_isub C dX6_daysToBirthday_80 ?_
    refine j_iload C 3 rfl dX6_daysToBirthday_81 ?_
    refine j_iadd C dX6_daysToBirthday_83 ?_
    refine lt_elim h (fun x38 e_x38 h => ?_)
    refine j_top e_x38 ?_
    refine j_istore C [(8, .int x38), (1, .int x34), (3, .int x35), (5, .int x36), (7, .int x37)] dX6_daysToBirthday_84 (by decide) rfl ?_
    refine j_iload C 3 rfl dX6_daysToBirthday_86 ?_
    refine j_if_ge (tgt := 97) C dX6_daysToBirthday_88 (by decide) (fun c39 => ?_) (fun c39 => ?_)
    · have h := (if_pos c39).symm.trans h
      refine j_iload C 0 rfl dX6_daysToBirthday_97 ?_
      cases h
      exact j_iret C hr hlk rfl dX6_daysToBirthday_99
    · have h := (if_neg c39).symm.trans h
      refine j_iload C 0 rfl dX6_daysToBirthday_91 ?_
      refine j_ineg C dX6_daysToBirthday_93 ?_
      refine j_goto (tgt := 99) C dX6_daysToBirthday_94 (by decide) ?_
      cases h
      exact j_iret C hr hlk rfl dX6_daysToBirthday_99
  exact j_sub [3, 4, 2, 1, 0] rfl (H_fX6_daysToBirthday_48_L7 _ HX78_33 FU _ _ _ _ h)
theorem dX6_fartherOfBoth_0 : decode cX6_fartherOfBoth 0 = .ok (.iload_n 3, 1) := by decide +kernel
theorem dX6_fartherOfBoth_1 : decode cX6_fartherOfBoth 1 = .ok (.aload_n 0, 1) := by decide +kernel
theorem dX6_fartherOfBoth_2 : decode cX6_fartherOfBoth 2 = .ok (.getfield 9, 3) := by decide +kernel
theorem dX6_fartherOfBoth_5 : decode cX6_fartherOfBoth 5 = .ok (.getfield 73, 3) := by decide +kernel
theorem dX6_fartherOfBoth_8 : decode cX6_fartherOfBoth 8 = .ok (.iload_n 1, 1) := by decide +kernel
theorem dX6_fartherOfBoth_9 : decode cX6_fartherOfBoth 9 = .ok (.iaload, 1) := by decide +kernel
theorem dX6_fartherOfBoth_10 : decode cX6_fartherOfBoth 10 = .ok (.iload 4, 2) := by decide +kernel
theorem dX6_fartherOfBoth_12 : decode cX6_fartherOfBoth 12 = .ok (.imul, 1) := by decide +kernel
theorem dX6_fartherOfBoth_13 : decode cX6_fartherOfBoth 13 = .ok (.iadd, 1) := by decide +kernel
theorem dX6_fartherOfBoth_14 : decode cX6_fartherOfBoth 14 = .ok (.istore 5, 2) := by decide +kernel
theorem dX6_fartherOfBoth_16 : decode cX6_fartherOfBoth 16 = .ok (.bipush 24, 2) := by decide +kernel
theorem dX6_fartherOfBoth_18 : decode cX6_fartherOfBoth 18 = .ok (.iconst 2, 1) := by decide +kernel
theorem dX6_fartherOfBoth_19 : decode cX6_fartherOfBoth 19 = .ok (.iload_n 2, 1) := by decide +kernel
theorem dX6_fartherOfBoth_20 : decode cX6_fartherOfBoth 20 = .ok (.imul, 1) := by decide +kernel
theorem dX6_fartherOfBoth_21 : decode cX6_fartherOfBoth 21 = .ok (.bipush 60, 2) := by decide +kernel
theorem dX6_fartherOfBoth_23 : decode cX6_fartherOfBoth 23 = .ok (.isub, 1) := by decide +kernel
theorem dX6_fartherOfBoth_24 : decode cX6_fartherOfBoth 24 = .ok (.imul, 1) := by decide +kernel
theorem dX6_fartherOfBoth_25 : decode cX6_fartherOfBoth 25 = .ok (.aload_n 0, 1) := by decide +kernel
theorem dX6_fartherOfBoth_26 : decode cX6_fartherOfBoth 26 = .ok (.getfield 9, 3) := by decide +kernel
theorem dX6_fartherOfBoth_29 : decode cX6_fartherOfBoth 29 = .ok (.getfield 73, 3) := by decide +kernel
theorem dX6_fartherOfBoth_32 : decode cX6_fartherOfBoth 32 = .ok (.iload_n 1, 1) := by decide +kernel
theorem dX6_fartherOfBoth_33 : decode cX6_fartherOfBoth 33 = .ok (.iaload, 1) := by decide +kernel
theorem dX6_fartherOfBoth_34 : decode cX6_fartherOfBoth 34 = .ok (.aload_n 0, 1) := by decide +kernel
theorem dX6_fartherOfBoth_35 : decode cX6_fartherOfBoth 35 = .ok (.getfield 9, 3) := by decide +kernel
theorem dX6_fartherOfBoth_38 : decode cX6_fartherOfBoth 38 = .ok (.getfield 66, 3) := by decide +kernel
theorem dX6_fartherOfBoth_41 : decode cX6_fartherOfBoth 41 = .ok (.iload_n 1, 1) := by decide +kernel
theorem dX6_fartherOfBoth_42 : decode cX6_fartherOfBoth 42 = .ok (.iaload, 1) := by decide +kernel
theorem dX6_fartherOfBoth_43 : decode cX6_fartherOfBoth 43 = .ok (.iload 4, 2) := by decide +kernel
theorem dX6_fartherOfBoth_45 : decode cX6_fartherOfBoth 45 = .ok (.isub, 1) := by decide +kernel
theorem dX6_fartherOfBoth_46 : decode cX6_fartherOfBoth 46 = .ok (.imul, 1) := by decide +kernel
theorem dX6_fartherOfBoth_47 : decode cX6_fartherOfBoth 47 = .ok (.iadd, 1) := by decide +kernel
theorem dX6_fartherOfBoth_48 : decode cX6_fartherOfBoth 48 = .ok (.istore 6, 2) := by decide +kernel
theorem dX6_fartherOfBoth_50 : decode cX6_fartherOfBoth 50 = .ok (.iload 5, 2) := by decide +kernel
theorem dX6_fartherOfBoth_52 : decode cX6_fartherOfBoth 52 = .ok (.invokestatic 76, 3) := by decide +kernel
theorem dX6_fartherOfBoth_55 : decode cX6_fartherOfBoth 55 = .ok (.iload 6, 2) := by decide +kernel
theorem dX6_fartherOfBoth_57 : decode cX6_fartherOfBoth 57 = .ok (.invokestatic 76, 3) := by decide +kernel
theorem dX6_fartherOfBoth_60 : decode cX6_fartherOfBoth 60 = .ok (.invokestatic 41, 3) := by decide +kernel
theorem dX6_fartherOfBoth_63 : decode cX6_fartherOfBoth 63 = .ok (.ireturn, 1) := by decide +kernel
def fX6_fartherOfBoth_48 (V : Nat → Nat → Int32) (a1 : Int32) (a2 : Int32) (a3 : Int32) (a4 : Int32) : Option (Int32) :=
  gd (ib a1 6) (
  lt ((a3 + ((V 4 (a1).toNatClampNeg) * a4))) (fun x2 =>
  gd (ib a1 6) (
  gd (ib a1 6) (
  lt ((((24 : Int32) * (((2 : Int32) * a2) - (60 : Int32))) + ((V 4 (a1).toNatClampNeg) * ((V 6 (a1).toNatClampNeg) - a4)))) (fun x5 =>
  bd1 (fJ9_abs_0f7a4 x2) (fun r6 =>
  bd1 (fJ9_abs_0f7a4 x5) (fun r8 =>
  bd1 (fJ9_max_7cf53 r6 r8) (fun r10 =>
  some r10))))))))
set_option maxHeartbeats 4000000 in
set_option maxRecDepth 100000 in
theorem kX6_fartherOfBoth_48 (l : Launch) (B : jBT) (D : va_G) (ad : Nat → Nat) (cA : Nat → ClassId) (hI : jI ad TC) (S : Nat → Int32) (V : Nat → Nat → Int32) (L : Nat → Int64) (a1 : Int32) (a2 : Int32) (a3 : Int32) (a4 : Int32) (r0 : Int32) (h : fX6_fartherOfBoth_48 V a1 a2 a3 a4 = some r0) : jM l yX6_fartherOfBoth cX6_fartherOfBoth 7 (some .int) ({ frames := 1, cells := 0, slots := 0, locals := 21 }) B D TC ad cA [.ref (ad 48), .int a1, .int a2, .int a3, .int a4] S V L (some (.int r0)) S V L := by
  refine jM_of (plainFor_of_name (by decide)) TC_ok hI (Nat.le_of_ble_eq_true rfl) ?_
  intro p e s m args below meth c C hr hlk
  refine j_lv (lv2 := [(0, .ref (ad 48)), (1, .int a1), (2, .int a2), (3, .int a3), (4, .int a4)]) rfl ?_
  unfold fX6_fartherOfBoth_48 at h
  refine j_iload_n C 3 rfl dX6_fartherOfBoth_0 rfl ?_
  refine j_aload_n C 0 rfl dX6_fartherOfBoth_1 rfl ?_
  refine fg_X6_9_TC_48 C dX6_fartherOfBoth_2 ?_
  refine fg_X6_73_TC_3 C dX6_fartherOfBoth_5 ?_
  refine j_iload_n C 1 rfl dX6_fartherOfBoth_8 rfl ?_
  obtain ⟨g1, h⟩ := gd_elim h
  refine j_iald C tc_4 (ib_in g1) dX6_fartherOfBoth_9 ?_
  refine j_iload C 4 rfl dX6_fartherOfBoth_10 ?_
  refine j_imul C dX6_fartherOfBoth_12 ?_
  refine j_iadd C dX6_fartherOfBoth_13 ?_
  refine lt_elim h (fun x2 e_x2 h => ?_)
  refine j_top e_x2 ?_
  refine j_istore C [(5, .int x2), (0, .ref (ad 48)), (1, .int a1), (2, .int a2), (3, .int a3), (4, .int a4)] dX6_fartherOfBoth_14 (by decide) rfl ?_
  refine j_bipush C dX6_fartherOfBoth_16 cb_24 ?_
  refine j_iconst C dX6_fartherOfBoth_18 ci_2 ?_
  refine j_iload_n C 3 rfl dX6_fartherOfBoth_19 rfl ?_
  refine j_imul C dX6_fartherOfBoth_20 ?_
  refine j_bipush C dX6_fartherOfBoth_21 cb_60 ?_
  refine j_isub C dX6_fartherOfBoth_23 ?_
  refine j_imul C dX6_fartherOfBoth_24 ?_
  refine j_aload_n C 1 rfl dX6_fartherOfBoth_25 rfl ?_
  refine fg_X6_9_TC_48 C dX6_fartherOfBoth_26 ?_
  refine fg_X6_73_TC_3 C dX6_fartherOfBoth_29 ?_
  refine j_iload_n C 2 rfl dX6_fartherOfBoth_32 rfl ?_
  obtain ⟨g3, h⟩ := gd_elim h
  refine j_iald C tc_4 (ib_in g3) dX6_fartherOfBoth_33 ?_
  refine j_aload_n C 1 rfl dX6_fartherOfBoth_34 rfl ?_
  refine fg_X6_9_TC_48 C dX6_fartherOfBoth_35 ?_
  refine fg_X6_66_TC_3 C dX6_fartherOfBoth_38 ?_
  refine j_iload_n C 2 rfl dX6_fartherOfBoth_41 rfl ?_
  obtain ⟨g4, h⟩ := gd_elim h
  refine j_iald C tc_6 (ib_in g4) dX6_fartherOfBoth_42 ?_
  refine j_iload C 5 rfl dX6_fartherOfBoth_43 ?_
  refine j_isub C dX6_fartherOfBoth_45 ?_
  refine j_imul C dX6_fartherOfBoth_46 ?_
  refine j_iadd C dX6_fartherOfBoth_47 ?_
  refine lt_elim h (fun x5 e_x5 h => ?_)
  refine j_top e_x5 ?_
  refine j_istore C [(6, .int x5), (5, .int x2), (0, .ref (ad 48)), (1, .int a1), (2, .int a2), (3, .int a3), (4, .int a4)] dX6_fartherOfBoth_48 (by decide) rfl ?_
  refine j_iload C 1 rfl dX6_fartherOfBoth_50 ?_
  obtain ⟨r6, h7, h⟩ := bd1_elim h
  refine j_callS (As := [.int x2]) (rest := []) C (kJ9_abs_0f7a4 l B D ad cA hI S V L x2 _ h7) mw_J9_abs_0f7a4 wd1225 wd1417 ⟨rfl, rfl, by decide, by decide⟩ ⟨Nat.zero_le _, Nat.zero_le _⟩ rfl rfl (Nat.le_of_ble_eq_true rfl) dX6_fartherOfBoth_52 ?_
  refine j_iload C 0 rfl dX6_fartherOfBoth_55 ?_
  obtain ⟨r8, h9, h⟩ := bd1_elim h
  refine j_callS (As := [.int x5]) (rest := [.int r6]) C (kJ9_abs_0f7a4 l B D ad cA hI S V L x5 _ h9) mw_J9_abs_0f7a4 wd1225 wd1417 ⟨rfl, rfl, by decide, by decide⟩ ⟨Nat.zero_le _, Nat.zero_le _⟩ rfl rfl (Nat.le_of_ble_eq_true rfl) dX6_fartherOfBoth_57 ?_
  obtain ⟨r10, h11, h⟩ := bd1_elim h
  refine j_callS (As := [.int r6, .int r8]) (rest := []) C (kJ9_max_7cf53 l B D ad cA hI S V L r6 r8 _ h11) mw_J9_max_7cf53 wd770 wd1375 ⟨rfl, rfl, by decide, by decide⟩ ⟨Nat.zero_le _, Nat.zero_le _⟩ rfl rfl (Nat.le_of_ble_eq_true rfl) dX6_fartherOfBoth_60 ?_
  cases h
  exact j_iret C hr hlk rfl dX6_fartherOfBoth_63
