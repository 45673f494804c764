def fJ7_fill_53178_35_L5 : Nat → Int32 → Int32 → Int32 → (Nat → Nat → Int32) → Option ((Nat → Nat → Int32))
  | 0, _, _, _, _ => none
  | n + 1, x1, x2, x3, V4 =>
    (if x3 ≤ x2 then
    some V4
    else
    gd (ib x2 72) (
    lt (va_up V4 35 (upd (V4 35) (x2).toNatClampNeg x1)) (fun V7 =>
    lt (x2 + (1 : Int32)) (fun x8 =>
    fJ7_fill_53178_35_L5 n x1 x8 x3 V7))))
def fJ7_fill_53178_35 (V : Nat → Nat → Int32) (a1 : Int32) : Option ((Nat → Nat → Int32)) :=
  fJ7_fill_53178_35_L5 FU a1 (0 : Int32) (72 : Int32) V
set_option maxHeartbeats 4000000 in
set_option maxRecDepth 100000 in
theorem kJ7_fill_53178_35 (l : Launch) (B : jBT) (D : va_G) (ad : Nat → Nat) (cA : Nat → ClassId) (hI : jI ad TC) (S : Nat → Int32) (V : Nat → Nat → Int32) (L : Nat → Int64) (a1 : Int32) (V0 : Nat → Nat → Int32) (h : fJ7_fill_53178_35 V a1 = some V0) : jM l yJ7_fill_53178 cJ7_fill_53178 4 none ({ frames := 0, cells := 0, slots := 0, locals := 0 }) B D TC ad cA [.ref (ad 35), .int a1] S V L none S V0 L := by
  refine jM_of (plainFor_of_name (by decide)) TC_ok hI (Nat.le_of_ble_eq_true rfl) ?_
  intro p e s m args below meth c C hr hlk
  refine j_lv (lv2 := [(0, .ref (ad 35)), (1, .int a1)]) rfl ?_
  unfold fJ7_fill_53178_35 at h
  have H_fJ7_fill_53178_35_L5 : ∀ (n : Nat) (x1 : Int32) (x2 : Int32) (x3 : Int32) (V4 : Nat → Nat → Int32), fJ7_fill_53178_35_L5 n x1 x2 x3 V4 = some V0 → jW p l e ({ frames := 0, cells := 0, slots := 0, locals := 0 }) s m args below meth c (MQ below (jQc D TC ad cA none s.heap.size S V0 L) args s 0 0 (jA ad TC s.heap.size)) D TC ad cA (jA ad TC s.heap.size) 4 0 0 5 [(0, .ref (ad 35)), (1, .int x1), (2, .int x2), (3, .int x3)] [] S V4 L := by
    intro n
    induction n with
    | zero =>
      intro x1 x2 x3 V4 h
      cases (show (none : Option ((Nat → Nat → Int32))) = some V0 from h)
    | succ n ih =>
      intro x1 x2 x3 V4 h
      unfold fJ7_fill_53178_35_L5 at h
      refine j_iload_n C 2 rfl dJ7_fill_53178_5 rfl ?_
      refine j_iload_n C 3 rfl dJ7_fill_53178_6 rfl ?_
      refine j_icmp_ge (tgt := 20) C dJ7_fill_53178_7 (by decide) (fun c5 => ?_) (fun c5 => ?_)
      · have h := (if_pos c5).symm.trans h
        cases h
        exact j_vret C hr hlk rfl dJ7_fill_53178_20
      · have h := (if_neg c5).symm.trans h
        refine j_aload_n C 0 rfl dJ7_fill_53178_10 rfl ?_
        refine j_iload_n C 2 rfl dJ7_fill_53178_11 rfl ?_
        refine j_iload_n C 1 rfl dJ7_fill_53178_12 rfl ?_
        obtain ⟨g6, h⟩ := gd_elim h
        refine j_iast C tc_35 (ib_in g6) dJ7_fill_53178_13 ?_
        refine lt_elim h (fun V7 e_V7 h => ?_)
        refine j_V e_V7 ?_
        refine lt_elim h (fun x8 e_x8 h => ?_)
        refine j_iinc C [(2, .int x8), (0, .ref (ad 35)), (1, .int x1), (3, .int x3)] 2 dJ7_fill_53178_14 rfl ((iinc_eq ci_1).trans e_x8.symm) (by decide) rfl ?_
        refine j_goto (tgt := 5) C dJ7_fill_53178_17 (by decide) ?_
        exact j_sub [1, 2, 0, 3] rfl (ih _ _ _ _ h)
  refine j_iconst C dJ7_fill_53178_0 ci_0 ?_
  refine j_istore_n C [(2, .int (0 : Int32)), (0, .ref (ad 35)), (1, .int a1)] dJ7_fill_53178_1 rfl (by decide) rfl ?_
  refine j_aload_n C 1 rfl dJ7_fill_53178_2 rfl ?_
  refine j_alen (v := (72 : Int32)) C tc_35 (by decide) dJ7_fill_53178_3 ?_
  refine j_istore_n C [(3, .int (72 : Int32)), (2, .int (0 : Int32)), (0, .ref (ad 35)), (1, .int a1)] dJ7_fill_53178_4 rfl (by decide) rfl ?_
  exact j_sub [2, 3, 1, 0] rfl (H_fJ7_fill_53178_35_L5 FU _ _ _ _ h)
theorem dX4_clear_0 : decode cX4_clear 0 = .ok (.aload_n 0, 1) := by decide +kernel
theorem dX4_clear_1 : decode cX4_clear 1 = .ok (.iconst 0, 1) := by decide +kernel
theorem dX4_clear_2 : decode cX4_clear 2 = .ok (.putfield 41, 3) := by decide +kernel
theorem dX4_clear_5 : decode cX4_clear 5 = .ok (.aload_n 0, 1) := by decide +kernel
theorem dX4_clear_6 : decode cX4_clear 6 = .ok (.getfield 24, 3) := by decide +kernel
theorem dX4_clear_9 : decode cX4_clear 9 = .ok (.iconst (-1), 1) := by decide +kernel
theorem dX4_clear_10 : decode cX4_clear 10 = .ok (.invokestatic 35, 3) := by decide +kernel
theorem dX4_clear_13 : decode cX4_clear 13 = .ok (.return_, 1) := by decide +kernel
def fX4_clear_30 (S : Nat → Int32) (V : Nat → Nat → Int32) : Option ((Nat → Int32) × (Nat → Nat → Int32)) :=
  lt (va_up S 3002 (0 : Int32)) (fun S1 =>
  bd1 (fJ7_fill_53178_35 V (-1 : Int32)) (fun V2 =>
  some (S1, V2)))
set_option maxHeartbeats 4000000 in
set_option maxRecDepth 100000 in
theorem kX4_clear_30 (l : Launch) (B : jBT) (D : va_G) (ad : Nat → Nat) (cA : Nat → ClassId) (hI : jI ad TC) (S : Nat → Int32) (V : Nat → Nat → Int32) (L : Nat → Int64) (S0 : Nat → Int32) (V0 : Nat → Nat → Int32) (h : fX4_clear_30 S V = some (S0, V0)) : jM l yX4_clear cX4_clear 1 none ({ frames := 1, cells := 0, slots := 0, locals := 23 }) B D TC ad cA [.ref (ad 30)] S V L none S0 V0 L := by
  refine jM_of (plainFor_of_name (by decide)) TC_ok hI (Nat.le_of_ble_eq_true rfl) ?_
  intro p e s m args below meth c C hr hlk
  refine j_lv (lv2 := [(0, .ref (ad 30))]) rfl ?_
  unfold fX4_clear_30 at h
  refine j_aload_n C 0 rfl dX4_clear_0 rfl ?_
  refine j_iconst C dX4_clear_1 ci_0 ?_
  refine fp_X4_41_TC_30 C dX4_clear_2 ?_
  refine lt_elim h (fun S1 e_S1 h => ?_)
  refine j_S e_S1 ?_
  refine j_aload_n C 0 rfl dX4_clear_5 rfl ?_
  refine fg_X4_24_TC_30 C dX4_clear_6 ?_
  refine j_iconst C dX4_clear_9 ci_m1 ?_
  obtain ⟨V2, h3, h⟩ := bd1_elim h
  refine j_callS (As := [.ref (ad 35), .int (-1 : Int32)]) (rest := []) C (kJ7_fill_53178_35 l B D ad cA hI S1 V L (-1 : Int32) _ h3) mw_J7_fill_53178 wd340 wd339 ⟨rfl, rfl, by decide, by decide⟩ ⟨Nat.zero_le _, Nat.zero_le _⟩ rfl rfl (Nat.le_of_ble_eq_true rfl) dX4_clear_10 ?_
  cases h
  exact j_vret C hr hlk rfl dX4_clear_13
theorem dX4_hoursInPauses_0 : decode cX4_hoursInPauses 0 = .ok (.iconst 0, 1) := by decide +kernel
theorem dX4_hoursInPauses_1 : decode cX4_hoursInPauses 1 = .ok (.istore_n 2, 1) := by decide +kernel
theorem dX4_hoursInPauses_2 : decode cX4_hoursInPauses 2 = .ok (.iconst 0, 1) := by decide +kernel
theorem dX4_hoursInPauses_3 : decode cX4_hoursInPauses 3 = .ok (.istore_n 3, 1) := by decide +kernel
theorem dX4_hoursInPauses_4 : decode cX4_hoursInPauses 4 = .ok (.iload_n 3, 1) := by decide +kernel
theorem dX4_hoursInPauses_5 : decode cX4_hoursInPauses 5 = .ok (.aload_n 0, 1) := by decide +kernel
theorem dX4_hoursInPauses_6 : decode cX4_hoursInPauses 6 = .ok (.getfield 41, 3) := by decide +kernel
theorem dX4_hoursInPauses_9 : decode cX4_hoursInPauses 9 = .ok (.if_icmp .ge 47, 3) := by decide +kernel
theorem dX4_hoursInPauses_12 : decode cX4_hoursInPauses 12 = .ok (.aload_n 0, 1) := by decide +kernel
theorem dX4_hoursInPauses_13 : decode cX4_hoursInPauses 13 = .ok (.getfield 9, 3) := by decide +kernel
theorem dX4_hoursInPauses_16 : decode cX4_hoursInPauses 16 = .ok (.iload_n 3, 1) := by decide +kernel
theorem dX4_hoursInPauses_17 : decode cX4_hoursInPauses 17 = .ok (.iaload, 1) := by decide +kernel
theorem dX4_hoursInPauses_18 : decode cX4_hoursInPauses 18 = .ok (.iload_n 1, 1) := by decide +kernel
theorem dX4_hoursInPauses_19 : decode cX4_hoursInPauses 19 = .ok (.if_icmp .ne 31, 3) := by decide +kernel
theorem dX4_hoursInPauses_22 : decode cX4_hoursInPauses 22 = .ok (.aload_n 0, 1) := by decide +kernel
theorem dX4_hoursInPauses_23 : decode cX4_hoursInPauses 23 = .ok (.getfield 15, 3) := by decide +kernel
theorem dX4_hoursInPauses_26 : decode cX4_hoursInPauses 26 = .ok (.iload_n 3, 1) := by decide +kernel
theorem dX4_hoursInPauses_27 : decode cX4_hoursInPauses 27 = .ok (.iaload, 1) := by decide +kernel
theorem dX4_hoursInPauses_28 : decode cX4_hoursInPauses 28 = .ok (.iconst 2, 1) := by decide +kernel
theorem dX4_hoursInPauses_29 : decode cX4_hoursInPauses 29 = .ok (.if_icmp .ne 21, 3) := by decide +kernel
theorem dX4_hoursInPauses_32 : decode cX4_hoursInPauses 32 = .ok (.iload_n 2, 1) := by decide +kernel
theorem dX4_hoursInPauses_33 : decode cX4_hoursInPauses 33 = .ok (.aload_n 0, 1) := by decide +kernel
theorem dX4_hoursInPauses_34 : decode cX4_hoursInPauses 34 = .ok (.getfield 21, 3) := by decide +kernel
theorem dX4_hoursInPauses_37 : decode cX4_hoursInPauses 37 = .ok (.iload_n 3, 1) := by decide +kernel
theorem dX4_hoursInPauses_38 : decode cX4_hoursInPauses 38 = .ok (.iaload, 1) := by decide +kernel
theorem dX4_hoursInPauses_39 : decode cX4_hoursInPauses 39 = .ok (.aload_n 0, 1) := by decide +kernel
theorem dX4_hoursInPauses_40 : decode cX4_hoursInPauses 40 = .ok (.getfield 18, 3) := by decide +kernel
theorem dX4_hoursInPauses_43 : decode cX4_hoursInPauses 43 = .ok (.iload_n 3, 1) := by decide +kernel
theorem dX4_hoursInPauses_44 : decode cX4_hoursInPauses 44 = .ok (.iaload, 1) := by decide +kernel
theorem dX4_hoursInPauses_45 : decode cX4_hoursInPauses 45 = .ok (.isub, 1) := by decide +kernel
theorem dX4_hoursInPauses_46 : decode cX4_hoursInPauses 46 = .ok (.iconst 1, 1) := by decide +kernel
theorem dX4_hoursInPauses_47 : decode cX4_hoursInPauses 47 = .ok (.iadd, 1) := by decide +kernel
theorem dX4_hoursInPauses_48 : decode cX4_hoursInPauses 48 = .ok (.iadd, 1) := by decide +kernel
theorem dX4_hoursInPauses_49 : decode cX4_hoursInPauses 49 = .ok (.istore_n 2, 1) := by decide +kernel
theorem dX4_hoursInPauses_50 : decode cX4_hoursInPauses 50 = .ok (.iinc 3 1, 3) := by decide +kernel
theorem dX4_hoursInPauses_53 : decode cX4_hoursInPauses 53 = .ok (.goto (-49), 3) := by decide +kernel
theorem dX4_hoursInPauses_56 : decode cX4_hoursInPauses 56 = .ok (.iload_n 2, 1) := by decide +kernel
theorem dX4_hoursInPauses_57 : decode cX4_hoursInPauses 57 = .ok (.ireturn, 1) := by decide +kernel
def fX4_hoursInPauses_30_L4 (S : Nat → Int32) (V : Nat → Nat → Int32) : Nat → Int32 → Int32 → Int32 → Option (Int32)
  | 0, _, _, _ => none
  | n + 1, x1, x2, x3 =>
    (if (S 3002) ≤ x3 then
    some x2
    else
    gd (ib x3 13) (
    bk (fun (x7 : Int32) (x8 : Int32) (x9 : Int32) =>
    lt (x9 + (1 : Int32)) (fun x10 =>
    fX4_hoursInPauses_30_L4 S V n x7 x8 x10)) (fun K50_6 =>
    (if (V 31 (x3).toNatClampNeg) = x1 then
    gd (ib x3 13) (
    (if (V 32 (x3).toNatClampNeg) = (2 : Int32) then
    gd (ib x3 13) (
    gd (ib x3 13) (
    lt ((x2 + (((V 34 (x3).toNatClampNeg) - (V 33 (x3).toNatClampNeg)) + (1 : Int32)))) (fun x16 =>
    K50_6 x1 x16 x3)))
    else
    K50_6 x1 x2 x3))
    else
    K50_6 x1 x2 x3))))
def fX4_hoursInPauses_30 (S : Nat → Int32) (V : Nat → Nat → Int32) (a1 : Int32) : Option (Int32) :=
  fX4_hoursInPauses_30_L4 S V FU a1 (0 : Int32) (0 : Int32)
set_option maxHeartbeats 4000000 in
set_option maxRecDepth 100000 in
theorem kX4_hoursInPauses_30 (l : Launch) (B : jBT) (D : va_G) (ad : Nat → Nat) (cA : Nat → ClassId) (hI : jI ad TC) (S : Nat → Int32) (V : Nat → Nat → Int32) (L : Nat → Int64) (a1 : Int32) (r0 : Int32) (h : fX4_hoursInPauses_30 S V a1 = some r0) : jM l yX4_hoursInPauses cX4_hoursInPauses 4 (some .int) ({ frames := 0, cells := 0, slots := 0, locals := 0 }) B D TC ad cA [.ref (ad 30), .int a1] S V L (some (.int r0)) S V L := by
  refine jM_of (plainFor_of_name (by decide)) TC_ok hI (Nat.le_of_ble_eq_true rfl) ?_
  intro p e s m args below meth c C hr hlk
  refine j_lv (lv2 := [(0, .ref (ad 30)), (1, .int a1)]) rfl ?_
  unfold fX4_hoursInPauses_30 at h
  have H_fX4_hoursInPauses_30_L4 : ∀ (n : Nat) (x1 : Int32) (x2 : Int32) (x3 : Int32), fX4_hoursInPauses_30_L4 S V n x1 x2 x3 = some r0 → jW p l e ({ frames := 0, cells := 0, slots := 0, locals := 0 }) s m args below meth c (MQ below (jQc D TC ad cA (some (.int r0)) s.heap.size S V L) args s 0 0 (jA ad TC s.heap.size)) D TC ad cA (jA ad TC s.heap.size) 4 0 0 4 [(0, .ref (ad 30)), (1, .int x1), (2, .int x2), (3, .int x3)] [] S V L := by
    intro n
    induction n with
    | zero =>
      intro x1 x2 x3 h
      cases (show (none : Option (Int32)) = some r0 from h)
    | succ n ih =>
      intro x1 x2 x3 h
      unfold fX4_hoursInPauses_30_L4 at h
      refine j_iload_n C 3 rfl dX4_hoursInPauses_4 rfl ?_
      refine j_aload_n C 0 rfl dX4_hoursInPauses_5 rfl ?_
      refine fg_X4_41_TC_30 C dX4_hoursInPauses_6 ?_
      refine j_icmp_ge (tgt := 56) C dX4_hoursInPauses_9 (by decide) (fun c4 => ?_) (fun c4 => ?_)
      · have h := (if_pos c4).symm.trans h
        refine j_iload_n C 2 rfl dX4_hoursInPauses_56 rfl ?_
        cases h
        exact j_iret C hr hlk rfl dX4_hoursInPauses_57
      · have h := (if_neg c4).symm.trans h
        refine j_aload_n C 0 rfl dX4_hoursInPauses_12 rfl ?_
        refine fg_X4_9_TC_30 C dX4_hoursInPauses_13 ?_
        refine j_iload_n C 3 rfl dX4_hoursInPauses_16 rfl ?_
        obtain ⟨g5, h⟩ := gd_elim h
        refine j_iald C tc_31 (ib_in g5) dX4_hoursInPauses_17 ?_
        refine j_iload_n C 1 rfl dX4_hoursInPauses_18 rfl ?_
        refine bk_elim h (fun K50_6 e_K50_6 h => ?_)
        have HK50_6 : ∀ (x7 : Int32) (x8 : Int32) (x9 : Int32), K50_6 x7 x8 x9 = some r0 → jW p l e ({ frames := 0, cells := 0, slots := 0, locals := 0 }) s m args below meth c (MQ below (jQc D TC ad cA (some (.int r0)) s.heap.size S V L) args s 0 0 (jA ad TC s.heap.size)) D TC ad cA (jA ad TC s.heap.size) 4 0 0 50 [(0, .ref (ad 30)), (1, .int x7), (2, .int x8), (3, .int x9)] [] S V L := by
          subst e_K50_6
          intro x7 x8 x9 h
          refine lt_elim h (fun x10 e_x10 h => ?_)
          refine j_iinc C [(3, .int x10), (0, .ref (ad 30)), (1, .int x7), (2, .int x8)] 3 dX4_hoursInPauses_50 rfl ((iinc_eq ci_1).trans e_x10.symm) (by decide) rfl ?_
          refine j_goto (tgt := 4) C dX4_hoursInPauses_53 (by decide) ?_
          exact j_sub [1, 2, 3, 0] rfl (ih _ _ _ h)
        refine j_icmp_ne (tgt := 50) C dX4_hoursInPauses_19 (by decide) (fun c11 => ?_) (fun c11 => ?_)
        · have h := (if_neg c11).symm.trans h
          exact j_sub [0, 1, 2, 3] rfl (HK50_6 _ _ _ h)
        · have h := (if_pos c11).symm.trans h
          refine j_aload_n C 0 rfl dX4_hoursInPauses_22 rfl ?_
          refine fg_X4_15_TC_30 C dX4_hoursInPauses_23 ?_
          refine j_iload_n C 3 rfl dX4_hoursInPauses_26 rfl ?_
          obtain ⟨g12, h⟩ := gd_elim h
          refine j_iald C tc_32 (ib_in g12) dX4_hoursInPauses_27 ?_
          refine j_iconst C dX4_hoursInPauses_28 ci_2 ?_
          refine j_icmp_ne (tgt := 50) C dX4_hoursInPauses_29 (by decide) (fun c13 => ?_) (fun c13 => ?_)
          · have h := (if_neg c13).symm.trans h
            exact j_sub [0, 1, 2, 3] rfl (HK50_6 _ _ _ h)
          · have h := (if_pos c13).symm.trans h
            refine j_iload_n C 2 rfl dX4_hoursInPauses_32 rfl ?_
            refine j_aload_n C 0 rfl dX4_hoursInPauses_33 rfl ?_
            refine fg_X4_21_TC_30 C dX4_hoursInPauses_34 ?_
            refine j_iload_n C 3 rfl dX4_hoursInPauses_37 rfl ?_
            obtain ⟨g14, h⟩ := gd_elim h
            refine j_iald C tc_34 (ib_in g14) dX4_hoursInPauses_38 ?_
            refine j_aload_n C 0 rfl dX4_hoursInPauses_39 rfl ?_
            refine fg_X4_18_TC_30 C dX4_hoursInPauses_40 ?_
            refine j_iload_n C 3 rfl dX4_hoursInPauses_43 rfl ?_
            obtain ⟨g15, h⟩ := gd_elim h
            refine j_iald C tc_33 (ib_in g15) dX4_hoursInPauses_44 ?_
            refine j_isub C dX4_hoursInPauses_45 ?_
            refine j_iconst C dX4_hoursInPauses_46 ci_1 ?_
            refine j_iadd C dX4_hoursInPauses_47 ?_
            refine j_iadd C dX4_hoursInPauses_48 ?_
            refine lt_elim h (fun x16 e_x16 h => ?_)
            refine j_top e_x16 ?_
            refine j_istore_n C [(2, .int x16), (0, .ref (ad 30)), (1, .int x1), (3, .int x3)] dX4_hoursInPauses_49 rfl (by decide) rfl ?_
            exact j_sub [1, 2, 0, 3] rfl (HK50_6 _ _ _ h)
  refine j_iconst C dX4_hoursInPauses_0 ci_0 ?_
  refine j_istore_n C [(2, .int (0 : Int32)), (0, .ref (ad 30)), (1, .int a1)] dX4_hoursInPauses_1 rfl (by decide) rfl ?_
  refine j_iconst C dX4_hoursInPauses_2 ci_0 ?_
  refine j_istore_n C [(3, .int (0 : Int32)), (2, .int (0 : Int32)), (0, .ref (ad 30)), (1, .int a1)] dX4_hoursInPauses_3 rfl (by decide) rfl ?_
  exact j_sub [2, 3, 1, 0] rfl (H_fX4_hoursInPauses_30_L4 FU _ _ _ h)
theorem dX4_hoursInHalves_0 : decode cX4_hoursInHalves 0 = .ok (.aload_n 0, 1) := by decide +kernel
theorem dX4_hoursInHalves_1 : decode cX4_hoursInHalves 1 = .ok (.iload_n 1, 1) := by decide +kernel
theorem dX4_hoursInHalves_2 : decode cX4_hoursInHalves 2 = .ok (.invokevirtual 69, 3) := by decide +kernel
theorem dX4_hoursInHalves_5 : decode cX4_hoursInHalves 5 = .ok (.invokestatic 108, 3) := by decide +kernel
theorem dX4_hoursInHalves_8 : decode cX4_hoursInHalves 8 = .ok (.aload_n 0, 1) := by decide +kernel
theorem dX4_hoursInHalves_9 : decode cX4_hoursInHalves 9 = .ok (.iload_n 1, 1) := by decide +kernel
theorem dX4_hoursInHalves_10 : decode cX4_hoursInHalves 10 = .ok (.invokevirtual 113, 3) := by decide +kernel
theorem dX4_hoursInHalves_13 : decode cX4_hoursInHalves 13 = .ok (.isub, 1) := by decide +kernel
theorem dX4_hoursInHalves_14 : decode cX4_hoursInHalves 14 = .ok (.ireturn, 1) := by decide +kernel
def fX4_hoursInHalves_30 (S : Nat → Int32) (V : Nat → Nat → Int32) (a1 : Int32) : Option (Int32) :=
  bd1 (fX4_hoursOf_30 S V a1) (fun r1 =>
  bd1 (fJ6_bitCount_0f7a4 r1) (fun r3 =>
  bd1 (fX4_hoursInPauses_30 S V a1) (fun r5 =>
  some ((r3 - r5)))))
set_option maxHeartbeats 4000000 in
set_option maxRecDepth 100000 in
theorem kX4_hoursInHalves_30 (l : Launch) (B : jBT) (D : va_G) (ad : Nat → Nat) (cA : Nat → ClassId) (hI : jI ad TC) (S : Nat → Int32) (V : Nat → Nat → Int32) (L : Nat → Int64) (a1 : Int32) (r0 : Int32) (h : fX4_hoursInHalves_30 S V a1 = some r0) : jM l yX4_hoursInHalves cX4_hoursInHalves 2 (some .int) ({ frames := 2, cells := 0, slots := 0, locals := 44 }) B D TC ad cA [.ref (ad 30), .int a1] S V L (some (.int r0)) S V L := by
  refine jM_of (plainFor_of_name (by decide)) TC_ok hI (Nat.le_of_ble_eq_true rfl) ?_
  intro p e s m args below meth c C hr hlk
  refine j_lv (lv2 := [(0, .ref (ad 30)), (1, .int a1)]) rfl ?_
  unfold fX4_hoursInHalves_30 at h
  refine j_aload_n C 0 rfl dX4_hoursInHalves_0 rfl ?_
  refine j_iload_n C 1 rfl dX4_hoursInHalves_1 rfl ?_
  obtain ⟨r1, h2, h⟩ := bd1_elim h
  refine j_callV (As := [.int a1]) (rest := []) C (kX4_hoursOf_30 l B D ad cA hI S V L a1 _ h2) mw_X4_hoursOf wd592 wd593 wd591 tc_30 rfl rfl ⟨rfl, rfl, by decide, by decide⟩ ⟨Nat.zero_le _, Nat.zero_le _⟩ rfl rfl (Nat.le_of_ble_eq_true rfl) dX4_hoursInHalves_2 ?_
  obtain ⟨r3, h4, h⟩ := bd1_elim h
  refine j_callS (As := [.int r1]) (rest := []) C (kJ6_bitCount_0f7a4 l B D ad cA hI S V L r1 _ h4) mw_J6_bitCount_0f7a4 wd1092 wd1091 ⟨rfl, rfl, by decide, by decide⟩ ⟨Nat.zero_le _, Nat.zero_le _⟩ rfl rfl (Nat.le_of_ble_eq_true rfl) dX4_hoursInHalves_5 ?_
  refine j_aload_n C 0 rfl dX4_hoursInHalves_8 rfl ?_
  refine j_iload_n C 1 rfl dX4_hoursInHalves_9 rfl ?_
  obtain ⟨r5, h6, h⟩ := bd1_elim h
  refine j_callV (As := [.int a1]) (rest := [.int r3]) C (kX4_hoursInPauses_30 l B D ad cA hI S V L a1 _ h6) mw_X4_hoursInPauses wd1098 wd1099 wd1097 tc_30 rfl rfl ⟨rfl, rfl, by decide, by decide⟩ ⟨Nat.zero_le _, Nat.zero_le _⟩ rfl rfl (Nat.le_of_ble_eq_true rfl) dX4_hoursInHalves_10 ?_
  refine j_isub C dX4_hoursInHalves_13 ?_
  cases h
  exact j_iret C hr hlk rfl dX4_hoursInHalves_14
theorem dX4_openPauses_0 : decode cX4_openPauses 0 = .ok (.aload_n 0, 1) := by decide +kernel
theorem dX4_openPauses_1 : decode cX4_openPauses 1 = .ok (.iconst 0, 1) := by decide +kernel
theorem dX4_openPauses_2 : decode cX4_openPauses 2 = .ok (.invokevirtual 65, 3) := by decide +kernel
theorem dX4_openPauses_5 : decode cX4_openPauses 5 = .ok (.aload_n 0, 1) := by decide +kernel
theorem dX4_openPauses_6 : decode cX4_openPauses 6 = .ok (.iconst 1, 1) := by decide +kernel
theorem dX4_openPauses_7 : decode cX4_openPauses 7 = .ok (.invokevirtual 65, 3) := by decide +kernel
theorem dX4_openPauses_10 : decode cX4_openPauses 10 = .ok (.iand, 1) := by decide +kernel
theorem dX4_openPauses_11 : decode cX4_openPauses 11 = .ok (.aload_n 0, 1) := by decide +kernel
theorem dX4_openPauses_12 : decode cX4_openPauses 12 = .ok (.iconst 2, 1) := by decide +kernel
theorem dX4_openPauses_13 : decode cX4_openPauses 13 = .ok (.invokevirtual 65, 3) := by decide +kernel
theorem dX4_openPauses_16 : decode cX4_openPauses 16 = .ok (.iconst (-1), 1) := by decide +kernel
theorem dX4_openPauses_17 : decode cX4_openPauses 17 = .ok (.ixor, 1) := by decide +kernel
theorem dX4_openPauses_18 : decode cX4_openPauses 18 = .ok (.iand, 1) := by decide +kernel
theorem dX4_openPauses_19 : decode cX4_openPauses 19 = .ok (.ireturn, 1) := by decide +kernel
def fX4_openPauses_30 (S : Nat → Int32) (V : Nat → Nat → Int32) : Option (Int32) :=
  bd1 (fX4_letHours_30 S V (0 : Int32)) (fun r1 =>
  bd1 (fX4_letHours_30 S V (1 : Int32)) (fun r3 =>
  bd1 (fX4_letHours_30 S V (2 : Int32)) (fun r5 =>
  some (((r1 &&& r3) &&& (r5 ^^^ (-1 : Int32)))))))
set_option maxHeartbeats 4000000 in
set_option maxRecDepth 100000 in
theorem kX4_openPauses_30 (l : Launch) (B : jBT) (D : va_G) (ad : Nat → Nat) (cA : Nat → ClassId) (hI : jI ad TC) (S : Nat → Int32) (V : Nat → Nat → Int32) (L : Nat → Int64) (r0 : Int32) (h : fX4_openPauses_30 S V = some r0) : jM l yX4_openPauses cX4_openPauses 1 (some .int) ({ frames := 2, cells := 0, slots := 0, locals := 44 }) B D TC ad cA [.ref (ad 30)] S V L (some (.int r0)) S V L := by
  refine jM_of (plainFor_of_name (by decide)) TC_ok hI (Nat.le_of_ble_eq_true rfl) ?_
  intro p e s m args below meth c C hr hlk
  refine j_lv (lv2 := [(0, .ref (ad 30))]) rfl ?_
  unfold fX4_openPauses_30 at h
  refine j_aload_n C 0 rfl dX4_openPauses_0 rfl ?_
  refine j_iconst C dX4_openPauses_1 ci_0 ?_
  obtain ⟨r1, h2, h⟩ := bd1_elim h
  refine j_callV (As := [.int (0 : Int32)]) (rest := []) C (kX4_letHours_30 l B D ad cA hI S V L (0 : Int32) _ h2) mw_X4_letHours wd589 wd1 wd587 tc_30 rfl rfl ⟨rfl, rfl, by decide, by decide⟩ ⟨Nat.zero_le _, Nat.zero_le _⟩ rfl rfl (Nat.le_of_ble_eq_true rfl) dX4_openPauses_2 ?_
  refine j_aload_n C 0 rfl dX4_openPauses_5 rfl ?_
  refine j_iconst C dX4_openPauses_6 ci_1 ?_
  obtain ⟨r3, h4, h⟩ := bd1_elim h
  refine j_callV (As := [.int (1 : Int32)]) (rest := [.int r1]) C (kX4_letHours_30 l B D ad cA hI S V L (1 : Int32) _ h4) mw_X4_letHours wd589 wd1 wd587 tc_30 rfl rfl ⟨rfl, rfl, by decide, by decide⟩ ⟨Nat.zero_le _, Nat.zero_le _⟩ rfl rfl (Nat.le_of_ble_eq_true rfl) dX4_openPauses_7 ?_
  refine j_iand C dX4_openPauses_10 ?_
  refine j_aload_n C 0 rfl dX4_openPauses_11 rfl ?_
  refine j_iconst C dX4_openPauses_12 ci_2 ?_
  obtain ⟨r5, h6, h⟩ := bd1_elim h
  refine j_callV (As := [.int (2 : Int32)]) (rest := [.int (r1 &&& r3)]) C (kX4_letHours_30 l B D ad cA hI S V L (2 : Int32) _ h6) mw_X4_letHours wd589 wd1 wd587 tc_30 rfl rfl ⟨rfl, rfl, by decide, by decide⟩ ⟨Nat.zero_le _, Nat.zero_le _⟩ rfl rfl (Nat.le_of_ble_eq_true rfl) dX4_openPauses_13 ?_
  refine j_iconst C dX4_openPauses_16 ci_m1 ?_
  refine j_ixor C dX4_openPauses_17 ?_
  refine j_iand C dX4_openPauses_18 ?_
  cases h
  exact j_iret C hr hlk rfl dX4_openPauses_19
theorem dX4_rentOf_0 : decode cX4_rentOf 0 = .ok (.aload_n 0, 1) := by decide +kernel
theorem dX4_rentOf_1 : decode cX4_rentOf 1 = .ok (.getfield 27, 3) := by decide +kernel
theorem dX4_rentOf_4 : decode cX4_rentOf 4 = .ok (.getfield 116, 3) := by decide +kernel
theorem dX4_rentOf_7 : decode cX4_rentOf 7 = .ok (.iload_n 1, 1) := by decide +kernel
theorem dX4_rentOf_8 : decode cX4_rentOf 8 = .ok (.iaload, 1) := by decide +kernel
theorem dX4_rentOf_9 : decode cX4_rentOf 9 = .ok (.istore_n 2, 1) := by decide +kernel
theorem dX4_rentOf_10 : decode cX4_rentOf 10 = .ok (.iload_n 2, 1) := by decide +kernel
theorem dX4_rentOf_11 : decode cX4_rentOf 11 = .ok (.aload_n 0, 1) := by decide +kernel
theorem dX4_rentOf_12 : decode cX4_rentOf 12 = .ok (.iload_n 1, 1) := by decide +kernel
theorem dX4_rentOf_13 : decode cX4_rentOf 13 = .ok (.invokevirtual 119, 3) := by decide +kernel
theorem dX4_rentOf_16 : decode cX4_rentOf 16 = .ok (.imul, 1) := by decide +kernel
theorem dX4_rentOf_17 : decode cX4_rentOf 17 = .ok (.iload_n 2, 1) := by decide +kernel
theorem dX4_rentOf_18 : decode cX4_rentOf 18 = .ok (.aload_n 0, 1) := by decide +kernel
theorem dX4_rentOf_19 : decode cX4_rentOf 19 = .ok (.iload_n 1, 1) := by decide +kernel
theorem dX4_rentOf_20 : decode cX4_rentOf 20 = .ok (.invokevirtual 113, 3) := by decide +kernel
theorem dX4_rentOf_23 : decode cX4_rentOf 23 = .ok (.imul, 1) := by decide +kernel
theorem dX4_rentOf_24 : decode cX4_rentOf 24 = .ok (.iconst 1, 1) := by decide +kernel
theorem dX4_rentOf_25 : decode cX4_rentOf 25 = .ok (.iadd, 1) := by decide +kernel
theorem dX4_rentOf_26 : decode cX4_rentOf 26 = .ok (.iconst 2, 1) := by decide +kernel
theorem dX4_rentOf_27 : decode cX4_rentOf 27 = .ok (.idiv, 1) := by decide +kernel
theorem dX4_rentOf_28 : decode cX4_rentOf 28 = .ok (.iadd, 1) := by decide +kernel
theorem dX4_rentOf_29 : decode cX4_rentOf 29 = .ok (.ireturn, 1) := by decide +kernel
def fX4_rentOf_30 (S : Nat → Int32) (V : Nat → Nat → Int32) (a1 : Int32) : Option (Int32) :=
  gd (ib a1 6) (
  lt ((V 7 (a1).toNatClampNeg)) (fun x2 =>
  bd1 (fX4_hoursInHalves_30 S V a1) (fun r3 =>
  bd1 (fX4_hoursInPauses_30 S V a1) (fun r5 =>
  some (((x2 * r3) + (((x2 * r5) + (1 : Int32)) / (2 : Int32))))))))
set_option maxHeartbeats 4000000 in
set_option maxRecDepth 100000 in
theorem kX4_rentOf_30 (l : Launch) (B : jBT) (D : va_G) (ad : Nat → Nat) (cA : Nat → ClassId) (hI : jI ad TC) (S : Nat → Int32) (V : Nat → Nat → Int32) (L : Nat → Int64) (a1 : Int32) (r0 : Int32) (h : fX4_rentOf_30 S V a1 = some r0) : jM l yX4_rentOf cX4_rentOf 3 (some .int) ({ frames := 3, cells := 0, slots := 0, locals := 65 }) B D TC ad cA [.ref (ad 30), .int a1] S V L (some (.int r0)) S V L := by
  refine jM_of (plainFor_of_name (by decide)) TC_ok hI (Nat.le_of_ble_eq_true rfl) ?_
  intro p e s m args below meth c C hr hlk
  refine j_lv (lv2 := [(0, .ref (ad 30)), (1, .int a1)]) rfl ?_
  unfold fX4_rentOf_30 at h
  refine j_aload_n C 0 rfl dX4_rentOf_0 rfl ?_
  refine fg_X4_27_TC_30 C dX4_rentOf_1 ?_
  refine fg_X4_116_TC_3 C dX4_rentOf_4 ?_
  refine j_iload_n C 1 rfl dX4_rentOf_7 rfl ?_
  obtain ⟨g1, h⟩ := gd_elim h
  refine j_iald C tc_7 (ib_in g1) dX4_rentOf_8 ?_
  refine lt_elim h (fun x2 e_x2 h => ?_)
  refine j_top e_x2 ?_
  refine j_istore_n C [(2, .int x2), (0, .ref (ad 30)), (1, .int a1)] dX4_rentOf_9 rfl (by decide) rfl ?_
  refine j_iload_n C 0 rfl dX4_rentOf_10 rfl ?_
  refine j_aload_n C 1 rfl dX4_rentOf_11 rfl ?_
  refine j_iload_n C 2 rfl dX4_rentOf_12 rfl ?_
  obtain ⟨r3, h4, h⟩ := bd1_elim h
  refine j_callV (As := [.int a1]) (rest := [.int x2]) C (kX4_hoursInHalves_30 l B D ad cA hI S V L a1 _ h4) mw_X4_hoursInHalves wd1088 wd1089 wd1330 tc_30 rfl rfl ⟨rfl, rfl, by decide, by decide⟩ ⟨Nat.zero_le _, Nat.zero_le _⟩ rfl rfl (Nat.le_of_ble_eq_true rfl) dX4_rentOf_13 ?_
  refine j_imul C dX4_rentOf_16 ?_
  refine j_iload_n C 0 rfl dX4_rentOf_17 rfl ?_
  refine j_aload_n C 1 rfl dX4_rentOf_18 rfl ?_
  refine j_iload_n C 2 rfl dX4_rentOf_19 rfl ?_
  obtain ⟨r5, h6, h⟩ := bd1_elim h
  refine j_callV (As := [.int a1]) (rest := [.int x2, .int (x2 * r3)]) C (kX4_hoursInPauses_30 l B D ad cA hI S V L a1 _ h6) mw_X4_hoursInPauses wd1098 wd1099 wd1097 tc_30 rfl rfl ⟨rfl, rfl, by decide, by decide⟩ ⟨Nat.zero_le _, Nat.zero_le _⟩ rfl rfl (Nat.le_of_ble_eq_true rfl) dX4_rentOf_20 ?_
  refine j_imul C dX4_rentOf_23 ?_
  refine j_iconst C dX4_rentOf_24 ci_1 ?_
  refine j_iadd C dX4_rentOf_25 ?_
  refine j_iconst C dX4_rentOf_26 ci_2 ?_
  refine j_idiv C dX4_rentOf_27 (by decide) ?_
  refine j_iadd C dX4_rentOf_28 ?_
  cases h
  exact j_iret C hr hlk rfl dX4_rentOf_29
theorem dX4_shareOf_0 : decode cX4_shareOf 0 = .ok (.iconst 0, 1) := by decide +kernel
theorem dX4_shareOf_1 : decode cX4_shareOf 1 = .ok (.istore_n 3, 1) := by decide +kernel
theorem dX4_shareOf_2 : decode cX4_shareOf 2 = .ok (.iconst 0, 1) := by decide +kernel
theorem dX4_shareOf_3 : decode cX4_shareOf 3 = .ok (.istore 4, 2) := by decide +kernel
theorem dX4_shareOf_5 : decode cX4_shareOf 5 = .ok (.iload 4, 2) := by decide +kernel
theorem dX4_shareOf_7 : decode cX4_shareOf 7 = .ok (.aload_n 0, 1) := by decide +kernel
theorem dX4_shareOf_8 : decode cX4_shareOf 8 = .ok (.getfield 27, 3) := by decide +kernel
theorem dX4_shareOf_11 : decode cX4_shareOf 11 = .ok (.getfield 122, 3) := by decide +kernel
theorem dX4_shareOf_14 : decode cX4_shareOf 14 = .ok (.if_icmp .ge 18, 3) := by decide +kernel
theorem dX4_shareOf_17 : decode cX4_shareOf 17 = .ok (.iload_n 3, 1) := by decide +kernel
theorem dX4_shareOf_18 : decode cX4_shareOf 18 = .ok (.aload_n 0, 1) := by decide +kernel
theorem dX4_shareOf_19 : decode cX4_shareOf 19 = .ok (.iload 4, 2) := by decide +kernel
theorem dX4_shareOf_21 : decode cX4_shareOf 21 = .ok (.invokevirtual 125, 3) := by decide +kernel
theorem dX4_shareOf_24 : decode cX4_shareOf 24 = .ok (.iadd, 1) := by decide +kernel
theorem dX4_shareOf_25 : decode cX4_shareOf 25 = .ok (.istore_n 3, 1) := by decide +kernel
theorem dX4_shareOf_26 : decode cX4_shareOf 26 = .ok (.iinc 4 1, 3) := by decide +kernel
theorem dX4_shareOf_29 : decode cX4_shareOf 29 = .ok (.goto (-24), 3) := by decide +kernel
theorem dX4_shareOf_32 : decode cX4_shareOf 32 = .ok (.iload_n 3, 1) := by decide +kernel
theorem dX4_shareOf_33 : decode cX4_shareOf 33 = .ok (.ifCond .gt 5, 3) := by decide +kernel
theorem dX4_shareOf_36 : decode cX4_shareOf 36 = .ok (.iconst 0, 1) := by decide +kernel
theorem dX4_shareOf_37 : decode cX4_shareOf 37 = .ok (.ireturn, 1) := by decide +kernel
theorem dX4_shareOf_38 : decode cX4_shareOf 38 = .ok (.iconst 0, 1) := by decide +kernel
theorem dX4_shareOf_39 : decode cX4_shareOf 39 = .ok (.istore 4, 2) := by decide +kernel
theorem dX4_shareOf_41 : decode cX4_shareOf 41 = .ok (.iconst 0, 1) := by decide +kernel
theorem dX4_shareOf_42 : decode cX4_shareOf 42 = .ok (.istore 5, 2) := by decide +kernel
theorem dX4_shareOf_44 : decode cX4_shareOf 44 = .ok (.iload_n 2, 1) := by decide +kernel
theorem dX4_shareOf_45 : decode cX4_shareOf 45 = .ok (.aload_n 0, 1) := by decide +kernel
theorem dX4_shareOf_46 : decode cX4_shareOf 46 = .ok (.iload_n 1, 1) := by decide +kernel
theorem dX4_shareOf_47 : decode cX4_shareOf 47 = .ok (.invokevirtual 125, 3) := by decide +kernel
theorem dX4_shareOf_50 : decode cX4_shareOf 50 = .ok (.imul, 1) := by decide +kernel
theorem dX4_shareOf_51 : decode cX4_shareOf 51 = .ok (.iload_n 3, 1) := by decide +kernel
theorem dX4_shareOf_52 : decode cX4_shareOf 52 = .ok (.irem, 1) := by decide +kernel
theorem dX4_shareOf_53 : decode cX4_shareOf 53 = .ok (.istore 6, 2) := by decide +kernel
theorem dX4_shareOf_55 : decode cX4_shareOf 55 = .ok (.iconst 0, 1) := by decide +kernel
theorem dX4_shareOf_56 : decode cX4_shareOf 56 = .ok (.istore 7, 2) := by decide +kernel
theorem dX4_shareOf_58 : decode cX4_shareOf 58 = .ok (.iload 7, 2) := by decide +kernel
theorem dX4_shareOf_60 : decode cX4_shareOf 60 = .ok (.aload_n 0, 1) := by decide +kernel
theorem dX4_shareOf_61 : decode cX4_shareOf 61 = .ok (.getfield 27, 3) := by decide +kernel
theorem dX4_shareOf_64 : decode cX4_shareOf 64 = .ok (.getfield 122, 3) := by decide +kernel
theorem dX4_shareOf_67 : decode cX4_shareOf 67 = .ok (.if_icmp .ge 57, 3) := by decide +kernel
theorem dX4_shareOf_70 : decode cX4_shareOf 70 = .ok (.iload_n 2, 1) := by decide +kernel
theorem dX4_shareOf_71 : decode cX4_shareOf 71 = .ok (.aload_n 0, 1) := by decide +kernel
theorem dX4_shareOf_72 : decode cX4_shareOf 72 = .ok (.iload 7, 2) := by decide +kernel
theorem dX4_shareOf_74 : decode cX4_shareOf 74 = .ok (.invokevirtual 125, 3) := by decide +kernel
theorem dX4_shareOf_77 : decode cX4_shareOf 77 = .ok (.imul, 1) := by decide +kernel
theorem dX4_shareOf_78 : decode cX4_shareOf 78 = .ok (.istore 8, 2) := by decide +kernel
theorem dX4_shareOf_80 : decode cX4_shareOf 80 = .ok (.iload 4, 2) := by decide +kernel
theorem dX4_shareOf_82 : decode cX4_shareOf 82 = .ok (.iload 8, 2) := by decide +kernel
theorem dX4_shareOf_84 : decode cX4_shareOf 84 = .ok (.iload_n 3, 1) := by decide +kernel
theorem dX4_shareOf_85 : decode cX4_shareOf 85 = .ok (.idiv, 1) := by decide +kernel
theorem dX4_shareOf_86 : decode cX4_shareOf 86 = .ok (.iadd, 1) := by decide +kernel
theorem dX4_shareOf_87 : decode cX4_shareOf 87 = .ok (.istore 4, 2) := by decide +kernel
theorem dX4_shareOf_89 : decode cX4_shareOf 89 = .ok (.iload 8, 2) := by decide +kernel
theorem dX4_shareOf_91 : decode cX4_shareOf 91 = .ok (.iload_n 3, 1) := by decide +kernel
theorem dX4_shareOf_92 : decode cX4_shareOf 92 = .ok (.irem, 1) := by decide +kernel
theorem dX4_shareOf_93 : decode cX4_shareOf 93 = .ok (.istore 9, 2) := by decide +kernel
theorem dX4_shareOf_95 : decode cX4_shareOf 95 = .ok (.iload 9, 2) := by decide +kernel
theorem dX4_shareOf_97 : decode cX4_shareOf 97 = .ok (.iload 6, 2) := by decide +kernel
theorem dX4_shareOf_99 : decode cX4_shareOf 99 = .ok (.if_icmp .gt 16, 3) := by decide +kernel
theorem dX4_shareOf_102 : decode cX4_shareOf 102 = .ok (.iload 9, 2) := by decide +kernel
theorem dX4_shareOf_104 : decode cX4_shareOf 104 = .ok (.iload 6, 2) := by decide +kernel
theorem dX4_shareOf_106 : decode cX4_shareOf 106 = .ok (.if_icmp .ne 12, 3) := by decide +kernel
theorem dX4_shareOf_109 : decode cX4_shareOf 109 = .ok (.iload 7, 2) := by decide +kernel
theorem dX4_shareOf_111 : decode cX4_shareOf 111 = .ok (.iload_n 1, 1) := by decide +kernel
theorem dX4_shareOf_112 : decode cX4_shareOf 112 = .ok (.if_icmp .ge 6, 3) := by decide +kernel
theorem dX4_shareOf_115 : decode cX4_shareOf 115 = .ok (.iinc 5 1, 3) := by decide +kernel
theorem dX4_shareOf_118 : decode cX4_shareOf 118 = .ok (.iinc 7 1, 3) := by decide +kernel
theorem dX4_shareOf_121 : decode cX4_shareOf 121 = .ok (.goto (-63), 3) := by decide +kernel
theorem dX4_shareOf_124 : decode cX4_shareOf 124 = .ok (.iload_n 2, 1) := by decide +kernel
theorem dX4_shareOf_125 : decode cX4_shareOf 125 = .ok (.aload_n 0, 1) := by decide +kernel
theorem dX4_shareOf_126 : decode cX4_shareOf 126 = .ok (.iload_n 1, 1) := by decide +kernel
theorem dX4_shareOf_127 : decode cX4_shareOf 127 = .ok (.invokevirtual 125, 3) := by decide +kernel
theorem dX4_shareOf_130 : decode cX4_shareOf 130 = .ok (.imul, 1) := by decide +kernel
theorem dX4_shareOf_131 : decode cX4_shareOf 131 = .ok (.iload_n 3, 1) := by decide +kernel
theorem dX4_shareOf_132 : decode cX4_shareOf 132 = .ok (.idiv, 1) := by decide +kernel
theorem dX4_shareOf_133 : decode cX4_shareOf 133 = .ok (.iload 5, 2) := by decide +kernel
theorem dX4_shareOf_135 : decode cX4_shareOf 135 = .ok (.iload_n 2, 1) := by decide +kernel
theorem dX4_shareOf_136 : decode cX4_shareOf 136 = .ok (.iload 4, 2) := by decide +kernel
theorem dX4_shareOf_138 : decode cX4_shareOf 138 = .ok (.isub, 1) := by decide +kernel
theorem dX4_shareOf_139 : decode cX4_shareOf 139 = .ok (.if_icmp .ge 7, 3) := by decide +kernel
theorem dX4_shareOf_142 : decode cX4_shareOf 142 = .ok (.iconst 1, 1) := by decide +kernel
theorem dX4_shareOf_143 : decode cX4_shareOf 143 = .ok (.goto 4, 3) := by decide +kernel
theorem dX4_shareOf_146 : decode cX4_shareOf 146 = .ok (.iconst 0, 1) := by decide +kernel
theorem dX4_shareOf_147 : decode cX4_shareOf 147 = .ok (.iadd, 1) := by decide +kernel
theorem dX4_shareOf_148 : decode cX4_shareOf 148 = .ok (.ireturn, 1) := by decide +kernel
def fX4_shareOf_30_L5 (E32 : Int32 → Int32 → Int32 → Option (Int32)) (S : Nat → Int32) (V : Nat → Nat → Int32) : Nat → Int32 → Int32 → Int32 → Int32 → Option (Int32)
  | 0, _, _, _, _ => none
  | n + 1, x1, x2, x3, x4 =>
    (if (S 304) ≤ x4 then
    E32 x1 x2 x3
    else
    bd1 (fX4_rentOf_30 S V x4) (fun r6 =>
    lt ((x3 + r6)) (fun x8 =>
    lt (x4 + (1 : Int32)) (fun x9 =>
    fX4_shareOf_30_L5 E32 S V n x1 x2 x8 x9))))
def fX4_shareOf_30_L58 (E124 : Int32 → Int32 → Int32 → Int32 → Int32 → Option (Int32)) (S : Nat → Int32) (V : Nat → Nat → Int32) : Nat → Int32 → Int32 → Int32 → Int32 → Int32 → Int32 → Int32 → Option (Int32)
  | 0, _, _, _, _, _, _, _ => none
  | n + 1, x23, x24, x25, x26, x27, x28, x29 =>
    (if (S 304) ≤ x29 then
    E124 x23 x24 x25 x26 x27
    else
    bd1 (fX4_rentOf_30 S V x29) (fun r31 =>
    lt ((x24 * r31)) (fun x33 =>
    gd (nz x25) (
    lt ((x26 + (x33 / x25))) (fun x35 =>
    gd (nz x25) (
    lt ((x33 - x33 / x25 * x25)) (fun x37 =>
    bk (fun (x39 : Int32) (x40 : Int32) (x41 : Int32) (x42 : Int32) (x43 : Int32) (x44 : Int32) (x45 : Int32) =>
    lt (x45 + (1 : Int32)) (fun x46 =>
    fX4_shareOf_30_L58 E124 S V n x39 x40 x41 x42 x43 x44 x46)) (fun K118_38 =>
    bk (fun (x48 : Int32) (x49 : Int32) (x50 : Int32) (x51 : Int32) (x52 : Int32) (x53 : Int32) (x54 : Int32) =>
    lt (x52 + (1 : Int32)) (fun x55 =>
    K118_38 x48 x49 x50 x51 x55 x53 x54)) (fun K115_47 =>
    (if x28 < x37 then
    K115_47 x23 x24 x25 x35 x27 x28 x29
    else
    (if x37 = x28 then
    (if x23 ≤ x29 then
    K118_38 x23 x24 x25 x35 x27 x28 x29
    else
    K115_47 x23 x24 x25 x35 x27 x28 x29)
    else
    K118_38 x23 x24 x25 x35 x27 x28 x29)))))))))))
def fX4_shareOf_30 (S : Nat → Int32) (V : Nat → Nat → Int32) (a1 : Int32) (a2 : Int32) : Option (Int32) :=
  bk (fun (x14 : Int32) (x15 : Int32) (x16 : Int32) =>
  (if 0 < x16 then
  bd1 (fX4_rentOf_30 S V x14) (fun r18 =>
  gd (nz x16) (
  lt ((x15 * r18)) (fun x21 =>
  lt ((x21 - x21 / x16 * x16)) (fun x22 =>
  bk (fun (x65 : Int32) (x66 : Int32) (x67 : Int32) (x68 : Int32) (x69 : Int32) =>
  bd1 (fX4_rentOf_30 S V x65) (fun r70 =>
  gd (nz x67) (
  (if (x66 - x68) ≤ x69 then
  some ((((x66 * r70) / x67) + (0 : Int32)))
  else
  some ((((x66 * r70) / x67) + (1 : Int32))))))) (fun X124_64 =>
  fX4_shareOf_30_L58 X124_64 S V FU x14 x15 x16 (0 : Int32) (0 : Int32) x22 (0 : Int32))))))
  else
  some (0 : Int32))) (fun X32_13 =>
  fX4_shareOf_30_L5 X32_13 S V FU a1 a2 (0 : Int32) (0 : Int32))
set_option maxHeartbeats 4000000 in
set_option maxRecDepth 100000 in
theorem kX4_shareOf_30 (l : Launch) (B : jBT) (D : va_G) (ad : Nat → Nat) (cA : Nat → ClassId) (hI : jI ad TC) (S : Nat → Int32) (V : Nat → Nat → Int32) (L : Nat → Int64) (a1 : Int32) (a2 : Int32) (r0 : Int32) (h : fX4_shareOf_30 S V a1 a2 = some r0) : jM l yX4_shareOf cX4_shareOf 10 (some .int) ({ frames := 4, cells := 0, slots := 0, locals := 87 }) B D TC ad cA [.ref (ad 30), .int a1, .int a2] S V L (some (.int r0)) S V L := by
  refine jM_of (plainFor_of_name (by decide)) TC_ok hI (Nat.le_of_ble_eq_true rfl) ?_
  intro p e s m args below meth c C hr hlk
  refine j_lv (lv2 := [(0, .ref (ad 30)), (1, .int a1), (2, .int a2)]) rfl ?_
  unfold fX4_shareOf_30 at h
  have H_fX4_shareOf_30_L5 : ∀ (E32 : Int32 → Int32 → Int32 → Option (Int32)) (_ : ∀ (x10 : Int32) (x11 : Int32) (x12 : Int32), E32 x10 x11 x12 = some r0 → jW p l e ({ frames := 4, cells := 0, slots := 0, locals := 87 }) s m args below meth c (MQ below (jQc D TC ad cA (some (.int r0)) s.heap.size S V L) args s 0 0 (jA ad TC s.heap.size)) D TC ad cA (jA ad TC s.heap.size) 10 0 0 32 [(0, .ref (ad 30)), (1, .int x10), (2, .int x11), (3, .int x12)] [] S V L) (n : Nat) (x1 : Int32) (x2 : Int32) (x3 : Int32) (x4 : Int32), fX4_shareOf_30_L5 E32 S V n x1 x2 x3 x4 = some r0 → jW p l e ({ frames := 4, cells := 0, slots := 0, locals := 87 }) s m args below meth c (MQ below (jQc D TC ad cA (some (.int r0)) s.heap.size S V L) args s 0 0 (jA ad TC s.heap.size)) D TC ad cA (jA ad TC s.heap.size) 10 0 0 5 [(0, .ref (ad 30)), (1, .int x1), (2, .int x2), (3, .int x3), (4, .int x4)] [] S V L := by
    intro E32 HE32
    intro n
    induction n with
    | zero =>
      intro x1 x2 x3 x4 h
      cases (show (none : Option (Int32)) = some r0 from h)
    | succ n ih =>
      intro x1 x2 x3 x4 h
      unfold fX4_shareOf_30_L5 at h
      refine j_iload C 4 rfl dX4_shareOf_5 ?_
      refine j_aload_n C 0 rfl dX4_shareOf_7 rfl ?_
      refine fg_X4_27_TC_30 C dX4_shareOf_8 ?_
      refine fg_X4_122_TC_3 C dX4_shareOf_11 ?_
      refine j_icmp_ge (tgt := 32) C dX4_shareOf_14 (by decide) (fun c5 => ?_) (fun c5 => ?_)
      · have h := (if_pos c5).symm.trans h
        exact j_sub [0, 1, 2, 3] rfl (HE32 _ _ _ h)
      · have h := (if_neg c5).symm.trans h
        refine j_iload_n C 3 rfl dX4_shareOf_17 rfl ?_
        refine j_aload_n C 0 rfl dX4_shareOf_18 rfl ?_
        refine j_iload C 4 rfl dX4_shareOf_19 ?_
        obtain ⟨r6, h7, h⟩ := bd1_elim h
        refine j_callV (As := [.int x4]) (rest := [.int x3]) C (kX4_rentOf_30 l B D ad cA hI S V L x4 _ h7) mw_X4_rentOf wd1327 wd1328 wd1343 tc_30 rfl rfl ⟨rfl, rfl, by decide, by decide⟩ ⟨Nat.zero_le _, Nat.zero_le _⟩ rfl rfl (Nat.le_of_ble_eq_true rfl) dX4_shareOf_21 ?_
        refine j_iadd C dX4_shareOf_24 ?_
        refine lt_elim h (fun x8 e_x8 h => ?_)
        refine j_top e_x8 ?_
        refine j_istore_n C [(3, .int x8), (0, .ref (ad 30)), (1, .int x1), (2, .int x2), (4, .int x4)] dX4_shareOf_25 rfl (by decide) rfl ?_
        refine lt_elim h (fun x9 e_x9 h => ?_)
        refine j_iinc C [(4, .int x9), (3, .int x8), (0, .ref (ad 30)), (1, .int x1), (2, .int x2)] 4 dX4_shareOf_26 rfl ((iinc_eq ci_1).trans e_x9.symm) (by decide) rfl ?_
        refine j_goto (tgt := 5) C dX4_shareOf_29 (by decide) ?_
        exact j_sub [2, 3, 4, 1, 0] rfl (ih _ _ _ _ h)
  have H_fX4_shareOf_30_L58 : ∀ (E124 : Int32 → Int32 → Int32 → Int32 → Int32 → Option (Int32)) (_ : ∀ (x59 : Int32) (x60 : Int32) (x61 : Int32) (x62 : Int32) (x63 : Int32), E124 x59 x60 x61 x62 x63 = some r0 → jW p l e ({ frames := 4, cells := 0, slots := 0, locals := 87 }) s m args below meth c (MQ below (jQc D TC ad cA (some (.int r0)) s.heap.size S V L) args s 0 0 (jA ad TC s.heap.size)) D TC ad cA (jA ad TC s.heap.size) 10 0 0 124 [(0, .ref (ad 30)), (1, .int x59), (2, .int x60), (3, .int x61), (4, .int x62), (5, .int x63)] [] S V L) (n : Nat) (x23 : Int32) (x24 : Int32) (x25 : Int32) (x26 : Int32) (x27 : Int32) (x28 : Int32) (x29 : Int32), fX4_shareOf_30_L58 E124 S V n x23 x24 x25 x26 x27 x28 x29 = some r0 → jW p l e ({ frames := 4, cells := 0, slots := 0, locals := 87 }) s m args below meth c (MQ below (jQc D TC ad cA (some (.int r0)) s.heap.size S V L) args s 0 0 (jA ad TC s.heap.size)) D TC ad cA (jA ad TC s.heap.size) 10 0 0 58 [(0, .ref (ad 30)), (1, .int x23), (2, .int x24), (3, .int x25), (4, .int x26), (5, .int x27), (6, .int x28), (7, .int x29)] [] S V L := by
    intro E124 HE124
    intro n
    induction n with
    | zero =>
      intro x23 x24 x25 x26 x27 x28 x29 h
      cases (show (none : Option (Int32)) = some r0 from h)
    | succ n ih =>
      intro x23 x24 x25 x26 x27 x28 x29 h
      unfold fX4_shareOf_30_L58 at h
      refine j_iload C 7 rfl dX4_shareOf_58 ?_
      refine j_aload_n C 0 rfl dX4_shareOf_60 rfl ?_
      refine fg_X4_27_TC_30 C dX4_shareOf_61 ?_
      refine fg_X4_122_TC_3 C dX4_shareOf_64 ?_
      refine j_icmp_ge (tgt := 124) C dX4_shareOf_67 (by decide) (fun c30 => ?_) (fun c30 => ?_)
      · have h := (if_pos c30).symm.trans h
        exact j_sub [0, 1, 2, 3, 4, 5] rfl (HE124 _ _ _ _ _ h)
      · have h := (if_neg c30).symm.trans h
        refine j_iload_n C 2 rfl dX4_shareOf_70 rfl ?_
        refine j_aload_n C 0 rfl dX4_shareOf_71 rfl ?_
        refine j_iload C 7 rfl dX4_shareOf_72 ?_
        obtain ⟨r31, h32, h⟩ := bd1_elim h
        refine j_callV (As := [.int x29]) (rest := [.int x24]) C (kX4_rentOf_30 l B D ad cA hI S V L x29 _ h32) mw_X4_rentOf wd1327 wd1328 wd1343 tc_30 rfl rfl ⟨rfl, rfl, by decide, by decide⟩ ⟨Nat.zero_le _, Nat.zero_le _⟩ rfl rfl (Nat.le_of_ble_eq_true rfl) dX4_shareOf_74 ?_
        refine j_imul C dX4_shareOf_77 ?_
        refine lt_elim h (fun x33 e_x33 h => ?_)
        refine j_top e_x33 ?_
        refine j_istore C [(8, .int x33), (0, .ref (ad 30)), (1, .int x23), (2, .int x24), (3, .int x25), (4, .int x26), (5, .int x27), (6, .int x28), (7, .int x29)] dX4_shareOf_78 (by decide) rfl ?_
        refine j_iload C 5 rfl dX4_shareOf_80 ?_
        refine j_iload C 0 rfl dX4_shareOf_82 ?_
        refine j_iload_n C 4 rfl dX4_shareOf_84 rfl ?_
        obtain ⟨g34, h⟩ := gd_elim h
        refine j_idiv C dX4_shareOf_85 (nz_ne g34) ?_
        refine j_iadd C dX4_shareOf_86 ?_
        refine lt_elim h (fun x35 e_x35 h => ?_)
        refine j_top e_x35 ?_
        refine j_istore C [(4, .int x35), (8, .int x33), (0, .ref (ad 30)), (1, .int x23), (2, .int x24), (3, .int x25), (5, .int x27), (6, .int x28), (7, .int x29)] dX4_shareOf_87 (by decide) rfl ?_
        refine j_iload C 1 rfl dX4_shareOf_89 ?_
        refine j_iload_n C 5 rfl dX4_shareOf_91 rfl ?_
        obtain ⟨g36, h⟩ := gd_elim h
        refine j_irem C dX4_shareOf_92 (nz_ne g36) ?_
        refine lt_elim h (fun x37 e_x37 h => ?_)
        refine j_top e_x37 ?_
        refine j_istore C [(9, .int x37), (4, .int x35), (8, .int x33), (0, .ref (ad 30)), (1, .int x23), (2, .int x24), (3, .int x25), (5, .int x27), (6, .int x28), (7, .int x29)] dX4_shareOf_93 (by decide) rfl ?_
        refine j_iload C 0 rfl dX4_shareOf_95 ?_
        refine j_iload C 8 rfl dX4_shareOf_97 ?_
        refine bk_elim h (fun K118_38 e_K118_38 h => ?_)
        have HK118_38 : ∀ (x39 : Int32) (x40 : Int32) (x41 : Int32) (x42 : Int32) (x43 : Int32) (x44 : Int32) (x45 : Int32), K118_38 x39 x40 x41 x42 x43 x44 x45 = some r0 → jW p l e ({ frames := 4, cells := 0, slots := 0, locals := 87 }) s m args below meth c (MQ below (jQc D TC ad cA (some (.int r0)) s.heap.size S V L) args s 0 0 (jA ad TC s.heap.size)) D TC ad cA (jA ad TC s.heap.size) 10 0 0 118 [(0, .ref (ad 30)), (1, .int x39), (2, .int x40), (3, .int x41), (4, .int x42), (5, .int x43), (6, .int x44), (7, .int x45)] [] S V L := by
          subst e_K118_38
          intro x39 x40 x41 x42 x43 x44 x45 h
          refine lt_elim h (fun x46 e_x46 h => ?_)
          refine j_iinc C [(7, .int x46), (0, .ref (ad 30)), (1, .int x39), (2, .int x40), (3, .int x41), (4, .int x42), (5, .int x43), (6, .int x44)] 7 dX4_shareOf_118 rfl ((iinc_eq ci_1).trans e_x46.symm) (by decide) rfl ?_
          refine j_goto (tgt := 58) C dX4_shareOf_121 (by decide) ?_
          exact j_sub [1, 2, 3, 4, 5, 6, 7, 0] rfl (ih _ _ _ _ _ _ _ h)
        refine bk_elim h (fun K115_47 e_K115_47 h => ?_)
        have HK115_47 : ∀ (x48 : Int32) (x49 : Int32) (x50 : Int32) (x51 : Int32) (x52 : Int32) (x53 : Int32) (x54 : Int32), K115_47 x48 x49 x50 x51 x52 x53 x54 = some r0 → jW p l e ({ frames := 4, cells := 0, slots := 0, locals := 87 }) s m args below meth c (MQ below (jQc D TC ad cA (some (.int r0)) s.heap.size S V L) args s 0 0 (jA ad TC s.heap.size)) D TC ad cA (jA ad TC s.heap.size) 10 0 0 115 [(0, .ref (ad 30)), (1, .int x48), (2, .int x49), (3, .int x50), (4, .int x51), (5, .int x52), (6, .int x53), (7, .int x54)] [] S V L := by
          subst e_K115_47
          intro x48 x49 x50 x51 x52 x53 x54 h
          refine lt_elim h (fun x55 e_x55 h => ?_)
          refine j_iinc C [(5, .int x55), (0, .ref (ad 30)), (1, .int x48), (2, .int x49), (3, .int x50), (4, .int x51), (6, .int x53), (7, .int x54)] 5 dX4_shareOf_115 rfl ((iinc_eq ci_1).trans e_x55.symm) (by decide) rfl ?_
          exact j_sub [1, 2, 3, 4, 5, 0, 6, 7] rfl (HK118_38 _ _ _ _ _ _ _ h)
        refine j_icmp_gt (tgt := 115) C dX4_shareOf_99 (by decide) (fun c56 => ?_) (fun c56 => ?_)
        · have h := (if_pos c56).symm.trans h
          exact j_sub [3, 4, 5, 6, 1, 7, 8, 9] rfl (HK115_47 _ _ _ _ _ _ _ h)
        · have h := (if_neg c56).symm.trans h
          refine j_iload C 0 rfl dX4_shareOf_102 ?_
          refine j_iload C 8 rfl dX4_shareOf_104 ?_
          refine j_icmp_ne (tgt := 118) C dX4_shareOf_106 (by decide) (fun c57 => ?_) (fun c57 => ?_)
          · have h := (if_neg c57).symm.trans h
            exact j_sub [3, 4, 5, 6, 1, 7, 8, 9] rfl (HK118_38 _ _ _ _ _ _ _ h)
          · have h := (if_pos c57).symm.trans h
            refine j_iload C 9 rfl dX4_shareOf_109 ?_
            refine j_iload_n C 4 rfl dX4_shareOf_111 rfl ?_
            refine j_icmp_ge (tgt := 118) C dX4_shareOf_112 (by decide) (fun c58 => ?_) (fun c58 => ?_)
            · have h := (if_pos c58).symm.trans h
              exact j_sub [3, 4, 5, 6, 1, 7, 8, 9] rfl (HK118_38 _ _ _ _ _ _ _ h)
            · have h := (if_neg c58).symm.trans h
              exact j_sub [3, 4, 5, 6, 1, 7, 8, 9] rfl (HK115_47 _ _ _ _ _ _ _ h)
  refine j_iconst C dX4_shareOf_0 ci_0 ?_
  refine j_istore_n C [(3, .int (0 : Int32)), (0, .ref (ad 30)), (1, .int a1), (2, .int a2)] dX4_shareOf_1 rfl (by decide) rfl ?_
  refine j_iconst C dX4_shareOf_2 ci_0 ?_
  refine j_istore C [(4, .int (0 : Int32)), (3, .int (0 : Int32)), (0, .ref (ad 30)), (1, .int a1), (2, .int a2)] dX4_shareOf_3 (by decide) rfl ?_
  refine bk_elim h (fun X32_13 e_X32_13 h => ?_)
  have HX32_13 : ∀ (x14 : Int32) (x15 : Int32) (x16 : Int32), X32_13 x14 x15 x16 = some r0 → jW p l e ({ frames := 4, cells := 0, slots := 0, locals := 87 }) s m args below meth c (MQ below (jQc D TC ad cA (some (.int r0)) s.heap.size S V L) args s 0 0 (jA ad TC s.heap.size)) D TC ad cA (jA ad TC s.heap.size) 10 0 0 32 [(0, .ref (ad 30)), (1, .int x14), (2, .int x15), (3, .int x16)] [] S V L := by
    subst e_X32_13
    intro x14 x15 x16 h
    refine j_iload_n C 3 rfl dX4_shareOf_32 rfl ?_
    refine j_if_gt (tgt := 38) C dX4_shareOf_33 (by decide) (fun c17 => ?_) (fun c17 => ?_)
    · have h := (if_pos c17).symm.trans h
      refine j_iconst C dX4_shareOf_38 ci_0 ?_
      refine j_istore C [(4, .int (0 : Int32)), (0, .ref (ad 30)), (1, .int x14), (2, .int x15), (3, .int x16)] dX4_shareOf_39 (by decide) rfl ?_
      refine j_iconst C dX4_shareOf_41 ci_0 ?_
      refine j_istore C [(5, .int (0 : Int32)), (4, .int (0 : Int32)), (0, .ref (ad 30)), (1, .int x14), (2, .int x15), (3, .int x16)] dX4_shareOf_42 (by decide) rfl ?_
      refine j_iload_n C 4 rfl dX4_shareOf_44 rfl ?_
      refine j_aload_n C 2 rfl dX4_shareOf_45 rfl ?_
      refine j_iload_n C 3 rfl dX4_shareOf_46 rfl ?_
      obtain ⟨r18, h19, h⟩ := bd1_elim h
      refine j_callV (As := [.int x14]) (rest := [.int x15]) C (kX4_rentOf_30 l B D ad cA hI S V L x14 _ h19) mw_X4_rentOf wd1327 wd1328 wd1343 tc_30 rfl rfl ⟨rfl, rfl, by decide, by decide⟩ ⟨Nat.zero_le _, Nat.zero_le _⟩ rfl rfl (Nat.le_of_ble_eq_true rfl) dX4_shareOf_47 ?_
      refine j_imul C dX4_shareOf_50 ?_
      refine j_iload_n C 5 rfl dX4_shareOf_51 rfl ?_
      obtain ⟨g20, h⟩ := gd_elim h
      refine lt_elim h (fun x21 e_x21 h => ?_)
      refine j_top2 e_x21 ?_
      refine j_irem C dX4_shareOf_52 (nz_ne g20) ?_
      refine lt_elim h (fun x22 e_x22 h => ?_)
      refine j_top e_x22 ?_
      refine j_istore C [(6, .int x22), (5, .int (0 : Int32)), (4, .int (0 : Int32)), (0, .ref (ad 30)), (1, .int x14), (2, .int x15), (3, .int x16)] dX4_shareOf_53 (by decide) rfl ?_
      refine j_iconst C dX4_shareOf_55 ci_0 ?_
      refine j_istore C [(7, .int (0 : Int32)), (6, .int x22), (5, .int (0 : Int32)), (4, .int (0 : Int32)), (0, .ref (ad 30)), (1, .int x14), (2, .int x15), (3, .int x16)] dX4_shareOf_56 (by decide) rfl ?_
      refine bk_elim h (fun X124_64 e_X124_64 h => ?_)
      have HX124_64 : ∀ (x65 : Int32) (x66 : Int32) (x67 : Int32) (x68 : Int32) (x69 : Int32), X124_64 x65 x66 x67 x68 x69 = some r0 → jW p l e ({ frames := 4, cells := 0, slots := 0, locals := 87 }) s m args below meth c (MQ below (jQc D TC ad cA (some (.int r0)) s.heap.size S V L) args s 0 0 (jA ad TC s.heap.size)) D TC ad cA (jA ad TC s.heap.size) 10 0 0 124 [(0, .ref (ad 30)), (1, .int x65), (2, .int x66), (3, .int x67), (4, .int x68), (5, .int x69)] [] S V L := by
        subst e_X124_64
        intro x65 x66 x67 x68 x69 h
        refine j_iload_n C 2 rfl dX4_shareOf_124 rfl ?_
        refine j_aload_n C 0 rfl dX4_shareOf_125 rfl ?_
        refine j_iload_n C 1 rfl dX4_shareOf_126 rfl ?_
        obtain ⟨r70, h71, h⟩ := bd1_elim h
        refine j_callV (As := [.int x65]) (rest := [.int x66]) C (kX4_rentOf_30 l B D ad cA hI S V L x65 _ h71) mw_X4_rentOf wd1327 wd1328 wd1343 tc_30 rfl rfl ⟨rfl, rfl, by decide, by decide⟩ ⟨Nat.zero_le _, Nat.zero_le _⟩ rfl rfl (Nat.le_of_ble_eq_true rfl) dX4_shareOf_127 ?_
        refine j_imul C dX4_shareOf_130 ?_
        refine j_iload_n C 3 rfl dX4_shareOf_131 rfl ?_
        obtain ⟨g72, h⟩ := gd_elim h
        refine j_idiv C dX4_shareOf_132 (nz_ne g72) ?_
        refine j_iload C 5 rfl dX4_shareOf_133 ?_
        refine j_iload_n C 2 rfl dX4_shareOf_135 rfl ?_
        refine j_iload C 4 rfl dX4_shareOf_136 ?_
        refine j_isub C dX4_shareOf_138 ?_
        refine j_icmp_ge (tgt := 146) C dX4_shareOf_139 (by decide) (fun c73 => ?_) (fun c73 => ?_)
        · have h := (if_pos c73).symm.trans h
          refine j_iconst C dX4_shareOf_146 ci_0 ?_
          refine j_iadd C dX4_shareOf_147 ?_
          cases h
          exact j_iret C hr hlk rfl dX4_shareOf_148
        · have h := (if_neg c73).symm.trans h
          refine j_iconst C dX4_shareOf_142 ci_1 ?_
          refine j_goto (tgt := 147) C dX4_shareOf_143 (by decide) ?_
          refine j_iadd C dX4_shareOf_147 ?_
          cases h
          exact j_iret C hr hlk rfl dX4_shareOf_148
      exact j_sub [4, 5, 6, 7, 3, 2, 1, 0] rfl (H_fX4_shareOf_30_L58 _ HX124_64 FU _ _ _ _ _ _ _ h)
    · have h := (if_neg c17).symm.trans h
      refine j_iconst C dX4_shareOf_36 ci_0 ?_
      cases h
      exact j_iret C hr hlk rfl dX4_shareOf_37
  exact j_sub [2, 3, 4, 1, 0] rfl (H_fX4_shareOf_30_L5 _ HX32_13 FU _ _ _ _ h)
