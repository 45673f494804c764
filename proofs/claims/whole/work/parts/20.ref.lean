def fX12_inOf_14_L3 (E45 : Int32 → Option (Int32)) (V : Nat → Nat → Int32) : Nat → Int32 → Int32 → Int32 → Int32 → Option (Int32)
  | 0, _, _, _, _ => none
  | n + 1, x1, x2, x3, x4 =>
    (if x1 ≤ x4 then
    some (-1 : Int32)
    else
    lt ((((4 : Int32) * x4) + (1 : Int32))) (fun x6 =>
    gd (ib x6 16) (
    bk (fun (x9 : Int32) (x10 : Int32) (x11 : Int32) (x12 : Int32) =>
    lt (x12 + (1 : Int32)) (fun x13 =>
    fX12_inOf_14_L3 E45 V n x9 x10 x11 x13)) (fun K52_8 =>
    (if (V 14 (x6).toNatClampNeg) = x2 then
    lt ((((4 : Int32) * x4) + (2 : Int32))) (fun x15 =>
    gd (ib x15 16) (
    (if x3 < (V 14 (x15).toNatClampNeg) then
    K52_8 x1 x2 x3 x4
    else
    lt ((((4 : Int32) * x4) + (3 : Int32))) (fun x18 =>
    gd (ib x18 16) (
    (if (V 14 (x18).toNatClampNeg) < x3 then
    K52_8 x1 x2 x3 x4
    else
    E45 x4))))))
    else
    K52_8 x1 x2 x3 x4)))))
def fX12_inOf_14 (V : Nat → Nat → Int32) (a1 : Int32) (a2 : Int32) (a3 : Int32) : Option (Int32) :=
  bk (fun (x23 : Int32) =>
  lt (((4 : Int32) * x23)) (fun x24 =>
  gd (ib x24 16) (
  some ((V 14 (x24).toNatClampNeg))))) (fun X45_22 =>
  fX12_inOf_14_L3 X45_22 V FU a1 a2 a3 (0 : Int32))
set_option maxHeartbeats 4000000 in
set_option maxRecDepth 100000 in
theorem kX12_inOf_14 (l : Launch) (B : jBT) (D : va_G) (ad : Nat → Nat) (cA : Nat → ClassId) (hI : jI ad TR) (S : Nat → Int32) (V : Nat → Nat → Int32) (L : Nat → Int64) (a1 : Int32) (a2 : Int32) (a3 : Int32) (r0 : Int32) (h : fX12_inOf_14 V a1 a2 a3 = some r0) : jM l yX12_inOf cX12_inOf 5 (some .int) ({ frames := 0, cells := 0, slots := 0, locals := 0 }) B D TR ad cA [.ref (ad 14), .int a1, .int a2, .int a3] S V L (some (.int r0)) S V L := by
  refine jM_of (plainFor_of_name (by decide)) TR_ok hI (Nat.le_of_ble_eq_true rfl) ?_
  intro p e s m args below meth c C hr hlk
  refine j_lv (lv2 := [(0, .ref (ad 14)), (1, .int a1), (2, .int a2), (3, .int a3)]) rfl ?_
  unfold fX12_inOf_14 at h
  have H_fX12_inOf_14_L3 : ∀ (E45 : Int32 → Option (Int32)) (_ : ∀ (x21 : Int32), E45 x21 = some r0 → jW p l e ({ frames := 0, cells := 0, slots := 0, locals := 0 }) s m args below meth c (MQ below (jQc D TR ad cA (some (.int r0)) s.heap.size S V L) args s 0 0 (jA ad TR s.heap.size)) D TR ad cA (jA ad TR s.heap.size) 5 0 0 45 [(0, .ref (ad 14)), (4, .int x21)] [] S V L) (n : Nat) (x1 : Int32) (x2 : Int32) (x3 : Int32) (x4 : Int32), fX12_inOf_14_L3 E45 V n x1 x2 x3 x4 = some r0 → jW p l e ({ frames := 0, cells := 0, slots := 0, locals := 0 }) s m args below meth c (MQ below (jQc D TR ad cA (some (.int r0)) s.heap.size S V L) args s 0 0 (jA ad TR s.heap.size)) D TR ad cA (jA ad TR s.heap.size) 5 0 0 3 [(0, .ref (ad 14)), (1, .int x1), (2, .int x2), (3, .int x3), (4, .int x4)] [] S V L := by
    intro E45 HE45
    intro n
    induction n with
    | zero =>
      intro x1 x2 x3 x4 h
      cases (show (none : Option (Int32)) = some r0 from h)
    | succ n ih =>
      intro x1 x2 x3 x4 h
      unfold fX12_inOf_14_L3 at h
      refine j_iload C 4 rfl dX12_inOf_3 ?_
      refine j_iload_n C 1 rfl dX12_inOf_5 rfl ?_
      refine j_icmp_ge (tgt := 58) C dX12_inOf_6 (by decide) (fun c5 => ?_) (fun c5 => ?_)
      · have h := (if_pos c5).symm.trans h
        refine j_iconst C dX12_inOf_58 ci_m1 ?_
        cases h
        exact j_iret C hr hlk rfl dX12_inOf_59
      · have h := (if_neg c5).symm.trans h
        refine j_aload_n C 0 rfl dX12_inOf_9 rfl ?_
        refine j_iconst C dX12_inOf_10 ci_4 ?_
        refine j_iload C 4 rfl dX12_inOf_11 ?_
        refine j_imul C dX12_inOf_13 ?_
        refine j_iconst C dX12_inOf_14 ci_1 ?_
        refine j_iadd C dX12_inOf_15 ?_
        refine lt_elim h (fun x6 e_x6 h => ?_)
        refine j_top e_x6 ?_
        obtain ⟨g7, h⟩ := gd_elim h
        refine j_iald C tr_14 (ib_in g7) dX12_inOf_16 ?_
        refine j_iload_n C 2 rfl dX12_inOf_17 rfl ?_
        refine bk_elim h (fun K52_8 e_K52_8 h => ?_)
        have HK52_8 : ∀ (x9 : Int32) (x10 : Int32) (x11 : Int32) (x12 : Int32), K52_8 x9 x10 x11 x12 = some r0 → jW p l e ({ frames := 0, cells := 0, slots := 0, locals := 0 }) s m args below meth c (MQ below (jQc D TR ad cA (some (.int r0)) s.heap.size S V L) args s 0 0 (jA ad TR s.heap.size)) D TR ad cA (jA ad TR s.heap.size) 5 0 0 52 [(0, .ref (ad 14)), (1, .int x9), (2, .int x10), (3, .int x11), (4, .int x12)] [] S V L := by
          subst e_K52_8
          intro x9 x10 x11 x12 h
          refine lt_elim h (fun x13 e_x13 h => ?_)
          refine j_iinc C [(4, .int x13), (0, .ref (ad 14)), (1, .int x9), (2, .int x10), (3, .int x11)] 4 dX12_inOf_52 rfl ((iinc_eq ci_1).trans e_x13.symm) (by decide) rfl ?_
          refine j_goto (tgt := 3) C dX12_inOf_55 (by decide) ?_
          exact j_sub [1, 2, 3, 4, 0] rfl (ih _ _ _ _ h)
        refine j_icmp_ne (tgt := 52) C dX12_inOf_18 (by decide) (fun c14 => ?_) (fun c14 => ?_)
        · have h := (if_neg c14).symm.trans h
          exact j_sub [0, 1, 2, 3, 4] rfl (HK52_8 _ _ _ _ h)
        · have h := (if_pos c14).symm.trans h
          refine j_aload_n C 0 rfl dX12_inOf_21 rfl ?_
          refine j_iconst C dX12_inOf_22 ci_4 ?_
          refine j_iload C 4 rfl dX12_inOf_23 ?_
          refine j_imul C dX12_inOf_25 ?_
          refine j_iconst C dX12_inOf_26 ci_2 ?_
          refine j_iadd C dX12_inOf_27 ?_
          refine lt_elim h (fun x15 e_x15 h => ?_)
          refine j_top e_x15 ?_
          obtain ⟨g16, h⟩ := gd_elim h
          refine j_iald C tr_14 (ib_in g16) dX12_inOf_28 ?_
          refine j_iload_n C 3 rfl dX12_inOf_29 rfl ?_
          refine j_icmp_gt (tgt := 52) C dX12_inOf_30 (by decide) (fun c17 => ?_) (fun c17 => ?_)
          · have h := (if_pos c17).symm.trans h
            exact j_sub [0, 1, 2, 3, 4] rfl (HK52_8 _ _ _ _ h)
          · have h := (if_neg c17).symm.trans h
            refine j_iload_n C 3 rfl dX12_inOf_33 rfl ?_
            refine j_aload_n C 0 rfl dX12_inOf_34 rfl ?_
            refine j_iconst C dX12_inOf_35 ci_4 ?_
            refine j_iload C 4 rfl dX12_inOf_36 ?_
            refine j_imul C dX12_inOf_38 ?_
            refine j_iconst C dX12_inOf_39 ci_3 ?_
            refine j_iadd C dX12_inOf_40 ?_
            refine lt_elim h (fun x18 e_x18 h => ?_)
            refine j_top e_x18 ?_
            obtain ⟨g19, h⟩ := gd_elim h
            refine j_iald C tr_14 (ib_in g19) dX12_inOf_41 ?_
            refine j_icmp_gt (tgt := 52) C dX12_inOf_42 (by decide) (fun c20 => ?_) (fun c20 => ?_)
            · have h := (if_pos c20).symm.trans h
              exact j_sub [0, 1, 2, 3, 4] rfl (HK52_8 _ _ _ _ h)
            · have h := (if_neg c20).symm.trans h
              exact j_sub [0, 4] rfl (HE45 _ h)
  refine j_iconst C dX12_inOf_0 ci_0 ?_
  refine j_istore C [(4, .int (0 : Int32)), (0, .ref (ad 14)), (1, .int a1), (2, .int a2), (3, .int a3)] dX12_inOf_1 (by decide) rfl ?_
  refine bk_elim h (fun X45_22 e_X45_22 h => ?_)
  have HX45_22 : ∀ (x23 : Int32), X45_22 x23 = some r0 → jW p l e ({ frames := 0, cells := 0, slots := 0, locals := 0 }) s m args below meth c (MQ below (jQc D TR ad cA (some (.int r0)) s.heap.size S V L) args s 0 0 (jA ad TR s.heap.size)) D TR ad cA (jA ad TR s.heap.size) 5 0 0 45 [(0, .ref (ad 14)), (4, .int x23)] [] S V L := by
    subst e_X45_22
    intro x23 h
    refine j_aload_n C 0 rfl dX12_inOf_45 rfl ?_
    refine j_iconst C dX12_inOf_46 ci_4 ?_
    refine j_iload C 1 rfl dX12_inOf_47 ?_
    refine j_imul C dX12_inOf_49 ?_
    refine lt_elim h (fun x24 e_x24 h => ?_)
    refine j_top e_x24 ?_
    obtain ⟨g25, h⟩ := gd_elim h
    refine j_iald C tr_14 (ib_in g25) dX12_inOf_50 ?_
    cases h
    exact j_iret C hr hlk rfl dX12_inOf_51
  exact j_sub [1, 2, 3, 4, 0] rfl (H_fX12_inOf_14_L3 _ HX45_22 FU _ _ _ _ h)
theorem dX12_weightOf_0 : decode cX12_weightOf 0 = .ok (.iload_n 1, 1) := by decide +kernel
theorem dX12_weightOf_1 : decode cX12_weightOf 1 = .ok (.iconst (-1), 1) := by decide +kernel
theorem dX12_weightOf_2 : decode cX12_weightOf 2 = .ok (.if_icmp .ne 7, 3) := by decide +kernel
theorem dX12_weightOf_5 : decode cX12_weightOf 5 = .ok (.iconst 0, 1) := by decide +kernel
theorem dX12_weightOf_6 : decode cX12_weightOf 6 = .ok (.goto 11, 3) := by decide +kernel
theorem dX12_weightOf_9 : decode cX12_weightOf 9 = .ok (.aload_n 0, 1) := by decide +kernel
theorem dX12_weightOf_10 : decode cX12_weightOf 10 = .ok (.getfield 19, 3) := by decide +kernel
theorem dX12_weightOf_13 : decode cX12_weightOf 13 = .ok (.iconst 4, 1) := by decide +kernel
theorem dX12_weightOf_14 : decode cX12_weightOf 14 = .ok (.iload_n 1, 1) := by decide +kernel
theorem dX12_weightOf_15 : decode cX12_weightOf 15 = .ok (.imul, 1) := by decide +kernel
theorem dX12_weightOf_16 : decode cX12_weightOf 16 = .ok (.iaload, 1) := by decide +kernel
theorem dX12_weightOf_17 : decode cX12_weightOf 17 = .ok (.ireturn, 1) := by decide +kernel
def fX12_weightOf_0 (V : Nat → Nat → Int32) (a1 : Int32) : Option (Int32) :=
  (if a1 = (-1 : Int32) then
  some (0 : Int32)
  else
  lt (((4 : Int32) * a1)) (fun x2 =>
  gd (ib x2 24) (
  some ((V 1 (x2).toNatClampNeg)))))
set_option maxHeartbeats 4000000 in
set_option maxRecDepth 100000 in
theorem kX12_weightOf_0 (l : Launch) (B : jBT) (D : va_G) (ad : Nat → Nat) (cA : Nat → ClassId) (hI : jI ad TR) (S : Nat → Int32) (V : Nat → Nat → Int32) (L : Nat → Int64) (a1 : Int32) (r0 : Int32) (h : fX12_weightOf_0 V a1 = some r0) : jM l yX12_weightOf cX12_weightOf 2 (some .int) ({ frames := 0, cells := 0, slots := 0, locals := 0 }) B D TR ad cA [.ref (ad 0), .int a1] S V L (some (.int r0)) S V L := by
  refine jM_of (plainFor_of_name (by decide)) TR_ok hI (Nat.le_of_ble_eq_true rfl) ?_
  intro p e s m args below meth c C hr hlk
  refine j_lv (lv2 := [(0, .ref (ad 0)), (1, .int a1)]) rfl ?_
  unfold fX12_weightOf_0 at h
  refine j_iload_n C 1 rfl dX12_weightOf_0 rfl ?_
  refine j_iconst C dX12_weightOf_1 ci_m1 ?_
  refine j_icmp_ne (tgt := 9) C dX12_weightOf_2 (by decide) (fun c1 => ?_) (fun c1 => ?_)
  · have h := (if_neg c1).symm.trans h
    refine j_aload_n C 0 rfl dX12_weightOf_9 rfl ?_
    refine fg_X12_19_TR_0 C dX12_weightOf_10 ?_
    refine j_iconst C dX12_weightOf_13 ci_4 ?_
    refine j_iload_n C 1 rfl dX12_weightOf_14 rfl ?_
    refine j_imul C dX12_weightOf_15 ?_
    refine lt_elim h (fun x2 e_x2 h => ?_)
    refine j_top e_x2 ?_
    obtain ⟨g3, h⟩ := gd_elim h
    refine j_iald C tr_1 (ib_in g3) dX12_weightOf_16 ?_
    cases h
    exact j_iret C hr hlk rfl dX12_weightOf_17
  · have h := (if_pos c1).symm.trans h
    refine j_iconst C dX12_weightOf_5 ci_0 ?_
    refine j_goto (tgt := 17) C dX12_weightOf_6 (by decide) ?_
    cases h
    exact j_iret C hr hlk rfl dX12_weightOf_17
def fX12_allIn_14_L5 (V : Nat → Nat → Int32) : Nat → Int32 → Int32 → Int32 → Int32 → Option (Int32)
  | 0, _, _, _, _ => none
  | n + 1, x1, x2, x3, x4 =>
    (if (2 : Int32) < x4 then
    some x3
    else
    bd1 (fX12_inOf_14 V x1 x4 x2) (fun r6 =>
    bk (fun (x9 : Int32) (x10 : Int32) (x11 : Int32) (x12 : Int32) (x13 : Int32) =>
    lt ((x13 ||| x12)) (fun x14 =>
    lt (x11 + (1 : Int32)) (fun x15 =>
    fX12_allIn_14_L5 V n x9 x10 x14 x15))) (fun K36_8 =>
    (if r6 = (-1 : Int32) then
    K36_8 x1 x2 x4 (0 : Int32) x3
    else
    K36_8 x1 x2 x4 (((1 : Int32) <<< (r6 &&& 31))) x3))))
def fX12_allIn_14 (V : Nat → Nat → Int32) (a1 : Int32) (a2 : Int32) : Option (Int32) :=
  fX12_allIn_14_L5 V FU a1 a2 (0 : Int32) (0 : Int32)
set_option maxHeartbeats 4000000 in
set_option maxRecDepth 100000 in
theorem kX12_allIn_14 (l : Launch) (B : jBT) (D : va_G) (ad : Nat → Nat) (cA : Nat → ClassId) (hI : jI ad TR) (S : Nat → Int32) (V : Nat → Nat → Int32) (L : Nat → Int64) (a1 : Int32) (a2 : Int32) (r0 : Int32) (h : fX12_allIn_14 V a1 a2 = some r0) : jM l yX12_allIn cX12_allIn 6 (some .int) ({ frames := 1, cells := 0, slots := 0, locals := 24 }) B D TR ad cA [.ref (ad 14), .int a1, .int a2] S V L (some (.int r0)) S V L := by
  refine jM_of (plainFor_of_name (by decide)) TR_ok hI (Nat.le_of_ble_eq_true rfl) ?_
  intro p e s m args below meth c C hr hlk
  refine j_lv (lv2 := [(0, .ref (ad 14)), (1, .int a1), (2, .int a2)]) rfl ?_
  unfold fX12_allIn_14 at h
  have H_fX12_allIn_14_L5 : ∀ (n : Nat) (x1 : Int32) (x2 : Int32) (x3 : Int32) (x4 : Int32), fX12_allIn_14_L5 V n x1 x2 x3 x4 = some r0 → jW p l e ({ frames := 1, cells := 0, slots := 0, locals := 24 }) s m args below meth c (MQ below (jQc D TR ad cA (some (.int r0)) s.heap.size S V L) args s 0 0 (jA ad TR s.heap.size)) D TR ad cA (jA ad TR s.heap.size) 6 0 0 5 [(0, .ref (ad 14)), (1, .int x1), (2, .int x2), (3, .int x3), (4, .int x4)] [] S V L := by
    intro n
    induction n with
    | zero =>
      intro x1 x2 x3 x4 h
      cases (show (none : Option (Int32)) = some r0 from h)
    | succ n ih =>
      intro x1 x2 x3 x4 h
      unfold fX12_allIn_14_L5 at h
      refine j_iload C 4 rfl dX12_allIn_5 ?_
      refine j_iconst C dX12_allIn_7 ci_2 ?_
      refine j_icmp_gt (tgt := 44) C dX12_allIn_8 (by decide) (fun c5 => ?_) (fun c5 => ?_)
      · have h := (if_pos c5).symm.trans h
        refine j_iload_n C 3 rfl dX12_allIn_44 rfl ?_
        cases h
        exact j_iret C hr hlk rfl dX12_allIn_45
      · have h := (if_neg c5).symm.trans h
        refine j_aload_n C 0 rfl dX12_allIn_11 rfl ?_
        refine j_iload_n C 1 rfl dX12_allIn_12 rfl ?_
        refine j_iload C 4 rfl dX12_allIn_13 ?_
        refine j_iload_n C 2 rfl dX12_allIn_15 rfl ?_
        obtain ⟨r6, h7, h⟩ := bd1_elim h
        refine j_callS (As := [.ref (ad 14), .int x1, .int x4, .int x2]) (rest := []) C (kX12_inOf_14 l B D ad cA hI S V L x1 x4 x2 _ h7) mw_X12_inOf wd1775 wd1774 ⟨rfl, rfl, by decide, by decide⟩ ⟨Nat.zero_le _, Nat.zero_le _⟩ rfl rfl (Nat.le_of_ble_eq_true rfl) dX12_allIn_16 ?_
        refine j_istore C [(5, .int r6), (0, .ref (ad 14)), (1, .int x1), (2, .int x2), (3, .int x3), (4, .int x4)] dX12_allIn_19 (by decide) rfl ?_
        refine j_iload_n C 4 rfl dX12_allIn_21 rfl ?_
        refine j_iload C 0 rfl dX12_allIn_22 ?_
        refine j_iconst C dX12_allIn_24 ci_m1 ?_
        refine bk_elim h (fun K36_8 e_K36_8 h => ?_)
        have HK36_8 : ∀ (x9 : Int32) (x10 : Int32) (x11 : Int32) (x12 : Int32) (x13 : Int32), K36_8 x9 x10 x11 x12 x13 = some r0 → jW p l e ({ frames := 1, cells := 0, slots := 0, locals := 24 }) s m args below meth c (MQ below (jQc D TR ad cA (some (.int r0)) s.heap.size S V L) args s 0 0 (jA ad TR s.heap.size)) D TR ad cA (jA ad TR s.heap.size) 6 0 0 36 [(0, .ref (ad 14)), (1, .int x9), (2, .int x10), (4, .int x11)] [.int x12, .int x13] S V L := by
          subst e_K36_8
          intro x9 x10 x11 x12 x13 h
          refine j_ior C dX12_allIn_36 ?_
          refine lt_elim h (fun x14 e_x14 h => ?_)
          refine j_top e_x14 ?_
          refine j_istore_n C [(3, .int x14), (0, .ref (ad 14)), (1, .int x9), (2, .int x10), (4, .int x11)] dX12_allIn_37 rfl (by decide) rfl ?_
          refine lt_elim h (fun x15 e_x15 h => ?_)
          refine j_iinc C [(4, .int x15), (3, .int x14), (0, .ref (ad 14)), (1, .int x9), (2, .int x10)] 4 dX12_allIn_38 rfl ((iinc_eq ci_1).trans e_x15.symm) (by decide) rfl ?_
          refine j_goto (tgt := 5) C dX12_allIn_41 (by decide) ?_
          exact j_sub [2, 3, 4, 1, 0] rfl (ih _ _ _ _ h)
        refine j_icmp_ne (tgt := 32) C dX12_allIn_25 (by decide) (fun c16 => ?_) (fun c16 => ?_)
        · have h := (if_neg c16).symm.trans h
          refine j_iconst C dX12_allIn_32 ci_1 ?_
          refine j_iload C 0 rfl dX12_allIn_33 ?_
          refine j_ishl C dX12_allIn_35 ?_
          exact j_sub [1, 2, 3, 5] rfl (HK36_8 _ _ _ _ _ h)
        · have h := (if_pos c16).symm.trans h
          refine j_iconst C dX12_allIn_28 ci_0 ?_
          refine j_goto (tgt := 36) C dX12_allIn_29 (by decide) ?_
          exact j_sub [1, 2, 3, 5] rfl (HK36_8 _ _ _ _ _ h)
  refine j_iconst C dX12_allIn_0 ci_0 ?_
  refine j_istore_n C [(3, .int (0 : Int32)), (0, .ref (ad 14)), (1, .int a1), (2, .int a2)] dX12_allIn_1 rfl (by decide) rfl ?_
  refine j_iconst C dX12_allIn_2 ci_0 ?_
  refine j_istore C [(4, .int (0 : Int32)), (3, .int (0 : Int32)), (0, .ref (ad 14)), (1, .int a1), (2, .int a2)] dX12_allIn_3 (by decide) rfl ?_
  exact j_sub [2, 3, 4, 1, 0] rfl (H_fX12_allIn_14_L5 FU _ _ _ _ h)
theorem dX12_valueOf_0 : decode cX12_valueOf 0 = .ok (.aload_n 2, 1) := by decide +kernel
theorem dX12_valueOf_1 : decode cX12_valueOf 1 = .ok (.iconst 4, 1) := by decide +kernel
theorem dX12_valueOf_2 : decode cX12_valueOf 2 = .ok (.iload 4, 2) := by decide +kernel
theorem dX12_valueOf_4 : decode cX12_valueOf 4 = .ok (.imul, 1) := by decide +kernel
theorem dX12_valueOf_5 : decode cX12_valueOf 5 = .ok (.iconst 1, 1) := by decide +kernel
theorem dX12_valueOf_6 : decode cX12_valueOf 6 = .ok (.iadd, 1) := by decide +kernel
theorem dX12_valueOf_7 : decode cX12_valueOf 7 = .ok (.iaload, 1) := by decide +kernel
theorem dX12_valueOf_8 : decode cX12_valueOf 8 = .ok (.istore 6, 2) := by decide +kernel
theorem dX12_valueOf_10 : decode cX12_valueOf 10 = .ok (.iload_n 1, 1) := by decide +kernel
theorem dX12_valueOf_11 : decode cX12_valueOf 11 = .ok (.tableswitch 121 0 4 #[33, 47, 50, 53, 73], 33) := by decide +kernel
theorem dX12_valueOf_44 : decode cX12_valueOf 44 = .ok (.aload_n 0, 1) := by decide +kernel
theorem dX12_valueOf_45 : decode cX12_valueOf 45 = .ok (.getfield 19, 3) := by decide +kernel
theorem dX12_valueOf_48 : decode cX12_valueOf 48 = .ok (.iconst 4, 1) := by decide +kernel
theorem dX12_valueOf_49 : decode cX12_valueOf 49 = .ok (.aload_n 2, 1) := by decide +kernel
theorem dX12_valueOf_50 : decode cX12_valueOf 50 = .ok (.iconst 4, 1) := by decide +kernel
theorem dX12_valueOf_51 : decode cX12_valueOf 51 = .ok (.iload 4, 2) := by decide +kernel
theorem dX12_valueOf_53 : decode cX12_valueOf 53 = .ok (.imul, 1) := by decide +kernel
theorem dX12_valueOf_54 : decode cX12_valueOf 54 = .ok (.iaload, 1) := by decide +kernel
theorem dX12_valueOf_55 : decode cX12_valueOf 55 = .ok (.imul, 1) := by decide +kernel
theorem dX12_valueOf_56 : decode cX12_valueOf 56 = .ok (.iaload, 1) := by decide +kernel
theorem dX12_valueOf_57 : decode cX12_valueOf 57 = .ok (.ireturn, 1) := by decide +kernel
theorem dX12_valueOf_58 : decode cX12_valueOf 58 = .ok (.iload 6, 2) := by decide +kernel
theorem dX12_valueOf_60 : decode cX12_valueOf 60 = .ok (.ireturn, 1) := by decide +kernel
theorem dX12_valueOf_61 : decode cX12_valueOf 61 = .ok (.iload 5, 2) := by decide +kernel
theorem dX12_valueOf_63 : decode cX12_valueOf 63 = .ok (.ireturn, 1) := by decide +kernel
theorem dX12_valueOf_64 : decode cX12_valueOf 64 = .ok (.aload_n 2, 1) := by decide +kernel
theorem dX12_valueOf_65 : decode cX12_valueOf 65 = .ok (.iconst 4, 1) := by decide +kernel
theorem dX12_valueOf_66 : decode cX12_valueOf 66 = .ok (.iload 4, 2) := by decide +kernel
theorem dX12_valueOf_68 : decode cX12_valueOf 68 = .ok (.imul, 1) := by decide +kernel
theorem dX12_valueOf_69 : decode cX12_valueOf 69 = .ok (.iconst 3, 1) := by decide +kernel
theorem dX12_valueOf_70 : decode cX12_valueOf 70 = .ok (.iadd, 1) := by decide +kernel
theorem dX12_valueOf_71 : decode cX12_valueOf 71 = .ok (.iaload, 1) := by decide +kernel
theorem dX12_valueOf_72 : decode cX12_valueOf 72 = .ok (.aload_n 2, 1) := by decide +kernel
theorem dX12_valueOf_73 : decode cX12_valueOf 73 = .ok (.iconst 4, 1) := by decide +kernel
theorem dX12_valueOf_74 : decode cX12_valueOf 74 = .ok (.iload 4, 2) := by decide +kernel
theorem dX12_valueOf_76 : decode cX12_valueOf 76 = .ok (.imul, 1) := by decide +kernel
theorem dX12_valueOf_77 : decode cX12_valueOf 77 = .ok (.iconst 2, 1) := by decide +kernel
theorem dX12_valueOf_78 : decode cX12_valueOf 78 = .ok (.iadd, 1) := by decide +kernel
theorem dX12_valueOf_79 : decode cX12_valueOf 79 = .ok (.iaload, 1) := by decide +kernel
theorem dX12_valueOf_80 : decode cX12_valueOf 80 = .ok (.isub, 1) := by decide +kernel
theorem dX12_valueOf_81 : decode cX12_valueOf 81 = .ok (.iconst 1, 1) := by decide +kernel
theorem dX12_valueOf_82 : decode cX12_valueOf 82 = .ok (.iadd, 1) := by decide +kernel
theorem dX12_valueOf_83 : decode cX12_valueOf 83 = .ok (.ireturn, 1) := by decide +kernel
theorem dX12_valueOf_84 : decode cX12_valueOf 84 = .ok (.iload 6, 2) := by decide +kernel
theorem dX12_valueOf_86 : decode cX12_valueOf 86 = .ok (.iconst 2, 1) := by decide +kernel
theorem dX12_valueOf_87 : decode cX12_valueOf 87 = .ok (.if_icmp .ge 19, 3) := by decide +kernel
theorem dX12_valueOf_90 : decode cX12_valueOf 90 = .ok (.aload_n 0, 1) := by decide +kernel
theorem dX12_valueOf_91 : decode cX12_valueOf 91 = .ok (.aload_n 2, 1) := by decide +kernel
theorem dX12_valueOf_92 : decode cX12_valueOf 92 = .ok (.iload_n 3, 1) := by decide +kernel
theorem dX12_valueOf_93 : decode cX12_valueOf 93 = .ok (.iconst 1, 1) := by decide +kernel
theorem dX12_valueOf_94 : decode cX12_valueOf 94 = .ok (.iload 6, 2) := by decide +kernel
theorem dX12_valueOf_96 : decode cX12_valueOf 96 = .ok (.isub, 1) := by decide +kernel
theorem dX12_valueOf_97 : decode cX12_valueOf 97 = .ok (.iload 5, 2) := by decide +kernel
theorem dX12_valueOf_99 : decode cX12_valueOf 99 = .ok (.invokestatic 298, 3) := by decide +kernel
theorem dX12_valueOf_102 : decode cX12_valueOf 102 = .ok (.invokevirtual 302, 3) := by decide +kernel
theorem dX12_valueOf_105 : decode cX12_valueOf 105 = .ok (.ireturn, 1) := by decide +kernel
theorem dX12_valueOf_106 : decode cX12_valueOf 106 = .ok (.aload_n 0, 1) := by decide +kernel
theorem dX12_valueOf_107 : decode cX12_valueOf 107 = .ok (.aload_n 2, 1) := by decide +kernel
theorem dX12_valueOf_108 : decode cX12_valueOf 108 = .ok (.iload_n 3, 1) := by decide +kernel
theorem dX12_valueOf_109 : decode cX12_valueOf 109 = .ok (.iconst 0, 1) := by decide +kernel
theorem dX12_valueOf_110 : decode cX12_valueOf 110 = .ok (.iload 5, 2) := by decide +kernel
theorem dX12_valueOf_112 : decode cX12_valueOf 112 = .ok (.invokestatic 298, 3) := by decide +kernel
theorem dX12_valueOf_115 : decode cX12_valueOf 115 = .ok (.invokevirtual 302, 3) := by decide +kernel
theorem dX12_valueOf_118 : decode cX12_valueOf 118 = .ok (.aload_n 0, 1) := by decide +kernel
theorem dX12_valueOf_119 : decode cX12_valueOf 119 = .ok (.aload_n 2, 1) := by decide +kernel
theorem dX12_valueOf_120 : decode cX12_valueOf 120 = .ok (.iload_n 3, 1) := by decide +kernel
theorem dX12_valueOf_121 : decode cX12_valueOf 121 = .ok (.iconst 1, 1) := by decide +kernel
theorem dX12_valueOf_122 : decode cX12_valueOf 122 = .ok (.iload 5, 2) := by decide +kernel
theorem dX12_valueOf_124 : decode cX12_valueOf 124 = .ok (.invokestatic 298, 3) := by decide +kernel
theorem dX12_valueOf_127 : decode cX12_valueOf 127 = .ok (.invokevirtual 302, 3) := by decide +kernel
theorem dX12_valueOf_130 : decode cX12_valueOf 130 = .ok (.iadd, 1) := by decide +kernel
theorem dX12_valueOf_131 : decode cX12_valueOf 131 = .ok (.ireturn, 1) := by decide +kernel
theorem dX12_valueOf_132 : decode cX12_valueOf 132 = .ok (.aload_n 0, 1) := by decide +kernel
theorem dX12_valueOf_133 : decode cX12_valueOf 133 = .ok (.getfield 23, 3) := by decide +kernel
theorem dX12_valueOf_136 : decode cX12_valueOf 136 = .ok (.aload_n 2, 1) := by decide +kernel
theorem dX12_valueOf_137 : decode cX12_valueOf 137 = .ok (.iconst 4, 1) := by decide +kernel
theorem dX12_valueOf_138 : decode cX12_valueOf 138 = .ok (.iload 4, 2) := by decide +kernel
theorem dX12_valueOf_140 : decode cX12_valueOf 140 = .ok (.imul, 1) := by decide +kernel
theorem dX12_valueOf_141 : decode cX12_valueOf 141 = .ok (.iaload, 1) := by decide +kernel
theorem dX12_valueOf_142 : decode cX12_valueOf 142 = .ok (.iaload, 1) := by decide +kernel
theorem dX12_valueOf_143 : decode cX12_valueOf 143 = .ok (.aload_n 2, 1) := by decide +kernel
theorem dX12_valueOf_144 : decode cX12_valueOf 144 = .ok (.iload_n 3, 1) := by decide +kernel
theorem dX12_valueOf_145 : decode cX12_valueOf 145 = .ok (.iload 5, 2) := by decide +kernel
theorem dX12_valueOf_147 : decode cX12_valueOf 147 = .ok (.invokestatic 305, 3) := by decide +kernel
theorem dX12_valueOf_150 : decode cX12_valueOf 150 = .ok (.iand, 1) := by decide +kernel
theorem dX12_valueOf_151 : decode cX12_valueOf 151 = .ok (.invokestatic 309, 3) := by decide +kernel
theorem dX12_valueOf_154 : decode cX12_valueOf 154 = .ok (.ireturn, 1) := by decide +kernel
def fX12_valueOf_0_14 (V : Nat → Nat → Int32) (a1 : Int32) (a2 : Int32) (a3 : Int32) (a4 : Int32) : Option (Int32) :=
  lt ((((4 : Int32) * a3) + (1 : Int32))) (fun x1 =>
  gd (ib x1 16) (
  lt ((V 14 (x1).toNatClampNeg)) (fun x3 =>
  (if a1 = (0 : Int32) then
  lt (((4 : Int32) * a3)) (fun x5 =>
  gd (ib x5 16) (
  lt (((4 : Int32) * (V 14 (x5).toNatClampNeg))) (fun x7 =>
  gd (ib x7 24) (
  some ((V 1 (x7).toNatClampNeg))))))
  else
  (if a1 = (1 : Int32) then
  some x3
  else
  (if a1 = (2 : Int32) then
  some a4
  else
  (if a1 = (3 : Int32) then
  lt ((((4 : Int32) * a3) + (3 : Int32))) (fun x12 =>
  gd (ib x12 16) (
  lt ((((4 : Int32) * a3) + (2 : Int32))) (fun x14 =>
  gd (ib x14 16) (
  some ((((V 14 (x12).toNatClampNeg) - (V 14 (x14).toNatClampNeg)) + (1 : Int32)))))))
  else
  (if a1 = (4 : Int32) then
  (if (2 : Int32) ≤ x3 then
  bd1 (fX12_inOf_14 V a2 (0 : Int32) a4) (fun r18 =>
  bd1 (fX12_weightOf_0 V r18) (fun r20 =>
  bd1 (fX12_inOf_14 V a2 (1 : Int32) a4) (fun r22 =>
  bd1 (fX12_weightOf_0 V r22) (fun r24 =>
  some ((r20 + r24))))))
  else
  bd1 (fX12_inOf_14 V a2 (((1 : Int32) - x3)) a4) (fun r26 =>
  bd1 (fX12_weightOf_0 V r26) (fun r28 =>
  some r28)))
  else
  lt (((4 : Int32) * a3)) (fun x30 =>
  gd (ib x30 16) (
  lt ((V 14 (x30).toNatClampNeg)) (fun x32 =>
  gd (ib x32 6) (
  bd1 (fX12_allIn_14 V a2 a4) (fun r34 =>
  bd1 (fX12_bits (((V 2 (x32).toNatClampNeg) &&& r34))) (fun r36 =>
  some r36))))))))))))))
set_option maxHeartbeats 4000000 in
set_option maxRecDepth 100000 in
theorem kX12_valueOf_0_14 (l : Launch) (B : jBT) (D : va_G) (ad : Nat → Nat) (cA : Nat → ClassId) (hI : jI ad TR) (S : Nat → Int32) (V : Nat → Nat → Int32) (L : Nat → Int64) (a1 : Int32) (a2 : Int32) (a3 : Int32) (a4 : Int32) (r0 : Int32) (h : fX12_valueOf_0_14 V a1 a2 a3 a4 = some r0) : jM l yX12_valueOf cX12_valueOf 7 (some .int) ({ frames := 2, cells := 0, slots := 0, locals := 49 }) B D TR ad cA [.ref (ad 0), .int a1, .ref (ad 14), .int a2, .int a3, .int a4] S V L (some (.int r0)) S V L := by
  refine jM_of (plainFor_of_name (by decide)) TR_ok hI (Nat.le_of_ble_eq_true rfl) ?_
  intro p e s m args below meth c C hr hlk
  refine j_lv (lv2 := [(0, .ref (ad 0)), (1, .int a1), (2, .ref (ad 14)), (3, .int a2), (4, .int a3), (5, .int a4)]) rfl ?_
  unfold fX12_valueOf_0_14 at h
  refine j_aload_n C 2 rfl dX12_valueOf_0 rfl ?_
  refine j_iconst C dX12_valueOf_1 ci_4 ?_
  refine j_iload C 4 rfl dX12_valueOf_2 ?_
  refine j_imul C dX12_valueOf_4 ?_
  refine j_iconst C dX12_valueOf_5 ci_1 ?_
  refine j_iadd C dX12_valueOf_6 ?_
  refine lt_elim h (fun x1 e_x1 h => ?_)
  refine j_top e_x1 ?_
  obtain ⟨g2, h⟩ := gd_elim h
  refine j_iald C tr_14 (ib_in g2) dX12_valueOf_7 ?_
  refine lt_elim h (fun x3 e_x3 h => ?_)
  refine j_top e_x3 ?_
  refine j_istore C [(6, .int x3), (0, .ref (ad 0)), (1, .int a1), (2, .ref (ad 14)), (3, .int a2), (4, .int a3), (5, .int a4)] dX12_valueOf_8 (by decide) rfl ?_
  refine j_iload_n C 2 rfl dX12_valueOf_10 rfl ?_
  by_cases c4 : a1 = (0 : Int32)
  · have h := (if_pos c4).symm.trans h
    refine j_tableIn (tgt := 44) C dX12_valueOf_11 (by rw [c4]; decide) (by rw [c4]; decide) (by rw [c4]; rfl) (by decide) ?_
    refine j_aload_n C 1 rfl dX12_valueOf_44 rfl ?_
    refine fg_X12_19_TR_0 C dX12_valueOf_45 ?_
    refine j_iconst C dX12_valueOf_48 ci_4 ?_
    refine j_aload_n C 3 rfl dX12_valueOf_49 rfl ?_
    refine j_iconst C dX12_valueOf_50 ci_4 ?_
    refine j_iload C 5 rfl dX12_valueOf_51 ?_
    refine j_imul C dX12_valueOf_53 ?_
    refine lt_elim h (fun x5 e_x5 h => ?_)
    refine j_top e_x5 ?_
    obtain ⟨g6, h⟩ := gd_elim h
    refine j_iald C tr_14 (ib_in g6) dX12_valueOf_54 ?_
    refine j_imul C dX12_valueOf_55 ?_
    refine lt_elim h (fun x7 e_x7 h => ?_)
    refine j_top e_x7 ?_
    obtain ⟨g8, h⟩ := gd_elim h
    refine j_iald C tr_1 (ib_in g8) dX12_valueOf_56 ?_
    cases h
    exact j_iret C hr hlk rfl dX12_valueOf_57
  have h := (if_neg c4).symm.trans h
  have n_c4 := ne_toInt (z := 0) (by decide) c4
  by_cases c9 : a1 = (1 : Int32)
  · have h := (if_pos c9).symm.trans h
    refine j_tableIn (tgt := 58) C dX12_valueOf_11 (by rw [c9]; decide) (by rw [c9]; decide) (by rw [c9]; rfl) (by decide) ?_
    refine j_iload C 0 rfl dX12_valueOf_58 ?_
    cases h
    exact j_iret C hr hlk rfl dX12_valueOf_60
  have h := (if_neg c9).symm.trans h
  have n_c9 := ne_toInt (z := 1) (by decide) c9
  by_cases c10 : a1 = (2 : Int32)
  · have h := (if_pos c10).symm.trans h
    refine j_tableIn (tgt := 61) C dX12_valueOf_11 (by rw [c10]; decide) (by rw [c10]; decide) (by rw [c10]; rfl) (by decide) ?_
    refine j_iload C 6 rfl dX12_valueOf_61 ?_
    cases h
    exact j_iret C hr hlk rfl dX12_valueOf_63
  have h := (if_neg c10).symm.trans h
  have n_c10 := ne_toInt (z := 2) (by decide) c10
  by_cases c11 : a1 = (3 : Int32)
  · have h := (if_pos c11).symm.trans h
    refine j_tableIn (tgt := 64) C dX12_valueOf_11 (by rw [c11]; decide) (by rw [c11]; decide) (by rw [c11]; rfl) (by decide) ?_
    refine j_aload_n C 3 rfl dX12_valueOf_64 rfl ?_
    refine j_iconst C dX12_valueOf_65 ci_4 ?_
    refine j_iload C 5 rfl dX12_valueOf_66 ?_
    refine j_imul C dX12_valueOf_68 ?_
    refine j_iconst C dX12_valueOf_69 ci_3 ?_
    refine j_iadd C dX12_valueOf_70 ?_
    refine lt_elim h (fun x12 e_x12 h => ?_)
    refine j_top e_x12 ?_
    obtain ⟨g13, h⟩ := gd_elim h
    refine j_iald C tr_14 (ib_in g13) dX12_valueOf_71 ?_
    refine j_aload_n C 3 rfl dX12_valueOf_72 rfl ?_
    refine j_iconst C dX12_valueOf_73 ci_4 ?_
    refine j_iload C 5 rfl dX12_valueOf_74 ?_
    refine j_imul C dX12_valueOf_76 ?_
    refine j_iconst C dX12_valueOf_77 ci_2 ?_
    refine j_iadd C dX12_valueOf_78 ?_
    refine lt_elim h (fun x14 e_x14 h => ?_)
    refine j_top e_x14 ?_
    obtain ⟨g15, h⟩ := gd_elim h
    refine j_iald C tr_14 (ib_in g15) dX12_valueOf_79 ?_
    refine j_isub C dX12_valueOf_80 ?_
    refine j_iconst C dX12_valueOf_81 ci_1 ?_
    refine j_iadd C dX12_valueOf_82 ?_
    cases h
    exact j_iret C hr hlk rfl dX12_valueOf_83
  have h := (if_neg c11).symm.trans h
  have n_c11 := ne_toInt (z := 3) (by decide) c11
  by_cases c16 : a1 = (4 : Int32)
  · have h := (if_pos c16).symm.trans h
    refine j_tableIn (tgt := 84) C dX12_valueOf_11 (by rw [c16]; decide) (by rw [c16]; decide) (by rw [c16]; rfl) (by decide) ?_
    refine j_iload C 0 rfl dX12_valueOf_84 ?_
    refine j_iconst C dX12_valueOf_86 ci_2 ?_
    refine j_icmp_ge (tgt := 106) C dX12_valueOf_87 (by decide) (fun c17 => ?_) (fun c17 => ?_)
    · have h := (if_pos c17).symm.trans h
      refine j_aload_n C 1 rfl dX12_valueOf_106 rfl ?_
      refine j_aload_n C 3 rfl dX12_valueOf_107 rfl ?_
      refine j_iload_n C 4 rfl dX12_valueOf_108 rfl ?_
      refine j_iconst C dX12_valueOf_109 ci_0 ?_
      refine j_iload C 6 rfl dX12_valueOf_110 ?_
      obtain ⟨r18, h19, h⟩ := bd1_elim h
      refine j_callS (As := [.ref (ad 14), .int a2, .int (0 : Int32), .int a4]) (rest := [.ref (ad 0)]) C (kX12_inOf_14 l B D ad cA hI S V L a2 (0 : Int32) a4 _ h19) mw_X12_inOf wd1775 wd1774 ⟨rfl, rfl, by decide, by decide⟩ ⟨Nat.zero_le _, Nat.zero_le _⟩ rfl rfl (Nat.le_of_ble_eq_true rfl) dX12_valueOf_112 ?_
      obtain ⟨r20, h21, h⟩ := bd1_elim h
      refine j_callV (As := [.int r18]) (rest := []) C (kX12_weightOf_0 l B D ad cA hI S V L r18 _ h21) mw_X12_weightOf wd1794 wd85 wd1792 tr_0 rfl rfl ⟨rfl, rfl, by decide, by decide⟩ ⟨Nat.zero_le _, Nat.zero_le _⟩ rfl rfl (Nat.le_of_ble_eq_true rfl) dX12_valueOf_115 ?_
      refine j_aload_n C 1 rfl dX12_valueOf_118 rfl ?_
      refine j_aload_n C 3 rfl dX12_valueOf_119 rfl ?_
      refine j_iload_n C 4 rfl dX12_valueOf_120 rfl ?_
      refine j_iconst C dX12_valueOf_121 ci_1 ?_
      refine j_iload C 6 rfl dX12_valueOf_122 ?_
      obtain ⟨r22, h23, h⟩ := bd1_elim h
      refine j_callS (As := [.ref (ad 14), .int a2, .int (1 : Int32), .int a4]) (rest := [.ref (ad 0), .int r20]) C (kX12_inOf_14 l B D ad cA hI S V L a2 (1 : Int32) a4 _ h23) mw_X12_inOf wd1775 wd1774 ⟨rfl, rfl, by decide, by decide⟩ ⟨Nat.zero_le _, Nat.zero_le _⟩ rfl rfl (Nat.le_of_ble_eq_true rfl) dX12_valueOf_124 ?_
      obtain ⟨r24, h25, h⟩ := bd1_elim h
      refine j_callV (As := [.int r22]) (rest := [.int r20]) C (kX12_weightOf_0 l B D ad cA hI S V L r22 _ h25) mw_X12_weightOf wd1794 wd85 wd1792 tr_0 rfl rfl ⟨rfl, rfl, by decide, by decide⟩ ⟨Nat.zero_le _, Nat.zero_le _⟩ rfl rfl (Nat.le_of_ble_eq_true rfl) dX12_valueOf_127 ?_
      refine j_iadd C dX12_valueOf_130 ?_
      cases h
      exact j_iret C hr hlk rfl dX12_valueOf_131
    · have h := (if_neg c17).symm.trans h
      refine j_aload_n C 1 rfl dX12_valueOf_90 rfl ?_
      refine j_aload_n C 3 rfl dX12_valueOf_91 rfl ?_
      refine j_iload_n C 4 rfl dX12_valueOf_92 rfl ?_
      refine j_iconst C dX12_valueOf_93 ci_1 ?_
      refine j_iload C 0 rfl dX12_valueOf_94 ?_
      refine j_isub C dX12_valueOf_96 ?_
      refine j_iload C 6 rfl dX12_valueOf_97 ?_
      obtain ⟨r26, h27, h⟩ := bd1_elim h
      refine j_callS (As := [.ref (ad 14), .int a2, .int ((1 : Int32) - x3), .int a4]) (rest := [.ref (ad 0)]) C (kX12_inOf_14 l B D ad cA hI S V L a2 (((1 : Int32) - x3)) a4 _ h27) mw_X12_inOf wd1775 wd1774 ⟨rfl, rfl, by decide, by decide⟩ ⟨Nat.zero_le _, Nat.zero_le _⟩ rfl rfl (Nat.le_of_ble_eq_true rfl) dX12_valueOf_99 ?_
      obtain ⟨r28, h29, h⟩ := bd1_elim h
      refine j_callV (As := [.int r26]) (rest := []) C (kX12_weightOf_0 l B D ad cA hI S V L r26 _ h29) mw_X12_weightOf wd1794 wd85 wd1792 tr_0 rfl rfl ⟨rfl, rfl, by decide, by decide⟩ ⟨Nat.zero_le _, Nat.zero_le _⟩ rfl rfl (Nat.le_of_ble_eq_true rfl) dX12_valueOf_102 ?_
      cases h
      exact j_iret C hr hlk rfl dX12_valueOf_105
  have h := (if_neg c16).symm.trans h
  have n_c16 := ne_toInt (z := 4) (by decide) c16
  refine j_tableOut (tgt := 132) C dX12_valueOf_11 (by omega) (by decide) ?_
  refine j_aload_n C 1 rfl dX12_valueOf_132 rfl ?_
  refine fg_X12_23_TR_0 C dX12_valueOf_133 ?_
  refine j_aload_n C 3 rfl dX12_valueOf_136 rfl ?_
  refine j_iconst C dX12_valueOf_137 ci_4 ?_
  refine j_iload C 5 rfl dX12_valueOf_138 ?_
  refine j_imul C dX12_valueOf_140 ?_
  refine lt_elim h (fun x30 e_x30 h => ?_)
  refine j_top e_x30 ?_
  obtain ⟨g31, h⟩ := gd_elim h
  refine j_iald C tr_14 (ib_in g31) dX12_valueOf_141 ?_
  refine lt_elim h (fun x32 e_x32 h => ?_)
  refine j_top e_x32 ?_
  obtain ⟨g33, h⟩ := gd_elim h
  refine j_iald C tr_2 (ib_in g33) dX12_valueOf_142 ?_
  refine j_aload_n C 3 rfl dX12_valueOf_143 rfl ?_
  refine j_iload_n C 4 rfl dX12_valueOf_144 rfl ?_
  refine j_iload C 6 rfl dX12_valueOf_145 ?_
  obtain ⟨r34, h35, h⟩ := bd1_elim h
  refine j_callS (As := [.ref (ad 14), .int a2, .int a4]) (rest := [.int (V 2 (x32).toNatClampNeg)]) C (kX12_allIn_14 l B D ad cA hI S V L a2 a4 _ h35) mw_X12_allIn wd1778 wd1777 ⟨rfl, rfl, by decide, by decide⟩ ⟨Nat.zero_le _, Nat.zero_le _⟩ rfl rfl (Nat.le_of_ble_eq_true rfl) dX12_valueOf_147 ?_
  refine j_iand C dX12_valueOf_150 ?_
  obtain ⟨r36, h37, h⟩ := bd1_elim h
  refine j_callS (As := [.int ((V 2 (x32).toNatClampNeg) &&& r34)]) (rest := []) C (kX12_bits l B D ad cA hI S V L (((V 2 (x32).toNatClampNeg) &&& r34)) _ h37) mw_X12_bits wd1797 wd1796 ⟨rfl, rfl, by decide, by decide⟩ ⟨Nat.zero_le _, Nat.zero_le _⟩ rfl rfl (Nat.le_of_ble_eq_true rfl) dX12_valueOf_151 ?_
  cases h
  exact j_iret C hr hlk rfl dX12_valueOf_154
theorem dX12_works_0 : decode cX12_works 0 = .ok (.iload_n 0, 1) := by decide +kernel
theorem dX12_works_1 : decode cX12_works 1 = .ok (.tableswitch 105 4 10 #[43, 57, 71, 82, 93, 97, 101], 43) := by decide +kernel
theorem dX12_works_44 : decode cX12_works 44 = .ok (.iload_n 1, 1) := by decide +kernel
theorem dX12_works_45 : decode cX12_works 45 = .ok (.ifCond .eq 11, 3) := by decide +kernel
theorem dX12_works_48 : decode cX12_works 48 = .ok (.iload_n 2, 1) := by decide +kernel
theorem dX12_works_49 : decode cX12_works 49 = .ok (.ifCond .eq 7, 3) := by decide +kernel
theorem dX12_works_52 : decode cX12_works 52 = .ok (.iconst 1, 1) := by decide +kernel
theorem dX12_works_53 : decode cX12_works 53 = .ok (.goto 4, 3) := by decide +kernel
theorem dX12_works_56 : decode cX12_works 56 = .ok (.iconst 0, 1) := by decide +kernel
theorem dX12_works_57 : decode cX12_works 57 = .ok (.ireturn, 1) := by decide +kernel
theorem dX12_works_58 : decode cX12_works 58 = .ok (.iload_n 1, 1) := by decide +kernel
theorem dX12_works_59 : decode cX12_works 59 = .ok (.ifCond .ne 7, 3) := by decide +kernel
theorem dX12_works_62 : decode cX12_works 62 = .ok (.iload_n 2, 1) := by decide +kernel
theorem dX12_works_63 : decode cX12_works 63 = .ok (.ifCond .eq 7, 3) := by decide +kernel
theorem dX12_works_66 : decode cX12_works 66 = .ok (.iconst 1, 1) := by decide +kernel
theorem dX12_works_67 : decode cX12_works 67 = .ok (.goto 4, 3) := by decide +kernel
theorem dX12_works_70 : decode cX12_works 70 = .ok (.iconst 0, 1) := by decide +kernel
theorem dX12_works_71 : decode cX12_works 71 = .ok (.ireturn, 1) := by decide +kernel
theorem dX12_works_72 : decode cX12_works 72 = .ok (.iload_n 1, 1) := by decide +kernel
theorem dX12_works_73 : decode cX12_works 73 = .ok (.iload_n 2, 1) := by decide +kernel
theorem dX12_works_74 : decode cX12_works 74 = .ok (.if_icmp .ge 7, 3) := by decide +kernel
theorem dX12_works_77 : decode cX12_works 77 = .ok (.iconst 1, 1) := by decide +kernel
theorem dX12_works_78 : decode cX12_works 78 = .ok (.goto 4, 3) := by decide +kernel
theorem dX12_works_81 : decode cX12_works 81 = .ok (.iconst 0, 1) := by decide +kernel
theorem dX12_works_82 : decode cX12_works 82 = .ok (.ireturn, 1) := by decide +kernel
theorem dX12_works_83 : decode cX12_works 83 = .ok (.iload_n 1, 1) := by decide +kernel
theorem dX12_works_84 : decode cX12_works 84 = .ok (.iload_n 2, 1) := by decide +kernel
theorem dX12_works_85 : decode cX12_works 85 = .ok (.if_icmp .ne 7, 3) := by decide +kernel
theorem dX12_works_88 : decode cX12_works 88 = .ok (.iconst 1, 1) := by decide +kernel
theorem dX12_works_89 : decode cX12_works 89 = .ok (.goto 4, 3) := by decide +kernel
theorem dX12_works_92 : decode cX12_works 92 = .ok (.iconst 0, 1) := by decide +kernel
theorem dX12_works_93 : decode cX12_works 93 = .ok (.ireturn, 1) := by decide +kernel
theorem dX12_works_94 : decode cX12_works 94 = .ok (.iload_n 1, 1) := by decide +kernel
theorem dX12_works_95 : decode cX12_works 95 = .ok (.iload_n 2, 1) := by decide +kernel
theorem dX12_works_96 : decode cX12_works 96 = .ok (.iadd, 1) := by decide +kernel
theorem dX12_works_97 : decode cX12_works 97 = .ok (.ireturn, 1) := by decide +kernel
theorem dX12_works_98 : decode cX12_works 98 = .ok (.iload_n 1, 1) := by decide +kernel
theorem dX12_works_99 : decode cX12_works 99 = .ok (.iload_n 2, 1) := by decide +kernel
theorem dX12_works_100 : decode cX12_works 100 = .ok (.isub, 1) := by decide +kernel
theorem dX12_works_101 : decode cX12_works 101 = .ok (.ireturn, 1) := by decide +kernel
theorem dX12_works_102 : decode cX12_works 102 = .ok (.iload_n 1, 1) := by decide +kernel
theorem dX12_works_103 : decode cX12_works 103 = .ok (.iload_n 2, 1) := by decide +kernel
theorem dX12_works_104 : decode cX12_works 104 = .ok (.imul, 1) := by decide +kernel
theorem dX12_works_105 : decode cX12_works 105 = .ok (.ireturn, 1) := by decide +kernel
theorem dX12_works_106 : decode cX12_works 106 = .ok (.iload_n 2, 1) := by decide +kernel
theorem dX12_works_107 : decode cX12_works 107 = .ok (.ifCond .ne 7, 3) := by decide +kernel
theorem dX12_works_110 : decode cX12_works 110 = .ok (.iconst 0, 1) := by decide +kernel
theorem dX12_works_111 : decode cX12_works 111 = .ok (.goto 6, 3) := by decide +kernel
theorem dX12_works_114 : decode cX12_works 114 = .ok (.iload_n 1, 1) := by decide +kernel
theorem dX12_works_115 : decode cX12_works 115 = .ok (.iload_n 2, 1) := by decide +kernel
theorem dX12_works_116 : decode cX12_works 116 = .ok (.idiv, 1) := by decide +kernel
theorem dX12_works_117 : decode cX12_works 117 = .ok (.ireturn, 1) := by decide +kernel
def fX12_works (a1 : Int32) (a2 : Int32) (a3 : Int32) : Option (Int32) :=
  (if a1 = (4 : Int32) then
  (if a2 = 0 then
  some (0 : Int32)
  else
  (if a3 = 0 then
  some (0 : Int32)
  else
  some (1 : Int32)))
  else
  (if a1 = (5 : Int32) then
  (if a2 = 0 then
  (if a3 = 0 then
  some (0 : Int32)
  else
  some (1 : Int32))
  else
  some (1 : Int32))
  else
  (if a1 = (6 : Int32) then
  (if a3 ≤ a2 then
  some (0 : Int32)
  else
  some (1 : Int32))
  else
  (if a1 = (7 : Int32) then
  (if a2 = a3 then
  some (1 : Int32)
  else
  some (0 : Int32))
  else
  (if a1 = (8 : Int32) then
  some ((a2 + a3))
  else
  (if a1 = (9 : Int32) then
  some ((a2 - a3))
  else
  (if a1 = (10 : Int32) then
  some ((a2 * a3))
  else
  (if a3 = 0 then
  some (0 : Int32)
  else
  gd (nz a3) (
  some ((a2 / a3)))))))))))
set_option maxHeartbeats 4000000 in
set_option maxRecDepth 100000 in
theorem kX12_works (l : Launch) (B : jBT) (D : va_G) (ad : Nat → Nat) (cA : Nat → ClassId) (hI : jI ad TR) (S : Nat → Int32) (V : Nat → Nat → Int32) (L : Nat → Int64) (a1 : Int32) (a2 : Int32) (a3 : Int32) (r0 : Int32) (h : fX12_works a1 a2 a3 = some r0) : jM l yX12_works cX12_works 3 (some .int) ({ frames := 0, cells := 0, slots := 0, locals := 0 }) B D TR ad cA [.int a1, .int a2, .int a3] S V L (some (.int r0)) S V L := by
  refine jM_of (plainFor_of_name (by decide)) TR_ok hI (Nat.le_of_ble_eq_true rfl) ?_
  intro p e s m args below meth c C hr hlk
  refine j_lv (lv2 := [(0, .int a1), (1, .int a2), (2, .int a3)]) rfl ?_
  unfold fX12_works at h
  refine j_iload_n C 0 rfl dX12_works_0 rfl ?_
  by_cases c1 : a1 = (4 : Int32)
  · have h := (if_pos c1).symm.trans h
    refine j_tableIn (tgt := 44) C dX12_works_1 (by rw [c1]; decide) (by rw [c1]; decide) (by rw [c1]; rfl) (by decide) ?_
    refine j_iload_n C 1 rfl dX12_works_44 rfl ?_
    refine j_if_eq (tgt := 56) C dX12_works_45 (by decide) (fun c2 => ?_) (fun c2 => ?_)
    · have h := (if_pos c2).symm.trans h
      refine j_iconst C dX12_works_56 ci_0 ?_
      cases h
      exact j_iret C hr hlk rfl dX12_works_57
    · have h := (if_neg c2).symm.trans h
      refine j_iload_n C 2 rfl dX12_works_48 rfl ?_
      refine j_if_eq (tgt := 56) C dX12_works_49 (by decide) (fun c3 => ?_) (fun c3 => ?_)
      · have h := (if_pos c3).symm.trans h
        refine j_iconst C dX12_works_56 ci_0 ?_
        cases h
        exact j_iret C hr hlk rfl dX12_works_57
      · have h := (if_neg c3).symm.trans h
        refine j_iconst C dX12_works_52 ci_1 ?_
        refine j_goto (tgt := 57) C dX12_works_53 (by decide) ?_
        cases h
        exact j_iret C hr hlk rfl dX12_works_57
  have h := (if_neg c1).symm.trans h
  have n_c1 := ne_toInt (z := 4) (by decide) c1
  by_cases c4 : a1 = (5 : Int32)
  · have h := (if_pos c4).symm.trans h
    refine j_tableIn (tgt := 58) C dX12_works_1 (by rw [c4]; decide) (by rw [c4]; decide) (by rw [c4]; rfl) (by decide) ?_
    refine j_iload_n C 1 rfl dX12_works_58 rfl ?_
    refine j_if_ne (tgt := 66) C dX12_works_59 (by decide) (fun c5 => ?_) (fun c5 => ?_)
    · have h := (if_neg c5).symm.trans h
      refine j_iconst C dX12_works_66 ci_1 ?_
      refine j_goto (tgt := 71) C dX12_works_67 (by decide) ?_
      cases h
      exact j_iret C hr hlk rfl dX12_works_71
    · have h := (if_pos c5).symm.trans h
      refine j_iload_n C 2 rfl dX12_works_62 rfl ?_
      refine j_if_eq (tgt := 70) C dX12_works_63 (by decide) (fun c6 => ?_) (fun c6 => ?_)
      · have h := (if_pos c6).symm.trans h
        refine j_iconst C dX12_works_70 ci_0 ?_
        cases h
        exact j_iret C hr hlk rfl dX12_works_71
      · have h := (if_neg c6).symm.trans h
        refine j_iconst C dX12_works_66 ci_1 ?_
        refine j_goto (tgt := 71) C dX12_works_67 (by decide) ?_
        cases h
        exact j_iret C hr hlk rfl dX12_works_71
  have h := (if_neg c4).symm.trans h
  have n_c4 := ne_toInt (z := 5) (by decide) c4
  by_cases c7 : a1 = (6 : Int32)
  · have h := (if_pos c7).symm.trans h
    refine j_tableIn (tgt := 72) C dX12_works_1 (by rw [c7]; decide) (by rw [c7]; decide) (by rw [c7]; rfl) (by decide) ?_
    refine j_iload_n C 1 rfl dX12_works_72 rfl ?_
    refine j_iload_n C 2 rfl dX12_works_73 rfl ?_
    refine j_icmp_ge (tgt := 81) C dX12_works_74 (by decide) (fun c8 => ?_) (fun c8 => ?_)
    · have h := (if_pos c8).symm.trans h
      refine j_iconst C dX12_works_81 ci_0 ?_
      cases h
      exact j_iret C hr hlk rfl dX12_works_82
    · have h := (if_neg c8).symm.trans h
      refine j_iconst C dX12_works_77 ci_1 ?_
      refine j_goto (tgt := 82) C dX12_works_78 (by decide) ?_
      cases h
      exact j_iret C hr hlk rfl dX12_works_82
  have h := (if_neg c7).symm.trans h
  have n_c7 := ne_toInt (z := 6) (by decide) c7
  by_cases c9 : a1 = (7 : Int32)
  · have h := (if_pos c9).symm.trans h
    refine j_tableIn (tgt := 83) C dX12_works_1 (by rw [c9]; decide) (by rw [c9]; decide) (by rw [c9]; rfl) (by decide) ?_
    refine j_iload_n C 1 rfl dX12_works_83 rfl ?_
    refine j_iload_n C 2 rfl dX12_works_84 rfl ?_
    refine j_icmp_ne (tgt := 92) C dX12_works_85 (by decide) (fun c10 => ?_) (fun c10 => ?_)
    · have h := (if_neg c10).symm.trans h
      refine j_iconst C dX12_works_92 ci_0 ?_
      cases h
      exact j_iret C hr hlk rfl dX12_works_93
    · have h := (if_pos c10).symm.trans h
      refine j_iconst C dX12_works_88 ci_1 ?_
      refine j_goto (tgt := 93) C dX12_works_89 (by decide) ?_
      cases h
      exact j_iret C hr hlk rfl dX12_works_93
  have h := (if_neg c9).symm.trans h
  have n_c9 := ne_toInt (z := 7) (by decide) c9
  by_cases c11 : a1 = (8 : Int32)
  · have h := (if_pos c11).symm.trans h
    refine j_tableIn (tgt := 94) C dX12_works_1 (by rw [c11]; decide) (by rw [c11]; decide) (by rw [c11]; rfl) (by decide) ?_
    refine j_iload_n C 1 rfl dX12_works_94 rfl ?_
    refine j_iload_n C 2 rfl dX12_works_95 rfl ?_
    refine j_iadd C dX12_works_96 ?_
    cases h
    exact j_iret C hr hlk rfl dX12_works_97
  have h := (if_neg c11).symm.trans h
  have n_c11 := ne_toInt (z := 8) (by decide) c11
  by_cases c12 : a1 = (9 : Int32)
  · have h := (if_pos c12).symm.trans h
    refine j_tableIn (tgt := 98) C dX12_works_1 (by rw [c12]; decide) (by rw [c12]; decide) (by rw [c12]; rfl) (by decide) ?_
    refine j_iload_n C 1 rfl dX12_works_98 rfl ?_
    refine j_iload_n C 2 rfl dX12_works_99 rfl ?_
    refine j_isub C dX12_works_100 ?_
    cases h
    exact j_iret C hr hlk rfl dX12_works_101
  have h := (if_neg c12).symm.trans h
  have n_c12 := ne_toInt (z := 9) (by decide) c12
  by_cases c13 : a1 = (10 : Int32)
  · have h := (if_pos c13).symm.trans h
    refine j_tableIn (tgt := 102) C dX12_works_1 (by rw [c13]; decide) (by rw [c13]; decide) (by rw [c13]; rfl) (by decide) ?_
    refine j_iload_n C 1 rfl dX12_works_102 rfl ?_
    refine j_iload_n C 2 rfl dX12_works_103 rfl ?_
    refine j_imul C dX12_works_104 ?_
    cases h
    exact j_iret C hr hlk rfl dX12_works_105
  have h := (if_neg c13).symm.trans h
  have n_c13 := ne_toInt (z := 10) (by decide) c13
  refine j_tableOut (tgt := 106) C dX12_works_1 (by omega) (by decide) ?_
  refine j_iload_n C 2 rfl dX12_works_106 rfl ?_
  refine j_if_ne (tgt := 114) C dX12_works_107 (by decide) (fun c14 => ?_) (fun c14 => ?_)
  · have h := (if_neg c14).symm.trans h
    refine j_iload_n C 1 rfl dX12_works_114 rfl ?_
    refine j_iload_n C 2 rfl dX12_works_115 rfl ?_
    obtain ⟨g15, h⟩ := gd_elim h
    refine j_idiv C dX12_works_116 (nz_ne g15) ?_
    cases h
    exact j_iret C hr hlk rfl dX12_works_117
  · have h := (if_pos c14).symm.trans h
    refine j_iconst C dX12_works_110 ci_0 ?_
    refine j_goto (tgt := 117) C dX12_works_111 (by decide) ?_
    cases h
    exact j_iret C hr hlk rfl dX12_works_117
theorem dX12_reckons_0 : decode cX12_reckons 0 = .ok (.iconst 0, 1) := by decide +kernel
theorem dX12_reckons_1 : decode cX12_reckons 1 = .ok (.istore 6, 2) := by decide +kernel
theorem dX12_reckons_3 : decode cX12_reckons 3 = .ok (.iload_n 1, 1) := by decide +kernel
theorem dX12_reckons_4 : decode cX12_reckons 4 = .ok (.istore 7, 2) := by decide +kernel
theorem dX12_reckons_6 : decode cX12_reckons 6 = .ok (.aload_n 0, 1) := by decide +kernel
theorem dX12_reckons_7 : decode cX12_reckons 7 = .ok (.getfield 29, 3) := by decide +kernel
theorem dX12_reckons_10 : decode cX12_reckons 10 = .ok (.iload 7, 2) := by decide +kernel
theorem dX12_reckons_12 : decode cX12_reckons 12 = .ok (.iaload, 1) := by decide +kernel
theorem dX12_reckons_13 : decode cX12_reckons 13 = .ok (.ifCond .eq 147, 3) := by decide +kernel
theorem dX12_reckons_16 : decode cX12_reckons 16 = .ok (.aload_n 0, 1) := by decide +kernel
theorem dX12_reckons_17 : decode cX12_reckons 17 = .ok (.getfield 29, 3) := by decide +kernel
theorem dX12_reckons_20 : decode cX12_reckons 20 = .ok (.iload 7, 2) := by decide +kernel
theorem dX12_reckons_22 : decode cX12_reckons 22 = .ok (.iaload, 1) := by decide +kernel
theorem dX12_reckons_23 : decode cX12_reckons 23 = .ok (.istore 8, 2) := by decide +kernel
theorem dX12_reckons_25 : decode cX12_reckons 25 = .ok (.iinc 7 1, 3) := by decide +kernel
theorem dX12_reckons_28 : decode cX12_reckons 28 = .ok (.iload 8, 2) := by decide +kernel
theorem dX12_reckons_30 : decode cX12_reckons 30 = .ok (.iconst 1, 1) := by decide +kernel
theorem dX12_reckons_31 : decode cX12_reckons 31 = .ok (.if_icmp .eq 9, 3) := by decide +kernel
theorem dX12_reckons_34 : decode cX12_reckons 34 = .ok (.iload 8, 2) := by decide +kernel
theorem dX12_reckons_36 : decode cX12_reckons 36 = .ok (.iconst 2, 1) := by decide +kernel
theorem dX12_reckons_37 : decode cX12_reckons 37 = .ok (.if_icmp .ne 52, 3) := by decide +kernel
theorem dX12_reckons_40 : decode cX12_reckons 40 = .ok (.aload_n 0, 1) := by decide +kernel
theorem dX12_reckons_41 : decode cX12_reckons 41 = .ok (.getfield 66, 3) := by decide +kernel
theorem dX12_reckons_44 : decode cX12_reckons 44 = .ok (.iload 6, 2) := by decide +kernel
theorem dX12_reckons_46 : decode cX12_reckons 46 = .ok (.iload 8, 2) := by decide +kernel
theorem dX12_reckons_48 : decode cX12_reckons 48 = .ok (.iconst 1, 1) := by decide +kernel
theorem dX12_reckons_49 : decode cX12_reckons 49 = .ok (.if_icmp .ne 13, 3) := by decide +kernel
theorem dX12_reckons_52 : decode cX12_reckons 52 = .ok (.aload_n 0, 1) := by decide +kernel
theorem dX12_reckons_53 : decode cX12_reckons 53 = .ok (.getfield 29, 3) := by decide +kernel
theorem dX12_reckons_56 : decode cX12_reckons 56 = .ok (.iload 7, 2) := by decide +kernel
theorem dX12_reckons_58 : decode cX12_reckons 58 = .ok (.iaload, 1) := by decide +kernel
theorem dX12_reckons_59 : decode cX12_reckons 59 = .ok (.goto 20, 3) := by decide +kernel
theorem dX12_reckons_62 : decode cX12_reckons 62 = .ok (.aload_n 0, 1) := by decide +kernel
theorem dX12_reckons_63 : decode cX12_reckons 63 = .ok (.aload_n 0, 1) := by decide +kernel
theorem dX12_reckons_64 : decode cX12_reckons 64 = .ok (.getfield 29, 3) := by decide +kernel
theorem dX12_reckons_67 : decode cX12_reckons 67 = .ok (.iload 7, 2) := by decide +kernel
theorem dX12_reckons_69 : decode cX12_reckons 69 = .ok (.iaload, 1) := by decide +kernel
theorem dX12_reckons_70 : decode cX12_reckons 70 = .ok (.aload_n 2, 1) := by decide +kernel
theorem dX12_reckons_71 : decode cX12_reckons 71 = .ok (.iload_n 3, 1) := by decide +kernel
theorem dX12_reckons_72 : decode cX12_reckons 72 = .ok (.iload 4, 2) := by decide +kernel
theorem dX12_reckons_74 : decode cX12_reckons 74 = .ok (.iload 5, 2) := by decide +kernel
theorem dX12_reckons_76 : decode cX12_reckons 76 = .ok (.invokevirtual 312, 3) := by decide +kernel
theorem dX12_reckons_79 : decode cX12_reckons 79 = .ok (.iastore, 1) := by decide +kernel
theorem dX12_reckons_80 : decode cX12_reckons 80 = .ok (.iinc 7 1, 3) := by decide +kernel
theorem dX12_reckons_83 : decode cX12_reckons 83 = .ok (.iinc 6 1, 3) := by decide +kernel
theorem dX12_reckons_86 : decode cX12_reckons 86 = .ok (.goto 71, 3) := by decide +kernel
theorem dX12_reckons_89 : decode cX12_reckons 89 = .ok (.iload 8, 2) := by decide +kernel
theorem dX12_reckons_91 : decode cX12_reckons 91 = .ok (.iconst 3, 1) := by decide +kernel
theorem dX12_reckons_92 : decode cX12_reckons 92 = .ok (.if_icmp .ne 32, 3) := by decide +kernel
theorem dX12_reckons_95 : decode cX12_reckons 95 = .ok (.aload_n 0, 1) := by decide +kernel
theorem dX12_reckons_96 : decode cX12_reckons 96 = .ok (.getfield 66, 3) := by decide +kernel
theorem dX12_reckons_99 : decode cX12_reckons 99 = .ok (.iload 6, 2) := by decide +kernel
theorem dX12_reckons_101 : decode cX12_reckons 101 = .ok (.iconst 1, 1) := by decide +kernel
theorem dX12_reckons_102 : decode cX12_reckons 102 = .ok (.isub, 1) := by decide +kernel
theorem dX12_reckons_103 : decode cX12_reckons 103 = .ok (.aload_n 0, 1) := by decide +kernel
theorem dX12_reckons_104 : decode cX12_reckons 104 = .ok (.getfield 66, 3) := by decide +kernel
theorem dX12_reckons_107 : decode cX12_reckons 107 = .ok (.iload 6, 2) := by decide +kernel
theorem dX12_reckons_109 : decode cX12_reckons 109 = .ok (.iconst 1, 1) := by decide +kernel
theorem dX12_reckons_110 : decode cX12_reckons 110 = .ok (.isub, 1) := by decide +kernel
theorem dX12_reckons_111 : decode cX12_reckons 111 = .ok (.iaload, 1) := by decide +kernel
theorem dX12_reckons_112 : decode cX12_reckons 112 = .ok (.ifCond .ne 7, 3) := by decide +kernel
theorem dX12_reckons_115 : decode cX12_reckons 115 = .ok (.iconst 1, 1) := by decide +kernel
theorem dX12_reckons_116 : decode cX12_reckons 116 = .ok (.goto 4, 3) := by decide +kernel
theorem dX12_reckons_119 : decode cX12_reckons 119 = .ok (.iconst 0, 1) := by decide +kernel
theorem dX12_reckons_120 : decode cX12_reckons 120 = .ok (.iastore, 1) := by decide +kernel
theorem dX12_reckons_121 : decode cX12_reckons 121 = .ok (.goto 36, 3) := by decide +kernel
theorem dX12_reckons_124 : decode cX12_reckons 124 = .ok (.iinc 6 (-1), 3) := by decide +kernel
theorem dX12_reckons_127 : decode cX12_reckons 127 = .ok (.aload_n 0, 1) := by decide +kernel
theorem dX12_reckons_128 : decode cX12_reckons 128 = .ok (.getfield 66, 3) := by decide +kernel
theorem dX12_reckons_131 : decode cX12_reckons 131 = .ok (.iload 6, 2) := by decide +kernel
theorem dX12_reckons_133 : decode cX12_reckons 133 = .ok (.iconst 1, 1) := by decide +kernel
theorem dX12_reckons_134 : decode cX12_reckons 134 = .ok (.isub, 1) := by decide +kernel
theorem dX12_reckons_135 : decode cX12_reckons 135 = .ok (.iload 8, 2) := by decide +kernel
theorem dX12_reckons_137 : decode cX12_reckons 137 = .ok (.aload_n 0, 1) := by decide +kernel
theorem dX12_reckons_138 : decode cX12_reckons 138 = .ok (.getfield 66, 3) := by decide +kernel
theorem dX12_reckons_141 : decode cX12_reckons 141 = .ok (.iload 6, 2) := by decide +kernel
theorem dX12_reckons_143 : decode cX12_reckons 143 = .ok (.iconst 1, 1) := by decide +kernel
theorem dX12_reckons_144 : decode cX12_reckons 144 = .ok (.isub, 1) := by decide +kernel
theorem dX12_reckons_145 : decode cX12_reckons 145 = .ok (.iaload, 1) := by decide +kernel
theorem dX12_reckons_146 : decode cX12_reckons 146 = .ok (.aload_n 0, 1) := by decide +kernel
theorem dX12_reckons_147 : decode cX12_reckons 147 = .ok (.getfield 66, 3) := by decide +kernel
theorem dX12_reckons_150 : decode cX12_reckons 150 = .ok (.iload 6, 2) := by decide +kernel
theorem dX12_reckons_152 : decode cX12_reckons 152 = .ok (.iaload, 1) := by decide +kernel
theorem dX12_reckons_153 : decode cX12_reckons 153 = .ok (.invokestatic 316, 3) := by decide +kernel
theorem dX12_reckons_156 : decode cX12_reckons 156 = .ok (.iastore, 1) := by decide +kernel
theorem dX12_reckons_157 : decode cX12_reckons 157 = .ok (.goto (-151), 3) := by decide +kernel
theorem dX12_reckons_160 : decode cX12_reckons 160 = .ok (.aload_n 0, 1) := by decide +kernel
theorem dX12_reckons_161 : decode cX12_reckons 161 = .ok (.getfield 66, 3) := by decide +kernel
theorem dX12_reckons_164 : decode cX12_reckons 164 = .ok (.iconst 0, 1) := by decide +kernel
theorem dX12_reckons_165 : decode cX12_reckons 165 = .ok (.iaload, 1) := by decide +kernel
theorem dX12_reckons_166 : decode cX12_reckons 166 = .ok (.ireturn, 1) := by decide +kernel
def fX12_reckons_0_14_L6 (E160 : (Nat → Nat → Int32) → Option (Int32 × (Nat → Nat → Int32))) : Nat → Int32 → Int32 → Int32 → Int32 → Int32 → (Nat → Nat → Int32) → Option (Int32 × (Nat → Nat → Int32))
  | 0, _, _, _, _, _, _ => none
  | n + 1, x1, x2, x3, x4, x5, V6 =>
    gd (ib x5 1600) (
    (if (V6 4 (x5).toNatClampNeg) = 0 then
    E160 V6
    else
    gd (ib x5 1600) (
    lt ((V6 4 (x5).toNatClampNeg)) (fun x10 =>
    lt (x5 + (1 : Int32)) (fun x11 =>
    bk (fun (x13 : Int32) (x14 : Int32) (x15 : Int32) (x16 : Int32) (x17 : Int32) (V18 : Nat → Nat → Int32) =>
    fX12_reckons_0_14_L6 E160 n x13 x14 x15 x16 x17 V18) (fun K157_12 =>
    bk (fun (x20 : Int32) (x21 : Int32) (x22 : Int32) (x23 : Int32) (x24 : Int32) (x25 : Int32) (V26 : Nat → Nat → Int32) =>
    bk (fun (x28 : Int32) (x29 : Int32) (x30 : Int32) (x31 : Int32) (x32 : Int32) (x33 : Int32) (x34 : Int32) (V35 : Nat → Nat → Int32) =>
    gd (ib x34 800) (
    lt (va_up V35 15 (upd (V35 15) (x34).toNatClampNeg x33)) (fun V37 =>
    lt (x32 + (1 : Int32)) (fun x38 =>
    lt (x31 + (1 : Int32)) (fun x39 =>
    K157_12 x28 x29 x30 x39 x38 V37))))) (fun K79_27 =>
    (if x25 = (1 : Int32) then
    gd (ib x24 1600) (
    K79_27 x20 x21 x22 x23 x24 ((V26 4 (x24).toNatClampNeg)) x23 V26)
    else
    gd (ib x24 1600) (
    bd1 (fX12_valueOf_0_14 V26 ((V26 4 (x24).toNatClampNeg)) x20 x21 x22) (fun r42 =>
    K79_27 x20 x21 x22 x23 x24 r42 x23 V26))))) (fun K40_19 =>
    (if x10 = (1 : Int32) then
    K40_19 x1 x2 x3 x4 x11 x10 V6
    else
    (if x10 = (2 : Int32) then
    K40_19 x1 x2 x3 x4 x11 x10 V6
    else
    (if x10 = (3 : Int32) then
    lt ((x4 - (1 : Int32))) (fun x57 =>
    gd (ib x57 800) (
    bk (fun (x60 : Int32) (x61 : Int32) (x62 : Int32) (x63 : Int32) (x64 : Int32) (x65 : Int32) (x66 : Int32) (V67 : Nat → Nat → Int32) =>
    gd (ib x66 800) (
    lt (va_up V67 15 (upd (V67 15) (x66).toNatClampNeg x65)) (fun V69 =>
    K157_12 x60 x61 x62 x63 x64 V69))) (fun K120_59 =>
    (if (V6 15 (x57).toNatClampNeg) = 0 then
    K120_59 x1 x2 x3 x4 x11 (1 : Int32) ((x4 - (1 : Int32))) V6
    else
    K120_59 x1 x2 x3 x4 x11 (0 : Int32) ((x4 - (1 : Int32))) V6))))
    else
    lt (x4 + (-1 : Int32)) (fun x48 =>
    lt ((x48 - (1 : Int32))) (fun x49 =>
    gd (ib x49 800) (
    gd (ib x48 800) (
    bd1 (fX12_works x10 ((V6 15 (x49).toNatClampNeg)) ((V6 15 (x48).toNatClampNeg))) (fun r52 =>
    lt ((x48 - (1 : Int32))) (fun x54 =>
    gd (ib x54 800) (
    lt (va_up V6 15 (upd (V6 15) (x54).toNatClampNeg r52)) (fun V56 =>
    K157_12 x1 x2 x3 x48 x11 V56))))))))))))))))))
def fX12_reckons_0_14 (V : Nat → Nat → Int32) (a1 : Int32) (a2 : Int32) (a3 : Int32) (a4 : Int32) : Option (Int32 × (Nat → Nat → Int32)) :=
  bk (fun (V73 : Nat → Nat → Int32) =>
  gd (ib (0 : Int32) 800) (
  some ((V73 15 ((0 : Int32)).toNatClampNeg), V73))) (fun X160_72 =>
  fX12_reckons_0_14_L6 X160_72 FU a2 a3 a4 (0 : Int32) a1 V)
set_option maxHeartbeats 4000000 in
set_option maxRecDepth 100000 in
theorem kX12_reckons_0_14 (l : Launch) (B : jBT) (D : va_G) (ad : Nat → Nat) (cA : Nat → ClassId) (hI : jI ad TR) (S : Nat → Int32) (V : Nat → Nat → Int32) (L : Nat → Int64) (a1 : Int32) (a2 : Int32) (a3 : Int32) (a4 : Int32) (r0 : Int32) (V0 : Nat → Nat → Int32) (h : fX12_reckons_0_14 V a1 a2 a3 a4 = some (r0, V0)) : jM l yX12_reckons cX12_reckons 9 (some .int) ({ frames := 3, cells := 0, slots := 0, locals := 75 }) B D TR ad cA [.ref (ad 0), .int a1, .ref (ad 14), .int a2, .int a3, .int a4] S V L (some (.int r0)) S V0 L := by
  refine jM_of (plainFor_of_name (by decide)) TR_ok hI (Nat.le_of_ble_eq_true rfl) ?_
  intro p e s m args below meth c C hr hlk
  refine j_lv (lv2 := [(0, .ref (ad 0)), (1, .int a1), (2, .ref (ad 14)), (3, .int a2), (4, .int a3), (5, .int a4)]) rfl ?_
  unfold fX12_reckons_0_14 at h
  have H_fX12_reckons_0_14_L6 : ∀ (E160 : (Nat → Nat → Int32) → Option (Int32 × (Nat → Nat → Int32))) (_ : ∀ (V71 : Nat → Nat → Int32), E160 V71 = some (r0, V0) → jW p l e ({ frames := 3, cells := 0, slots := 0, locals := 75 }) s m args below meth c (MQ below (jQc D TR ad cA (some (.int r0)) s.heap.size S V0 L) args s 0 0 (jA ad TR s.heap.size)) D TR ad cA (jA ad TR s.heap.size) 9 0 0 160 [(0, .ref (ad 0))] [] S V71 L) (n : Nat) (x1 : Int32) (x2 : Int32) (x3 : Int32) (x4 : Int32) (x5 : Int32) (V6 : Nat → Nat → Int32), fX12_reckons_0_14_L6 E160 n x1 x2 x3 x4 x5 V6 = some (r0, V0) → jW p l e ({ frames := 3, cells := 0, slots := 0, locals := 75 }) s m args below meth c (MQ below (jQc D TR ad cA (some (.int r0)) s.heap.size S V0 L) args s 0 0 (jA ad TR s.heap.size)) D TR ad cA (jA ad TR s.heap.size) 9 0 0 6 [(0, .ref (ad 0)), (2, .ref (ad 14)), (3, .int x1), (4, .int x2), (5, .int x3), (6, .int x4), (7, .int x5)] [] S V6 L := by
    intro E160 HE160
    intro n
    induction n with
    | zero =>
      intro x1 x2 x3 x4 x5 V6 h
      cases (show (none : Option (Int32 × (Nat → Nat → Int32))) = some (r0, V0) from h)
    | succ n ih =>
      intro x1 x2 x3 x4 x5 V6 h
      unfold fX12_reckons_0_14_L6 at h
      refine j_aload_n C 0 rfl dX12_reckons_6 rfl ?_
      refine fg_X12_29_TR_0 C dX12_reckons_7 ?_
      refine j_iload C 6 rfl dX12_reckons_10 ?_
      obtain ⟨g7, h⟩ := gd_elim h
      refine j_iald C tr_4 (ib_in g7) dX12_reckons_12 ?_
      refine j_if_eq (tgt := 160) C dX12_reckons_13 (by decide) (fun c8 => ?_) (fun c8 => ?_)
      · have h := (if_pos c8).symm.trans h
        exact j_sub [0] rfl (HE160 _ h)
      · have h := (if_neg c8).symm.trans h
        refine j_aload_n C 0 rfl dX12_reckons_16 rfl ?_
        refine fg_X12_29_TR_0 C dX12_reckons_17 ?_
        refine j_iload C 6 rfl dX12_reckons_20 ?_
        obtain ⟨g9, h⟩ := gd_elim h
        refine j_iald C tr_4 (ib_in g9) dX12_reckons_22 ?_
        refine lt_elim h (fun x10 e_x10 h => ?_)
        refine j_top e_x10 ?_
        refine j_istore C [(8, .int x10), (0, .ref (ad 0)), (2, .ref (ad 14)), (3, .int x1), (4, .int x2), (5, .int x3), (6, .int x4), (7, .int x5)] dX12_reckons_23 (by decide) rfl ?_
        refine lt_elim h (fun x11 e_x11 h => ?_)
        refine j_iinc C [(7, .int x11), (8, .int x10), (0, .ref (ad 0)), (2, .ref (ad 14)), (3, .int x1), (4, .int x2), (5, .int x3), (6, .int x4)] 7 dX12_reckons_25 rfl ((iinc_eq ci_1).trans e_x11.symm) (by decide) rfl ?_
        refine j_iload C 1 rfl dX12_reckons_28 ?_
        refine j_iconst C dX12_reckons_30 ci_1 ?_
        refine bk_elim h (fun K157_12 e_K157_12 h => ?_)
        have HK157_12 : ∀ (x13 : Int32) (x14 : Int32) (x15 : Int32) (x16 : Int32) (x17 : Int32) (V18 : Nat → Nat → Int32), K157_12 x13 x14 x15 x16 x17 V18 = some (r0, V0) → jW p l e ({ frames := 3, cells := 0, slots := 0, locals := 75 }) s m args below meth c (MQ below (jQc D TR ad cA (some (.int r0)) s.heap.size S V0 L) args s 0 0 (jA ad TR s.heap.size)) D TR ad cA (jA ad TR s.heap.size) 9 0 0 157 [(0, .ref (ad 0)), (2, .ref (ad 14)), (3, .int x13), (4, .int x14), (5, .int x15), (6, .int x16), (7, .int x17)] [] S V18 L := by
          subst e_K157_12
          intro x13 x14 x15 x16 x17 V18 h
          refine j_goto (tgt := 6) C dX12_reckons_157 (by decide) ?_
          exact j_sub [0, 1, 2, 3, 4, 5, 6] rfl (ih _ _ _ _ _ _ h)
        refine bk_elim h (fun K40_19 e_K40_19 h => ?_)
        have HK40_19 : ∀ (x20 : Int32) (x21 : Int32) (x22 : Int32) (x23 : Int32) (x24 : Int32) (x25 : Int32) (V26 : Nat → Nat → Int32), K40_19 x20 x21 x22 x23 x24 x25 V26 = some (r0, V0) → jW p l e ({ frames := 3, cells := 0, slots := 0, locals := 75 }) s m args below meth c (MQ below (jQc D TR ad cA (some (.int r0)) s.heap.size S V0 L) args s 0 0 (jA ad TR s.heap.size)) D TR ad cA (jA ad TR s.heap.size) 9 0 0 40 [(0, .ref (ad 0)), (2, .ref (ad 14)), (3, .int x20), (4, .int x21), (5, .int x22), (6, .int x23), (7, .int x24), (8, .int x25)] [] S V26 L := by
          subst e_K40_19
          intro x20 x21 x22 x23 x24 x25 V26 h
          refine j_aload_n C 0 rfl dX12_reckons_40 rfl ?_
          refine fg_X12_66_TR_0 C dX12_reckons_41 ?_
          refine j_iload C 5 rfl dX12_reckons_44 ?_
          refine j_iload C 7 rfl dX12_reckons_46 ?_
          refine j_iconst C dX12_reckons_48 ci_1 ?_
          refine bk_elim h (fun K79_27 e_K79_27 h => ?_)
          have HK79_27 : ∀ (x28 : Int32) (x29 : Int32) (x30 : Int32) (x31 : Int32) (x32 : Int32) (x33 : Int32) (x34 : Int32) (V35 : Nat → Nat → Int32), K79_27 x28 x29 x30 x31 x32 x33 x34 V35 = some (r0, V0) → jW p l e ({ frames := 3, cells := 0, slots := 0, locals := 75 }) s m args below meth c (MQ below (jQc D TR ad cA (some (.int r0)) s.heap.size S V0 L) args s 0 0 (jA ad TR s.heap.size)) D TR ad cA (jA ad TR s.heap.size) 9 0 0 79 [(0, .ref (ad 0)), (2, .ref (ad 14)), (3, .int x28), (4, .int x29), (5, .int x30), (6, .int x31), (7, .int x32)] [.int x33, .int x34, .ref (ad 15)] S V35 L := by
            subst e_K79_27
            intro x28 x29 x30 x31 x32 x33 x34 V35 h
            obtain ⟨g36, h⟩ := gd_elim h
            refine j_iast C tr_15 (ib_in g36) dX12_reckons_79 ?_
            refine lt_elim h (fun V37 e_V37 h => ?_)
            refine j_V e_V37 ?_
            refine lt_elim h (fun x38 e_x38 h => ?_)
            refine j_iinc C [(7, .int x38), (0, .ref (ad 0)), (2, .ref (ad 14)), (3, .int x28), (4, .int x29), (5, .int x30), (6, .int x31)] 6 dX12_reckons_80 rfl ((iinc_eq ci_1).trans e_x38.symm) (by decide) rfl ?_
            refine lt_elim h (fun x39 e_x39 h => ?_)
            refine j_iinc C [(6, .int x39), (7, .int x38), (0, .ref (ad 0)), (2, .ref (ad 14)), (3, .int x28), (4, .int x29), (5, .int x30)] 6 dX12_reckons_83 rfl ((iinc_eq ci_1).trans e_x39.symm) (by decide) rfl ?_
            refine j_goto (tgt := 157) C dX12_reckons_86 (by decide) ?_
            exact j_sub [2, 3, 4, 5, 6, 0, 1] rfl (HK157_12 _ _ _ _ _ _ h)
          refine j_icmp_ne (tgt := 62) C dX12_reckons_49 (by decide) (fun c40 => ?_) (fun c40 => ?_)
          · have h := (if_neg c40).symm.trans h
            refine j_aload_n C 0 rfl dX12_reckons_62 rfl ?_
            refine j_aload_n C 0 rfl dX12_reckons_63 rfl ?_
            refine fg_X12_29_TR_0 C dX12_reckons_64 ?_
            refine j_iload C 6 rfl dX12_reckons_67 ?_
            obtain ⟨g41, h⟩ := gd_elim h
            refine j_iald C tr_4 (ib_in g41) dX12_reckons_69 ?_
            refine j_aload_n C 1 rfl dX12_reckons_70 rfl ?_
            refine j_iload_n C 2 rfl dX12_reckons_71 rfl ?_
            refine j_iload C 3 rfl dX12_reckons_72 ?_
            refine j_iload C 4 rfl dX12_reckons_74 ?_
            obtain ⟨r42, h43, h⟩ := bd1_elim h
            refine j_callV (As := [.int (V26 4 (x24).toNatClampNeg), .ref (ad 14), .int x20, .int x21, .int x22]) (rest := [.int x23, .ref (ad 15)]) C (kX12_valueOf_0_14 l B D ad cA hI S V26 L ((V26 4 (x24).toNatClampNeg)) x20 x21 x22 _ h43) mw_X12_valueOf wd1790 wd84 wd1788 tr_0 rfl rfl ⟨rfl, rfl, by decide, by decide⟩ ⟨Nat.zero_le _, Nat.zero_le _⟩ rfl rfl (Nat.le_of_ble_eq_true rfl) dX12_reckons_76 ?_
            exact j_sub [0, 1, 2, 3, 4, 5, 6] rfl (HK79_27 _ _ _ _ _ _ _ _ h)
          · have h := (if_pos c40).symm.trans h
            refine j_aload_n C 0 rfl dX12_reckons_52 rfl ?_
            refine fg_X12_29_TR_0 C dX12_reckons_53 ?_
            refine j_iload C 6 rfl dX12_reckons_56 ?_
            obtain ⟨g44, h⟩ := gd_elim h
            refine j_iald C tr_4 (ib_in g44) dX12_reckons_58 ?_
            refine j_goto (tgt := 79) C dX12_reckons_59 (by decide) ?_
            exact j_sub [0, 1, 2, 3, 4, 5, 6] rfl (HK79_27 _ _ _ _ _ _ _ _ h)
        refine j_icmp_eq (tgt := 40) C dX12_reckons_31 (by decide) (fun c45 => ?_) (fun c45 => ?_)
        · have h := (if_pos c45).symm.trans h
          exact j_sub [2, 3, 4, 5, 6, 7, 0, 1] rfl (HK40_19 _ _ _ _ _ _ _ h)
        · have h := (if_neg c45).symm.trans h
          refine j_iload C 1 rfl dX12_reckons_34 ?_
          refine j_iconst C dX12_reckons_36 ci_2 ?_
          refine j_icmp_ne (tgt := 89) C dX12_reckons_37 (by decide) (fun c46 => ?_) (fun c46 => ?_)
          · have h := (if_neg c46).symm.trans h
            refine j_iload C 1 rfl dX12_reckons_89 ?_
            refine j_iconst C dX12_reckons_91 ci_3 ?_
            refine j_icmp_ne (tgt := 124) C dX12_reckons_92 (by decide) (fun c47 => ?_) (fun c47 => ?_)
            · have h := (if_neg c47).symm.trans h
              refine lt_elim h (fun x48 e_x48 h => ?_)
              refine j_iinc C [(6, .int x48), (7, .int x11), (8, .int x10), (0, .ref (ad 0)), (2, .ref (ad 14)), (3, .int x1), (4, .int x2), (5, .int x3)] 7 dX12_reckons_124 rfl ((iinc_eq ci_m1).trans e_x48.symm) (by decide) rfl ?_
              refine j_aload_n C 3 rfl dX12_reckons_127 rfl ?_
              refine fg_X12_66_TR_0 C dX12_reckons_128 ?_
              refine j_iload C 0 rfl dX12_reckons_131 ?_
              refine j_iconst C dX12_reckons_133 ci_1 ?_
              refine j_isub C dX12_reckons_134 ?_
              refine j_iload C 2 rfl dX12_reckons_135 ?_
              refine j_aload_n C 3 rfl dX12_reckons_137 rfl ?_
              refine fg_X12_66_TR_0 C dX12_reckons_138 ?_
              refine j_iload C 0 rfl dX12_reckons_141 ?_
              refine j_iconst C dX12_reckons_143 ci_1 ?_
              refine j_isub C dX12_reckons_144 ?_
              refine lt_elim h (fun x49 e_x49 h => ?_)
              refine j_top e_x49 ?_
              obtain ⟨g50, h⟩ := gd_elim h
              refine j_iald C tr_15 (ib_in g50) dX12_reckons_145 ?_
              refine j_aload_n C 3 rfl dX12_reckons_146 rfl ?_
              refine fg_X12_66_TR_0 C dX12_reckons_147 ?_
              refine j_iload C 0 rfl dX12_reckons_150 ?_
              obtain ⟨g51, h⟩ := gd_elim h
              refine j_iald C tr_15 (ib_in g51) dX12_reckons_152 ?_
              obtain ⟨r52, h53, h⟩ := bd1_elim h
              refine j_callS (As := [.int x10, .int (V6 15 (x49).toNatClampNeg), .int (V6 15 (x48).toNatClampNeg)]) (rest := [.int (x48 - (1 : Int32)), .ref (ad 15)]) C (kX12_works l B D ad cA hI S V6 L x10 ((V6 15 (x49).toNatClampNeg)) ((V6 15 (x48).toNatClampNeg)) _ h53) mw_X12_works wd1800 wd1799 ⟨rfl, rfl, by decide, by decide⟩ ⟨Nat.zero_le _, Nat.zero_le _⟩ rfl rfl (Nat.le_of_ble_eq_true rfl) dX12_reckons_153 ?_
              refine lt_elim h (fun x54 e_x54 h => ?_)
              refine j_top2 e_x54 ?_
              obtain ⟨g55, h⟩ := gd_elim h
              refine j_iast C tr_15 (ib_in g55) dX12_reckons_156 ?_
              refine lt_elim h (fun V56 e_V56 h => ?_)
              refine j_V e_V56 ?_
              exact j_sub [3, 4, 5, 6, 7, 0, 1] rfl (HK157_12 _ _ _ _ _ _ h)
            · have h := (if_pos c47).symm.trans h
              refine j_aload_n C 2 rfl dX12_reckons_95 rfl ?_
              refine fg_X12_66_TR_0 C dX12_reckons_96 ?_
              refine j_iload C 7 rfl dX12_reckons_99 ?_
              refine j_iconst C dX12_reckons_101 ci_1 ?_
              refine j_isub C dX12_reckons_102 ?_
              refine j_aload_n C 2 rfl dX12_reckons_103 rfl ?_
              refine fg_X12_66_TR_0 C dX12_reckons_104 ?_
              refine j_iload C 7 rfl dX12_reckons_107 ?_
              refine j_iconst C dX12_reckons_109 ci_1 ?_
              refine j_isub C dX12_reckons_110 ?_
              refine lt_elim h (fun x57 e_x57 h => ?_)
              refine j_top e_x57 ?_
              obtain ⟨g58, h⟩ := gd_elim h
              refine j_iald C tr_15 (ib_in g58) dX12_reckons_111 ?_
              refine bk_elim h (fun K120_59 e_K120_59 h => ?_)
              have HK120_59 : ∀ (x60 : Int32) (x61 : Int32) (x62 : Int32) (x63 : Int32) (x64 : Int32) (x65 : Int32) (x66 : Int32) (V67 : Nat → Nat → Int32), K120_59 x60 x61 x62 x63 x64 x65 x66 V67 = some (r0, V0) → jW p l e ({ frames := 3, cells := 0, slots := 0, locals := 75 }) s m args below meth c (MQ below (jQc D TR ad cA (some (.int r0)) s.heap.size S V0 L) args s 0 0 (jA ad TR s.heap.size)) D TR ad cA (jA ad TR s.heap.size) 9 0 0 120 [(0, .ref (ad 0)), (2, .ref (ad 14)), (3, .int x60), (4, .int x61), (5, .int x62), (6, .int x63), (7, .int x64)] [.int x65, .int x66, .ref (ad 15)] S V67 L := by
                subst e_K120_59
                intro x60 x61 x62 x63 x64 x65 x66 V67 h
                obtain ⟨g68, h⟩ := gd_elim h
                refine j_iast C tr_15 (ib_in g68) dX12_reckons_120 ?_
                refine lt_elim h (fun V69 e_V69 h => ?_)
                refine j_V e_V69 ?_
                refine j_goto (tgt := 157) C dX12_reckons_121 (by decide) ?_
                exact j_sub [0, 1, 2, 3, 4, 5, 6] rfl (HK157_12 _ _ _ _ _ _ h)
              refine j_if_ne (tgt := 119) C dX12_reckons_112 (by decide) (fun c70 => ?_) (fun c70 => ?_)
              · have h := (if_neg c70).symm.trans h
                refine j_iconst C dX12_reckons_119 ci_0 ?_
                exact j_sub [2, 3, 4, 5, 6, 7, 0] rfl (HK120_59 _ _ _ _ _ _ _ _ h)
              · have h := (if_pos c70).symm.trans h
                refine j_iconst C dX12_reckons_115 ci_1 ?_
                refine j_goto (tgt := 120) C dX12_reckons_116 (by decide) ?_
                exact j_sub [2, 3, 4, 5, 6, 7, 0] rfl (HK120_59 _ _ _ _ _ _ _ _ h)
          · have h := (if_pos c46).symm.trans h
            exact j_sub [2, 3, 4, 5, 6, 7, 0, 1] rfl (HK40_19 _ _ _ _ _ _ _ h)
  refine j_iconst C dX12_reckons_0 ci_0 ?_
  refine j_istore C [(6, .int (0 : Int32)), (0, .ref (ad 0)), (1, .int a1), (2, .ref (ad 14)), (3, .int a2), (4, .int a3), (5, .int a4)] dX12_reckons_1 (by decide) rfl ?_
  refine j_iload_n C 2 rfl dX12_reckons_3 rfl ?_
  refine j_istore C [(7, .int a1), (6, .int (0 : Int32)), (0, .ref (ad 0)), (1, .int a1), (2, .ref (ad 14)), (3, .int a2), (4, .int a3), (5, .int a4)] dX12_reckons_4 (by decide) rfl ?_
  refine bk_elim h (fun X160_72 e_X160_72 h => ?_)
  have HX160_72 : ∀ (V73 : Nat → Nat → Int32), X160_72 V73 = some (r0, V0) → jW p l e ({ frames := 3, cells := 0, slots := 0, locals := 75 }) s m args below meth c (MQ below (jQc D TR ad cA (some (.int r0)) s.heap.size S V0 L) args s 0 0 (jA ad TR s.heap.size)) D TR ad cA (jA ad TR s.heap.size) 9 0 0 160 [(0, .ref (ad 0))] [] S V73 L := by
    subst e_X160_72
    intro V73 h
    refine j_aload_n C 0 rfl dX12_reckons_160 rfl ?_
    refine fg_X12_66_TR_0 C dX12_reckons_161 ?_
    refine j_iconst C dX12_reckons_164 ci_0 ?_
    obtain ⟨g74, h⟩ := gd_elim h
    refine j_iald C tr_15 (ib_in g74) dX12_reckons_165 ?_
    cases h
    exact j_iret C hr hlk rfl dX12_reckons_166
  exact j_sub [2, 4, 5, 6, 7, 1, 0] rfl (H_fX12_reckons_0_14_L6 _ HX160_72 FU _ _ _ _ _ _ h)
theorem dX12_holds_0 : decode cX12_holds 0 = .ok (.iconst 0, 1) := by decide +kernel
theorem dX12_holds_1 : decode cX12_holds 1 = .ok (.istore_n 3, 1) := by decide +kernel
theorem dX12_holds_2 : decode cX12_holds 2 = .ok (.iload_n 3, 1) := by decide +kernel
theorem dX12_holds_3 : decode cX12_holds 3 = .ok (.iload_n 2, 1) := by decide +kernel
theorem dX12_holds_4 : decode cX12_holds 4 = .ok (.if_icmp .ge 75, 3) := by decide +kernel
theorem dX12_holds_7 : decode cX12_holds 7 = .ok (.aload_n 1, 1) := by decide +kernel
theorem dX12_holds_8 : decode cX12_holds 8 = .ok (.iconst 4, 1) := by decide +kernel
theorem dX12_holds_9 : decode cX12_holds 9 = .ok (.iload_n 3, 1) := by decide +kernel
theorem dX12_holds_10 : decode cX12_holds 10 = .ok (.imul, 1) := by decide +kernel
theorem dX12_holds_11 : decode cX12_holds 11 = .ok (.iconst 2, 1) := by decide +kernel
theorem dX12_holds_12 : decode cX12_holds 12 = .ok (.iadd, 1) := by decide +kernel
theorem dX12_holds_13 : decode cX12_holds 13 = .ok (.iaload, 1) := by decide +kernel
theorem dX12_holds_14 : decode cX12_holds 14 = .ok (.istore 4, 2) := by decide +kernel
theorem dX12_holds_16 : decode cX12_holds 16 = .ok (.iload 4, 2) := by decide +kernel
theorem dX12_holds_18 : decode cX12_holds 18 = .ok (.aload_n 1, 1) := by decide +kernel
theorem dX12_holds_19 : decode cX12_holds 19 = .ok (.iconst 4, 1) := by decide +kernel
theorem dX12_holds_20 : decode cX12_holds 20 = .ok (.iload_n 3, 1) := by decide +kernel
theorem dX12_holds_21 : decode cX12_holds 21 = .ok (.imul, 1) := by decide +kernel
theorem dX12_holds_22 : decode cX12_holds 22 = .ok (.iconst 3, 1) := by decide +kernel
theorem dX12_holds_23 : decode cX12_holds 23 = .ok (.iadd, 1) := by decide +kernel
theorem dX12_holds_24 : decode cX12_holds 24 = .ok (.iaload, 1) := by decide +kernel
theorem dX12_holds_25 : decode cX12_holds 25 = .ok (.if_icmp .gt 48, 3) := by decide +kernel
theorem dX12_holds_28 : decode cX12_holds 28 = .ok (.iconst 0, 1) := by decide +kernel
theorem dX12_holds_29 : decode cX12_holds 29 = .ok (.istore 5, 2) := by decide +kernel
theorem dX12_holds_31 : decode cX12_holds 31 = .ok (.iload 5, 2) := by decide +kernel
theorem dX12_holds_33 : decode cX12_holds 33 = .ok (.aload_n 0, 1) := by decide +kernel
theorem dX12_holds_34 : decode cX12_holds 34 = .ok (.getfield 271, 3) := by decide +kernel
theorem dX12_holds_37 : decode cX12_holds 37 = .ok (.if_icmp .ge 30, 3) := by decide +kernel
theorem dX12_holds_40 : decode cX12_holds 40 = .ok (.aload_n 0, 1) := by decide +kernel
theorem dX12_holds_41 : decode cX12_holds 41 = .ok (.aload_n 0, 1) := by decide +kernel
theorem dX12_holds_42 : decode cX12_holds 42 = .ok (.getfield 26, 3) := by decide +kernel
theorem dX12_holds_45 : decode cX12_holds 45 = .ok (.iload 5, 2) := by decide +kernel
theorem dX12_holds_47 : decode cX12_holds 47 = .ok (.iaload, 1) := by decide +kernel
theorem dX12_holds_48 : decode cX12_holds 48 = .ok (.aload_n 1, 1) := by decide +kernel
theorem dX12_holds_49 : decode cX12_holds 49 = .ok (.iload_n 2, 1) := by decide +kernel
theorem dX12_holds_50 : decode cX12_holds 50 = .ok (.iload_n 3, 1) := by decide +kernel
theorem dX12_holds_51 : decode cX12_holds 51 = .ok (.iload 4, 2) := by decide +kernel
theorem dX12_holds_53 : decode cX12_holds 53 = .ok (.invokevirtual 320, 3) := by decide +kernel
theorem dX12_holds_56 : decode cX12_holds 56 = .ok (.ifCond .ne 5, 3) := by decide +kernel
theorem dX12_holds_59 : decode cX12_holds 59 = .ok (.iconst 0, 1) := by decide +kernel
theorem dX12_holds_60 : decode cX12_holds 60 = .ok (.ireturn, 1) := by decide +kernel
theorem dX12_holds_61 : decode cX12_holds 61 = .ok (.iinc 5 1, 3) := by decide +kernel
theorem dX12_holds_64 : decode cX12_holds 64 = .ok (.goto (-33), 3) := by decide +kernel
theorem dX12_holds_67 : decode cX12_holds 67 = .ok (.iinc 4 1, 3) := by decide +kernel
theorem dX12_holds_70 : decode cX12_holds 70 = .ok (.goto (-54), 3) := by decide +kernel
theorem dX12_holds_73 : decode cX12_holds 73 = .ok (.iinc 3 1, 3) := by decide +kernel
theorem dX12_holds_76 : decode cX12_holds 76 = .ok (.goto (-74), 3) := by decide +kernel
theorem dX12_holds_79 : decode cX12_holds 79 = .ok (.iconst 1, 1) := by decide +kernel
theorem dX12_holds_80 : decode cX12_holds 80 = .ok (.ireturn, 1) := by decide +kernel
def fX12_holds_0_14_L31 (E67 : Int32 → Int32 → Int32 → (Nat → Nat → Int32) → Option (Int32 × (Nat → Nat → Int32))) (S : Nat → Int32) : Nat → Int32 → Int32 → Int32 → Int32 → (Nat → Nat → Int32) → Option (Int32 × (Nat → Nat → Int32))
  | 0, _, _, _, _, _ => none
  | n + 1, x15, x16, x17, x18, V19 =>
    (if (S 7) ≤ x18 then
    E67 x15 x16 x17 V19
    else
    gd (ib x18 4) (
    bd2 (fX12_reckons_0_14 V19 ((V19 3 (x18).toNatClampNeg)) x15 x16 x17) (fun r22 V23 =>
    (if r22 = 0 then
    some ((0 : Int32), V23)
    else
    lt (x18 + (1 : Int32)) (fun x26 =>
    fX12_holds_0_14_L31 E67 S n x15 x16 x17 x26 V23)))))
def fX12_holds_0_14_L16 (E73 : Int32 → Int32 → (Nat → Nat → Int32) → Option (Int32 × (Nat → Nat → Int32))) (S : Nat → Int32) : Nat → Int32 → Int32 → Int32 → (Nat → Nat → Int32) → Option (Int32 × (Nat → Nat → Int32))
  | 0, _, _, _, _ => none
  | n + 1, x8, x9, x10, V11 =>
    lt ((((4 : Int32) * x9) + (3 : Int32))) (fun x12 =>
    gd (ib x12 16) (
    (if (V11 14 (x12).toNatClampNeg) < x10 then
    E73 x8 x9 V11
    else
    bk (fun (x32 : Int32) (x33 : Int32) (x34 : Int32) (V35 : Nat → Nat → Int32) =>
    lt (x34 + (1 : Int32)) (fun x36 =>
    fX12_holds_0_14_L16 E73 S n x32 x33 x36 V35)) (fun X67_31 =>
    fX12_holds_0_14_L31 X67_31 S FU x8 x9 x10 (0 : Int32) V11))))
def fX12_holds_0_14_L2 (S : Nat → Int32) : Nat → Int32 → Int32 → (Nat → Nat → Int32) → Option (Int32 × (Nat → Nat → Int32))
  | 0, _, _, _ => none
  | n + 1, x1, x2, V3 =>
    (if x1 ≤ x2 then
    some ((1 : Int32), V3)
    else
    lt ((((4 : Int32) * x2) + (2 : Int32))) (fun x5 =>
    gd (ib x5 16) (
    lt ((V3 14 (x5).toNatClampNeg)) (fun x7 =>
    bk (fun (x41 : Int32) (x42 : Int32) (V43 : Nat → Nat → Int32) =>
    lt (x42 + (1 : Int32)) (fun x44 =>
    fX12_holds_0_14_L2 S n x41 x44 V43)) (fun X73_40 =>
    fX12_holds_0_14_L16 X73_40 S FU x1 x2 x7 V3)))))
def fX12_holds_0_14 (S : Nat → Int32) (V : Nat → Nat → Int32) (a1 : Int32) : Option (Int32 × (Nat → Nat → Int32)) :=
  fX12_holds_0_14_L2 S FU a1 (0 : Int32) V
set_option maxHeartbeats 4000000 in
set_option maxRecDepth 100000 in
theorem kX12_holds_0_14 (l : Launch) (B : jBT) (D : va_G) (ad : Nat → Nat) (cA : Nat → ClassId) (hI : jI ad TR) (S : Nat → Int32) (V : Nat → Nat → Int32) (L : Nat → Int64) (a1 : Int32) (r0 : Int32) (V0 : Nat → Nat → Int32) (h : fX12_holds_0_14 S V a1 = some (r0, V0)) : jM l yX12_holds cX12_holds 6 (some .boolean) ({ frames := 4, cells := 0, slots := 0, locals := 103 }) B D TR ad cA [.ref (ad 0), .ref (ad 14), .int a1] S V L (some (.int r0)) S V0 L := by
  refine jM_of (plainFor_of_name (by decide)) TR_ok hI (Nat.le_of_ble_eq_true rfl) ?_
  intro p e s m args below meth c C hr hlk
  refine j_lv (lv2 := [(0, .ref (ad 0)), (1, .ref (ad 14)), (2, .int a1)]) rfl ?_
  unfold fX12_holds_0_14 at h
  have H_fX12_holds_0_14_L31 : ∀ (E67 : Int32 → Int32 → Int32 → (Nat → Nat → Int32) → Option (Int32 × (Nat → Nat → Int32))) (_ : ∀ (x27 : Int32) (x28 : Int32) (x29 : Int32) (V30 : Nat → Nat → Int32), E67 x27 x28 x29 V30 = some (r0, V0) → jW p l e ({ frames := 4, cells := 0, slots := 0, locals := 103 }) s m args below meth c (MQ below (jQc D TR ad cA (some (.int r0)) s.heap.size S V0 L) args s 0 0 (jA ad TR s.heap.size)) D TR ad cA (jA ad TR s.heap.size) 6 0 0 67 [(0, .ref (ad 0)), (1, .ref (ad 14)), (2, .int x27), (3, .int x28), (4, .int x29)] [] S V30 L) (n : Nat) (x15 : Int32) (x16 : Int32) (x17 : Int32) (x18 : Int32) (V19 : Nat → Nat → Int32), fX12_holds_0_14_L31 E67 S n x15 x16 x17 x18 V19 = some (r0, V0) → jW p l e ({ frames := 4, cells := 0, slots := 0, locals := 103 }) s m args below meth c (MQ below (jQc D TR ad cA (some (.int r0)) s.heap.size S V0 L) args s 0 0 (jA ad TR s.heap.size)) D TR ad cA (jA ad TR s.heap.size) 6 0 0 31 [(0, .ref (ad 0)), (1, .ref (ad 14)), (2, .int x15), (3, .int x16), (4, .int x17), (5, .int x18)] [] S V19 L := by
    intro E67 HE67
    intro n
    induction n with
    | zero =>
      intro x15 x16 x17 x18 V19 h
      cases (show (none : Option (Int32 × (Nat → Nat → Int32))) = some (r0, V0) from h)
    | succ n ih =>
      intro x15 x16 x17 x18 V19 h
      unfold fX12_holds_0_14_L31 at h
      refine j_iload C 5 rfl dX12_holds_31 ?_
      refine j_aload_n C 0 rfl dX12_holds_33 rfl ?_
      refine fg_X12_271_TR_0 C dX12_holds_34 ?_
      refine j_icmp_ge (tgt := 67) C dX12_holds_37 (by decide) (fun c20 => ?_) (fun c20 => ?_)
      · have h := (if_pos c20).symm.trans h
        exact j_sub [0, 1, 2, 3, 4] rfl (HE67 _ _ _ _ h)
      · have h := (if_neg c20).symm.trans h
        refine j_aload_n C 0 rfl dX12_holds_40 rfl ?_
        refine j_aload_n C 0 rfl dX12_holds_41 rfl ?_
        refine fg_X12_26_TR_0 C dX12_holds_42 ?_
        refine j_iload C 5 rfl dX12_holds_45 ?_
        obtain ⟨g21, h⟩ := gd_elim h
        refine j_iald C tr_3 (ib_in g21) dX12_holds_47 ?_
        refine j_aload_n C 1 rfl dX12_holds_48 rfl ?_
        refine j_iload_n C 2 rfl dX12_holds_49 rfl ?_
        refine j_iload_n C 3 rfl dX12_holds_50 rfl ?_
        refine j_iload C 4 rfl dX12_holds_51 ?_
        obtain ⟨r22, V23, h24, h⟩ := bd2_elim h
        refine j_callV (As := [.int (V19 3 (x18).toNatClampNeg), .ref (ad 14), .int x15, .int x16, .int x17]) (rest := []) C (kX12_reckons_0_14 l B D ad cA hI S V19 L ((V19 3 (x18).toNatClampNeg)) x15 x16 x17 _ _ h24) mw_X12_reckons wd1786 wd83 wd1784 tr_0 rfl rfl ⟨rfl, rfl, by decide, by decide⟩ ⟨Nat.zero_le _, Nat.zero_le _⟩ rfl rfl (Nat.le_of_ble_eq_true rfl) dX12_holds_53 ?_
        refine j_if_ne (tgt := 61) C dX12_holds_56 (by decide) (fun c25 => ?_) (fun c25 => ?_)
        · have h := (if_neg c25).symm.trans h
          refine lt_elim h (fun x26 e_x26 h => ?_)
          refine j_iinc C [(5, .int x26), (0, .ref (ad 0)), (1, .ref (ad 14)), (2, .int x15), (3, .int x16), (4, .int x17)] 5 dX12_holds_61 rfl ((iinc_eq ci_1).trans e_x26.symm) (by decide) rfl ?_
          refine j_goto (tgt := 31) C dX12_holds_64 (by decide) ?_
          exact j_sub [1, 2, 3, 4, 5, 0] rfl (ih _ _ _ _ _ h)
        · have h := (if_pos c25).symm.trans h
          refine j_iconst C dX12_holds_59 ci_0 ?_
          cases h
          exact j_zret C hr hlk rfl rfl dX12_holds_60
  have H_fX12_holds_0_14_L16 : ∀ (E73 : Int32 → Int32 → (Nat → Nat → Int32) → Option (Int32 × (Nat → Nat → Int32))) (_ : ∀ (x37 : Int32) (x38 : Int32) (V39 : Nat → Nat → Int32), E73 x37 x38 V39 = some (r0, V0) → jW p l e ({ frames := 4, cells := 0, slots := 0, locals := 103 }) s m args below meth c (MQ below (jQc D TR ad cA (some (.int r0)) s.heap.size S V0 L) args s 0 0 (jA ad TR s.heap.size)) D TR ad cA (jA ad TR s.heap.size) 6 0 0 73 [(0, .ref (ad 0)), (1, .ref (ad 14)), (2, .int x37), (3, .int x38)] [] S V39 L) (n : Nat) (x8 : Int32) (x9 : Int32) (x10 : Int32) (V11 : Nat → Nat → Int32), fX12_holds_0_14_L16 E73 S n x8 x9 x10 V11 = some (r0, V0) → jW p l e ({ frames := 4, cells := 0, slots := 0, locals := 103 }) s m args below meth c (MQ below (jQc D TR ad cA (some (.int r0)) s.heap.size S V0 L) args s 0 0 (jA ad TR s.heap.size)) D TR ad cA (jA ad TR s.heap.size) 6 0 0 16 [(0, .ref (ad 0)), (1, .ref (ad 14)), (2, .int x8), (3, .int x9), (4, .int x10)] [] S V11 L := by
    intro E73 HE73
    intro n
    induction n with
    | zero =>
      intro x8 x9 x10 V11 h
      cases (show (none : Option (Int32 × (Nat → Nat → Int32))) = some (r0, V0) from h)
    | succ n ih =>
      intro x8 x9 x10 V11 h
      unfold fX12_holds_0_14_L16 at h
      refine j_iload C 4 rfl dX12_holds_16 ?_
      refine j_aload_n C 1 rfl dX12_holds_18 rfl ?_
      refine j_iconst C dX12_holds_19 ci_4 ?_
      refine j_iload_n C 3 rfl dX12_holds_20 rfl ?_
      refine j_imul C dX12_holds_21 ?_
      refine j_iconst C dX12_holds_22 ci_3 ?_
      refine j_iadd C dX12_holds_23 ?_
      refine lt_elim h (fun x12 e_x12 h => ?_)
      refine j_top e_x12 ?_
      obtain ⟨g13, h⟩ := gd_elim h
      refine j_iald C tr_14 (ib_in g13) dX12_holds_24 ?_
      refine j_icmp_gt (tgt := 73) C dX12_holds_25 (by decide) (fun c14 => ?_) (fun c14 => ?_)
      · have h := (if_pos c14).symm.trans h
        exact j_sub [0, 1, 2, 3] rfl (HE73 _ _ _ h)
      · have h := (if_neg c14).symm.trans h
        refine j_iconst C dX12_holds_28 ci_0 ?_
        refine j_istore C [(5, .int (0 : Int32)), (0, .ref (ad 0)), (1, .ref (ad 14)), (2, .int x8), (3, .int x9), (4, .int x10)] dX12_holds_29 (by decide) rfl ?_
        refine bk_elim h (fun X67_31 e_X67_31 h => ?_)
        have HX67_31 : ∀ (x32 : Int32) (x33 : Int32) (x34 : Int32) (V35 : Nat → Nat → Int32), X67_31 x32 x33 x34 V35 = some (r0, V0) → jW p l e ({ frames := 4, cells := 0, slots := 0, locals := 103 }) s m args below meth c (MQ below (jQc D TR ad cA (some (.int r0)) s.heap.size S V0 L) args s 0 0 (jA ad TR s.heap.size)) D TR ad cA (jA ad TR s.heap.size) 6 0 0 67 [(0, .ref (ad 0)), (1, .ref (ad 14)), (2, .int x32), (3, .int x33), (4, .int x34)] [] S V35 L := by
          subst e_X67_31
          intro x32 x33 x34 V35 h
          refine lt_elim h (fun x36 e_x36 h => ?_)
          refine j_iinc C [(4, .int x36), (0, .ref (ad 0)), (1, .ref (ad 14)), (2, .int x32), (3, .int x33)] 4 dX12_holds_67 rfl ((iinc_eq ci_1).trans e_x36.symm) (by decide) rfl ?_
          refine j_goto (tgt := 16) C dX12_holds_70 (by decide) ?_
          exact j_sub [1, 2, 3, 4, 0] rfl (ih _ _ _ _ h)
        exact j_sub [1, 2, 3, 4, 5, 0] rfl (H_fX12_holds_0_14_L31 _ HX67_31 FU _ _ _ _ _ h)
  have H_fX12_holds_0_14_L2 : ∀ (n : Nat) (x1 : Int32) (x2 : Int32) (V3 : Nat → Nat → Int32), fX12_holds_0_14_L2 S n x1 x2 V3 = some (r0, V0) → jW p l e ({ frames := 4, cells := 0, slots := 0, locals := 103 }) s m args below meth c (MQ below (jQc D TR ad cA (some (.int r0)) s.heap.size S V0 L) args s 0 0 (jA ad TR s.heap.size)) D TR ad cA (jA ad TR s.heap.size) 6 0 0 2 [(0, .ref (ad 0)), (1, .ref (ad 14)), (2, .int x1), (3, .int x2)] [] S V3 L := by
    intro n
    induction n with
    | zero =>
      intro x1 x2 V3 h
      cases (show (none : Option (Int32 × (Nat → Nat → Int32))) = some (r0, V0) from h)
    | succ n ih =>
      intro x1 x2 V3 h
      unfold fX12_holds_0_14_L2 at h
      refine j_iload_n C 3 rfl dX12_holds_2 rfl ?_
      refine j_iload_n C 2 rfl dX12_holds_3 rfl ?_
      refine j_icmp_ge (tgt := 79) C dX12_holds_4 (by decide) (fun c4 => ?_) (fun c4 => ?_)
      · have h := (if_pos c4).symm.trans h
        refine j_iconst C dX12_holds_79 ci_1 ?_
        cases h
        exact j_zret C hr hlk rfl rfl dX12_holds_80
      · have h := (if_neg c4).symm.trans h
        refine j_aload_n C 1 rfl dX12_holds_7 rfl ?_
        refine j_iconst C dX12_holds_8 ci_4 ?_
        refine j_iload_n C 3 rfl dX12_holds_9 rfl ?_
        refine j_imul C dX12_holds_10 ?_
        refine j_iconst C dX12_holds_11 ci_2 ?_
        refine j_iadd C dX12_holds_12 ?_
        refine lt_elim h (fun x5 e_x5 h => ?_)
        refine j_top e_x5 ?_
        obtain ⟨g6, h⟩ := gd_elim h
        refine j_iald C tr_14 (ib_in g6) dX12_holds_13 ?_
        refine lt_elim h (fun x7 e_x7 h => ?_)
        refine j_top e_x7 ?_
        refine j_istore C [(4, .int x7), (0, .ref (ad 0)), (1, .ref (ad 14)), (2, .int x1), (3, .int x2)] dX12_holds_14 (by decide) rfl ?_
        refine bk_elim h (fun X73_40 e_X73_40 h => ?_)
        have HX73_40 : ∀ (x41 : Int32) (x42 : Int32) (V43 : Nat → Nat → Int32), X73_40 x41 x42 V43 = some (r0, V0) → jW p l e ({ frames := 4, cells := 0, slots := 0, locals := 103 }) s m args below meth c (MQ below (jQc D TR ad cA (some (.int r0)) s.heap.size S V0 L) args s 0 0 (jA ad TR s.heap.size)) D TR ad cA (jA ad TR s.heap.size) 6 0 0 73 [(0, .ref (ad 0)), (1, .ref (ad 14)), (2, .int x41), (3, .int x42)] [] S V43 L := by
          subst e_X73_40
          intro x41 x42 V43 h
          refine lt_elim h (fun x44 e_x44 h => ?_)
          refine j_iinc C [(3, .int x44), (0, .ref (ad 0)), (1, .ref (ad 14)), (2, .int x41)] 3 dX12_holds_73 rfl ((iinc_eq ci_1).trans e_x44.symm) (by decide) rfl ?_
          refine j_goto (tgt := 2) C dX12_holds_76 (by decide) ?_
          exact j_sub [1, 2, 3, 0] rfl (ih _ _ _ h)
        exact j_sub [1, 2, 3, 4, 0] rfl (H_fX12_holds_0_14_L16 _ HX73_40 FU _ _ _ _ h)
  refine j_iconst C dX12_holds_0 ci_0 ?_
  refine j_istore_n C [(3, .int (0 : Int32)), (0, .ref (ad 0)), (1, .ref (ad 14)), (2, .int a1)] dX12_holds_1 rfl (by decide) rfl ?_
  exact j_sub [1, 2, 3, 0] rfl (H_fX12_holds_0_14_L2 FU _ _ _ h)
theorem dX12_isLaid_0 : decode cX12_isLaid 0 = .ok (.iconst 0, 1) := by decide +kernel
theorem dX12_isLaid_1 : decode cX12_isLaid 1 = .ok (.istore_n 2, 1) := by decide +kernel
theorem dX12_isLaid_2 : decode cX12_isLaid 2 = .ok (.iload_n 2, 1) := by decide +kernel
theorem dX12_isLaid_3 : decode cX12_isLaid 3 = .ok (.iload_n 1, 1) := by decide +kernel
theorem dX12_isLaid_4 : decode cX12_isLaid 4 = .ok (.if_icmp .ge 200, 3) := by decide +kernel
theorem dX12_isLaid_7 : decode cX12_isLaid 7 = .ok (.aload_n 0, 1) := by decide +kernel
theorem dX12_isLaid_8 : decode cX12_isLaid 8 = .ok (.getfield 69, 3) := by decide +kernel
theorem dX12_isLaid_11 : decode cX12_isLaid 11 = .ok (.iload_n 2, 1) := by decide +kernel
theorem dX12_isLaid_12 : decode cX12_isLaid 12 = .ok (.iaload, 1) := by decide +kernel
theorem dX12_isLaid_13 : decode cX12_isLaid 13 = .ok (.istore_n 3, 1) := by decide +kernel
theorem dX12_isLaid_14 : decode cX12_isLaid 14 = .ok (.aload_n 0, 1) := by decide +kernel
theorem dX12_isLaid_15 : decode cX12_isLaid 15 = .ok (.getfield 72, 3) := by decide +kernel
theorem dX12_isLaid_18 : decode cX12_isLaid 18 = .ok (.iload_n 2, 1) := by decide +kernel
theorem dX12_isLaid_19 : decode cX12_isLaid 19 = .ok (.iaload, 1) := by decide +kernel
theorem dX12_isLaid_20 : decode cX12_isLaid 20 = .ok (.bipush 8, 2) := by decide +kernel
theorem dX12_isLaid_22 : decode cX12_isLaid 22 = .ok (.idiv, 1) := by decide +kernel
theorem dX12_isLaid_23 : decode cX12_isLaid 23 = .ok (.istore 4, 2) := by decide +kernel
theorem dX12_isLaid_25 : decode cX12_isLaid 25 = .ok (.aload_n 0, 1) := by decide +kernel
theorem dX12_isLaid_26 : decode cX12_isLaid 26 = .ok (.getfield 72, 3) := by decide +kernel
theorem dX12_isLaid_29 : decode cX12_isLaid 29 = .ok (.iload_n 2, 1) := by decide +kernel
theorem dX12_isLaid_30 : decode cX12_isLaid 30 = .ok (.iaload, 1) := by decide +kernel
theorem dX12_isLaid_31 : decode cX12_isLaid 31 = .ok (.bipush 8, 2) := by decide +kernel
theorem dX12_isLaid_33 : decode cX12_isLaid 33 = .ok (.irem, 1) := by decide +kernel
theorem dX12_isLaid_34 : decode cX12_isLaid 34 = .ok (.iconst 3, 1) := by decide +kernel
theorem dX12_isLaid_35 : decode cX12_isLaid 35 = .ok (.imul, 1) := by decide +kernel
theorem dX12_isLaid_36 : decode cX12_isLaid 36 = .ok (.istore 5, 2) := by decide +kernel
theorem dX12_isLaid_38 : decode cX12_isLaid 38 = .ok (.aload_n 0, 1) := by decide +kernel
theorem dX12_isLaid_39 : decode cX12_isLaid 39 = .ok (.iload_n 3, 1) := by decide +kernel
theorem dX12_isLaid_40 : decode cX12_isLaid 40 = .ok (.iload 4, 2) := by decide +kernel
theorem dX12_isLaid_42 : decode cX12_isLaid 42 = .ok (.invokevirtual 323, 3) := by decide +kernel
theorem dX12_isLaid_45 : decode cX12_isLaid 45 = .ok (.ifCond .eq 21, 3) := by decide +kernel
theorem dX12_isLaid_48 : decode cX12_isLaid 48 = .ok (.iload 5, 2) := by decide +kernel
theorem dX12_isLaid_50 : decode cX12_isLaid 50 = .ok (.aload_n 0, 1) := by decide +kernel
theorem dX12_isLaid_51 : decode cX12_isLaid 51 = .ok (.getfield 19, 3) := by decide +kernel
theorem dX12_isLaid_54 : decode cX12_isLaid 54 = .ok (.iconst 4, 1) := by decide +kernel
theorem dX12_isLaid_55 : decode cX12_isLaid 55 = .ok (.iload_n 3, 1) := by decide +kernel
theorem dX12_isLaid_56 : decode cX12_isLaid 56 = .ok (.imul, 1) := by decide +kernel
theorem dX12_isLaid_57 : decode cX12_isLaid 57 = .ok (.iconst 2, 1) := by decide +kernel
theorem dX12_isLaid_58 : decode cX12_isLaid 58 = .ok (.iadd, 1) := by decide +kernel
theorem dX12_isLaid_59 : decode cX12_isLaid 59 = .ok (.iaload, 1) := by decide +kernel
theorem dX12_isLaid_60 : decode cX12_isLaid 60 = .ok (.iadd, 1) := by decide +kernel
theorem dX12_isLaid_61 : decode cX12_isLaid 61 = .ok (.bipush 24, 2) := by decide +kernel
theorem dX12_isLaid_63 : decode cX12_isLaid 63 = .ok (.if_icmp .le 5, 3) := by decide +kernel
theorem dX12_isLaid_66 : decode cX12_isLaid 66 = .ok (.iconst 0, 1) := by decide +kernel
theorem dX12_isLaid_67 : decode cX12_isLaid 67 = .ok (.ireturn, 1) := by decide +kernel
theorem dX12_isLaid_68 : decode cX12_isLaid 68 = .ok (.aload_n 0, 1) := by decide +kernel
theorem dX12_isLaid_69 : decode cX12_isLaid 69 = .ok (.getfield 63, 3) := by decide +kernel
theorem dX12_isLaid_72 : decode cX12_isLaid 72 = .ok (.iconst 4, 1) := by decide +kernel
theorem dX12_isLaid_73 : decode cX12_isLaid 73 = .ok (.iload_n 2, 1) := by decide +kernel
theorem dX12_isLaid_74 : decode cX12_isLaid 74 = .ok (.imul, 1) := by decide +kernel
theorem dX12_isLaid_75 : decode cX12_isLaid 75 = .ok (.iload_n 3, 1) := by decide +kernel
theorem dX12_isLaid_76 : decode cX12_isLaid 76 = .ok (.iastore, 1) := by decide +kernel
theorem dX12_isLaid_77 : decode cX12_isLaid 77 = .ok (.aload_n 0, 1) := by decide +kernel
theorem dX12_isLaid_78 : decode cX12_isLaid 78 = .ok (.getfield 63, 3) := by decide +kernel
theorem dX12_isLaid_81 : decode cX12_isLaid 81 = .ok (.iconst 4, 1) := by decide +kernel
theorem dX12_isLaid_82 : decode cX12_isLaid 82 = .ok (.iload_n 2, 1) := by decide +kernel
theorem dX12_isLaid_83 : decode cX12_isLaid 83 = .ok (.imul, 1) := by decide +kernel
theorem dX12_isLaid_84 : decode cX12_isLaid 84 = .ok (.iconst 1, 1) := by decide +kernel
theorem dX12_isLaid_85 : decode cX12_isLaid 85 = .ok (.iadd, 1) := by decide +kernel
theorem dX12_isLaid_86 : decode cX12_isLaid 86 = .ok (.iload 4, 2) := by decide +kernel
theorem dX12_isLaid_88 : decode cX12_isLaid 88 = .ok (.iastore, 1) := by decide +kernel
theorem dX12_isLaid_89 : decode cX12_isLaid 89 = .ok (.aload_n 0, 1) := by decide +kernel
theorem dX12_isLaid_90 : decode cX12_isLaid 90 = .ok (.getfield 63, 3) := by decide +kernel
theorem dX12_isLaid_93 : decode cX12_isLaid 93 = .ok (.iconst 4, 1) := by decide +kernel
theorem dX12_isLaid_94 : decode cX12_isLaid 94 = .ok (.iload_n 2, 1) := by decide +kernel
theorem dX12_isLaid_95 : decode cX12_isLaid 95 = .ok (.imul, 1) := by decide +kernel
theorem dX12_isLaid_96 : decode cX12_isLaid 96 = .ok (.iconst 2, 1) := by decide +kernel
theorem dX12_isLaid_97 : decode cX12_isLaid 97 = .ok (.iadd, 1) := by decide +kernel
theorem dX12_isLaid_98 : decode cX12_isLaid 98 = .ok (.iload 5, 2) := by decide +kernel
theorem dX12_isLaid_100 : decode cX12_isLaid 100 = .ok (.iastore, 1) := by decide +kernel
theorem dX12_isLaid_101 : decode cX12_isLaid 101 = .ok (.aload_n 0, 1) := by decide +kernel
theorem dX12_isLaid_102 : decode cX12_isLaid 102 = .ok (.getfield 63, 3) := by decide +kernel
theorem dX12_isLaid_105 : decode cX12_isLaid 105 = .ok (.iconst 4, 1) := by decide +kernel
theorem dX12_isLaid_106 : decode cX12_isLaid 106 = .ok (.iload_n 2, 1) := by decide +kernel
theorem dX12_isLaid_107 : decode cX12_isLaid 107 = .ok (.imul, 1) := by decide +kernel
theorem dX12_isLaid_108 : decode cX12_isLaid 108 = .ok (.iconst 3, 1) := by decide +kernel
theorem dX12_isLaid_109 : decode cX12_isLaid 109 = .ok (.iadd, 1) := by decide +kernel
theorem dX12_isLaid_110 : decode cX12_isLaid 110 = .ok (.iload 5, 2) := by decide +kernel
theorem dX12_isLaid_112 : decode cX12_isLaid 112 = .ok (.aload_n 0, 1) := by decide +kernel
theorem dX12_isLaid_113 : decode cX12_isLaid 113 = .ok (.getfield 19, 3) := by decide +kernel
theorem dX12_isLaid_116 : decode cX12_isLaid 116 = .ok (.iconst 4, 1) := by decide +kernel
theorem dX12_isLaid_117 : decode cX12_isLaid 117 = .ok (.iload_n 3, 1) := by decide +kernel
theorem dX12_isLaid_118 : decode cX12_isLaid 118 = .ok (.imul, 1) := by decide +kernel
theorem dX12_isLaid_119 : decode cX12_isLaid 119 = .ok (.iconst 2, 1) := by decide +kernel
theorem dX12_isLaid_120 : decode cX12_isLaid 120 = .ok (.iadd, 1) := by decide +kernel
theorem dX12_isLaid_121 : decode cX12_isLaid 121 = .ok (.iaload, 1) := by decide +kernel
theorem dX12_isLaid_122 : decode cX12_isLaid 122 = .ok (.iadd, 1) := by decide +kernel
theorem dX12_isLaid_123 : decode cX12_isLaid 123 = .ok (.iconst 1, 1) := by decide +kernel
theorem dX12_isLaid_124 : decode cX12_isLaid 124 = .ok (.isub, 1) := by decide +kernel
theorem dX12_isLaid_125 : decode cX12_isLaid 125 = .ok (.iastore, 1) := by decide +kernel
theorem dX12_isLaid_126 : decode cX12_isLaid 126 = .ok (.iconst 0, 1) := by decide +kernel
theorem dX12_isLaid_127 : decode cX12_isLaid 127 = .ok (.istore 6, 2) := by decide +kernel
theorem dX12_isLaid_129 : decode cX12_isLaid 129 = .ok (.iload 6, 2) := by decide +kernel
theorem dX12_isLaid_131 : decode cX12_isLaid 131 = .ok (.iload_n 2, 1) := by decide +kernel
theorem dX12_isLaid_132 : decode cX12_isLaid 132 = .ok (.if_icmp .ge 66, 3) := by decide +kernel
theorem dX12_isLaid_135 : decode cX12_isLaid 135 = .ok (.aload_n 0, 1) := by decide +kernel
theorem dX12_isLaid_136 : decode cX12_isLaid 136 = .ok (.getfield 72, 3) := by decide +kernel
theorem dX12_isLaid_139 : decode cX12_isLaid 139 = .ok (.iload 6, 2) := by decide +kernel
theorem dX12_isLaid_141 : decode cX12_isLaid 141 = .ok (.iaload, 1) := by decide +kernel
theorem dX12_isLaid_142 : decode cX12_isLaid 142 = .ok (.bipush 8, 2) := by decide +kernel
theorem dX12_isLaid_144 : decode cX12_isLaid 144 = .ok (.idiv, 1) := by decide +kernel
theorem dX12_isLaid_145 : decode cX12_isLaid 145 = .ok (.iload 4, 2) := by decide +kernel
theorem dX12_isLaid_147 : decode cX12_isLaid 147 = .ok (.if_icmp .ne 45, 3) := by decide +kernel
theorem dX12_isLaid_150 : decode cX12_isLaid 150 = .ok (.aload_n 0, 1) := by decide +kernel
theorem dX12_isLaid_151 : decode cX12_isLaid 151 = .ok (.getfield 63, 3) := by decide +kernel
theorem dX12_isLaid_154 : decode cX12_isLaid 154 = .ok (.iconst 4, 1) := by decide +kernel
theorem dX12_isLaid_155 : decode cX12_isLaid 155 = .ok (.iload 6, 2) := by decide +kernel
theorem dX12_isLaid_157 : decode cX12_isLaid 157 = .ok (.imul, 1) := by decide +kernel
theorem dX12_isLaid_158 : decode cX12_isLaid 158 = .ok (.iconst 2, 1) := by decide +kernel
theorem dX12_isLaid_159 : decode cX12_isLaid 159 = .ok (.iadd, 1) := by decide +kernel
theorem dX12_isLaid_160 : decode cX12_isLaid 160 = .ok (.iaload, 1) := by decide +kernel
theorem dX12_isLaid_161 : decode cX12_isLaid 161 = .ok (.aload_n 0, 1) := by decide +kernel
theorem dX12_isLaid_162 : decode cX12_isLaid 162 = .ok (.getfield 63, 3) := by decide +kernel
theorem dX12_isLaid_165 : decode cX12_isLaid 165 = .ok (.iconst 4, 1) := by decide +kernel
theorem dX12_isLaid_166 : decode cX12_isLaid 166 = .ok (.iload_n 2, 1) := by decide +kernel
theorem dX12_isLaid_167 : decode cX12_isLaid 167 = .ok (.imul, 1) := by decide +kernel
theorem dX12_isLaid_168 : decode cX12_isLaid 168 = .ok (.iconst 3, 1) := by decide +kernel
theorem dX12_isLaid_169 : decode cX12_isLaid 169 = .ok (.iadd, 1) := by decide +kernel
theorem dX12_isLaid_170 : decode cX12_isLaid 170 = .ok (.iaload, 1) := by decide +kernel
theorem dX12_isLaid_171 : decode cX12_isLaid 171 = .ok (.if_icmp .gt 21, 3) := by decide +kernel
theorem dX12_isLaid_174 : decode cX12_isLaid 174 = .ok (.iload 5, 2) := by decide +kernel
theorem dX12_isLaid_176 : decode cX12_isLaid 176 = .ok (.aload_n 0, 1) := by decide +kernel
theorem dX12_isLaid_177 : decode cX12_isLaid 177 = .ok (.getfield 63, 3) := by decide +kernel
theorem dX12_isLaid_180 : decode cX12_isLaid 180 = .ok (.iconst 4, 1) := by decide +kernel
theorem dX12_isLaid_181 : decode cX12_isLaid 181 = .ok (.iload 6, 2) := by decide +kernel
theorem dX12_isLaid_183 : decode cX12_isLaid 183 = .ok (.imul, 1) := by decide +kernel
theorem dX12_isLaid_184 : decode cX12_isLaid 184 = .ok (.iconst 3, 1) := by decide +kernel
theorem dX12_isLaid_185 : decode cX12_isLaid 185 = .ok (.iadd, 1) := by decide +kernel
theorem dX12_isLaid_186 : decode cX12_isLaid 186 = .ok (.iaload, 1) := by decide +kernel
theorem dX12_isLaid_187 : decode cX12_isLaid 187 = .ok (.if_icmp .gt 5, 3) := by decide +kernel
theorem dX12_isLaid_190 : decode cX12_isLaid 190 = .ok (.iconst 0, 1) := by decide +kernel
theorem dX12_isLaid_191 : decode cX12_isLaid 191 = .ok (.ireturn, 1) := by decide +kernel
theorem dX12_isLaid_192 : decode cX12_isLaid 192 = .ok (.iinc 6 1, 3) := by decide +kernel
theorem dX12_isLaid_195 : decode cX12_isLaid 195 = .ok (.goto (-66), 3) := by decide +kernel
theorem dX12_isLaid_198 : decode cX12_isLaid 198 = .ok (.iinc 2 1, 3) := by decide +kernel
theorem dX12_isLaid_201 : decode cX12_isLaid 201 = .ok (.goto (-199), 3) := by decide +kernel
theorem dX12_isLaid_204 : decode cX12_isLaid 204 = .ok (.aload_n 0, 1) := by decide +kernel
theorem dX12_isLaid_205 : decode cX12_isLaid 205 = .ok (.aload_n 0, 1) := by decide +kernel
theorem dX12_isLaid_206 : decode cX12_isLaid 206 = .ok (.getfield 63, 3) := by decide +kernel
theorem dX12_isLaid_209 : decode cX12_isLaid 209 = .ok (.iload_n 1, 1) := by decide +kernel
theorem dX12_isLaid_210 : decode cX12_isLaid 210 = .ok (.invokevirtual 327, 3) := by decide +kernel
theorem dX12_isLaid_213 : decode cX12_isLaid 213 = .ok (.ireturn, 1) := by decide +kernel
def fX12_isLaid_0_L129 (E198 : Int32 → Int32 → (Nat → Nat → Int32) → Option (Int32 × (Nat → Nat → Int32))) (S : Nat → Int32) : Nat → Int32 → Int32 → Int32 → Int32 → Int32 → (Nat → Nat → Int32) → Option (Int32 × (Nat → Nat → Int32))
  | 0, _, _, _, _, _, _ => none
  | n + 1, x33, x34, x35, x36, x37, V38 =>
    (if x34 ≤ x37 then
    E198 x33 x34 V38
    else
    gd (ib x37 4) (
    bk (fun (x42 : Int32) (x43 : Int32) (x44 : Int32) (x45 : Int32) (x46 : Int32) (V47 : Nat → Nat → Int32) =>
    lt (x46 + (1 : Int32)) (fun x48 =>
    fX12_isLaid_0_L129 E198 S n x42 x43 x44 x45 x48 V47)) (fun K192_41 =>
    (if ((V38 17 (x37).toNatClampNeg) / (8 : Int32)) = x35 then
    lt ((((4 : Int32) * x37) + (2 : Int32))) (fun x50 =>
    gd (ib x50 16) (
    lt ((((4 : Int32) * x34) + (3 : Int32))) (fun x52 =>
    gd (ib x52 16) (
    (if (V38 14 (x52).toNatClampNeg) < (V38 14 (x50).toNatClampNeg) then
    K192_41 x33 x34 x35 x36 x37 V38
    else
    lt ((((4 : Int32) * x37) + (3 : Int32))) (fun x55 =>
    gd (ib x55 16) (
    (if (V38 14 (x55).toNatClampNeg) < x36 then
    K192_41 x33 x34 x35 x36 x37 V38
    else
    some ((0 : Int32), V38)))))))))
    else
    K192_41 x33 x34 x35 x36 x37 V38))))
def fX12_isLaid_0_L2 (E204 : Int32 → (Nat → Nat → Int32) → Option (Int32 × (Nat → Nat → Int32))) (S : Nat → Int32) : Nat → Int32 → Int32 → (Nat → Nat → Int32) → Option (Int32 × (Nat → Nat → Int32))
  | 0, _, _, _ => none
  | n + 1, x1, x2, V3 =>
    (if x1 ≤ x2 then
    E204 x1 V3
    else
    gd (ib x2 4) (
    lt ((V3 16 (x2).toNatClampNeg)) (fun x6 =>
    gd (ib x2 4) (
    lt (((V3 17 (x2).toNatClampNeg) / (8 : Int32))) (fun x8 =>
    gd (ib x2 4) (
    lt ((V3 17 (x2).toNatClampNeg)) (fun x10 =>
    lt (((x10 - x10 / (8 : Int32) * (8 : Int32)) * (3 : Int32))) (fun x11 =>
    bd1 (fX12_lets_0 V3 x6 x8) (fun r12 =>
    (if r12 = 0 then
    some ((0 : Int32), V3)
    else
    lt ((((4 : Int32) * x6) + (2 : Int32))) (fun x15 =>
    gd (ib x15 24) (
    (if (x11 + (V3 1 (x15).toNatClampNeg)) ≤ (24 : Int32) then
    lt (((4 : Int32) * x2)) (fun x18 =>
    gd (ib x18 16) (
    lt (va_up V3 14 (upd (V3 14) (x18).toNatClampNeg x6)) (fun V20 =>
    lt ((((4 : Int32) * x2) + (1 : Int32))) (fun x21 =>
    gd (ib x21 16) (
    lt (va_up V20 14 (upd (V20 14) (x21).toNatClampNeg x8)) (fun V23 =>
    lt ((((4 : Int32) * x2) + (2 : Int32))) (fun x24 =>
    gd (ib x24 16) (
    lt (va_up V23 14 (upd (V23 14) (x24).toNatClampNeg x11)) (fun V26 =>
    lt ((((4 : Int32) * x6) + (2 : Int32))) (fun x27 =>
    gd (ib x27 24) (
    lt (((x11 + (V26 1 (x27).toNatClampNeg)) - (1 : Int32))) (fun x29 =>
    lt ((((4 : Int32) * x2) + (3 : Int32))) (fun x30 =>
    gd (ib x30 16) (
    lt (va_up V26 14 (upd (V26 14) (x30).toNatClampNeg x29)) (fun V32 =>
    bk (fun (x62 : Int32) (x63 : Int32) (V64 : Nat → Nat → Int32) =>
    lt (x63 + (1 : Int32)) (fun x65 =>
    fX12_isLaid_0_L2 E204 S n x62 x65 V64)) (fun X198_61 =>
    fX12_isLaid_0_L129 X198_61 S FU x1 x2 x8 x11 (0 : Int32) V32))))))))))))))))
    else
    some ((0 : Int32), V3))))))))))))))
def fX12_isLaid_0 (S : Nat → Int32) (V : Nat → Nat → Int32) (a1 : Int32) : Option (Int32 × (Nat → Nat → Int32)) :=
  bk (fun (x69 : Int32) (V70 : Nat → Nat → Int32) =>
  bd2 (fX12_holds_0_14 S V70 x69) (fun r71 V72 =>
  gd (isb r71) (
  some (r71, V72)))) (fun X204_68 =>
  fX12_isLaid_0_L2 X204_68 S FU a1 (0 : Int32) V)
set_option maxHeartbeats 4000000 in
set_option maxRecDepth 100000 in
theorem kX12_isLaid_0 (l : Launch) (B : jBT) (D : va_G) (ad : Nat → Nat) (cA : Nat → ClassId) (hI : jI ad TR) (S : Nat → Int32) (V : Nat → Nat → Int32) (L : Nat → Int64) (a1 : Int32) (r0 : Int32) (V0 : Nat → Nat → Int32) (h : fX12_isLaid_0 S V a1 = some (r0, V0)) : jM l yX12_isLaid cX12_isLaid 7 (some .boolean) ({ frames := 5, cells := 0, slots := 0, locals := 128 }) B D TR ad cA [.ref (ad 0), .int a1] S V L (some (.int r0)) S V0 L := by
  refine jM_of (plainFor_of_name (by decide)) TR_ok hI (Nat.le_of_ble_eq_true rfl) ?_
  intro p e s m args below meth c C hr hlk
  refine j_lv (lv2 := [(0, .ref (ad 0)), (1, .int a1)]) rfl ?_
  unfold fX12_isLaid_0 at h
  have H_fX12_isLaid_0_L129 : ∀ (E198 : Int32 → Int32 → (Nat → Nat → Int32) → Option (Int32 × (Nat → Nat → Int32))) (_ : ∀ (x58 : Int32) (x59 : Int32) (V60 : Nat → Nat → Int32), E198 x58 x59 V60 = some (r0, V0) → jW p l e ({ frames := 5, cells := 0, slots := 0, locals := 128 }) s m args below meth c (MQ below (jQc D TR ad cA (some (.int r0)) s.heap.size S V0 L) args s 0 0 (jA ad TR s.heap.size)) D TR ad cA (jA ad TR s.heap.size) 7 0 0 198 [(0, .ref (ad 0)), (1, .int x58), (2, .int x59)] [] S V60 L) (n : Nat) (x33 : Int32) (x34 : Int32) (x35 : Int32) (x36 : Int32) (x37 : Int32) (V38 : Nat → Nat → Int32), fX12_isLaid_0_L129 E198 S n x33 x34 x35 x36 x37 V38 = some (r0, V0) → jW p l e ({ frames := 5, cells := 0, slots := 0, locals := 128 }) s m args below meth c (MQ below (jQc D TR ad cA (some (.int r0)) s.heap.size S V0 L) args s 0 0 (jA ad TR s.heap.size)) D TR ad cA (jA ad TR s.heap.size) 7 0 0 129 [(0, .ref (ad 0)), (1, .int x33), (2, .int x34), (4, .int x35), (5, .int x36), (6, .int x37)] [] S V38 L := by
    intro E198 HE198
    intro n
    induction n with
    | zero =>
      intro x33 x34 x35 x36 x37 V38 h
      cases (show (none : Option (Int32 × (Nat → Nat → Int32))) = some (r0, V0) from h)
    | succ n ih =>
      intro x33 x34 x35 x36 x37 V38 h
      unfold fX12_isLaid_0_L129 at h
      refine j_iload C 5 rfl dX12_isLaid_129 ?_
      refine j_iload_n C 2 rfl dX12_isLaid_131 rfl ?_
      refine j_icmp_ge (tgt := 198) C dX12_isLaid_132 (by decide) (fun c39 => ?_) (fun c39 => ?_)
      · have h := (if_pos c39).symm.trans h
        exact j_sub [0, 1, 2] rfl (HE198 _ _ _ h)
      · have h := (if_neg c39).symm.trans h
        refine j_aload_n C 0 rfl dX12_isLaid_135 rfl ?_
        refine fg_X12_72_TR_0 C dX12_isLaid_136 ?_
        refine j_iload C 5 rfl dX12_isLaid_139 ?_
        obtain ⟨g40, h⟩ := gd_elim h
        refine j_iald C tr_17 (ib_in g40) dX12_isLaid_141 ?_
        refine j_bipush C dX12_isLaid_142 cb_8 ?_
        refine j_idiv C dX12_isLaid_144 (by decide) ?_
        refine j_iload C 3 rfl dX12_isLaid_145 ?_
        refine bk_elim h (fun K192_41 e_K192_41 h => ?_)
        have HK192_41 : ∀ (x42 : Int32) (x43 : Int32) (x44 : Int32) (x45 : Int32) (x46 : Int32) (V47 : Nat → Nat → Int32), K192_41 x42 x43 x44 x45 x46 V47 = some (r0, V0) → jW p l e ({ frames := 5, cells := 0, slots := 0, locals := 128 }) s m args below meth c (MQ below (jQc D TR ad cA (some (.int r0)) s.heap.size S V0 L) args s 0 0 (jA ad TR s.heap.size)) D TR ad cA (jA ad TR s.heap.size) 7 0 0 192 [(0, .ref (ad 0)), (1, .int x42), (2, .int x43), (4, .int x44), (5, .int x45), (6, .int x46)] [] S V47 L := by
          subst e_K192_41
          intro x42 x43 x44 x45 x46 V47 h
          refine lt_elim h (fun x48 e_x48 h => ?_)
          refine j_iinc C [(6, .int x48), (0, .ref (ad 0)), (1, .int x42), (2, .int x43), (4, .int x44), (5, .int x45)] 5 dX12_isLaid_192 rfl ((iinc_eq ci_1).trans e_x48.symm) (by decide) rfl ?_
          refine j_goto (tgt := 129) C dX12_isLaid_195 (by decide) ?_
          exact j_sub [1, 2, 3, 4, 5, 0] rfl (ih _ _ _ _ _ _ h)
        refine j_icmp_ne (tgt := 192) C dX12_isLaid_147 (by decide) (fun c49 => ?_) (fun c49 => ?_)
        · have h := (if_neg c49).symm.trans h
          exact j_sub [0, 1, 2, 3, 4, 5] rfl (HK192_41 _ _ _ _ _ _ h)
        · have h := (if_pos c49).symm.trans h
          refine j_aload_n C 0 rfl dX12_isLaid_150 rfl ?_
          refine fg_X12_63_TR_0 C dX12_isLaid_151 ?_
          refine j_iconst C dX12_isLaid_154 ci_4 ?_
          refine j_iload C 5 rfl dX12_isLaid_155 ?_
          refine j_imul C dX12_isLaid_157 ?_
          refine j_iconst C dX12_isLaid_158 ci_2 ?_
          refine j_iadd C dX12_isLaid_159 ?_
          refine lt_elim h (fun x50 e_x50 h => ?_)
          refine j_top e_x50 ?_
          obtain ⟨g51, h⟩ := gd_elim h
          refine j_iald C tr_14 (ib_in g51) dX12_isLaid_160 ?_
          refine j_aload_n C 0 rfl dX12_isLaid_161 rfl ?_
          refine fg_X12_63_TR_0 C dX12_isLaid_162 ?_
          refine j_iconst C dX12_isLaid_165 ci_4 ?_
          refine j_iload_n C 2 rfl dX12_isLaid_166 rfl ?_
          refine j_imul C dX12_isLaid_167 ?_
          refine j_iconst C dX12_isLaid_168 ci_3 ?_
          refine j_iadd C dX12_isLaid_169 ?_
          refine lt_elim h (fun x52 e_x52 h => ?_)
          refine j_top e_x52 ?_
          obtain ⟨g53, h⟩ := gd_elim h
          refine j_iald C tr_14 (ib_in g53) dX12_isLaid_170 ?_
          refine j_icmp_gt (tgt := 192) C dX12_isLaid_171 (by decide) (fun c54 => ?_) (fun c54 => ?_)
          · have h := (if_pos c54).symm.trans h
            exact j_sub [0, 1, 2, 3, 4, 5] rfl (HK192_41 _ _ _ _ _ _ h)
          · have h := (if_neg c54).symm.trans h
            refine j_iload C 4 rfl dX12_isLaid_174 ?_
            refine j_aload_n C 0 rfl dX12_isLaid_176 rfl ?_
            refine fg_X12_63_TR_0 C dX12_isLaid_177 ?_
            refine j_iconst C dX12_isLaid_180 ci_4 ?_
            refine j_iload C 5 rfl dX12_isLaid_181 ?_
            refine j_imul C dX12_isLaid_183 ?_
            refine j_iconst C dX12_isLaid_184 ci_3 ?_
            refine j_iadd C dX12_isLaid_185 ?_
            refine lt_elim h (fun x55 e_x55 h => ?_)
            refine j_top e_x55 ?_
            obtain ⟨g56, h⟩ := gd_elim h
            refine j_iald C tr_14 (ib_in g56) dX12_isLaid_186 ?_
            refine j_icmp_gt (tgt := 192) C dX12_isLaid_187 (by decide) (fun c57 => ?_) (fun c57 => ?_)
            · have h := (if_pos c57).symm.trans h
              exact j_sub [0, 1, 2, 3, 4, 5] rfl (HK192_41 _ _ _ _ _ _ h)
            · have h := (if_neg c57).symm.trans h
              refine j_iconst C dX12_isLaid_190 ci_0 ?_
              cases h
              exact j_zret C hr hlk rfl rfl dX12_isLaid_191
  have H_fX12_isLaid_0_L2 : ∀ (E204 : Int32 → (Nat → Nat → Int32) → Option (Int32 × (Nat → Nat → Int32))) (_ : ∀ (x66 : Int32) (V67 : Nat → Nat → Int32), E204 x66 V67 = some (r0, V0) → jW p l e ({ frames := 5, cells := 0, slots := 0, locals := 128 }) s m args below meth c (MQ below (jQc D TR ad cA (some (.int r0)) s.heap.size S V0 L) args s 0 0 (jA ad TR s.heap.size)) D TR ad cA (jA ad TR s.heap.size) 7 0 0 204 [(0, .ref (ad 0)), (1, .int x66)] [] S V67 L) (n : Nat) (x1 : Int32) (x2 : Int32) (V3 : Nat → Nat → Int32), fX12_isLaid_0_L2 E204 S n x1 x2 V3 = some (r0, V0) → jW p l e ({ frames := 5, cells := 0, slots := 0, locals := 128 }) s m args below meth c (MQ below (jQc D TR ad cA (some (.int r0)) s.heap.size S V0 L) args s 0 0 (jA ad TR s.heap.size)) D TR ad cA (jA ad TR s.heap.size) 7 0 0 2 [(0, .ref (ad 0)), (1, .int x1), (2, .int x2)] [] S V3 L := by
    intro E204 HE204
    intro n
    induction n with
    | zero =>
      intro x1 x2 V3 h
      cases (show (none : Option (Int32 × (Nat → Nat → Int32))) = some (r0, V0) from h)
    | succ n ih =>
      intro x1 x2 V3 h
      unfold fX12_isLaid_0_L2 at h
      refine j_iload_n C 2 rfl dX12_isLaid_2 rfl ?_
      refine j_iload_n C 1 rfl dX12_isLaid_3 rfl ?_
      refine j_icmp_ge (tgt := 204) C dX12_isLaid_4 (by decide) (fun c4 => ?_) (fun c4 => ?_)
      · have h := (if_pos c4).symm.trans h
        exact j_sub [0, 1] rfl (HE204 _ _ h)
      · have h := (if_neg c4).symm.trans h
        refine j_aload_n C 0 rfl dX12_isLaid_7 rfl ?_
        refine fg_X12_69_TR_0 C dX12_isLaid_8 ?_
        refine j_iload_n C 2 rfl dX12_isLaid_11 rfl ?_
        obtain ⟨g5, h⟩ := gd_elim h
        refine j_iald C tr_16 (ib_in g5) dX12_isLaid_12 ?_
        refine lt_elim h (fun x6 e_x6 h => ?_)
        refine j_top e_x6 ?_
        refine j_istore_n C [(3, .int x6), (0, .ref (ad 0)), (1, .int x1), (2, .int x2)] dX12_isLaid_13 rfl (by decide) rfl ?_
        refine j_aload_n C 1 rfl dX12_isLaid_14 rfl ?_
        refine fg_X12_72_TR_0 C dX12_isLaid_15 ?_
        refine j_iload_n C 3 rfl dX12_isLaid_18 rfl ?_
        obtain ⟨g7, h⟩ := gd_elim h
        refine j_iald C tr_17 (ib_in g7) dX12_isLaid_19 ?_
        refine j_bipush C dX12_isLaid_20 cb_8 ?_
        refine j_idiv C dX12_isLaid_22 (by decide) ?_
        refine lt_elim h (fun x8 e_x8 h => ?_)
        refine j_top e_x8 ?_
        refine j_istore C [(4, .int x8), (3, .int x6), (0, .ref (ad 0)), (1, .int x1), (2, .int x2)] dX12_isLaid_23 (by decide) rfl ?_
        refine j_aload_n C 2 rfl dX12_isLaid_25 rfl ?_
        refine fg_X12_72_TR_0 C dX12_isLaid_26 ?_
        refine j_iload_n C 4 rfl dX12_isLaid_29 rfl ?_
        obtain ⟨g9, h⟩ := gd_elim h
        refine j_iald C tr_17 (ib_in g9) dX12_isLaid_30 ?_
        refine j_bipush C dX12_isLaid_31 cb_8 ?_
        refine lt_elim h (fun x10 e_x10 h => ?_)
        refine j_top2 e_x10 ?_
        refine j_irem C dX12_isLaid_33 (by decide) ?_
        refine j_iconst C dX12_isLaid_34 ci_3 ?_
        refine j_imul C dX12_isLaid_35 ?_
        refine lt_elim h (fun x11 e_x11 h => ?_)
        refine j_top e_x11 ?_
        refine j_istore C [(5, .int x11), (4, .int x8), (3, .int x6), (0, .ref (ad 0)), (1, .int x1), (2, .int x2)] dX12_isLaid_36 (by decide) rfl ?_
        refine j_aload_n C 3 rfl dX12_isLaid_38 rfl ?_
        refine j_iload_n C 2 rfl dX12_isLaid_39 rfl ?_
        refine j_iload C 1 rfl dX12_isLaid_40 ?_
        obtain ⟨r12, h13, h⟩ := bd1_elim h
        refine j_callV (As := [.int x6, .int x8]) (rest := []) C (kX12_lets_0 l B D ad cA hI S V3 L x6 x8 _ h13) mw_X12_lets wd1772 wd81 wd1770 tr_0 rfl rfl ⟨rfl, rfl, by decide, by decide⟩ ⟨Nat.zero_le _, Nat.zero_le _⟩ rfl rfl (Nat.le_of_ble_eq_true rfl) dX12_isLaid_42 ?_
        refine j_if_eq (tgt := 66) C dX12_isLaid_45 (by decide) (fun c14 => ?_) (fun c14 => ?_)
        · have h := (if_pos c14).symm.trans h
          refine j_iconst C dX12_isLaid_66 ci_0 ?_
          cases h
          exact j_zret C hr hlk rfl rfl dX12_isLaid_67
        · have h := (if_neg c14).symm.trans h
          refine j_iload C 0 rfl dX12_isLaid_48 ?_
          refine j_aload_n C 3 rfl dX12_isLaid_50 rfl ?_
          refine fg_X12_19_TR_0 C dX12_isLaid_51 ?_
          refine j_iconst C dX12_isLaid_54 ci_4 ?_
          refine j_iload_n C 2 rfl dX12_isLaid_55 rfl ?_
          refine j_imul C dX12_isLaid_56 ?_
          refine j_iconst C dX12_isLaid_57 ci_2 ?_
          refine j_iadd C dX12_isLaid_58 ?_
          refine lt_elim h (fun x15 e_x15 h => ?_)
          refine j_top e_x15 ?_
          obtain ⟨g16, h⟩ := gd_elim h
          refine j_iald C tr_1 (ib_in g16) dX12_isLaid_59 ?_
          refine j_iadd C dX12_isLaid_60 ?_
          refine j_bipush C dX12_isLaid_61 cb_24 ?_
          refine j_icmp_le (tgt := 68) C dX12_isLaid_63 (by decide) (fun c17 => ?_) (fun c17 => ?_)
          · have h := (if_pos c17).symm.trans h
            refine j_aload_n C 3 rfl dX12_isLaid_68 rfl ?_
            refine fg_X12_63_TR_0 C dX12_isLaid_69 ?_
            refine j_iconst C dX12_isLaid_72 ci_4 ?_
            refine j_iload_n C 5 rfl dX12_isLaid_73 rfl ?_
            refine j_imul C dX12_isLaid_74 ?_
            refine j_iload_n C 2 rfl dX12_isLaid_75 rfl ?_
            refine lt_elim h (fun x18 e_x18 h => ?_)
            refine j_top2 e_x18 ?_
            obtain ⟨g19, h⟩ := gd_elim h
            refine j_iast C tr_14 (ib_in g19) dX12_isLaid_76 ?_
            refine lt_elim h (fun V20 e_V20 h => ?_)
            refine j_V e_V20 ?_
            refine j_aload_n C 3 rfl dX12_isLaid_77 rfl ?_
            refine fg_X12_63_TR_0 C dX12_isLaid_78 ?_
            refine j_iconst C dX12_isLaid_81 ci_4 ?_
            refine j_iload_n C 5 rfl dX12_isLaid_82 rfl ?_
            refine j_imul C dX12_isLaid_83 ?_
            refine j_iconst C dX12_isLaid_84 ci_1 ?_
            refine j_iadd C dX12_isLaid_85 ?_
            refine j_iload C 1 rfl dX12_isLaid_86 ?_
            refine lt_elim h (fun x21 e_x21 h => ?_)
            refine j_top2 e_x21 ?_
            obtain ⟨g22, h⟩ := gd_elim h
            refine j_iast C tr_14 (ib_in g22) dX12_isLaid_88 ?_
            refine lt_elim h (fun V23 e_V23 h => ?_)
            refine j_V e_V23 ?_
            refine j_aload_n C 3 rfl dX12_isLaid_89 rfl ?_
            refine fg_X12_63_TR_0 C dX12_isLaid_90 ?_
            refine j_iconst C dX12_isLaid_93 ci_4 ?_
            refine j_iload_n C 5 rfl dX12_isLaid_94 rfl ?_
            refine j_imul C dX12_isLaid_95 ?_
            refine j_iconst C dX12_isLaid_96 ci_2 ?_
            refine j_iadd C dX12_isLaid_97 ?_
            refine j_iload C 0 rfl dX12_isLaid_98 ?_
            refine lt_elim h (fun x24 e_x24 h => ?_)
            refine j_top2 e_x24 ?_
            obtain ⟨g25, h⟩ := gd_elim h
            refine j_iast C tr_14 (ib_in g25) dX12_isLaid_100 ?_
            refine lt_elim h (fun V26 e_V26 h => ?_)
            refine j_V e_V26 ?_
            refine j_aload_n C 3 rfl dX12_isLaid_101 rfl ?_
            refine fg_X12_63_TR_0 C dX12_isLaid_102 ?_
            refine j_iconst C dX12_isLaid_105 ci_4 ?_
            refine j_iload_n C 5 rfl dX12_isLaid_106 rfl ?_
            refine j_imul C dX12_isLaid_107 ?_
            refine j_iconst C dX12_isLaid_108 ci_3 ?_
            refine j_iadd C dX12_isLaid_109 ?_
            refine j_iload C 0 rfl dX12_isLaid_110 ?_
            refine j_aload_n C 3 rfl dX12_isLaid_112 rfl ?_
            refine fg_X12_19_TR_0 C dX12_isLaid_113 ?_
            refine j_iconst C dX12_isLaid_116 ci_4 ?_
            refine j_iload_n C 2 rfl dX12_isLaid_117 rfl ?_
            refine j_imul C dX12_isLaid_118 ?_
            refine j_iconst C dX12_isLaid_119 ci_2 ?_
            refine j_iadd C dX12_isLaid_120 ?_
            refine lt_elim h (fun x27 e_x27 h => ?_)
            refine j_top e_x27 ?_
            obtain ⟨g28, h⟩ := gd_elim h
            refine j_iald C tr_1 (ib_in g28) dX12_isLaid_121 ?_
            refine j_iadd C dX12_isLaid_122 ?_
            refine j_iconst C dX12_isLaid_123 ci_1 ?_
            refine j_isub C dX12_isLaid_124 ?_
            refine lt_elim h (fun x29 e_x29 h => ?_)
            refine j_top e_x29 ?_
            refine lt_elim h (fun x30 e_x30 h => ?_)
            refine j_top2 e_x30 ?_
            obtain ⟨g31, h⟩ := gd_elim h
            refine j_iast C tr_14 (ib_in g31) dX12_isLaid_125 ?_
            refine lt_elim h (fun V32 e_V32 h => ?_)
            refine j_V e_V32 ?_
            refine j_iconst C dX12_isLaid_126 ci_0 ?_
            refine j_istore C [(6, .int (0 : Int32)), (5, .int x11), (4, .int x8), (3, .int x6), (0, .ref (ad 0)), (1, .int x1), (2, .int x2)] dX12_isLaid_127 (by decide) rfl ?_
            refine bk_elim h (fun X198_61 e_X198_61 h => ?_)
            have HX198_61 : ∀ (x62 : Int32) (x63 : Int32) (V64 : Nat → Nat → Int32), X198_61 x62 x63 V64 = some (r0, V0) → jW p l e ({ frames := 5, cells := 0, slots := 0, locals := 128 }) s m args below meth c (MQ below (jQc D TR ad cA (some (.int r0)) s.heap.size S V0 L) args s 0 0 (jA ad TR s.heap.size)) D TR ad cA (jA ad TR s.heap.size) 7 0 0 198 [(0, .ref (ad 0)), (1, .int x62), (2, .int x63)] [] S V64 L := by
              subst e_X198_61
              intro x62 x63 V64 h
              refine lt_elim h (fun x65 e_x65 h => ?_)
              refine j_iinc C [(2, .int x65), (0, .ref (ad 0)), (1, .int x62)] 2 dX12_isLaid_198 rfl ((iinc_eq ci_1).trans e_x65.symm) (by decide) rfl ?_
              refine j_goto (tgt := 2) C dX12_isLaid_201 (by decide) ?_
              exact j_sub [1, 2, 0] rfl (ih _ _ _ h)
            exact j_sub [4, 5, 6, 2, 1, 0] rfl (H_fX12_isLaid_0_L129 _ HX198_61 FU _ _ _ _ _ _ h)
          · have h := (if_neg c17).symm.trans h
            refine j_iconst C dX12_isLaid_66 ci_0 ?_
            cases h
            exact j_zret C hr hlk rfl rfl dX12_isLaid_67
  refine j_iconst C dX12_isLaid_0 ci_0 ?_
  refine j_istore_n C [(2, .int (0 : Int32)), (0, .ref (ad 0)), (1, .int a1)] dX12_isLaid_1 rfl (by decide) rfl ?_
  refine bk_elim h (fun X204_68 e_X204_68 h => ?_)
  have HX204_68 : ∀ (x69 : Int32) (V70 : Nat → Nat → Int32), X204_68 x69 V70 = some (r0, V0) → jW p l e ({ frames := 5, cells := 0, slots := 0, locals := 128 }) s m args below meth c (MQ below (jQc D TR ad cA (some (.int r0)) s.heap.size S V0 L) args s 0 0 (jA ad TR s.heap.size)) D TR ad cA (jA ad TR s.heap.size) 7 0 0 204 [(0, .ref (ad 0)), (1, .int x69)] [] S V70 L := by
    subst e_X204_68
    intro x69 V70 h
    refine j_aload_n C 0 rfl dX12_isLaid_204 rfl ?_
    refine j_aload_n C 0 rfl dX12_isLaid_205 rfl ?_
    refine fg_X12_63_TR_0 C dX12_isLaid_206 ?_
    refine j_iload_n C 1 rfl dX12_isLaid_209 rfl ?_
    obtain ⟨r71, V72, h73, h⟩ := bd2_elim h
    refine j_callV (As := [.ref (ad 14), .int x69]) (rest := []) C (kX12_holds_0_14 l B D ad cA hI S V70 L x69 _ _ h73) mw_X12_holds wd1782 wd82 wd1780 tr_0 rfl rfl ⟨rfl, rfl, by decide, by decide⟩ ⟨Nat.zero_le _, Nat.zero_le _⟩ rfl rfl (Nat.le_of_ble_eq_true rfl) dX12_isLaid_210 ?_
    obtain ⟨g74, h⟩ := gd_elim h
    cases h
    exact j_zret C hr hlk rfl (isb_n g74) dX12_isLaid_213
  exact j_sub [1, 2, 0] rfl (H_fX12_isLaid_0_L2 _ HX204_68 FU _ _ _ h)
def fX12_swingOf_0_14 (S : Nat → Int32) (V : Nat → Nat → Int32) (a1 : Int32) (a2 : Int32) (a3 : Int32) : Option (Int32) :=
  bd1 (fX12_allIn_14 V a1 a2) (fun r1 =>
  bd1 (fX12_swingBy_0 S V r1 a3) (fun r3 =>
  some r3))
set_option maxHeartbeats 4000000 in
set_option maxRecDepth 100000 in
theorem kX12_swingOf_0_14 (l : Launch) (B : jBT) (D : va_G) (ad : Nat → Nat) (cA : Nat → ClassId) (hI : jI ad TR) (S : Nat → Int32) (V : Nat → Nat → Int32) (L : Nat → Int64) (a1 : Int32) (a2 : Int32) (a3 : Int32) (r0 : Int32) (h : fX12_swingOf_0_14 S V a1 a2 a3 = some r0) : jM l yX12_swingOf cX12_swingOf 5 (some .int) ({ frames := 2, cells := 0, slots := 0, locals := 49 }) B D TR ad cA [.ref (ad 0), .ref (ad 14), .int a1, .int a2, .int a3] S V L (some (.int r0)) S V L := by
  refine jM_of (plainFor_of_name (by decide)) TR_ok hI (Nat.le_of_ble_eq_true rfl) ?_
  intro p e s m args below meth c C hr hlk
  refine j_lv (lv2 := [(0, .ref (ad 0)), (1, .ref (ad 14)), (2, .int a1), (3, .int a2), (4, .int a3)]) rfl ?_
  unfold fX12_swingOf_0_14 at h
  refine j_aload_n C 0 rfl dX12_swingOf_0 rfl ?_
  refine j_aload_n C 1 rfl dX12_swingOf_1 rfl ?_
  refine j_iload_n C 2 rfl dX12_swingOf_2 rfl ?_
  refine j_iload_n C 3 rfl dX12_swingOf_3 rfl ?_
  obtain ⟨r1, h2, h⟩ := bd1_elim h
  refine j_callS (As := [.ref (ad 14), .int a1, .int a2]) (rest := [.ref (ad 0)]) C (kX12_allIn_14 l B D ad cA hI S V L a1 a2 _ h2) mw_X12_allIn wd1778 wd1777 ⟨rfl, rfl, by decide, by decide⟩ ⟨Nat.zero_le _, Nat.zero_le _⟩ rfl rfl (Nat.le_of_ble_eq_true rfl) dX12_swingOf_4 ?_
  refine j_iload C 4 rfl dX12_swingOf_7 ?_
  obtain ⟨r3, h4, h⟩ := bd1_elim h
  refine j_callV (As := [.int r1, .int a3]) (rest := []) C (kX12_swingBy_0 l B D ad cA hI S V L r1 a3 _ h4) mw_X12_swingBy wd1844 wd91 wd1842 tr_0 rfl rfl ⟨rfl, rfl, by decide, by decide⟩ ⟨Nat.zero_le _, Nat.zero_le _⟩ rfl rfl (Nat.le_of_ble_eq_true rfl) dX12_swingOf_9 ?_
  cases h
  exact j_iret C hr hlk rfl dX12_swingOf_12
def fX12_slowOf_0_14_L6 (S : Nat → Int32) (V : Nat → Nat → Int32) : Nat → Int32 → Int32 → Int32 → Int32 → Int32 → Option (Int32)
  | 0, _, _, _, _, _ => none
  | n + 1, x1, x2, x3, x4, x5 =>
    (if x2 < x5 then
    some x4
    else
    bd1 (fX12_swingOf_0_14 S V x1 x5 x3) (fun r7 =>
    lt ((x4 + (r7 - (60 : Int32)))) (fun x9 =>
    lt (x5 + (1 : Int32)) (fun x10 =>
    fX12_slowOf_0_14_L6 S V n x1 x2 x3 x9 x10))))
def fX12_slowOf_0_14 (S : Nat → Int32) (V : Nat → Nat → Int32) (a1 : Int32) (a2 : Int32) (a3 : Int32) (a4 : Int32) : Option (Int32) :=
  fX12_slowOf_0_14_L6 S V FU a1 a3 a4 (0 : Int32) a2
set_option maxHeartbeats 4000000 in
set_option maxRecDepth 100000 in
theorem kX12_slowOf_0_14 (l : Launch) (B : jBT) (D : va_G) (ad : Nat → Nat) (cA : Nat → ClassId) (hI : jI ad TR) (S : Nat → Int32) (V : Nat → Nat → Int32) (L : Nat → Int64) (a1 : Int32) (a2 : Int32) (a3 : Int32) (a4 : Int32) (r0 : Int32) (h : fX12_slowOf_0_14 S V a1 a2 a3 a4 = some r0) : jM l yX12_slowOf cX12_slowOf 8 (some .int) ({ frames := 3, cells := 0, slots := 0, locals := 73 }) B D TR ad cA [.ref (ad 0), .ref (ad 14), .int a1, .int a2, .int a3, .int a4] S V L (some (.int r0)) S V L := by
  refine jM_of (plainFor_of_name (by decide)) TR_ok hI (Nat.le_of_ble_eq_true rfl) ?_
  intro p e s m args below meth c C hr hlk
  refine j_lv (lv2 := [(0, .ref (ad 0)), (1, .ref (ad 14)), (2, .int a1), (3, .int a2), (4, .int a3), (5, .int a4)]) rfl ?_
  unfold fX12_slowOf_0_14 at h
  have H_fX12_slowOf_0_14_L6 : ∀ (n : Nat) (x1 : Int32) (x2 : Int32) (x3 : Int32) (x4 : Int32) (x5 : Int32), fX12_slowOf_0_14_L6 S V n x1 x2 x3 x4 x5 = some r0 → jW p l e ({ frames := 3, cells := 0, slots := 0, locals := 73 }) s m args below meth c (MQ below (jQc D TR ad cA (some (.int r0)) s.heap.size S V L) args s 0 0 (jA ad TR s.heap.size)) D TR ad cA (jA ad TR s.heap.size) 8 0 0 6 [(0, .ref (ad 0)), (1, .ref (ad 14)), (2, .int x1), (4, .int x2), (5, .int x3), (6, .int x4), (7, .int x5)] [] S V L := by
    intro n
    induction n with
    | zero =>
      intro x1 x2 x3 x4 x5 h
      cases (show (none : Option (Int32)) = some r0 from h)
    | succ n ih =>
      intro x1 x2 x3 x4 x5 h
      unfold fX12_slowOf_0_14_L6 at h
      refine j_iload C 6 rfl dX12_slowOf_6 ?_
      refine j_iload C 3 rfl dX12_slowOf_8 ?_
      refine j_icmp_gt (tgt := 37) C dX12_slowOf_10 (by decide) (fun c6 => ?_) (fun c6 => ?_)
      · have h := (if_pos c6).symm.trans h
        refine j_iload C 5 rfl dX12_slowOf_37 ?_
        cases h
        exact j_iret C hr hlk rfl dX12_slowOf_39
      · have h := (if_neg c6).symm.trans h
        refine j_iload C 5 rfl dX12_slowOf_13 ?_
        refine j_aload_n C 0 rfl dX12_slowOf_15 rfl ?_
        refine j_aload_n C 1 rfl dX12_slowOf_16 rfl ?_
        refine j_iload_n C 2 rfl dX12_slowOf_17 rfl ?_
        refine j_iload C 6 rfl dX12_slowOf_18 ?_
        refine j_iload C 4 rfl dX12_slowOf_20 ?_
        obtain ⟨r7, h8, h⟩ := bd1_elim h
        refine j_callV (As := [.ref (ad 14), .int x1, .int x5, .int x3]) (rest := [.int x4]) C (kX12_swingOf_0_14 l B D ad cA hI S V L x1 x5 x3 _ h8) mw_X12_swingOf wd1840 wd90 wd1838 tr_0 rfl rfl ⟨rfl, rfl, by decide, by decide⟩ ⟨Nat.zero_le _, Nat.zero_le _⟩ rfl rfl (Nat.le_of_ble_eq_true rfl) dX12_slowOf_22 ?_
        refine j_bipush C dX12_slowOf_25 cb_60 ?_
        refine j_isub C dX12_slowOf_27 ?_
        refine j_iadd C dX12_slowOf_28 ?_
        refine lt_elim h (fun x9 e_x9 h => ?_)
        refine j_top e_x9 ?_
        refine j_istore C [(6, .int x9), (0, .ref (ad 0)), (1, .ref (ad 14)), (2, .int x1), (4, .int x2), (5, .int x3), (7, .int x5)] dX12_slowOf_29 (by decide) rfl ?_
        refine lt_elim h (fun x10 e_x10 h => ?_)
        refine j_iinc C [(7, .int x10), (6, .int x9), (0, .ref (ad 0)), (1, .ref (ad 14)), (2, .int x1), (4, .int x2), (5, .int x3)] 6 dX12_slowOf_31 rfl ((iinc_eq ci_1).trans e_x10.symm) (by decide) rfl ?_
        refine j_goto (tgt := 6) C dX12_slowOf_34 (by decide) ?_
        exact j_sub [2, 3, 4, 5, 6, 1, 0] rfl (ih _ _ _ _ _ h)
  refine j_iconst C dX12_slowOf_0 ci_0 ?_
  refine j_istore C [(6, .int (0 : Int32)), (0, .ref (ad 0)), (1, .ref (ad 14)), (2, .int a1), (3, .int a2), (4, .int a3), (5, .int a4)] dX12_slowOf_1 (by decide) rfl ?_
  refine j_iload_n C 4 rfl dX12_slowOf_3 rfl ?_
  refine j_istore C [(7, .int a2), (6, .int (0 : Int32)), (0, .ref (ad 0)), (1, .ref (ad 14)), (2, .int a1), (3, .int a2), (4, .int a3), (5, .int a4)] dX12_slowOf_4 (by decide) rfl ?_
  exact j_sub [2, 3, 4, 6, 7, 1, 0] rfl (H_fX12_slowOf_0_14_L6 FU _ _ _ _ _ h)
theorem dX12_house4_0 : decode cX12_house4 0 = .ok (.aload_n 0, 1) := by decide +kernel
theorem dX12_house4_1 : decode cX12_house4 1 = .ok (.iconst 0, 1) := by decide +kernel
theorem dX12_house4_2 : decode cX12_house4 2 = .ok (.putfield 93, 3) := by decide +kernel
theorem dX12_house4_5 : decode cX12_house4 5 = .ok (.aload_n 0, 1) := by decide +kernel
theorem dX12_house4_6 : decode cX12_house4 6 = .ok (.iload_n 1, 1) := by decide +kernel
theorem dX12_house4_7 : decode cX12_house4 7 = .ok (.ifCond .le 25, 3) := by decide +kernel
theorem dX12_house4_10 : decode cX12_house4 10 = .ok (.iload_n 1, 1) := by decide +kernel
theorem dX12_house4_11 : decode cX12_house4 11 = .ok (.iconst 1, 1) := by decide +kernel
theorem dX12_house4_12 : decode cX12_house4 12 = .ok (.aload_n 0, 1) := by decide +kernel
theorem dX12_house4_13 : decode cX12_house4 13 = .ok (.getfield 265, 3) := by decide +kernel
theorem dX12_house4_16 : decode cX12_house4 16 = .ok (.ishl, 1) := by decide +kernel
theorem dX12_house4_17 : decode cX12_house4 17 = .ok (.if_icmp .ge 15, 3) := by decide +kernel
theorem dX12_house4_20 : decode cX12_house4 20 = .ok (.iload_n 1, 1) := by decide +kernel
theorem dX12_house4_21 : decode cX12_house4 21 = .ok (.invokestatic 309, 3) := by decide +kernel
theorem dX12_house4_24 : decode cX12_house4 24 = .ok (.iconst 4, 1) := by decide +kernel
theorem dX12_house4_25 : decode cX12_house4 25 = .ok (.if_icmp .gt 7, 3) := by decide +kernel
theorem dX12_house4_28 : decode cX12_house4 28 = .ok (.iconst 1, 1) := by decide +kernel
theorem dX12_house4_29 : decode cX12_house4 29 = .ok (.goto 4, 3) := by decide +kernel
theorem dX12_house4_32 : decode cX12_house4 32 = .ok (.iconst 0, 1) := by decide +kernel
theorem dX12_house4_33 : decode cX12_house4 33 = .ok (.iconst 1, 1) := by decide +kernel
theorem dX12_house4_34 : decode cX12_house4 34 = .ok (.invokevirtual 255, 3) := by decide +kernel
theorem dX12_house4_37 : decode cX12_house4 37 = .ok (.ifCond .eq 12, 3) := by decide +kernel
theorem dX12_house4_40 : decode cX12_house4 40 = .ok (.aload_n 0, 1) := by decide +kernel
theorem dX12_house4_41 : decode cX12_house4 41 = .ok (.iload_n 2, 1) := by decide +kernel
theorem dX12_house4_42 : decode cX12_house4 42 = .ok (.iconst 1, 1) := by decide +kernel
theorem dX12_house4_43 : decode cX12_house4 43 = .ok (.invokevirtual 358, 3) := by decide +kernel
theorem dX12_house4_46 : decode cX12_house4 46 = .ok (.ifCond .ne 5, 3) := by decide +kernel
theorem dX12_house4_49 : decode cX12_house4 49 = .ok (.iconst 0, 1) := by decide +kernel
theorem dX12_house4_50 : decode cX12_house4 50 = .ok (.ireturn, 1) := by decide +kernel
theorem dX12_house4_51 : decode cX12_house4 51 = .ok (.iconst 0, 1) := by decide +kernel
theorem dX12_house4_52 : decode cX12_house4 52 = .ok (.istore_n 3, 1) := by decide +kernel
theorem dX12_house4_53 : decode cX12_house4 53 = .ok (.iconst 0, 1) := by decide +kernel
theorem dX12_house4_54 : decode cX12_house4 54 = .ok (.istore 4, 2) := by decide +kernel
theorem dX12_house4_56 : decode cX12_house4 56 = .ok (.iload 4, 2) := by decide +kernel
theorem dX12_house4_58 : decode cX12_house4 58 = .ok (.aload_n 0, 1) := by decide +kernel
theorem dX12_house4_59 : decode cX12_house4 59 = .ok (.getfield 265, 3) := by decide +kernel
theorem dX12_house4_62 : decode cX12_house4 62 = .ok (.if_icmp .ge 32, 3) := by decide +kernel
theorem dX12_house4_65 : decode cX12_house4 65 = .ok (.iload_n 1, 1) := by decide +kernel
theorem dX12_house4_66 : decode cX12_house4 66 = .ok (.iload 4, 2) := by decide +kernel
theorem dX12_house4_68 : decode cX12_house4 68 = .ok (.ishr, 1) := by decide +kernel
theorem dX12_house4_69 : decode cX12_house4 69 = .ok (.iconst 1, 1) := by decide +kernel
theorem dX12_house4_70 : decode cX12_house4 70 = .ok (.iand, 1) := by decide +kernel
theorem dX12_house4_71 : decode cX12_house4 71 = .ok (.ifCond .ne 6, 3) := by decide +kernel
theorem dX12_house4_74 : decode cX12_house4 74 = .ok (.goto 14, 3) := by decide +kernel
theorem dX12_house4_77 : decode cX12_house4 77 = .ok (.aload_n 0, 1) := by decide +kernel
theorem dX12_house4_78 : decode cX12_house4 78 = .ok (.getfield 69, 3) := by decide +kernel
theorem dX12_house4_81 : decode cX12_house4 81 = .ok (.iload_n 3, 1) := by decide +kernel
theorem dX12_house4_82 : decode cX12_house4 82 = .ok (.iload 4, 2) := by decide +kernel
theorem dX12_house4_84 : decode cX12_house4 84 = .ok (.iastore, 1) := by decide +kernel
theorem dX12_house4_85 : decode cX12_house4 85 = .ok (.iinc 3 1, 3) := by decide +kernel
theorem dX12_house4_88 : decode cX12_house4 88 = .ok (.iinc 4 1, 3) := by decide +kernel
theorem dX12_house4_91 : decode cX12_house4 91 = .ok (.goto (-35), 3) := by decide +kernel
theorem dX12_house4_94 : decode cX12_house4 94 = .ok (.iconst (-1), 1) := by decide +kernel
theorem dX12_house4_95 : decode cX12_house4 95 = .ok (.istore 4, 2) := by decide +kernel
theorem dX12_house4_97 : decode cX12_house4 97 = .ok (.iconst 1, 1) := by decide +kernel
theorem dX12_house4_98 : decode cX12_house4 98 = .ok (.iconst 4, 1) := by decide +kernel
theorem dX12_house4_99 : decode cX12_house4 99 = .ok (.iload_n 3, 1) := by decide +kernel
theorem dX12_house4_100 : decode cX12_house4 100 = .ok (.imul, 1) := by decide +kernel
theorem dX12_house4_101 : decode cX12_house4 101 = .ok (.ishl, 1) := by decide +kernel
theorem dX12_house4_102 : decode cX12_house4 102 = .ok (.istore 5, 2) := by decide +kernel
theorem dX12_house4_104 : decode cX12_house4 104 = .ok (.iconst 0, 1) := by decide +kernel
theorem dX12_house4_105 : decode cX12_house4 105 = .ok (.istore 6, 2) := by decide +kernel
theorem dX12_house4_107 : decode cX12_house4 107 = .ok (.iload 6, 2) := by decide +kernel
theorem dX12_house4_109 : decode cX12_house4 109 = .ok (.iload 5, 2) := by decide +kernel
theorem dX12_house4_111 : decode cX12_house4 111 = .ok (.if_icmp .ge 171, 3) := by decide +kernel
theorem dX12_house4_114 : decode cX12_house4 114 = .ok (.iconst 0, 1) := by decide +kernel
theorem dX12_house4_115 : decode cX12_house4 115 = .ok (.istore 7, 2) := by decide +kernel
theorem dX12_house4_117 : decode cX12_house4 117 = .ok (.iload 7, 2) := by decide +kernel
theorem dX12_house4_119 : decode cX12_house4 119 = .ok (.iload_n 3, 1) := by decide +kernel
theorem dX12_house4_120 : decode cX12_house4 120 = .ok (.if_icmp .ge 30, 3) := by decide +kernel
theorem dX12_house4_123 : decode cX12_house4 123 = .ok (.aload_n 0, 1) := by decide +kernel
theorem dX12_house4_124 : decode cX12_house4 124 = .ok (.getfield 72, 3) := by decide +kernel
theorem dX12_house4_127 : decode cX12_house4 127 = .ok (.iload 7, 2) := by decide +kernel
theorem dX12_house4_129 : decode cX12_house4 129 = .ok (.iload 6, 2) := by decide +kernel
theorem dX12_house4_131 : decode cX12_house4 131 = .ok (.iconst 4, 1) := by decide +kernel
theorem dX12_house4_132 : decode cX12_house4 132 = .ok (.iload_n 3, 1) := by decide +kernel
theorem dX12_house4_133 : decode cX12_house4 133 = .ok (.iconst 1, 1) := by decide +kernel
theorem dX12_house4_134 : decode cX12_house4 134 = .ok (.isub, 1) := by decide +kernel
theorem dX12_house4_135 : decode cX12_house4 135 = .ok (.iload 7, 2) := by decide +kernel
theorem dX12_house4_137 : decode cX12_house4 137 = .ok (.isub, 1) := by decide +kernel
theorem dX12_house4_138 : decode cX12_house4 138 = .ok (.imul, 1) := by decide +kernel
theorem dX12_house4_139 : decode cX12_house4 139 = .ok (.ishr, 1) := by decide +kernel
theorem dX12_house4_140 : decode cX12_house4 140 = .ok (.bipush 15, 2) := by decide +kernel
theorem dX12_house4_142 : decode cX12_house4 142 = .ok (.iand, 1) := by decide +kernel
theorem dX12_house4_143 : decode cX12_house4 143 = .ok (.iastore, 1) := by decide +kernel
theorem dX12_house4_144 : decode cX12_house4 144 = .ok (.iinc 7 1, 3) := by decide +kernel
theorem dX12_house4_147 : decode cX12_house4 147 = .ok (.goto (-30), 3) := by decide +kernel
theorem dX12_house4_150 : decode cX12_house4 150 = .ok (.aload_n 0, 1) := by decide +kernel
theorem dX12_house4_151 : decode cX12_house4 151 = .ok (.iload_n 3, 1) := by decide +kernel
theorem dX12_house4_152 : decode cX12_house4 152 = .ok (.invokevirtual 364, 3) := by decide +kernel
theorem dX12_house4_155 : decode cX12_house4 155 = .ok (.ifCond .ne 6, 3) := by decide +kernel
theorem dX12_house4_158 : decode cX12_house4 158 = .ok (.goto 118, 3) := by decide +kernel
theorem dX12_house4_161 : decode cX12_house4 161 = .ok (.aload_n 0, 1) := by decide +kernel
theorem dX12_house4_162 : decode cX12_house4 162 = .ok (.aload_n 0, 1) := by decide +kernel
theorem dX12_house4_163 : decode cX12_house4 163 = .ok (.getfield 63, 3) := by decide +kernel
theorem dX12_house4_166 : decode cX12_house4 166 = .ok (.iload_n 3, 1) := by decide +kernel
theorem dX12_house4_167 : decode cX12_house4 167 = .ok (.iconst 0, 1) := by decide +kernel
theorem dX12_house4_168 : decode cX12_house4 168 = .ok (.bipush 11, 2) := by decide +kernel
theorem dX12_house4_170 : decode cX12_house4 170 = .ok (.iload_n 2, 1) := by decide +kernel
theorem dX12_house4_171 : decode cX12_house4 171 = .ok (.invokevirtual 354, 3) := by decide +kernel
theorem dX12_house4_174 : decode cX12_house4 174 = .ok (.invokestatic 367, 3) := by decide +kernel
theorem dX12_house4_177 : decode cX12_house4 177 = .ok (.istore 7, 2) := by decide +kernel
theorem dX12_house4_179 : decode cX12_house4 179 = .ok (.iload 4, 2) := by decide +kernel
theorem dX12_house4_181 : decode cX12_house4 181 = .ok (.iconst (-1), 1) := by decide +kernel
theorem dX12_house4_182 : decode cX12_house4 182 = .ok (.if_icmp .eq 13, 3) := by decide +kernel
theorem dX12_house4_185 : decode cX12_house4 185 = .ok (.iload 7, 2) := by decide +kernel
theorem dX12_house4_187 : decode cX12_house4 187 = .ok (.iload 4, 2) := by decide +kernel
theorem dX12_house4_189 : decode cX12_house4 189 = .ok (.if_icmp .lt 6, 3) := by decide +kernel
theorem dX12_house4_192 : decode cX12_house4 192 = .ok (.goto 84, 3) := by decide +kernel
theorem dX12_house4_195 : decode cX12_house4 195 = .ok (.iload 7, 2) := by decide +kernel
theorem dX12_house4_197 : decode cX12_house4 197 = .ok (.istore 4, 2) := by decide +kernel
theorem dX12_house4_199 : decode cX12_house4 199 = .ok (.iconst 0, 1) := by decide +kernel
theorem dX12_house4_200 : decode cX12_house4 200 = .ok (.istore 8, 2) := by decide +kernel
theorem dX12_house4_202 : decode cX12_house4 202 = .ok (.iload 8, 2) := by decide +kernel
theorem dX12_house4_204 : decode cX12_house4 204 = .ok (.bipush 6, 2) := by decide +kernel
theorem dX12_house4_206 : decode cX12_house4 206 = .ok (.if_icmp .ge 17, 3) := by decide +kernel
theorem dX12_house4_209 : decode cX12_house4 209 = .ok (.aload_n 0, 1) := by decide +kernel
theorem dX12_house4_210 : decode cX12_house4 210 = .ok (.getfield 75, 3) := by decide +kernel
theorem dX12_house4_213 : decode cX12_house4 213 = .ok (.iload 8, 2) := by decide +kernel
theorem dX12_house4_215 : decode cX12_house4 215 = .ok (.iconst (-1), 1) := by decide +kernel
theorem dX12_house4_216 : decode cX12_house4 216 = .ok (.iastore, 1) := by decide +kernel
theorem dX12_house4_217 : decode cX12_house4 217 = .ok (.iinc 8 1, 3) := by decide +kernel
theorem dX12_house4_220 : decode cX12_house4 220 = .ok (.goto (-18), 3) := by decide +kernel
theorem dX12_house4_223 : decode cX12_house4 223 = .ok (.iconst 0, 1) := by decide +kernel
theorem dX12_house4_224 : decode cX12_house4 224 = .ok (.istore 8, 2) := by decide +kernel
theorem dX12_house4_226 : decode cX12_house4 226 = .ok (.iload 8, 2) := by decide +kernel
theorem dX12_house4_228 : decode cX12_house4 228 = .ok (.iload_n 3, 1) := by decide +kernel
theorem dX12_house4_229 : decode cX12_house4 229 = .ok (.if_icmp .ge 47, 3) := by decide +kernel
theorem dX12_house4_232 : decode cX12_house4 232 = .ok (.aload_n 0, 1) := by decide +kernel
theorem dX12_house4_233 : decode cX12_house4 233 = .ok (.getfield 75, 3) := by decide +kernel
theorem dX12_house4_236 : decode cX12_house4 236 = .ok (.aload_n 0, 1) := by decide +kernel
theorem dX12_house4_237 : decode cX12_house4 237 = .ok (.getfield 69, 3) := by decide +kernel
theorem dX12_house4_240 : decode cX12_house4 240 = .ok (.iload 8, 2) := by decide +kernel
theorem dX12_house4_242 : decode cX12_house4 242 = .ok (.iaload, 1) := by decide +kernel
theorem dX12_house4_243 : decode cX12_house4 243 = .ok (.bipush 24, 2) := by decide +kernel
theorem dX12_house4_245 : decode cX12_house4 245 = .ok (.aload_n 0, 1) := by decide +kernel
theorem dX12_house4_246 : decode cX12_house4 246 = .ok (.getfield 72, 3) := by decide +kernel
theorem dX12_house4_249 : decode cX12_house4 249 = .ok (.iload 8, 2) := by decide +kernel
theorem dX12_house4_251 : decode cX12_house4 251 = .ok (.iaload, 1) := by decide +kernel
theorem dX12_house4_252 : decode cX12_house4 252 = .ok (.bipush 8, 2) := by decide +kernel
theorem dX12_house4_254 : decode cX12_house4 254 = .ok (.idiv, 1) := by decide +kernel
theorem dX12_house4_255 : decode cX12_house4 255 = .ok (.imul, 1) := by decide +kernel
theorem dX12_house4_256 : decode cX12_house4 256 = .ok (.aload_n 0, 1) := by decide +kernel
theorem dX12_house4_257 : decode cX12_house4 257 = .ok (.getfield 72, 3) := by decide +kernel
theorem dX12_house4_260 : decode cX12_house4 260 = .ok (.iload 8, 2) := by decide +kernel
theorem dX12_house4_262 : decode cX12_house4 262 = .ok (.iaload, 1) := by decide +kernel
theorem dX12_house4_263 : decode cX12_house4 263 = .ok (.bipush 8, 2) := by decide +kernel
theorem dX12_house4_265 : decode cX12_house4 265 = .ok (.irem, 1) := by decide +kernel
theorem dX12_house4_266 : decode cX12_house4 266 = .ok (.iconst 3, 1) := by decide +kernel
theorem dX12_house4_267 : decode cX12_house4 267 = .ok (.imul, 1) := by decide +kernel
theorem dX12_house4_268 : decode cX12_house4 268 = .ok (.iadd, 1) := by decide +kernel
theorem dX12_house4_269 : decode cX12_house4 269 = .ok (.iastore, 1) := by decide +kernel
theorem dX12_house4_270 : decode cX12_house4 270 = .ok (.iinc 8 1, 3) := by decide +kernel
theorem dX12_house4_273 : decode cX12_house4 273 = .ok (.goto (-47), 3) := by decide +kernel
theorem dX12_house4_276 : decode cX12_house4 276 = .ok (.iinc 6 1, 3) := by decide +kernel
theorem dX12_house4_279 : decode cX12_house4 279 = .ok (.goto (-172), 3) := by decide +kernel
theorem dX12_house4_282 : decode cX12_house4 282 = .ok (.aload_n 0, 1) := by decide +kernel
theorem dX12_house4_283 : decode cX12_house4 283 = .ok (.aload_n 0, 1) := by decide +kernel
theorem dX12_house4_284 : decode cX12_house4 284 = .ok (.getfield 284, 3) := by decide +kernel
theorem dX12_house4_287 : decode cX12_house4 287 = .ok (.ifCond .ne 9, 3) := by decide +kernel
theorem dX12_house4_290 : decode cX12_house4 290 = .ok (.iload 4, 2) := by decide +kernel
theorem dX12_house4_292 : decode cX12_house4 292 = .ok (.iconst (-1), 1) := by decide +kernel
theorem dX12_house4_293 : decode cX12_house4 293 = .ok (.if_icmp .eq 7, 3) := by decide +kernel
theorem dX12_house4_296 : decode cX12_house4 296 = .ok (.iconst 1, 1) := by decide +kernel
theorem dX12_house4_297 : decode cX12_house4 297 = .ok (.goto 4, 3) := by decide +kernel
theorem dX12_house4_300 : decode cX12_house4 300 = .ok (.iconst 0, 1) := by decide +kernel
theorem dX12_house4_301 : decode cX12_house4 301 = .ok (.putfield 284, 3) := by decide +kernel
theorem dX12_house4_304 : decode cX12_house4 304 = .ok (.iload 4, 2) := by decide +kernel
theorem dX12_house4_306 : decode cX12_house4 306 = .ok (.ireturn, 1) := by decide +kernel
def fX12_house4_0_L56 (E94 : Int32 → Int32 → (Nat → Int32) → (Nat → Nat → Int32) → Option (Int32 × (Nat → Int32) × (Nat → Nat → Int32))) : Nat → Int32 → Int32 → Int32 → Int32 → (Nat → Int32) → (Nat → Nat → Int32) → Option (Int32 × (Nat → Int32) × (Nat → Nat → Int32))
  | 0, _, _, _, _, _, _ => none
  | n + 1, x16, x17, x18, x19, S20, V21 =>
    (if (S20 5) ≤ x19 then
    E94 x17 x18 S20 V21
    else
    bk (fun (x24 : Int32) (x25 : Int32) (x26 : Int32) (x27 : Int32) (S28 : Nat → Int32) (V29 : Nat → Nat → Int32) =>
    lt (x27 + (1 : Int32)) (fun x30 =>
    fX12_house4_0_L56 E94 n x24 x25 x26 x30 S28 V29)) (fun K88_23 =>
    (if ((x16 >>> (x19 &&& 31)) &&& (1 : Int32)) = 0 then
    K88_23 x16 x17 x18 x19 S20 V21
    else
    gd (ib x18 4) (
    lt (va_up V21 16 (upd (V21 16) (x18).toNatClampNeg x19)) (fun V33 =>
    lt (x18 + (1 : Int32)) (fun x34 =>
    K88_23 x16 x17 x34 x19 S20 V33))))))
def fX12_house4_0_L117 (E150 : Int32 → Int32 → Int32 → Int32 → Int32 → (Nat → Int32) → (Nat → Nat → Int32) → Option (Int32 × (Nat → Int32) × (Nat → Nat → Int32))) : Nat → Int32 → Int32 → Int32 → Int32 → Int32 → Int32 → (Nat → Int32) → (Nat → Nat → Int32) → Option (Int32 × (Nat → Int32) × (Nat → Nat → Int32))
  | 0, _, _, _, _, _, _, _, _ => none
  | n + 1, x53, x54, x55, x56, x57, x58, S59, V60 =>
    (if x54 ≤ x58 then
    E150 x53 x54 x55 x56 x57 S59 V60
    else
    lt (((x57 >>> (((4 : Int32) * ((x54 - (1 : Int32)) - x58)) &&& 31)) &&& (15 : Int32))) (fun x62 =>
    gd (ib x58 4) (
    lt (va_up V60 17 (upd (V60 17) (x58).toNatClampNeg x62)) (fun V64 =>
    lt (x58 + (1 : Int32)) (fun x65 =>
    fX12_house4_0_L117 E150 n x53 x54 x55 x56 x57 x65 S59 V64)))))
def fX12_house4_0_L202 (E223 : Int32 → Int32 → Int32 → Int32 → Int32 → (Nat → Int32) → (Nat → Nat → Int32) → Option (Int32 × (Nat → Int32) × (Nat → Nat → Int32))) : Nat → Int32 → Int32 → Int32 → Int32 → Int32 → Int32 → (Nat → Int32) → (Nat → Nat → Int32) → Option (Int32 × (Nat → Int32) × (Nat → Nat → Int32))
  | 0, _, _, _, _, _, _, _, _ => none
  | n + 1, x106, x107, x108, x109, x110, x111, S112, V113 =>
    (if (6 : Int32) ≤ x111 then
    E223 x106 x107 x108 x109 x110 S112 V113
    else
    gd (ib x111 6) (
    lt (va_up V113 18 (upd (V113 18) (x111).toNatClampNeg (-1 : Int32))) (fun V116 =>
    lt (x111 + (1 : Int32)) (fun x117 =>
    fX12_house4_0_L202 E223 n x106 x107 x108 x109 x110 x117 S112 V116))))
def fX12_house4_0_L226 (E276 : Int32 → Int32 → Int32 → Int32 → Int32 → (Nat → Int32) → (Nat → Nat → Int32) → Option (Int32 × (Nat → Int32) × (Nat → Nat → Int32))) : Nat → Int32 → Int32 → Int32 → Int32 → Int32 → Int32 → (Nat → Int32) → (Nat → Nat → Int32) → Option (Int32 × (Nat → Int32) × (Nat → Nat → Int32))
  | 0, _, _, _, _, _, _, _, _ => none
  | n + 1, x133, x134, x135, x136, x137, x138, S139, V140 =>
    (if x134 ≤ x138 then
    E276 x133 x134 x135 x136 x137 S139 V140
    else
    gd (ib x138 4) (
    gd (ib x138 4) (
    gd (ib x138 4) (
    lt ((V140 17 (x138).toNatClampNeg)) (fun x145 =>
    lt ((((24 : Int32) * ((V140 17 (x138).toNatClampNeg) / (8 : Int32))) + ((x145 - x145 / (8 : Int32) * (8 : Int32)) * (3 : Int32)))) (fun x146 =>
    lt ((V140 16 (x138).toNatClampNeg)) (fun x147 =>
    gd (ib x147 6) (
    lt (va_up V140 18 (upd (V140 18) (x147).toNatClampNeg x146)) (fun V149 =>
    lt (x138 + (1 : Int32)) (fun x150 =>
    fX12_house4_0_L226 E276 n x133 x134 x135 x136 x137 x150 S139 V149))))))))))
def fX12_house4_0_L107 (E282 : Int32 → (Nat → Int32) → (Nat → Nat → Int32) → Option (Int32 × (Nat → Int32) × (Nat → Nat → Int32))) : Nat → Int32 → Int32 → Int32 → Int32 → Int32 → (Nat → Int32) → (Nat → Nat → Int32) → Option (Int32 × (Nat → Int32) × (Nat → Nat → Int32))
  | 0, _, _, _, _, _, _, _ => none
  | n + 1, x45, x46, x47, x48, x49, S50, V51 =>
    (if x48 ≤ x49 then
    E282 x47 S50 V51
    else
    bk (fun (x74 : Int32) (x75 : Int32) (x76 : Int32) (x77 : Int32) (x78 : Int32) (S79 : Nat → Int32) (V80 : Nat → Nat → Int32) =>
    bd2 (fX12_isLaid_0 S79 V80 x75) (fun r81 V82 =>
    bk (fun (x85 : Int32) (x86 : Int32) (x87 : Int32) (x88 : Int32) (x89 : Int32) (S90 : Nat → Int32) (V91 : Nat → Nat → Int32) =>
    lt (x89 + (1 : Int32)) (fun x92 =>
    fX12_house4_0_L107 E282 n x85 x86 x87 x88 x92 S90 V91)) (fun K276_84 =>
    (if r81 = 0 then
    K276_84 x74 x75 x76 x77 x78 S79 V82
    else
    bd1 (fX12_slowOf_0_14 S79 V82 x75 (0 : Int32) (11 : Int32) x74) (fun r94 =>
    bd1 (fX12_size r94) (fun r96 =>
    bk (fun (x99 : Int32) (x100 : Int32) (x101 : Int32) (x102 : Int32) (x103 : Int32) (S104 : Nat → Int32) (V105 : Nat → Nat → Int32) =>
    bk (fun (x126 : Int32) (x127 : Int32) (x128 : Int32) (x129 : Int32) (x130 : Int32) (S131 : Nat → Int32) (V132 : Nat → Nat → Int32) =>
    fX12_house4_0_L226 K276_84 FU x126 x127 x128 x129 x130 (0 : Int32) S131 V132) (fun X223_125 =>
    fX12_house4_0_L202 X223_125 FU x99 x100 x103 x101 x102 (0 : Int32) S104 V105)) (fun K195_98 =>
    (if x76 = (-1 : Int32) then
    K195_98 x74 x75 x77 x78 r96 S79 V82
    else
    (if r96 < x76 then
    K195_98 x74 x75 x77 x78 r96 S79 V82
    else
    K276_84 x74 x75 x76 x77 x78 S79 V82))))))))) (fun X150_73 =>
    fX12_house4_0_L117 X150_73 FU x45 x46 x47 x48 x49 (0 : Int32) S50 V51))
def fX12_house4_0 (S : Nat → Int32) (V : Nat → Nat → Int32) (a1 : Int32) (a2 : Int32) : Option (Int32 × (Nat → Int32) × (Nat → Nat → Int32)) :=
  lt (va_up S 0 (0 : Int32)) (fun S1 =>
  bk (fun (x3 : Int32) (x4 : Int32) (x5 : Int32) (S6 : Nat → Int32) (V7 : Nat → Nat → Int32) =>
  bd2 (fX12_right_0 S6 x5 (1 : Int32)) (fun r8 S9 =>
  (if r8 = 0 then
  some ((0 : Int32), S9, V7)
  else
  bd2 (fX12_isDay_0 S9 x4 (1 : Int32)) (fun r12 S13 =>
  (if r12 = 0 then
  some ((0 : Int32), S13, V7)
  else
  bk (fun (x40 : Int32) (x41 : Int32) (S42 : Nat → Int32) (V43 : Nat → Nat → Int32) =>
  lt (((1 : Int32) <<< (((4 : Int32) * x41) &&& 31))) (fun x44 =>
  bk (fun (x164 : Int32) (S165 : Nat → Int32) (V166 : Nat → Nat → Int32) =>
  bk (fun (x168 : Int32) (x169 : Int32) (S170 : Nat → Int32) (V171 : Nat → Nat → Int32) =>
  gd (isb x169) (
  lt (va_up S170 49 x169) (fun S173 =>
  some (x168, S173, V171)))) (fun K301_167 =>
  bk (fun (x175 : Int32) (S176 : Nat → Int32) (V177 : Nat → Nat → Int32) =>
  K301_167 x175 (1 : Int32) S176 V177) (fun K296_174 =>
  (if (S165 49) = 0 then
  (if x164 = (-1 : Int32) then
  K301_167 x164 (0 : Int32) S165 V166
  else
  K296_174 x164 S165 V166)
  else
  K296_174 x164 S165 V166)))) (fun X282_163 =>
  fX12_house4_0_L107 X282_163 FU x40 x41 (-1 : Int32) x44 (0 : Int32) S42 V43))) (fun X94_39 =>
  fX12_house4_0_L56 X94_39 FU x3 x4 (0 : Int32) (0 : Int32) S13 V7)))))) (fun K33_2 =>
  bk (fun (x181 : Int32) (x182 : Int32) (S183 : Nat → Int32) (V184 : Nat → Nat → Int32) =>
  K33_2 x181 x182 (0 : Int32) S183 V184) (fun K32_180 =>
  (if a1 ≤ 0 then
  K32_180 a1 a2 S1 V
  else
  (if ((1 : Int32) <<< ((S1 5) &&& 31)) ≤ a1 then
  K32_180 a1 a2 S1 V
  else
  bd1 (fX12_bits a1) (fun r187 =>
  (if (4 : Int32) < r187 then
  K32_180 a1 a2 S1 V
  else
  K33_2 a1 a2 (1 : Int32) S1 V)))))))
set_option maxHeartbeats 4000000 in
set_option maxRecDepth 100000 in
theorem kX12_house4_0 (l : Launch) (B : jBT) (D : va_G) (ad : Nat → Nat) (cA : Nat → ClassId) (hI : jI ad TR) (S : Nat → Int32) (V : Nat → Nat → Int32) (L : Nat → Int64) (a1 : Int32) (a2 : Int32) (r0 : Int32) (S0 : Nat → Int32) (V0 : Nat → Nat → Int32) (h : fX12_house4_0 S V a1 a2 = some (r0, S0, V0)) : jM l yX12_house4 cX12_house4 9 (some .int) ({ frames := 6, cells := 0, slots := 0, locals := 154 }) B D TR ad cA [.ref (ad 0), .int a1, .int a2] S V L (some (.int r0)) S0 V0 L := by
  refine jM_of (plainFor_of_name (by decide)) TR_ok hI (Nat.le_of_ble_eq_true rfl) ?_
  intro p e s m args below meth c C hr hlk
  refine j_lv (lv2 := [(0, .ref (ad 0)), (1, .int a1), (2, .int a2)]) rfl ?_
  unfold fX12_house4_0 at h
  have H_fX12_house4_0_L56 : ∀ (E94 : Int32 → Int32 → (Nat → Int32) → (Nat → Nat → Int32) → Option (Int32 × (Nat → Int32) × (Nat → Nat → Int32))) (_ : ∀ (x35 : Int32) (x36 : Int32) (S37 : Nat → Int32) (V38 : Nat → Nat → Int32), E94 x35 x36 S37 V38 = some (r0, S0, V0) → jW p l e ({ frames := 6, cells := 0, slots := 0, locals := 154 }) s m args below meth c (MQ below (jQc D TR ad cA (some (.int r0)) s.heap.size S0 V0 L) args s 0 0 (jA ad TR s.heap.size)) D TR ad cA (jA ad TR s.heap.size) 9 0 0 94 [(0, .ref (ad 0)), (2, .int x35), (3, .int x36)] [] S37 V38 L) (n : Nat) (x16 : Int32) (x17 : Int32) (x18 : Int32) (x19 : Int32) (S20 : Nat → Int32) (V21 : Nat → Nat → Int32), fX12_house4_0_L56 E94 n x16 x17 x18 x19 S20 V21 = some (r0, S0, V0) → jW p l e ({ frames := 6, cells := 0, slots := 0, locals := 154 }) s m args below meth c (MQ below (jQc D TR ad cA (some (.int r0)) s.heap.size S0 V0 L) args s 0 0 (jA ad TR s.heap.size)) D TR ad cA (jA ad TR s.heap.size) 9 0 0 56 [(0, .ref (ad 0)), (1, .int x16), (2, .int x17), (3, .int x18), (4, .int x19)] [] S20 V21 L := by
    intro E94 HE94
    intro n
    induction n with
    | zero =>
      intro x16 x17 x18 x19 S20 V21 h
      cases (show (none : Option (Int32 × (Nat → Int32) × (Nat → Nat → Int32))) = some (r0, S0, V0) from h)
    | succ n ih =>
      intro x16 x17 x18 x19 S20 V21 h
      unfold fX12_house4_0_L56 at h
      refine j_iload C 4 rfl dX12_house4_56 ?_
      refine j_aload_n C 0 rfl dX12_house4_58 rfl ?_
      refine fg_X12_265_TR_0 C dX12_house4_59 ?_
      refine j_icmp_ge (tgt := 94) C dX12_house4_62 (by decide) (fun c22 => ?_) (fun c22 => ?_)
      · have h := (if_pos c22).symm.trans h
        exact j_sub [0, 2, 3] rfl (HE94 _ _ _ _ h)
      · have h := (if_neg c22).symm.trans h
        refine j_iload_n C 1 rfl dX12_house4_65 rfl ?_
        refine j_iload C 4 rfl dX12_house4_66 ?_
        refine j_ishr C dX12_house4_68 ?_
        refine j_iconst C dX12_house4_69 ci_1 ?_
        refine j_iand C dX12_house4_70 ?_
        refine bk_elim h (fun K88_23 e_K88_23 h => ?_)
        have HK88_23 : ∀ (x24 : Int32) (x25 : Int32) (x26 : Int32) (x27 : Int32) (S28 : Nat → Int32) (V29 : Nat → Nat → Int32), K88_23 x24 x25 x26 x27 S28 V29 = some (r0, S0, V0) → jW p l e ({ frames := 6, cells := 0, slots := 0, locals := 154 }) s m args below meth c (MQ below (jQc D TR ad cA (some (.int r0)) s.heap.size S0 V0 L) args s 0 0 (jA ad TR s.heap.size)) D TR ad cA (jA ad TR s.heap.size) 9 0 0 88 [(0, .ref (ad 0)), (1, .int x24), (2, .int x25), (3, .int x26), (4, .int x27)] [] S28 V29 L := by
          subst e_K88_23
          intro x24 x25 x26 x27 S28 V29 h
          refine lt_elim h (fun x30 e_x30 h => ?_)
          refine j_iinc C [(4, .int x30), (0, .ref (ad 0)), (1, .int x24), (2, .int x25), (3, .int x26)] 4 dX12_house4_88 rfl ((iinc_eq ci_1).trans e_x30.symm) (by decide) rfl ?_
          refine j_goto (tgt := 56) C dX12_house4_91 (by decide) ?_
          exact j_sub [1, 2, 3, 4, 0] rfl (ih _ _ _ _ _ _ h)
        refine j_if_ne (tgt := 77) C dX12_house4_71 (by decide) (fun c31 => ?_) (fun c31 => ?_)
        · have h := (if_neg c31).symm.trans h
          refine j_aload_n C 0 rfl dX12_house4_77 rfl ?_
          refine fg_X12_69_TR_0 C dX12_house4_78 ?_
          refine j_iload_n C 3 rfl dX12_house4_81 rfl ?_
          refine j_iload C 4 rfl dX12_house4_82 ?_
          obtain ⟨g32, h⟩ := gd_elim h
          refine j_iast C tr_16 (ib_in g32) dX12_house4_84 ?_
          refine lt_elim h (fun V33 e_V33 h => ?_)
          refine j_V e_V33 ?_
          refine lt_elim h (fun x34 e_x34 h => ?_)
          refine j_iinc C [(3, .int x34), (0, .ref (ad 0)), (1, .int x16), (2, .int x17), (4, .int x19)] 3 dX12_house4_85 rfl ((iinc_eq ci_1).trans e_x34.symm) (by decide) rfl ?_
          exact j_sub [1, 2, 3, 0, 4] rfl (HK88_23 _ _ _ _ _ _ h)
        · have h := (if_pos c31).symm.trans h
          refine j_goto (tgt := 88) C dX12_house4_74 (by decide) ?_
          exact j_sub [0, 1, 2, 3, 4] rfl (HK88_23 _ _ _ _ _ _ h)
  have H_fX12_house4_0_L117 : ∀ (E150 : Int32 → Int32 → Int32 → Int32 → Int32 → (Nat → Int32) → (Nat → Nat → Int32) → Option (Int32 × (Nat → Int32) × (Nat → Nat → Int32))) (_ : ∀ (x66 : Int32) (x67 : Int32) (x68 : Int32) (x69 : Int32) (x70 : Int32) (S71 : Nat → Int32) (V72 : Nat → Nat → Int32), E150 x66 x67 x68 x69 x70 S71 V72 = some (r0, S0, V0) → jW p l e ({ frames := 6, cells := 0, slots := 0, locals := 154 }) s m args below meth c (MQ below (jQc D TR ad cA (some (.int r0)) s.heap.size S0 V0 L) args s 0 0 (jA ad TR s.heap.size)) D TR ad cA (jA ad TR s.heap.size) 9 0 0 150 [(0, .ref (ad 0)), (2, .int x66), (3, .int x67), (4, .int x68), (5, .int x69), (6, .int x70)] [] S71 V72 L) (n : Nat) (x53 : Int32) (x54 : Int32) (x55 : Int32) (x56 : Int32) (x57 : Int32) (x58 : Int32) (S59 : Nat → Int32) (V60 : Nat → Nat → Int32), fX12_house4_0_L117 E150 n x53 x54 x55 x56 x57 x58 S59 V60 = some (r0, S0, V0) → jW p l e ({ frames := 6, cells := 0, slots := 0, locals := 154 }) s m args below meth c (MQ below (jQc D TR ad cA (some (.int r0)) s.heap.size S0 V0 L) args s 0 0 (jA ad TR s.heap.size)) D TR ad cA (jA ad TR s.heap.size) 9 0 0 117 [(0, .ref (ad 0)), (2, .int x53), (3, .int x54), (4, .int x55), (5, .int x56), (6, .int x57), (7, .int x58)] [] S59 V60 L := by
    intro E150 HE150
    intro n
    induction n with
    | zero =>
      intro x53 x54 x55 x56 x57 x58 S59 V60 h
      cases (show (none : Option (Int32 × (Nat → Int32) × (Nat → Nat → Int32))) = some (r0, S0, V0) from h)
    | succ n ih =>
      intro x53 x54 x55 x56 x57 x58 S59 V60 h
      unfold fX12_house4_0_L117 at h
      refine j_iload C 6 rfl dX12_house4_117 ?_
      refine j_iload_n C 2 rfl dX12_house4_119 rfl ?_
      refine j_icmp_ge (tgt := 150) C dX12_house4_120 (by decide) (fun c61 => ?_) (fun c61 => ?_)
      · have h := (if_pos c61).symm.trans h
        exact j_sub [0, 1, 2, 3, 4, 5] rfl (HE150 _ _ _ _ _ _ _ h)
      · have h := (if_neg c61).symm.trans h
        refine j_aload_n C 0 rfl dX12_house4_123 rfl ?_
        refine fg_X12_72_TR_0 C dX12_house4_124 ?_
        refine j_iload C 6 rfl dX12_house4_127 ?_
        refine j_iload C 5 rfl dX12_house4_129 ?_
        refine j_iconst C dX12_house4_131 ci_4 ?_
        refine j_iload_n C 2 rfl dX12_house4_132 rfl ?_
        refine j_iconst C dX12_house4_133 ci_1 ?_
        refine j_isub C dX12_house4_134 ?_
        refine j_iload C 6 rfl dX12_house4_135 ?_
        refine j_isub C dX12_house4_137 ?_
        refine j_imul C dX12_house4_138 ?_
        refine j_ishr C dX12_house4_139 ?_
        refine j_bipush C dX12_house4_140 cb_15 ?_
        refine j_iand C dX12_house4_142 ?_
        refine lt_elim h (fun x62 e_x62 h => ?_)
        refine j_top e_x62 ?_
        obtain ⟨g63, h⟩ := gd_elim h
        refine j_iast C tr_17 (ib_in g63) dX12_house4_143 ?_
        refine lt_elim h (fun V64 e_V64 h => ?_)
        refine j_V e_V64 ?_
        refine lt_elim h (fun x65 e_x65 h => ?_)
        refine j_iinc C [(7, .int x65), (0, .ref (ad 0)), (2, .int x53), (3, .int x54), (4, .int x55), (5, .int x56), (6, .int x57)] 6 dX12_house4_144 rfl ((iinc_eq ci_1).trans e_x65.symm) (by decide) rfl ?_
        refine j_goto (tgt := 117) C dX12_house4_147 (by decide) ?_
        exact j_sub [1, 2, 3, 4, 5, 6, 0] rfl (ih _ _ _ _ _ _ _ _ h)
  have H_fX12_house4_0_L202 : ∀ (E223 : Int32 → Int32 → Int32 → Int32 → Int32 → (Nat → Int32) → (Nat → Nat → Int32) → Option (Int32 × (Nat → Int32) × (Nat → Nat → Int32))) (_ : ∀ (x118 : Int32) (x119 : Int32) (x120 : Int32) (x121 : Int32) (x122 : Int32) (S123 : Nat → Int32) (V124 : Nat → Nat → Int32), E223 x118 x119 x120 x121 x122 S123 V124 = some (r0, S0, V0) → jW p l e ({ frames := 6, cells := 0, slots := 0, locals := 154 }) s m args below meth c (MQ below (jQc D TR ad cA (some (.int r0)) s.heap.size S0 V0 L) args s 0 0 (jA ad TR s.heap.size)) D TR ad cA (jA ad TR s.heap.size) 9 0 0 223 [(0, .ref (ad 0)), (2, .int x118), (3, .int x119), (4, .int x120), (5, .int x121), (6, .int x122)] [] S123 V124 L) (n : Nat) (x106 : Int32) (x107 : Int32) (x108 : Int32) (x109 : Int32) (x110 : Int32) (x111 : Int32) (S112 : Nat → Int32) (V113 : Nat → Nat → Int32), fX12_house4_0_L202 E223 n x106 x107 x108 x109 x110 x111 S112 V113 = some (r0, S0, V0) → jW p l e ({ frames := 6, cells := 0, slots := 0, locals := 154 }) s m args below meth c (MQ below (jQc D TR ad cA (some (.int r0)) s.heap.size S0 V0 L) args s 0 0 (jA ad TR s.heap.size)) D TR ad cA (jA ad TR s.heap.size) 9 0 0 202 [(0, .ref (ad 0)), (2, .int x106), (3, .int x107), (4, .int x108), (5, .int x109), (6, .int x110), (8, .int x111)] [] S112 V113 L := by
    intro E223 HE223
    intro n
    induction n with
    | zero =>
      intro x106 x107 x108 x109 x110 x111 S112 V113 h
      cases (show (none : Option (Int32 × (Nat → Int32) × (Nat → Nat → Int32))) = some (r0, S0, V0) from h)
    | succ n ih =>
      intro x106 x107 x108 x109 x110 x111 S112 V113 h
      unfold fX12_house4_0_L202 at h
      refine j_iload C 6 rfl dX12_house4_202 ?_
      refine j_bipush C dX12_house4_204 cb_6 ?_
      refine j_icmp_ge (tgt := 223) C dX12_house4_206 (by decide) (fun c114 => ?_) (fun c114 => ?_)
      · have h := (if_pos c114).symm.trans h
        exact j_sub [0, 1, 2, 3, 4, 5] rfl (HE223 _ _ _ _ _ _ _ h)
      · have h := (if_neg c114).symm.trans h
        refine j_aload_n C 0 rfl dX12_house4_209 rfl ?_
        refine fg_X12_75_TR_0 C dX12_house4_210 ?_
        refine j_iload C 6 rfl dX12_house4_213 ?_
        refine j_iconst C dX12_house4_215 ci_m1 ?_
        obtain ⟨g115, h⟩ := gd_elim h
        refine j_iast C tr_18 (ib_in g115) dX12_house4_216 ?_
        refine lt_elim h (fun V116 e_V116 h => ?_)
        refine j_V e_V116 ?_
        refine lt_elim h (fun x117 e_x117 h => ?_)
        refine j_iinc C [(8, .int x117), (0, .ref (ad 0)), (2, .int x106), (3, .int x107), (4, .int x108), (5, .int x109), (6, .int x110)] 6 dX12_house4_217 rfl ((iinc_eq ci_1).trans e_x117.symm) (by decide) rfl ?_
        refine j_goto (tgt := 202) C dX12_house4_220 (by decide) ?_
        exact j_sub [1, 2, 3, 4, 5, 6, 0] rfl (ih _ _ _ _ _ _ _ _ h)
  have H_fX12_house4_0_L226 : ∀ (E276 : Int32 → Int32 → Int32 → Int32 → Int32 → (Nat → Int32) → (Nat → Nat → Int32) → Option (Int32 × (Nat → Int32) × (Nat → Nat → Int32))) (_ : ∀ (x151 : Int32) (x152 : Int32) (x153 : Int32) (x154 : Int32) (x155 : Int32) (S156 : Nat → Int32) (V157 : Nat → Nat → Int32), E276 x151 x152 x153 x154 x155 S156 V157 = some (r0, S0, V0) → jW p l e ({ frames := 6, cells := 0, slots := 0, locals := 154 }) s m args below meth c (MQ below (jQc D TR ad cA (some (.int r0)) s.heap.size S0 V0 L) args s 0 0 (jA ad TR s.heap.size)) D TR ad cA (jA ad TR s.heap.size) 9 0 0 276 [(0, .ref (ad 0)), (2, .int x151), (3, .int x152), (4, .int x153), (5, .int x154), (6, .int x155)] [] S156 V157 L) (n : Nat) (x133 : Int32) (x134 : Int32) (x135 : Int32) (x136 : Int32) (x137 : Int32) (x138 : Int32) (S139 : Nat → Int32) (V140 : Nat → Nat → Int32), fX12_house4_0_L226 E276 n x133 x134 x135 x136 x137 x138 S139 V140 = some (r0, S0, V0) → jW p l e ({ frames := 6, cells := 0, slots := 0, locals := 154 }) s m args below meth c (MQ below (jQc D TR ad cA (some (.int r0)) s.heap.size S0 V0 L) args s 0 0 (jA ad TR s.heap.size)) D TR ad cA (jA ad TR s.heap.size) 9 0 0 226 [(0, .ref (ad 0)), (2, .int x133), (3, .int x134), (4, .int x135), (5, .int x136), (6, .int x137), (8, .int x138)] [] S139 V140 L := by
    intro E276 HE276
    intro n
    induction n with
    | zero =>
      intro x133 x134 x135 x136 x137 x138 S139 V140 h
      cases (show (none : Option (Int32 × (Nat → Int32) × (Nat → Nat → Int32))) = some (r0, S0, V0) from h)
    | succ n ih =>
      intro x133 x134 x135 x136 x137 x138 S139 V140 h
      unfold fX12_house4_0_L226 at h
      refine j_iload C 6 rfl dX12_house4_226 ?_
      refine j_iload_n C 2 rfl dX12_house4_228 rfl ?_
      refine j_icmp_ge (tgt := 276) C dX12_house4_229 (by decide) (fun c141 => ?_) (fun c141 => ?_)
      · have h := (if_pos c141).symm.trans h
        exact j_sub [0, 1, 2, 3, 4, 5] rfl (HE276 _ _ _ _ _ _ _ h)
      · have h := (if_neg c141).symm.trans h
        refine j_aload_n C 0 rfl dX12_house4_232 rfl ?_
        refine fg_X12_75_TR_0 C dX12_house4_233 ?_
        refine j_aload_n C 0 rfl dX12_house4_236 rfl ?_
        refine fg_X12_69_TR_0 C dX12_house4_237 ?_
        refine j_iload C 6 rfl dX12_house4_240 ?_
        obtain ⟨g142, h⟩ := gd_elim h
        refine j_iald C tr_16 (ib_in g142) dX12_house4_242 ?_
        refine j_bipush C dX12_house4_243 cb_24 ?_
        refine j_aload_n C 0 rfl dX12_house4_245 rfl ?_
        refine fg_X12_72_TR_0 C dX12_house4_246 ?_
        refine j_iload C 6 rfl dX12_house4_249 ?_
        obtain ⟨g143, h⟩ := gd_elim h
        refine j_iald C tr_17 (ib_in g143) dX12_house4_251 ?_
        refine j_bipush C dX12_house4_252 cb_8 ?_
        refine j_idiv C dX12_house4_254 (by decide) ?_
        refine j_imul C dX12_house4_255 ?_
        refine j_aload_n C 0 rfl dX12_house4_256 rfl ?_
        refine fg_X12_72_TR_0 C dX12_house4_257 ?_
        refine j_iload C 6 rfl dX12_house4_260 ?_
        obtain ⟨g144, h⟩ := gd_elim h
        refine j_iald C tr_17 (ib_in g144) dX12_house4_262 ?_
        refine j_bipush C dX12_house4_263 cb_8 ?_
        refine lt_elim h (fun x145 e_x145 h => ?_)
        refine j_top2 e_x145 ?_
        refine j_irem C dX12_house4_265 (by decide) ?_
        refine j_iconst C dX12_house4_266 ci_3 ?_
        refine j_imul C dX12_house4_267 ?_
        refine j_iadd C dX12_house4_268 ?_
        refine lt_elim h (fun x146 e_x146 h => ?_)
        refine j_top e_x146 ?_
        refine lt_elim h (fun x147 e_x147 h => ?_)
        refine j_top2 e_x147 ?_
        obtain ⟨g148, h⟩ := gd_elim h
        refine j_iast C tr_18 (ib_in g148) dX12_house4_269 ?_
        refine lt_elim h (fun V149 e_V149 h => ?_)
        refine j_V e_V149 ?_
        refine lt_elim h (fun x150 e_x150 h => ?_)
        refine j_iinc C [(8, .int x150), (0, .ref (ad 0)), (2, .int x133), (3, .int x134), (4, .int x135), (5, .int x136), (6, .int x137)] 6 dX12_house4_270 rfl ((iinc_eq ci_1).trans e_x150.symm) (by decide) rfl ?_
        refine j_goto (tgt := 226) C dX12_house4_273 (by decide) ?_
        exact j_sub [1, 2, 3, 4, 5, 6, 0] rfl (ih _ _ _ _ _ _ _ _ h)
  have H_fX12_house4_0_L107 : ∀ (E282 : Int32 → (Nat → Int32) → (Nat → Nat → Int32) → Option (Int32 × (Nat → Int32) × (Nat → Nat → Int32))) (_ : ∀ (x160 : Int32) (S161 : Nat → Int32) (V162 : Nat → Nat → Int32), E282 x160 S161 V162 = some (r0, S0, V0) → jW p l e ({ frames := 6, cells := 0, slots := 0, locals := 154 }) s m args below meth c (MQ below (jQc D TR ad cA (some (.int r0)) s.heap.size S0 V0 L) args s 0 0 (jA ad TR s.heap.size)) D TR ad cA (jA ad TR s.heap.size) 9 0 0 282 [(0, .ref (ad 0)), (4, .int x160)] [] S161 V162 L) (n : Nat) (x45 : Int32) (x46 : Int32) (x47 : Int32) (x48 : Int32) (x49 : Int32) (S50 : Nat → Int32) (V51 : Nat → Nat → Int32), fX12_house4_0_L107 E282 n x45 x46 x47 x48 x49 S50 V51 = some (r0, S0, V0) → jW p l e ({ frames := 6, cells := 0, slots := 0, locals := 154 }) s m args below meth c (MQ below (jQc D TR ad cA (some (.int r0)) s.heap.size S0 V0 L) args s 0 0 (jA ad TR s.heap.size)) D TR ad cA (jA ad TR s.heap.size) 9 0 0 107 [(0, .ref (ad 0)), (2, .int x45), (3, .int x46), (4, .int x47), (5, .int x48), (6, .int x49)] [] S50 V51 L := by
    intro E282 HE282
    intro n
    induction n with
    | zero =>
      intro x45 x46 x47 x48 x49 S50 V51 h
      cases (show (none : Option (Int32 × (Nat → Int32) × (Nat → Nat → Int32))) = some (r0, S0, V0) from h)
    | succ n ih =>
      intro x45 x46 x47 x48 x49 S50 V51 h
      unfold fX12_house4_0_L107 at h
      refine j_iload C 5 rfl dX12_house4_107 ?_
      refine j_iload C 4 rfl dX12_house4_109 ?_
      refine j_icmp_ge (tgt := 282) C dX12_house4_111 (by decide) (fun c52 => ?_) (fun c52 => ?_)
      · have h := (if_pos c52).symm.trans h
        exact j_sub [0, 3] rfl (HE282 _ _ _ h)
      · have h := (if_neg c52).symm.trans h
        refine j_iconst C dX12_house4_114 ci_0 ?_
        refine j_istore C [(7, .int (0 : Int32)), (0, .ref (ad 0)), (2, .int x45), (3, .int x46), (4, .int x47), (5, .int x48), (6, .int x49)] dX12_house4_115 (by decide) rfl ?_
        refine bk_elim h (fun X150_73 e_X150_73 h => ?_)
        have HX150_73 : ∀ (x74 : Int32) (x75 : Int32) (x76 : Int32) (x77 : Int32) (x78 : Int32) (S79 : Nat → Int32) (V80 : Nat → Nat → Int32), X150_73 x74 x75 x76 x77 x78 S79 V80 = some (r0, S0, V0) → jW p l e ({ frames := 6, cells := 0, slots := 0, locals := 154 }) s m args below meth c (MQ below (jQc D TR ad cA (some (.int r0)) s.heap.size S0 V0 L) args s 0 0 (jA ad TR s.heap.size)) D TR ad cA (jA ad TR s.heap.size) 9 0 0 150 [(0, .ref (ad 0)), (2, .int x74), (3, .int x75), (4, .int x76), (5, .int x77), (6, .int x78)] [] S79 V80 L := by
          subst e_X150_73
          intro x74 x75 x76 x77 x78 S79 V80 h
          refine j_aload_n C 0 rfl dX12_house4_150 rfl ?_
          refine j_iload_n C 2 rfl dX12_house4_151 rfl ?_
          obtain ⟨r81, V82, h83, h⟩ := bd2_elim h
          refine j_callV (As := [.int x75]) (rest := []) C (kX12_isLaid_0 l B D ad cA hI S79 V80 L x75 _ _ h83) mw_X12_isLaid wd1872 wd95 wd1870 tr_0 rfl rfl ⟨rfl, rfl, by decide, by decide⟩ ⟨Nat.zero_le _, Nat.zero_le _⟩ rfl rfl (Nat.le_of_ble_eq_true rfl) dX12_house4_152 ?_
          refine bk_elim h (fun K276_84 e_K276_84 h => ?_)
          have HK276_84 : ∀ (x85 : Int32) (x86 : Int32) (x87 : Int32) (x88 : Int32) (x89 : Int32) (S90 : Nat → Int32) (V91 : Nat → Nat → Int32), K276_84 x85 x86 x87 x88 x89 S90 V91 = some (r0, S0, V0) → jW p l e ({ frames := 6, cells := 0, slots := 0, locals := 154 }) s m args below meth c (MQ below (jQc D TR ad cA (some (.int r0)) s.heap.size S0 V0 L) args s 0 0 (jA ad TR s.heap.size)) D TR ad cA (jA ad TR s.heap.size) 9 0 0 276 [(0, .ref (ad 0)), (2, .int x85), (3, .int x86), (4, .int x87), (5, .int x88), (6, .int x89)] [] S90 V91 L := by
            subst e_K276_84
            intro x85 x86 x87 x88 x89 S90 V91 h
            refine lt_elim h (fun x92 e_x92 h => ?_)
            refine j_iinc C [(6, .int x92), (0, .ref (ad 0)), (2, .int x85), (3, .int x86), (4, .int x87), (5, .int x88)] 5 dX12_house4_276 rfl ((iinc_eq ci_1).trans e_x92.symm) (by decide) rfl ?_
            refine j_goto (tgt := 107) C dX12_house4_279 (by decide) ?_
            exact j_sub [1, 2, 3, 4, 5, 0] rfl (ih _ _ _ _ _ _ _ h)
          refine j_if_ne (tgt := 161) C dX12_house4_155 (by decide) (fun c93 => ?_) (fun c93 => ?_)
          · have h := (if_neg c93).symm.trans h
            refine j_aload_n C 0 rfl dX12_house4_161 rfl ?_
            refine j_aload_n C 0 rfl dX12_house4_162 rfl ?_
            refine fg_X12_63_TR_0 C dX12_house4_163 ?_
            refine j_iload_n C 2 rfl dX12_house4_166 rfl ?_
            refine j_iconst C dX12_house4_167 ci_0 ?_
            refine j_bipush C dX12_house4_168 cb_11 ?_
            refine j_iload_n C 1 rfl dX12_house4_170 rfl ?_
            obtain ⟨r94, h95, h⟩ := bd1_elim h
            refine j_callV (As := [.ref (ad 14), .int x75, .int (0 : Int32), .int (11 : Int32), .int x74]) (rest := []) C (kX12_slowOf_0_14 l B D ad cA hI S79 V82 L x75 (0 : Int32) (11 : Int32) x74 _ h95) mw_X12_slowOf wd1856 wd93 wd1854 tr_0 rfl rfl ⟨rfl, rfl, by decide, by decide⟩ ⟨Nat.zero_le _, Nat.zero_le _⟩ rfl rfl (Nat.le_of_ble_eq_true rfl) dX12_house4_171 ?_
            obtain ⟨r96, h97, h⟩ := bd1_elim h
            refine j_callS (As := [.int r94]) (rest := []) C (kX12_size l B D ad cA hI S79 V82 L r94 _ h97) mw_X12_size wd1875 wd1874 ⟨rfl, rfl, by decide, by decide⟩ ⟨Nat.zero_le _, Nat.zero_le _⟩ rfl rfl (Nat.le_of_ble_eq_true rfl) dX12_house4_174 ?_
            refine j_istore C [(7, .int r96), (0, .ref (ad 0)), (2, .int x74), (3, .int x75), (4, .int x76), (5, .int x77), (6, .int x78)] dX12_house4_177 (by decide) rfl ?_
            refine j_iload C 4 rfl dX12_house4_179 ?_
            refine j_iconst C dX12_house4_181 ci_m1 ?_
            refine bk_elim h (fun K195_98 e_K195_98 h => ?_)
            have HK195_98 : ∀ (x99 : Int32) (x100 : Int32) (x101 : Int32) (x102 : Int32) (x103 : Int32) (S104 : Nat → Int32) (V105 : Nat → Nat → Int32), K195_98 x99 x100 x101 x102 x103 S104 V105 = some (r0, S0, V0) → jW p l e ({ frames := 6, cells := 0, slots := 0, locals := 154 }) s m args below meth c (MQ below (jQc D TR ad cA (some (.int r0)) s.heap.size S0 V0 L) args s 0 0 (jA ad TR s.heap.size)) D TR ad cA (jA ad TR s.heap.size) 9 0 0 195 [(0, .ref (ad 0)), (2, .int x99), (3, .int x100), (5, .int x101), (6, .int x102), (7, .int x103)] [] S104 V105 L := by
              subst e_K195_98
              intro x99 x100 x101 x102 x103 S104 V105 h
              refine j_iload C 5 rfl dX12_house4_195 ?_
              refine j_istore C [(4, .int x103), (0, .ref (ad 0)), (2, .int x99), (3, .int x100), (5, .int x101), (6, .int x102), (7, .int x103)] dX12_house4_197 (by decide) rfl ?_
              refine j_iconst C dX12_house4_199 ci_0 ?_
              refine j_istore C [(8, .int (0 : Int32)), (4, .int x103), (0, .ref (ad 0)), (2, .int x99), (3, .int x100), (5, .int x101), (6, .int x102), (7, .int x103)] dX12_house4_200 (by decide) rfl ?_
              refine bk_elim h (fun X223_125 e_X223_125 h => ?_)
              have HX223_125 : ∀ (x126 : Int32) (x127 : Int32) (x128 : Int32) (x129 : Int32) (x130 : Int32) (S131 : Nat → Int32) (V132 : Nat → Nat → Int32), X223_125 x126 x127 x128 x129 x130 S131 V132 = some (r0, S0, V0) → jW p l e ({ frames := 6, cells := 0, slots := 0, locals := 154 }) s m args below meth c (MQ below (jQc D TR ad cA (some (.int r0)) s.heap.size S0 V0 L) args s 0 0 (jA ad TR s.heap.size)) D TR ad cA (jA ad TR s.heap.size) 9 0 0 223 [(0, .ref (ad 0)), (2, .int x126), (3, .int x127), (4, .int x128), (5, .int x129), (6, .int x130)] [] S131 V132 L := by
                subst e_X223_125
                intro x126 x127 x128 x129 x130 S131 V132 h
                refine j_iconst C dX12_house4_223 ci_0 ?_
                refine j_istore C [(8, .int (0 : Int32)), (0, .ref (ad 0)), (2, .int x126), (3, .int x127), (4, .int x128), (5, .int x129), (6, .int x130)] dX12_house4_224 (by decide) rfl ?_
                exact j_sub [1, 2, 3, 4, 5, 6, 0] rfl (H_fX12_house4_0_L226 _ HK276_84 FU _ _ _ _ _ _ _ _ h)
              exact j_sub [2, 3, 4, 1, 5, 6, 0] rfl (H_fX12_house4_0_L202 _ HX223_125 FU _ _ _ _ _ _ _ _ h)
            refine j_icmp_eq (tgt := 195) C dX12_house4_182 (by decide) (fun c158 => ?_) (fun c158 => ?_)
            · have h := (if_pos c158).symm.trans h
              exact j_sub [1, 2, 3, 5, 6, 0] rfl (HK195_98 _ _ _ _ _ _ _ h)
            · have h := (if_neg c158).symm.trans h
              refine j_iload C 0 rfl dX12_house4_185 ?_
              refine j_iload C 4 rfl dX12_house4_187 ?_
              refine j_icmp_lt (tgt := 195) C dX12_house4_189 (by decide) (fun c159 => ?_) (fun c159 => ?_)
              · have h := (if_pos c159).symm.trans h
                exact j_sub [1, 2, 3, 5, 6, 0] rfl (HK195_98 _ _ _ _ _ _ _ h)
              · have h := (if_neg c159).symm.trans h
                refine j_goto (tgt := 276) C dX12_house4_192 (by decide) ?_
                exact j_sub [1, 2, 3, 4, 5, 6] rfl (HK276_84 _ _ _ _ _ _ _ h)
          · have h := (if_pos c93).symm.trans h
            refine j_goto (tgt := 276) C dX12_house4_158 (by decide) ?_
            exact j_sub [0, 1, 2, 3, 4, 5] rfl (HK276_84 _ _ _ _ _ _ _ h)
        exact j_sub [1, 2, 3, 4, 5, 6, 0] rfl (H_fX12_house4_0_L117 _ HX150_73 FU _ _ _ _ _ _ _ _ h)
  refine j_aload_n C 0 rfl dX12_house4_0 rfl ?_
  refine j_iconst C dX12_house4_1 ci_0 ?_
  refine fp_X12_93_TR_0 C dX12_house4_2 ?_
  refine lt_elim h (fun S1 e_S1 h => ?_)
  refine j_S e_S1 ?_
  refine j_aload_n C 0 rfl dX12_house4_5 rfl ?_
  refine j_iload_n C 1 rfl dX12_house4_6 rfl ?_
  refine bk_elim h (fun K33_2 e_K33_2 h => ?_)
  have HK33_2 : ∀ (x3 : Int32) (x4 : Int32) (x5 : Int32) (S6 : Nat → Int32) (V7 : Nat → Nat → Int32), K33_2 x3 x4 x5 S6 V7 = some (r0, S0, V0) → jW p l e ({ frames := 6, cells := 0, slots := 0, locals := 154 }) s m args below meth c (MQ below (jQc D TR ad cA (some (.int r0)) s.heap.size S0 V0 L) args s 0 0 (jA ad TR s.heap.size)) D TR ad cA (jA ad TR s.heap.size) 9 0 0 33 [(0, .ref (ad 0)), (1, .int x3), (2, .int x4)] [.int x5, .ref (ad 0)] S6 V7 L := by
    subst e_K33_2
    intro x3 x4 x5 S6 V7 h
    refine j_iconst C dX12_house4_33 ci_1 ?_
    obtain ⟨r8, S9, h10, h⟩ := bd2_elim h
    refine j_callV (As := [.int x5, .int (1 : Int32)]) (rest := []) C (kX12_right_0 l B D ad cA hI S6 V7 L x5 (1 : Int32) _ _ h10) mw_X12_right wd1638 wd56 wd1636 tr_0 rfl rfl ⟨rfl, rfl, by decide, by decide⟩ ⟨Nat.zero_le _, Nat.zero_le _⟩ rfl rfl (Nat.le_of_ble_eq_true rfl) dX12_house4_34 ?_
    refine j_if_eq (tgt := 49) C dX12_house4_37 (by decide) (fun c11 => ?_) (fun c11 => ?_)
    · have h := (if_pos c11).symm.trans h
      refine j_iconst C dX12_house4_49 ci_0 ?_
      cases h
      exact j_iret C hr hlk rfl dX12_house4_50
    · have h := (if_neg c11).symm.trans h
      refine j_aload_n C 0 rfl dX12_house4_40 rfl ?_
      refine j_iload_n C 2 rfl dX12_house4_41 rfl ?_
      refine j_iconst C dX12_house4_42 ci_1 ?_
      obtain ⟨r12, S13, h14, h⟩ := bd2_elim h
      refine j_callV (As := [.int x4, .int (1 : Int32)]) (rest := []) C (kX12_isDay_0 l B D ad cA hI S9 V7 L x4 (1 : Int32) _ _ h14) mw_X12_isDay wd1836 wd89 wd1834 tr_0 rfl rfl ⟨rfl, rfl, by decide, by decide⟩ ⟨Nat.zero_le _, Nat.zero_le _⟩ rfl rfl (Nat.le_of_ble_eq_true rfl) dX12_house4_43 ?_
      refine j_if_ne (tgt := 51) C dX12_house4_46 (by decide) (fun c15 => ?_) (fun c15 => ?_)
      · have h := (if_neg c15).symm.trans h
        refine j_iconst C dX12_house4_51 ci_0 ?_
        refine j_istore_n C [(3, .int (0 : Int32)), (0, .ref (ad 0)), (1, .int x3), (2, .int x4)] dX12_house4_52 rfl (by decide) rfl ?_
        refine j_iconst C dX12_house4_53 ci_0 ?_
        refine j_istore C [(4, .int (0 : Int32)), (3, .int (0 : Int32)), (0, .ref (ad 0)), (1, .int x3), (2, .int x4)] dX12_house4_54 (by decide) rfl ?_
        refine bk_elim h (fun X94_39 e_X94_39 h => ?_)
        have HX94_39 : ∀ (x40 : Int32) (x41 : Int32) (S42 : Nat → Int32) (V43 : Nat → Nat → Int32), X94_39 x40 x41 S42 V43 = some (r0, S0, V0) → jW p l e ({ frames := 6, cells := 0, slots := 0, locals := 154 }) s m args below meth c (MQ below (jQc D TR ad cA (some (.int r0)) s.heap.size S0 V0 L) args s 0 0 (jA ad TR s.heap.size)) D TR ad cA (jA ad TR s.heap.size) 9 0 0 94 [(0, .ref (ad 0)), (2, .int x40), (3, .int x41)] [] S42 V43 L := by
          subst e_X94_39
          intro x40 x41 S42 V43 h
          refine j_iconst C dX12_house4_94 ci_m1 ?_
          refine j_istore C [(4, .int (-1 : Int32)), (0, .ref (ad 0)), (2, .int x40), (3, .int x41)] dX12_house4_95 (by decide) rfl ?_
          refine j_iconst C dX12_house4_97 ci_1 ?_
          refine j_iconst C dX12_house4_98 ci_4 ?_
          refine j_iload_n C 3 rfl dX12_house4_99 rfl ?_
          refine j_imul C dX12_house4_100 ?_
          refine j_ishl C dX12_house4_101 ?_
          refine lt_elim h (fun x44 e_x44 h => ?_)
          refine j_top e_x44 ?_
          refine j_istore C [(5, .int x44), (4, .int (-1 : Int32)), (0, .ref (ad 0)), (2, .int x40), (3, .int x41)] dX12_house4_102 (by decide) rfl ?_
          refine j_iconst C dX12_house4_104 ci_0 ?_
          refine j_istore C [(6, .int (0 : Int32)), (5, .int x44), (4, .int (-1 : Int32)), (0, .ref (ad 0)), (2, .int x40), (3, .int x41)] dX12_house4_105 (by decide) rfl ?_
          refine bk_elim h (fun X282_163 e_X282_163 h => ?_)
          have HX282_163 : ∀ (x164 : Int32) (S165 : Nat → Int32) (V166 : Nat → Nat → Int32), X282_163 x164 S165 V166 = some (r0, S0, V0) → jW p l e ({ frames := 6, cells := 0, slots := 0, locals := 154 }) s m args below meth c (MQ below (jQc D TR ad cA (some (.int r0)) s.heap.size S0 V0 L) args s 0 0 (jA ad TR s.heap.size)) D TR ad cA (jA ad TR s.heap.size) 9 0 0 282 [(0, .ref (ad 0)), (4, .int x164)] [] S165 V166 L := by
            subst e_X282_163
            intro x164 S165 V166 h
            refine j_aload_n C 0 rfl dX12_house4_282 rfl ?_
            refine j_aload_n C 0 rfl dX12_house4_283 rfl ?_
            refine fg_X12_284_TR_0 C dX12_house4_284 ?_
            refine bk_elim h (fun K301_167 e_K301_167 h => ?_)
            have HK301_167 : ∀ (x168 : Int32) (x169 : Int32) (S170 : Nat → Int32) (V171 : Nat → Nat → Int32), K301_167 x168 x169 S170 V171 = some (r0, S0, V0) → jW p l e ({ frames := 6, cells := 0, slots := 0, locals := 154 }) s m args below meth c (MQ below (jQc D TR ad cA (some (.int r0)) s.heap.size S0 V0 L) args s 0 0 (jA ad TR s.heap.size)) D TR ad cA (jA ad TR s.heap.size) 9 0 0 301 [(4, .int x168)] [.int x169, .ref (ad 0)] S170 V171 L := by
              subst e_K301_167
              intro x168 x169 S170 V171 h
              obtain ⟨g172, h⟩ := gd_elim h
              refine fp_X12_284_TR_0 C (isb_n g172) (isb_f g172) dX12_house4_301 ?_
              refine lt_elim h (fun S173 e_S173 h => ?_)
              refine j_S e_S173 ?_
              refine j_iload C 0 rfl dX12_house4_304 ?_
              cases h
              exact j_iret C hr hlk rfl dX12_house4_306
            refine bk_elim h (fun K296_174 e_K296_174 h => ?_)
            have HK296_174 : ∀ (x175 : Int32) (S176 : Nat → Int32) (V177 : Nat → Nat → Int32), K296_174 x175 S176 V177 = some (r0, S0, V0) → jW p l e ({ frames := 6, cells := 0, slots := 0, locals := 154 }) s m args below meth c (MQ below (jQc D TR ad cA (some (.int r0)) s.heap.size S0 V0 L) args s 0 0 (jA ad TR s.heap.size)) D TR ad cA (jA ad TR s.heap.size) 9 0 0 296 [(4, .int x175)] [.ref (ad 0)] S176 V177 L := by
              subst e_K296_174
              intro x175 S176 V177 h
              refine j_iconst C dX12_house4_296 ci_1 ?_
              refine j_goto (tgt := 301) C dX12_house4_297 (by decide) ?_
              exact j_sub [0] rfl (HK301_167 _ _ _ _ h)
            refine j_if_ne (tgt := 296) C dX12_house4_287 (by decide) (fun c178 => ?_) (fun c178 => ?_)
            · have h := (if_neg c178).symm.trans h
              exact j_sub [1] rfl (HK296_174 _ _ _ h)
            · have h := (if_pos c178).symm.trans h
              refine j_iload C 1 rfl dX12_house4_290 ?_
              refine j_iconst C dX12_house4_292 ci_m1 ?_
              refine j_icmp_eq (tgt := 300) C dX12_house4_293 (by decide) (fun c179 => ?_) (fun c179 => ?_)
              · have h := (if_pos c179).symm.trans h
                refine j_iconst C dX12_house4_300 ci_0 ?_
                exact j_sub [1] rfl (HK301_167 _ _ _ _ h)
              · have h := (if_neg c179).symm.trans h
                exact j_sub [1] rfl (HK296_174 _ _ _ h)
          exact j_sub [3, 4, 5, 2, 1, 0] rfl (H_fX12_house4_0_L107 _ HX282_163 FU _ _ _ _ _ _ _ h)
        exact j_sub [2, 3, 4, 1, 0] rfl (H_fX12_house4_0_L56 _ HX94_39 FU _ _ _ _ _ _ h)
      · have h := (if_pos c15).symm.trans h
        refine j_iconst C dX12_house4_49 ci_0 ?_
        cases h
        exact j_iret C hr hlk rfl dX12_house4_50
  refine bk_elim h (fun K32_180 e_K32_180 h => ?_)
  have HK32_180 : ∀ (x181 : Int32) (x182 : Int32) (S183 : Nat → Int32) (V184 : Nat → Nat → Int32), K32_180 x181 x182 S183 V184 = some (r0, S0, V0) → jW p l e ({ frames := 6, cells := 0, slots := 0, locals := 154 }) s m args below meth c (MQ below (jQc D TR ad cA (some (.int r0)) s.heap.size S0 V0 L) args s 0 0 (jA ad TR s.heap.size)) D TR ad cA (jA ad TR s.heap.size) 9 0 0 32 [(0, .ref (ad 0)), (1, .int x181), (2, .int x182)] [.ref (ad 0)] S183 V184 L := by
    subst e_K32_180
    intro x181 x182 S183 V184 h
    refine j_iconst C dX12_house4_32 ci_0 ?_
    exact j_sub [0, 1, 2] rfl (HK33_2 _ _ _ _ _ h)
  refine j_if_le (tgt := 32) C dX12_house4_7 (by decide) (fun c185 => ?_) (fun c185 => ?_)
  · have h := (if_pos c185).symm.trans h
    exact j_sub [0, 1, 2] rfl (HK32_180 _ _ _ _ h)
  · have h := (if_neg c185).symm.trans h
    refine j_iload_n C 1 rfl dX12_house4_10 rfl ?_
    refine j_iconst C dX12_house4_11 ci_1 ?_
    refine j_aload_n C 0 rfl dX12_house4_12 rfl ?_
    refine fg_X12_265_TR_0 C dX12_house4_13 ?_
    refine j_ishl C dX12_house4_16 ?_
    refine j_icmp_ge (tgt := 32) C dX12_house4_17 (by decide) (fun c186 => ?_) (fun c186 => ?_)
    · have h := (if_pos c186).symm.trans h
      exact j_sub [0, 1, 2] rfl (HK32_180 _ _ _ _ h)
    · have h := (if_neg c186).symm.trans h
      refine j_iload_n C 1 rfl dX12_house4_20 rfl ?_
      obtain ⟨r187, h188, h⟩ := bd1_elim h
      refine j_callS (As := [.int a1]) (rest := [.ref (ad 0)]) C (kX12_bits l B D ad cA hI S1 V L a1 _ h188) mw_X12_bits wd1797 wd1796 ⟨rfl, rfl, by decide, by decide⟩ ⟨Nat.zero_le _, Nat.zero_le _⟩ rfl rfl (Nat.le_of_ble_eq_true rfl) dX12_house4_21 ?_
      refine j_iconst C dX12_house4_24 ci_4 ?_
      refine j_icmp_gt (tgt := 32) C dX12_house4_25 (by decide) (fun c189 => ?_) (fun c189 => ?_)
      · have h := (if_pos c189).symm.trans h
        exact j_sub [0, 1, 2] rfl (HK32_180 _ _ _ _ h)
      · have h := (if_neg c189).symm.trans h
        refine j_iconst C dX12_house4_28 ci_1 ?_
        refine j_goto (tgt := 33) C dX12_house4_29 (by decide) ?_
        exact j_sub [0, 1, 2] rfl (HK33_2 _ _ _ _ _ h)
