theorem dX12_housed_0 : decode cX12_housed 0 = .ok (.aload_n 0, 1) := by decide +kernel
theorem dX12_housed_1 : decode cX12_housed 1 = .ok (.iconst 0, 1) := by decide +kernel
theorem dX12_housed_2 : decode cX12_housed 2 = .ok (.putfield 93, 3) := by decide +kernel
theorem dX12_housed_5 : decode cX12_housed 5 = .ok (.aload_n 0, 1) := by decide +kernel
theorem dX12_housed_6 : decode cX12_housed 6 = .ok (.iload_n 1, 1) := by decide +kernel
theorem dX12_housed_7 : decode cX12_housed 7 = .ok (.invokevirtual 335, 3) := by decide +kernel
theorem dX12_housed_10 : decode cX12_housed 10 = .ok (.ifCond .eq 24, 3) := by decide +kernel
theorem dX12_housed_13 : decode cX12_housed 13 = .ok (.aload_n 0, 1) := by decide +kernel
theorem dX12_housed_14 : decode cX12_housed 14 = .ok (.aload_n 0, 1) := by decide +kernel
theorem dX12_housed_15 : decode cX12_housed 15 = .ok (.getfield 284, 3) := by decide +kernel
theorem dX12_housed_18 : decode cX12_housed 18 = .ok (.iconst 1, 1) := by decide +kernel
theorem dX12_housed_19 : decode cX12_housed 19 = .ok (.invokevirtual 255, 3) := by decide +kernel
theorem dX12_housed_22 : decode cX12_housed 22 = .ok (.ifCond .eq 12, 3) := by decide +kernel
theorem dX12_housed_25 : decode cX12_housed 25 = .ok (.aload_n 0, 1) := by decide +kernel
theorem dX12_housed_26 : decode cX12_housed 26 = .ok (.getfield 75, 3) := by decide +kernel
theorem dX12_housed_29 : decode cX12_housed 29 = .ok (.iload_n 1, 1) := by decide +kernel
theorem dX12_housed_30 : decode cX12_housed 30 = .ok (.iaload, 1) := by decide +kernel
theorem dX12_housed_31 : decode cX12_housed 31 = .ok (.goto 4, 3) := by decide +kernel
theorem dX12_housed_34 : decode cX12_housed 34 = .ok (.iconst 0, 1) := by decide +kernel
theorem dX12_housed_35 : decode cX12_housed 35 = .ok (.ireturn, 1) := by decide +kernel
def fX12_housed_0 (S : Nat → Int32) (V : Nat → Nat → Int32) (a1 : Int32) : Option (Int32 × (Nat → Int32)) :=
  lt (va_up S 0 (0 : Int32)) (fun S1 =>
  bd2 (fX12_isTenant_0 S1 a1) (fun r2 S3 =>
  (if r2 = 0 then
  some ((0 : Int32), S3)
  else
  bd2 (fX12_right_0 S3 ((S3 49)) (1 : Int32)) (fun r6 S7 =>
  (if r6 = 0 then
  some ((0 : Int32), S7)
  else
  gd (ib a1 6) (
  some ((V 18 (a1).toNatClampNeg), S7)))))))
set_option maxHeartbeats 4000000 in
set_option maxRecDepth 100000 in
theorem kX12_housed_0 (l : Launch) (B : jBT) (D : va_G) (ad : Nat → Nat) (cA : Nat → ClassId) (hI : jI ad TR) (S : Nat → Int32) (V : Nat → Nat → Int32) (L : Nat → Int64) (a1 : Int32) (r0 : Int32) (S0 : Nat → Int32) (h : fX12_housed_0 S V a1 = some (r0, S0)) : jM l yX12_housed cX12_housed 2 (some .int) ({ frames := 2, cells := 0, slots := 0, locals := 43 }) B D TR ad cA [.ref (ad 0), .int a1] S V L (some (.int r0)) S0 V L := by
  refine jM_of (plainFor_of_name (by decide)) TR_ok hI (Nat.le_of_ble_eq_true rfl) ?_
  intro p e s m args below meth c C hr hlk
  refine j_lv (lv2 := [(0, .ref (ad 0)), (1, .int a1)]) rfl ?_
  unfold fX12_housed_0 at h
  refine j_aload_n C 0 rfl dX12_housed_0 rfl ?_
  refine j_iconst C dX12_housed_1 ci_0 ?_
  refine fp_X12_93_TR_0 C dX12_housed_2 ?_
  refine lt_elim h (fun S1 e_S1 h => ?_)
  refine j_S e_S1 ?_
  refine j_aload_n C 0 rfl dX12_housed_5 rfl ?_
  refine j_iload_n C 1 rfl dX12_housed_6 rfl ?_
  obtain ⟨r2, S3, h4, h⟩ := bd2_elim h
  refine j_callV (As := [.int a1]) (rest := []) C (kX12_isTenant_0 l B D ad cA hI S1 V L a1 _ _ h4) mw_X12_isTenant wd1816 wd86 wd1814 tr_0 rfl rfl ⟨rfl, rfl, by decide, by decide⟩ ⟨Nat.zero_le _, Nat.zero_le _⟩ rfl rfl (Nat.le_of_ble_eq_true rfl) dX12_housed_7 ?_
  refine j_if_eq (tgt := 34) C dX12_housed_10 (by decide) (fun c5 => ?_) (fun c5 => ?_)
  · have h := (if_pos c5).symm.trans h
    refine j_iconst C dX12_housed_34 ci_0 ?_
    cases h
    exact j_iret C hr hlk rfl dX12_housed_35
  · have h := (if_neg c5).symm.trans h
    refine j_aload_n C 0 rfl dX12_housed_13 rfl ?_
    refine j_aload_n C 0 rfl dX12_housed_14 rfl ?_
    refine fg_X12_284_TR_0 C dX12_housed_15 ?_
    refine j_iconst C dX12_housed_18 ci_1 ?_
    obtain ⟨r6, S7, h8, h⟩ := bd2_elim h
    refine j_callV (As := [.int (S3 49), .int (1 : Int32)]) (rest := []) C (kX12_right_0 l B D ad cA hI S3 V L ((S3 49)) (1 : Int32) _ _ h8) mw_X12_right wd1638 wd56 wd1636 tr_0 rfl rfl ⟨rfl, rfl, by decide, by decide⟩ ⟨Nat.zero_le _, Nat.zero_le _⟩ rfl rfl (Nat.le_of_ble_eq_true rfl) dX12_housed_19 ?_
    refine j_if_eq (tgt := 34) C dX12_housed_22 (by decide) (fun c9 => ?_) (fun c9 => ?_)
    · have h := (if_pos c9).symm.trans h
      refine j_iconst C dX12_housed_34 ci_0 ?_
      cases h
      exact j_iret C hr hlk rfl dX12_housed_35
    · have h := (if_neg c9).symm.trans h
      refine j_aload_n C 0 rfl dX12_housed_25 rfl ?_
      refine fg_X12_75_TR_0 C dX12_housed_26 ?_
      refine j_iload_n C 1 rfl dX12_housed_29 rfl ?_
      obtain ⟨g10, h⟩ := gd_elim h
      refine j_iald C tr_18 (ib_in g10) dX12_housed_30 ?_
      refine j_goto (tgt := 35) C dX12_housed_31 (by decide) ?_
      cases h
      exact j_iret C hr hlk rfl dX12_housed_35
def fX12_copies_0_13_22_L2 : Nat → Int32 → (Nat → Nat → Int32) → Option ((Nat → Nat → Int32))
  | 0, _, _ => none
  | n + 1, x1, V2 =>
    (if (52 : Int32) ≤ x1 then
    some V2
    else
    gd (ib x1 52) (
    lt ((V2 13 (x1).toNatClampNeg)) (fun x5 =>
    gd (ib x1 52) (
    lt (va_up V2 22 (upd (V2 22) (x1).toNatClampNeg x5)) (fun V7 =>
    lt (x1 + (1 : Int32)) (fun x8 =>
    fX12_copies_0_13_22_L2 n x8 V7))))))
def fX12_copies_0_13_22 (V : Nat → Nat → Int32) : Option ((Nat → Nat → Int32)) :=
  fX12_copies_0_13_22_L2 FU (0 : Int32) V
set_option maxHeartbeats 4000000 in
set_option maxRecDepth 100000 in
theorem kX12_copies_0_13_22 (l : Launch) (B : jBT) (D : va_G) (ad : Nat → Nat) (cA : Nat → ClassId) (hI : jI ad TR) (S : Nat → Int32) (V : Nat → Nat → Int32) (L : Nat → Int64) (V0 : Nat → Nat → Int32) (h : fX12_copies_0_13_22 V = some V0) : jM l yX12_copies cX12_copies 4 none ({ frames := 0, cells := 0, slots := 0, locals := 0 }) B D TR ad cA [.ref (ad 0), .ref (ad 13), .ref (ad 22)] S V L none S V0 L := by
  refine jM_of (plainFor_of_name (by decide)) TR_ok hI (Nat.le_of_ble_eq_true rfl) ?_
  intro p e s m args below meth c C hr hlk
  refine j_lv (lv2 := [(0, .ref (ad 0)), (1, .ref (ad 13)), (2, .ref (ad 22))]) rfl ?_
  unfold fX12_copies_0_13_22 at h
  have H_fX12_copies_0_13_22_L2 : ∀ (n : Nat) (x1 : Int32) (V2 : Nat → Nat → Int32), fX12_copies_0_13_22_L2 n x1 V2 = some V0 → jW p l e ({ frames := 0, cells := 0, slots := 0, locals := 0 }) s m args below meth c (MQ below (jQc D TR ad cA none s.heap.size S V0 L) args s 0 0 (jA ad TR s.heap.size)) D TR ad cA (jA ad TR s.heap.size) 4 0 0 2 [(1, .ref (ad 13)), (2, .ref (ad 22)), (3, .int x1)] [] S V2 L := by
    intro n
    induction n with
    | zero =>
      intro x1 V2 h
      cases (show (none : Option ((Nat → Nat → Int32))) = some V0 from h)
    | succ n ih =>
      intro x1 V2 h
      unfold fX12_copies_0_13_22_L2 at h
      refine j_iload_n C 2 rfl dX12_copies_2 rfl ?_
      refine j_aload_n C 0 rfl dX12_copies_3 rfl ?_
      refine j_alen (v := (52 : Int32)) C tr_13 (by decide) dX12_copies_4 ?_
      refine j_icmp_ge (tgt := 20) C dX12_copies_5 (by decide) (fun c3 => ?_) (fun c3 => ?_)
      · have h := (if_pos c3).symm.trans h
        cases h
        exact j_vret C hr hlk rfl dX12_copies_20
      · have h := (if_neg c3).symm.trans h
        refine j_aload_n C 1 rfl dX12_copies_8 rfl ?_
        refine j_iload_n C 2 rfl dX12_copies_9 rfl ?_
        refine j_aload_n C 0 rfl dX12_copies_10 rfl ?_
        refine j_iload_n C 2 rfl dX12_copies_11 rfl ?_
        obtain ⟨g4, h⟩ := gd_elim h
        refine j_iald C tr_13 (ib_in g4) dX12_copies_12 ?_
        refine lt_elim h (fun x5 e_x5 h => ?_)
        refine j_top e_x5 ?_
        obtain ⟨g6, h⟩ := gd_elim h
        refine j_iast C tr_22 (ib_in g6) dX12_copies_13 ?_
        refine lt_elim h (fun V7 e_V7 h => ?_)
        refine j_V e_V7 ?_
        refine lt_elim h (fun x8 e_x8 h => ?_)
        refine j_iinc C [(3, .int x8), (1, .ref (ad 13)), (2, .ref (ad 22))] 2 dX12_copies_14 rfl ((iinc_eq ci_1).trans e_x8.symm) (by decide) rfl ?_
        refine j_goto (tgt := 2) C dX12_copies_17 (by decide) ?_
        exact j_sub [1, 2, 0] rfl (ih _ _ h)
  refine j_iconst C dX12_copies_0 ci_0 ?_
  refine j_istore_n C [(3, .int (0 : Int32)), (0, .ref (ad 0)), (1, .ref (ad 13)), (2, .ref (ad 22))] dX12_copies_1 rfl (by decide) rfl ?_
  exact j_sub [2, 3, 0] rfl (H_fX12_copies_0_13_22_L2 FU _ _ h)
def fX12_copies_0_21_23_L2 : Nat → Int32 → (Nat → Nat → Int32) → Option ((Nat → Nat → Int32))
  | 0, _, _ => none
  | n + 1, x1, V2 =>
    (if (24 : Int32) ≤ x1 then
    some V2
    else
    gd (ib x1 24) (
    lt ((V2 21 (x1).toNatClampNeg)) (fun x5 =>
    gd (ib x1 24) (
    lt (va_up V2 23 (upd (V2 23) (x1).toNatClampNeg x5)) (fun V7 =>
    lt (x1 + (1 : Int32)) (fun x8 =>
    fX12_copies_0_21_23_L2 n x8 V7))))))
def fX12_copies_0_21_23 (V : Nat → Nat → Int32) : Option ((Nat → Nat → Int32)) :=
  fX12_copies_0_21_23_L2 FU (0 : Int32) V
set_option maxHeartbeats 4000000 in
set_option maxRecDepth 100000 in
theorem kX12_copies_0_21_23 (l : Launch) (B : jBT) (D : va_G) (ad : Nat → Nat) (cA : Nat → ClassId) (hI : jI ad TR) (S : Nat → Int32) (V : Nat → Nat → Int32) (L : Nat → Int64) (V0 : Nat → Nat → Int32) (h : fX12_copies_0_21_23 V = some V0) : jM l yX12_copies cX12_copies 4 none ({ frames := 0, cells := 0, slots := 0, locals := 0 }) B D TR ad cA [.ref (ad 0), .ref (ad 21), .ref (ad 23)] S V L none S V0 L := by
  refine jM_of (plainFor_of_name (by decide)) TR_ok hI (Nat.le_of_ble_eq_true rfl) ?_
  intro p e s m args below meth c C hr hlk
  refine j_lv (lv2 := [(0, .ref (ad 0)), (1, .ref (ad 21)), (2, .ref (ad 23))]) rfl ?_
  unfold fX12_copies_0_21_23 at h
  have H_fX12_copies_0_21_23_L2 : ∀ (n : Nat) (x1 : Int32) (V2 : Nat → Nat → Int32), fX12_copies_0_21_23_L2 n x1 V2 = some V0 → jW p l e ({ frames := 0, cells := 0, slots := 0, locals := 0 }) s m args below meth c (MQ below (jQc D TR ad cA none s.heap.size S V0 L) args s 0 0 (jA ad TR s.heap.size)) D TR ad cA (jA ad TR s.heap.size) 4 0 0 2 [(1, .ref (ad 21)), (2, .ref (ad 23)), (3, .int x1)] [] S V2 L := by
    intro n
    induction n with
    | zero =>
      intro x1 V2 h
      cases (show (none : Option ((Nat → Nat → Int32))) = some V0 from h)
    | succ n ih =>
      intro x1 V2 h
      unfold fX12_copies_0_21_23_L2 at h
      refine j_iload_n C 2 rfl dX12_copies_2 rfl ?_
      refine j_aload_n C 0 rfl dX12_copies_3 rfl ?_
      refine j_alen (v := (24 : Int32)) C tr_21 (by decide) dX12_copies_4 ?_
      refine j_icmp_ge (tgt := 20) C dX12_copies_5 (by decide) (fun c3 => ?_) (fun c3 => ?_)
      · have h := (if_pos c3).symm.trans h
        cases h
        exact j_vret C hr hlk rfl dX12_copies_20
      · have h := (if_neg c3).symm.trans h
        refine j_aload_n C 1 rfl dX12_copies_8 rfl ?_
        refine j_iload_n C 2 rfl dX12_copies_9 rfl ?_
        refine j_aload_n C 0 rfl dX12_copies_10 rfl ?_
        refine j_iload_n C 2 rfl dX12_copies_11 rfl ?_
        obtain ⟨g4, h⟩ := gd_elim h
        refine j_iald C tr_21 (ib_in g4) dX12_copies_12 ?_
        refine lt_elim h (fun x5 e_x5 h => ?_)
        refine j_top e_x5 ?_
        obtain ⟨g6, h⟩ := gd_elim h
        refine j_iast C tr_23 (ib_in g6) dX12_copies_13 ?_
        refine lt_elim h (fun V7 e_V7 h => ?_)
        refine j_V e_V7 ?_
        refine lt_elim h (fun x8 e_x8 h => ?_)
        refine j_iinc C [(3, .int x8), (1, .ref (ad 21)), (2, .ref (ad 23))] 2 dX12_copies_14 rfl ((iinc_eq ci_1).trans e_x8.symm) (by decide) rfl ?_
        refine j_goto (tgt := 2) C dX12_copies_17 (by decide) ?_
        exact j_sub [1, 2, 0] rfl (ih _ _ h)
  refine j_iconst C dX12_copies_0 ci_0 ?_
  refine j_istore_n C [(3, .int (0 : Int32)), (0, .ref (ad 0)), (1, .ref (ad 21)), (2, .ref (ad 23))] dX12_copies_1 rfl (by decide) rfl ?_
  exact j_sub [2, 3, 0] rfl (H_fX12_copies_0_21_23_L2 FU _ _ h)
theorem dX12_image_0 : decode cX12_image 0 = .ok (.aload_n 0, 1) := by decide +kernel
theorem dX12_image_1 : decode cX12_image 1 = .ok (.iconst 0, 1) := by decide +kernel
theorem dX12_image_2 : decode cX12_image 2 = .ok (.putfield 93, 3) := by decide +kernel
theorem dX12_image_5 : decode cX12_image 5 = .ok (.aload_n 0, 1) := by decide +kernel
theorem dX12_image_6 : decode cX12_image 6 = .ok (.iconst 1, 1) := by decide +kernel
theorem dX12_image_7 : decode cX12_image 7 = .ok (.putfield 291, 3) := by decide +kernel
theorem dX12_image_10 : decode cX12_image 10 = .ok (.aload_n 0, 1) := by decide +kernel
theorem dX12_image_11 : decode cX12_image 11 = .ok (.aload_n 0, 1) := by decide +kernel
theorem dX12_image_12 : decode cX12_image 12 = .ok (.getfield 278, 3) := by decide +kernel
theorem dX12_image_15 : decode cX12_image 15 = .ok (.putfield 393, 3) := by decide +kernel
theorem dX12_image_18 : decode cX12_image 18 = .ok (.aload_n 0, 1) := by decide +kernel
theorem dX12_image_19 : decode cX12_image 19 = .ok (.aload_n 0, 1) := by decide +kernel
theorem dX12_image_20 : decode cX12_image 20 = .ok (.getfield 281, 3) := by decide +kernel
theorem dX12_image_23 : decode cX12_image 23 = .ok (.putfield 396, 3) := by decide +kernel
theorem dX12_image_26 : decode cX12_image 26 = .ok (.aload_n 0, 1) := by decide +kernel
theorem dX12_image_27 : decode cX12_image 27 = .ok (.aload_n 0, 1) := by decide +kernel
theorem dX12_image_28 : decode cX12_image 28 = .ok (.getfield 60, 3) := by decide +kernel
theorem dX12_image_31 : decode cX12_image 31 = .ok (.aload_n 0, 1) := by decide +kernel
theorem dX12_image_32 : decode cX12_image 32 = .ok (.getfield 87, 3) := by decide +kernel
theorem dX12_image_35 : decode cX12_image 35 = .ok (.invokevirtual 274, 3) := by decide +kernel
theorem dX12_image_38 : decode cX12_image 38 = .ok (.aload_n 0, 1) := by decide +kernel
theorem dX12_image_39 : decode cX12_image 39 = .ok (.aload_n 0, 1) := by decide +kernel
theorem dX12_image_40 : decode cX12_image 40 = .ok (.getfield 84, 3) := by decide +kernel
theorem dX12_image_43 : decode cX12_image 43 = .ok (.aload_n 0, 1) := by decide +kernel
theorem dX12_image_44 : decode cX12_image 44 = .ok (.getfield 90, 3) := by decide +kernel
theorem dX12_image_47 : decode cX12_image 47 = .ok (.invokevirtual 274, 3) := by decide +kernel
theorem dX12_image_50 : decode cX12_image 50 = .ok (.return_, 1) := by decide +kernel
def fX12_image_0 (S : Nat → Int32) (V : Nat → Nat → Int32) : Option ((Nat → Int32) × (Nat → Nat → Int32)) :=
  lt (va_up S 0 (0 : Int32)) (fun S1 =>
  lt (va_up S1 55 (1 : Int32)) (fun S2 =>
  lt ((S2 42)) (fun x3 =>
  lt (va_up S2 56 x3) (fun S4 =>
  lt ((S4 53)) (fun x5 =>
  lt (va_up S4 57 x5) (fun S6 =>
  bd1 (fX12_copies_0_13_22 V) (fun V7 =>
  bd1 (fX12_copies_0_21_23 V7) (fun V9 =>
  some (S6, V9)))))))))
set_option maxHeartbeats 4000000 in
set_option maxRecDepth 100000 in
theorem kX12_image_0 (l : Launch) (B : jBT) (D : va_G) (ad : Nat → Nat) (cA : Nat → ClassId) (hI : jI ad TR) (S : Nat → Int32) (V : Nat → Nat → Int32) (L : Nat → Int64) (S0 : Nat → Int32) (V0 : Nat → Nat → Int32) (h : fX12_image_0 S V = some (S0, V0)) : jM l yX12_image cX12_image 1 none ({ frames := 1, cells := 0, slots := 0, locals := 23 }) B D TR ad cA [.ref (ad 0)] S V L none S0 V0 L := by
  refine jM_of (plainFor_of_name (by decide)) TR_ok hI (Nat.le_of_ble_eq_true rfl) ?_
  intro p e s m args below meth c C hr hlk
  refine j_lv (lv2 := [(0, .ref (ad 0))]) rfl ?_
  unfold fX12_image_0 at h
  refine j_aload_n C 0 rfl dX12_image_0 rfl ?_
  refine j_iconst C dX12_image_1 ci_0 ?_
  refine fp_X12_93_TR_0 C dX12_image_2 ?_
  refine lt_elim h (fun S1 e_S1 h => ?_)
  refine j_S e_S1 ?_
  refine j_aload_n C 0 rfl dX12_image_5 rfl ?_
  refine j_iconst C dX12_image_6 ci_1 ?_
  refine fp_X12_291_TR_0 C rfl rfl dX12_image_7 ?_
  refine lt_elim h (fun S2 e_S2 h => ?_)
  refine j_S e_S2 ?_
  refine j_aload_n C 0 rfl dX12_image_10 rfl ?_
  refine j_aload_n C 0 rfl dX12_image_11 rfl ?_
  refine fg_X12_278_TR_0 C dX12_image_12 ?_
  refine lt_elim h (fun x3 e_x3 h => ?_)
  refine j_top e_x3 ?_
  refine fp_X12_393_TR_0 C dX12_image_15 ?_
  refine lt_elim h (fun S4 e_S4 h => ?_)
  refine j_S e_S4 ?_
  refine j_aload_n C 0 rfl dX12_image_18 rfl ?_
  refine j_aload_n C 0 rfl dX12_image_19 rfl ?_
  refine fg_X12_281_TR_0 C dX12_image_20 ?_
  refine lt_elim h (fun x5 e_x5 h => ?_)
  refine j_top e_x5 ?_
  refine fp_X12_396_TR_0 C dX12_image_23 ?_
  refine lt_elim h (fun S6 e_S6 h => ?_)
  refine j_S e_S6 ?_
  refine j_aload_n C 0 rfl dX12_image_26 rfl ?_
  refine j_aload_n C 0 rfl dX12_image_27 rfl ?_
  refine fg_X12_60_TR_0 C dX12_image_28 ?_
  refine j_aload_n C 0 rfl dX12_image_31 rfl ?_
  refine fg_X12_87_TR_0 C dX12_image_32 ?_
  obtain ⟨V7, h8, h⟩ := bd1_elim h
  refine j_callV (As := [.ref (ad 13), .ref (ad 22)]) (rest := []) C (kX12_copies_0_13_22 l B D ad cA hI S6 V L _ h8) mw_X12_copies wd1749 wd79 wd1747 tr_0 rfl rfl ⟨rfl, rfl, by decide, by decide⟩ ⟨Nat.zero_le _, Nat.zero_le _⟩ rfl rfl (Nat.le_of_ble_eq_true rfl) dX12_image_35 ?_
  refine j_aload_n C 0 rfl dX12_image_38 rfl ?_
  refine j_aload_n C 0 rfl dX12_image_39 rfl ?_
  refine fg_X12_84_TR_0 C dX12_image_40 ?_
  refine j_aload_n C 0 rfl dX12_image_43 rfl ?_
  refine fg_X12_90_TR_0 C dX12_image_44 ?_
  obtain ⟨V9, h10, h⟩ := bd1_elim h
  refine j_callV (As := [.ref (ad 21), .ref (ad 23)]) (rest := []) C (kX12_copies_0_21_23 l B D ad cA hI S6 V7 L _ h10) mw_X12_copies wd1749 wd79 wd1747 tr_0 rfl rfl ⟨rfl, rfl, by decide, by decide⟩ ⟨Nat.zero_le _, Nat.zero_le _⟩ rfl rfl (Nat.le_of_ble_eq_true rfl) dX12_image_47 ?_
  cases h
  exact j_vret C hr hlk rfl dX12_image_50
theorem dX12_isHour_0 : decode cX12_isHour 0 = .ok (.aload_n 0, 1) := by decide +kernel
theorem dX12_isHour_1 : decode cX12_isHour 1 = .ok (.iload_n 1, 1) := by decide +kernel
theorem dX12_isHour_2 : decode cX12_isHour 2 = .ok (.iconst 0, 1) := by decide +kernel
theorem dX12_isHour_3 : decode cX12_isHour 3 = .ok (.bipush 23, 2) := by decide +kernel
theorem dX12_isHour_5 : decode cX12_isHour 5 = .ok (.invokestatic 294, 3) := by decide +kernel
theorem dX12_isHour_8 : decode cX12_isHour 8 = .ok (.iconst 1, 1) := by decide +kernel
theorem dX12_isHour_9 : decode cX12_isHour 9 = .ok (.invokevirtual 255, 3) := by decide +kernel
theorem dX12_isHour_12 : decode cX12_isHour 12 = .ok (.ireturn, 1) := by decide +kernel
def fX12_isHour_0 (S : Nat → Int32) (a1 : Int32) : Option (Int32 × (Nat → Int32)) :=
  bd1 (fX12_within a1 (0 : Int32) (23 : Int32)) (fun r1 =>
  bd2 (fX12_right_0 S r1 (1 : Int32)) (fun r3 S4 =>
  gd (isb r3) (
  some (r3, S4))))
set_option maxHeartbeats 4000000 in
set_option maxRecDepth 100000 in
theorem kX12_isHour_0 (l : Launch) (B : jBT) (D : va_G) (ad : Nat → Nat) (cA : Nat → ClassId) (hI : jI ad TR) (S : Nat → Int32) (V : Nat → Nat → Int32) (L : Nat → Int64) (a1 : Int32) (r0 : Int32) (S0 : Nat → Int32) (h : fX12_isHour_0 S a1 = some (r0, S0)) : jM l yX12_isHour cX12_isHour 2 (some .boolean) ({ frames := 1, cells := 0, slots := 0, locals := 22 }) B D TR ad cA [.ref (ad 0), .int a1] S V L (some (.int r0)) S0 V L := by
  refine jM_of (plainFor_of_name (by decide)) TR_ok hI (Nat.le_of_ble_eq_true rfl) ?_
  intro p e s m args below meth c C hr hlk
  refine j_lv (lv2 := [(0, .ref (ad 0)), (1, .int a1)]) rfl ?_
  unfold fX12_isHour_0 at h
  refine j_aload_n C 0 rfl dX12_isHour_0 rfl ?_
  refine j_iload_n C 1 rfl dX12_isHour_1 rfl ?_
  refine j_iconst C dX12_isHour_2 ci_0 ?_
  refine j_bipush C dX12_isHour_3 cb_23 ?_
  obtain ⟨r1, h2, h⟩ := bd1_elim h
  refine j_callS (As := [.int a1, .int (0 : Int32), .int (23 : Int32)]) (rest := [.ref (ad 0)]) C (kX12_within l B D ad cA hI S V L a1 (0 : Int32) (23 : Int32) _ h2) mw_X12_within wd1760 wd1759 ⟨rfl, rfl, by decide, by decide⟩ ⟨Nat.zero_le _, Nat.zero_le _⟩ rfl rfl (Nat.le_of_ble_eq_true rfl) dX12_isHour_5 ?_
  refine j_iconst C dX12_isHour_8 ci_1 ?_
  obtain ⟨r3, S4, h5, h⟩ := bd2_elim h
  refine j_callV (As := [.int r1, .int (1 : Int32)]) (rest := []) C (kX12_right_0 l B D ad cA hI S V L r1 (1 : Int32) _ _ h5) mw_X12_right wd1638 wd56 wd1636 tr_0 rfl rfl ⟨rfl, rfl, by decide, by decide⟩ ⟨Nat.zero_le _, Nat.zero_le _⟩ rfl rfl (Nat.le_of_ble_eq_true rfl) dX12_isHour_9 ?_
  obtain ⟨g6, h⟩ := gd_elim h
  cases h
  exact j_zret C hr hlk rfl (isb_n g6) dX12_isHour_12
theorem dX12_in_0 : decode cX12_in 0 = .ok (.aload_n 0, 1) := by decide +kernel
theorem dX12_in_1 : decode cX12_in 1 = .ok (.iconst 0, 1) := by decide +kernel
theorem dX12_in_2 : decode cX12_in 2 = .ok (.putfield 93, 3) := by decide +kernel
theorem dX12_in_5 : decode cX12_in 5 = .ok (.aload_n 0, 1) := by decide +kernel
theorem dX12_in_6 : decode cX12_in 6 = .ok (.iload_n 1, 1) := by decide +kernel
theorem dX12_in_7 : decode cX12_in 7 = .ok (.iconst 0, 1) := by decide +kernel
theorem dX12_in_8 : decode cX12_in 8 = .ok (.iconst 2, 1) := by decide +kernel
theorem dX12_in_9 : decode cX12_in 9 = .ok (.invokestatic 294, 3) := by decide +kernel
theorem dX12_in_12 : decode cX12_in 12 = .ok (.iconst 1, 1) := by decide +kernel
theorem dX12_in_13 : decode cX12_in 13 = .ok (.invokevirtual 255, 3) := by decide +kernel
theorem dX12_in_16 : decode cX12_in 16 = .ok (.ifCond .eq 27, 3) := by decide +kernel
theorem dX12_in_19 : decode cX12_in 19 = .ok (.aload_n 0, 1) := by decide +kernel
theorem dX12_in_20 : decode cX12_in 20 = .ok (.iload_n 2, 1) := by decide +kernel
theorem dX12_in_21 : decode cX12_in 21 = .ok (.invokevirtual 342, 3) := by decide +kernel
theorem dX12_in_24 : decode cX12_in 24 = .ok (.ifCond .eq 19, 3) := by decide +kernel
theorem dX12_in_27 : decode cX12_in 27 = .ok (.aload_n 0, 1) := by decide +kernel
theorem dX12_in_28 : decode cX12_in 28 = .ok (.getfield 60, 3) := by decide +kernel
theorem dX12_in_31 : decode cX12_in 31 = .ok (.aload_n 0, 1) := by decide +kernel
theorem dX12_in_32 : decode cX12_in 32 = .ok (.getfield 278, 3) := by decide +kernel
theorem dX12_in_35 : decode cX12_in 35 = .ok (.iload_n 1, 1) := by decide +kernel
theorem dX12_in_36 : decode cX12_in 36 = .ok (.iload_n 2, 1) := by decide +kernel
theorem dX12_in_37 : decode cX12_in 37 = .ok (.invokestatic 298, 3) := by decide +kernel
theorem dX12_in_40 : decode cX12_in 40 = .ok (.goto 4, 3) := by decide +kernel
theorem dX12_in_43 : decode cX12_in 43 = .ok (.iconst 0, 1) := by decide +kernel
theorem dX12_in_44 : decode cX12_in 44 = .ok (.ireturn, 1) := by decide +kernel
def fX12_in_0 (S : Nat → Int32) (V : Nat → Nat → Int32) (a1 : Int32) (a2 : Int32) : Option (Int32 × (Nat → Int32)) :=
  lt (va_up S 0 (0 : Int32)) (fun S1 =>
  bd1 (fX12_within a1 (0 : Int32) (2 : Int32)) (fun r2 =>
  bd2 (fX12_right_0 S1 r2 (1 : Int32)) (fun r4 S5 =>
  (if r4 = 0 then
  some ((0 : Int32), S5)
  else
  bd2 (fX12_isHour_0 S5 a2) (fun r8 S9 =>
  (if r8 = 0 then
  some ((0 : Int32), S9)
  else
  bd1 (fX12_inOf_13 V ((S9 42)) a1 a2) (fun r12 =>
  some (r12, S9))))))))
set_option maxHeartbeats 4000000 in
set_option maxRecDepth 100000 in
theorem kX12_in_0 (l : Launch) (B : jBT) (D : va_G) (ad : Nat → Nat) (cA : Nat → ClassId) (hI : jI ad TR) (S : Nat → Int32) (V : Nat → Nat → Int32) (L : Nat → Int64) (a1 : Int32) (a2 : Int32) (r0 : Int32) (S0 : Nat → Int32) (h : fX12_in_0 S V a1 a2 = some (r0, S0)) : jM l yX12_in cX12_in 3 (some .int) ({ frames := 2, cells := 0, slots := 0, locals := 43 }) B D TR ad cA [.ref (ad 0), .int a1, .int a2] S V L (some (.int r0)) S0 V L := by
  refine jM_of (plainFor_of_name (by decide)) TR_ok hI (Nat.le_of_ble_eq_true rfl) ?_
  intro p e s m args below meth c C hr hlk
  refine j_lv (lv2 := [(0, .ref (ad 0)), (1, .int a1), (2, .int a2)]) rfl ?_
  unfold fX12_in_0 at h
  refine j_aload_n C 0 rfl dX12_in_0 rfl ?_
  refine j_iconst C dX12_in_1 ci_0 ?_
  refine fp_X12_93_TR_0 C dX12_in_2 ?_
  refine lt_elim h (fun S1 e_S1 h => ?_)
  refine j_S e_S1 ?_
  refine j_aload_n C 0 rfl dX12_in_5 rfl ?_
  refine j_iload_n C 1 rfl dX12_in_6 rfl ?_
  refine j_iconst C dX12_in_7 ci_0 ?_
  refine j_iconst C dX12_in_8 ci_2 ?_
  obtain ⟨r2, h3, h⟩ := bd1_elim h
  refine j_callS (As := [.int a1, .int (0 : Int32), .int (2 : Int32)]) (rest := [.ref (ad 0)]) C (kX12_within l B D ad cA hI S1 V L a1 (0 : Int32) (2 : Int32) _ h3) mw_X12_within wd1760 wd1759 ⟨rfl, rfl, by decide, by decide⟩ ⟨Nat.zero_le _, Nat.zero_le _⟩ rfl rfl (Nat.le_of_ble_eq_true rfl) dX12_in_9 ?_
  refine j_iconst C dX12_in_12 ci_1 ?_
  obtain ⟨r4, S5, h6, h⟩ := bd2_elim h
  refine j_callV (As := [.int r2, .int (1 : Int32)]) (rest := []) C (kX12_right_0 l B D ad cA hI S1 V L r2 (1 : Int32) _ _ h6) mw_X12_right wd1638 wd56 wd1636 tr_0 rfl rfl ⟨rfl, rfl, by decide, by decide⟩ ⟨Nat.zero_le _, Nat.zero_le _⟩ rfl rfl (Nat.le_of_ble_eq_true rfl) dX12_in_13 ?_
  refine j_if_eq (tgt := 43) C dX12_in_16 (by decide) (fun c7 => ?_) (fun c7 => ?_)
  · have h := (if_pos c7).symm.trans h
    refine j_iconst C dX12_in_43 ci_0 ?_
    cases h
    exact j_iret C hr hlk rfl dX12_in_44
  · have h := (if_neg c7).symm.trans h
    refine j_aload_n C 0 rfl dX12_in_19 rfl ?_
    refine j_iload_n C 2 rfl dX12_in_20 rfl ?_
    obtain ⟨r8, S9, h10, h⟩ := bd2_elim h
    refine j_callV (As := [.int a2]) (rest := []) C (kX12_isHour_0 l B D ad cA hI S5 V L a2 _ _ h10) mw_X12_isHour wd1828 wd88 wd1826 tr_0 rfl rfl ⟨rfl, rfl, by decide, by decide⟩ ⟨Nat.zero_le _, Nat.zero_le _⟩ rfl rfl (Nat.le_of_ble_eq_true rfl) dX12_in_21 ?_
    refine j_if_eq (tgt := 43) C dX12_in_24 (by decide) (fun c11 => ?_) (fun c11 => ?_)
    · have h := (if_pos c11).symm.trans h
      refine j_iconst C dX12_in_43 ci_0 ?_
      cases h
      exact j_iret C hr hlk rfl dX12_in_44
    · have h := (if_neg c11).symm.trans h
      refine j_aload_n C 0 rfl dX12_in_27 rfl ?_
      refine fg_X12_60_TR_0 C dX12_in_28 ?_
      refine j_aload_n C 0 rfl dX12_in_31 rfl ?_
      refine fg_X12_278_TR_0 C dX12_in_32 ?_
      refine j_iload_n C 1 rfl dX12_in_35 rfl ?_
      refine j_iload_n C 2 rfl dX12_in_36 rfl ?_
      obtain ⟨r12, h13, h⟩ := bd1_elim h
      refine j_callS (As := [.ref (ad 13), .int (S9 42), .int a1, .int a2]) (rest := []) C (kX12_inOf_13 l B D ad cA hI S9 V L ((S9 42)) a1 a2 _ h13) mw_X12_inOf wd1775 wd1774 ⟨rfl, rfl, by decide, by decide⟩ ⟨Nat.zero_le _, Nat.zero_le _⟩ rfl rfl (Nat.le_of_ble_eq_true rfl) dX12_in_37 ?_
      refine j_goto (tgt := 44) C dX12_in_40 (by decide) ?_
      cases h
      exact j_iret C hr hlk rfl dX12_in_44
theorem dX12_isTaken_0 : decode cX12_isTaken 0 = .ok (.iconst 0, 1) := by decide +kernel
theorem dX12_isTaken_1 : decode cX12_isTaken 1 = .ok (.istore_n 3, 1) := by decide +kernel
theorem dX12_isTaken_2 : decode cX12_isTaken 2 = .ok (.iload_n 3, 1) := by decide +kernel
theorem dX12_isTaken_3 : decode cX12_isTaken 3 = .ok (.iload_n 1, 1) := by decide +kernel
theorem dX12_isTaken_4 : decode cX12_isTaken 4 = .ok (.if_icmp .ge 21, 3) := by decide +kernel
theorem dX12_isTaken_7 : decode cX12_isTaken 7 = .ok (.aload_n 0, 1) := by decide +kernel
theorem dX12_isTaken_8 : decode cX12_isTaken 8 = .ok (.getfield 78, 3) := by decide +kernel
theorem dX12_isTaken_11 : decode cX12_isTaken 11 = .ok (.iload_n 3, 1) := by decide +kernel
theorem dX12_isTaken_12 : decode cX12_isTaken 12 = .ok (.iaload, 1) := by decide +kernel
theorem dX12_isTaken_13 : decode cX12_isTaken 13 = .ok (.iload_n 2, 1) := by decide +kernel
theorem dX12_isTaken_14 : decode cX12_isTaken 14 = .ok (.if_icmp .ne 5, 3) := by decide +kernel
theorem dX12_isTaken_17 : decode cX12_isTaken 17 = .ok (.iconst 1, 1) := by decide +kernel
theorem dX12_isTaken_18 : decode cX12_isTaken 18 = .ok (.ireturn, 1) := by decide +kernel
theorem dX12_isTaken_19 : decode cX12_isTaken 19 = .ok (.iinc 3 1, 3) := by decide +kernel
theorem dX12_isTaken_22 : decode cX12_isTaken 22 = .ok (.goto (-20), 3) := by decide +kernel
theorem dX12_isTaken_25 : decode cX12_isTaken 25 = .ok (.iconst 0, 1) := by decide +kernel
theorem dX12_isTaken_26 : decode cX12_isTaken 26 = .ok (.ireturn, 1) := by decide +kernel
def fX12_isTaken_0_L2 (V : Nat → Nat → Int32) : Nat → Int32 → Int32 → Int32 → Option (Int32)
  | 0, _, _, _ => none
  | n + 1, x1, x2, x3 =>
    (if x1 ≤ x3 then
    some (0 : Int32)
    else
    gd (ib x3 6) (
    (if (V 19 (x3).toNatClampNeg) = x2 then
    some (1 : Int32)
    else
    lt (x3 + (1 : Int32)) (fun x7 =>
    fX12_isTaken_0_L2 V n x1 x2 x7))))
def fX12_isTaken_0 (V : Nat → Nat → Int32) (a1 : Int32) (a2 : Int32) : Option (Int32) :=
  fX12_isTaken_0_L2 V FU a1 a2 (0 : Int32)
set_option maxHeartbeats 4000000 in
set_option maxRecDepth 100000 in
theorem kX12_isTaken_0 (l : Launch) (B : jBT) (D : va_G) (ad : Nat → Nat) (cA : Nat → ClassId) (hI : jI ad TR) (S : Nat → Int32) (V : Nat → Nat → Int32) (L : Nat → Int64) (a1 : Int32) (a2 : Int32) (r0 : Int32) (h : fX12_isTaken_0 V a1 a2 = some r0) : jM l yX12_isTaken cX12_isTaken 4 (some .boolean) ({ frames := 0, cells := 0, slots := 0, locals := 0 }) B D TR ad cA [.ref (ad 0), .int a1, .int a2] S V L (some (.int r0)) S V L := by
  refine jM_of (plainFor_of_name (by decide)) TR_ok hI (Nat.le_of_ble_eq_true rfl) ?_
  intro p e s m args below meth c C hr hlk
  refine j_lv (lv2 := [(0, .ref (ad 0)), (1, .int a1), (2, .int a2)]) rfl ?_
  unfold fX12_isTaken_0 at h
  have H_fX12_isTaken_0_L2 : ∀ (n : Nat) (x1 : Int32) (x2 : Int32) (x3 : Int32), fX12_isTaken_0_L2 V n x1 x2 x3 = some r0 → jW p l e ({ frames := 0, cells := 0, slots := 0, locals := 0 }) s m args below meth c (MQ below (jQc D TR ad cA (some (.int r0)) s.heap.size S V L) args s 0 0 (jA ad TR s.heap.size)) D TR ad cA (jA ad TR s.heap.size) 4 0 0 2 [(0, .ref (ad 0)), (1, .int x1), (2, .int x2), (3, .int x3)] [] S V L := by
    intro n
    induction n with
    | zero =>
      intro x1 x2 x3 h
      cases (show (none : Option (Int32)) = some r0 from h)
    | succ n ih =>
      intro x1 x2 x3 h
      unfold fX12_isTaken_0_L2 at h
      refine j_iload_n C 3 rfl dX12_isTaken_2 rfl ?_
      refine j_iload_n C 1 rfl dX12_isTaken_3 rfl ?_
      refine j_icmp_ge (tgt := 25) C dX12_isTaken_4 (by decide) (fun c4 => ?_) (fun c4 => ?_)
      · have h := (if_pos c4).symm.trans h
        refine j_iconst C dX12_isTaken_25 ci_0 ?_
        cases h
        exact j_zret C hr hlk rfl rfl dX12_isTaken_26
      · have h := (if_neg c4).symm.trans h
        refine j_aload_n C 0 rfl dX12_isTaken_7 rfl ?_
        refine fg_X12_78_TR_0 C dX12_isTaken_8 ?_
        refine j_iload_n C 3 rfl dX12_isTaken_11 rfl ?_
        obtain ⟨g5, h⟩ := gd_elim h
        refine j_iald C tr_19 (ib_in g5) dX12_isTaken_12 ?_
        refine j_iload_n C 2 rfl dX12_isTaken_13 rfl ?_
        refine j_icmp_ne (tgt := 19) C dX12_isTaken_14 (by decide) (fun c6 => ?_) (fun c6 => ?_)
        · have h := (if_neg c6).symm.trans h
          refine lt_elim h (fun x7 e_x7 h => ?_)
          refine j_iinc C [(3, .int x7), (0, .ref (ad 0)), (1, .int x1), (2, .int x2)] 3 dX12_isTaken_19 rfl ((iinc_eq ci_1).trans e_x7.symm) (by decide) rfl ?_
          refine j_goto (tgt := 2) C dX12_isTaken_22 (by decide) ?_
          exact j_sub [1, 2, 3, 0] rfl (ih _ _ _ h)
        · have h := (if_pos c6).symm.trans h
          refine j_iconst C dX12_isTaken_17 ci_1 ?_
          cases h
          exact j_zret C hr hlk rfl rfl dX12_isTaken_18
  refine j_iconst C dX12_isTaken_0 ci_0 ?_
  refine j_istore_n C [(3, .int (0 : Int32)), (0, .ref (ad 0)), (1, .int a1), (2, .int a2)] dX12_isTaken_1 rfl (by decide) rfl ?_
  exact j_sub [1, 2, 3, 0] rfl (H_fX12_isTaken_0_L2 FU _ _ _ h)
