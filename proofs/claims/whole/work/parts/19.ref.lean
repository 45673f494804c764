theorem dX12_copies_0 : decode cX12_copies 0 = .ok (.iconst 0, 1) := by decide +kernel
theorem dX12_copies_1 : decode cX12_copies 1 = .ok (.istore_n 3, 1) := by decide +kernel
theorem dX12_copies_2 : decode cX12_copies 2 = .ok (.iload_n 3, 1) := by decide +kernel
theorem dX12_copies_3 : decode cX12_copies 3 = .ok (.aload_n 1, 1) := by decide +kernel
theorem dX12_copies_4 : decode cX12_copies 4 = .ok (.arraylength, 1) := by decide +kernel
theorem dX12_copies_5 : decode cX12_copies 5 = .ok (.if_icmp .ge 15, 3) := by decide +kernel
theorem dX12_copies_8 : decode cX12_copies 8 = .ok (.aload_n 2, 1) := by decide +kernel
theorem dX12_copies_9 : decode cX12_copies 9 = .ok (.iload_n 3, 1) := by decide +kernel
theorem dX12_copies_10 : decode cX12_copies 10 = .ok (.aload_n 1, 1) := by decide +kernel
theorem dX12_copies_11 : decode cX12_copies 11 = .ok (.iload_n 3, 1) := by decide +kernel
theorem dX12_copies_12 : decode cX12_copies 12 = .ok (.iaload, 1) := by decide +kernel
theorem dX12_copies_13 : decode cX12_copies 13 = .ok (.iastore, 1) := by decide +kernel
theorem dX12_copies_14 : decode cX12_copies 14 = .ok (.iinc 3 1, 3) := by decide +kernel
theorem dX12_copies_17 : decode cX12_copies 17 = .ok (.goto (-15), 3) := by decide +kernel
theorem dX12_copies_20 : decode cX12_copies 20 = .ok (.return_, 1) := by decide +kernel
def fX12_copies_0_7_1_L2 : Nat → Int32 → (Nat → Nat → Int32) → Option ((Nat → Nat → Int32))
  | 0, _, _ => none
  | n + 1, x1, V2 =>
    (if (24 : Int32) ≤ x1 then
    some V2
    else
    gd (ib x1 24) (
    lt ((V2 7 (x1).toNatClampNeg)) (fun x5 =>
    gd (ib x1 24) (
    lt (va_up V2 1 (upd (V2 1) (x1).toNatClampNeg x5)) (fun V7 =>
    lt (x1 + (1 : Int32)) (fun x8 =>
    fX12_copies_0_7_1_L2 n x8 V7))))))
def fX12_copies_0_7_1 (V : Nat → Nat → Int32) : Option ((Nat → Nat → Int32)) :=
  fX12_copies_0_7_1_L2 FU (0 : Int32) V
set_option maxHeartbeats 4000000 in
set_option maxRecDepth 100000 in
theorem kX12_copies_0_7_1 (l : Launch) (B : jBT) (D : va_G) (ad : Nat → Nat) (cA : Nat → ClassId) (hI : jI ad TR) (S : Nat → Int32) (V : Nat → Nat → Int32) (L : Nat → Int64) (V0 : Nat → Nat → Int32) (h : fX12_copies_0_7_1 V = some V0) : jM l yX12_copies cX12_copies 4 none ({ frames := 0, cells := 0, slots := 0, locals := 0 }) B D TR ad cA [.ref (ad 0), .ref (ad 7), .ref (ad 1)] S V L none S V0 L := by
  refine jM_of (plainFor_of_name (by decide)) TR_ok hI (Nat.le_of_ble_eq_true rfl) ?_
  intro p e s m args below meth c C hr hlk
  refine j_lv (lv2 := [(0, .ref (ad 0)), (1, .ref (ad 7)), (2, .ref (ad 1))]) rfl ?_
  unfold fX12_copies_0_7_1 at h
  have H_fX12_copies_0_7_1_L2 : ∀ (n : Nat) (x1 : Int32) (V2 : Nat → Nat → Int32), fX12_copies_0_7_1_L2 n x1 V2 = some V0 → jW p l e ({ frames := 0, cells := 0, slots := 0, locals := 0 }) s m args below meth c (MQ below (jQc D TR ad cA none s.heap.size S V0 L) args s 0 0 (jA ad TR s.heap.size)) D TR ad cA (jA ad TR s.heap.size) 4 0 0 2 [(1, .ref (ad 7)), (2, .ref (ad 1)), (3, .int x1)] [] S V2 L := by
    intro n
    induction n with
    | zero =>
      intro x1 V2 h
      cases (show (none : Option ((Nat → Nat → Int32))) = some V0 from h)
    | succ n ih =>
      intro x1 V2 h
      unfold fX12_copies_0_7_1_L2 at h
      refine j_iload_n C 2 rfl dX12_copies_2 rfl ?_
      refine j_aload_n C 0 rfl dX12_copies_3 rfl ?_
      refine j_alen (v := (24 : Int32)) C tr_7 (by decide) dX12_copies_4 ?_
      refine j_icmp_ge (tgt := 20) C dX12_copies_5 (by decide) (fun c3 => ?_) (fun c3 => ?_)
      · have h := (if_pos c3).symm.trans h
        cases h
        exact j_vret C hr hlk rfl dX12_copies_20
      · have h := (if_neg c3).symm.trans h
        refine j_aload_n C 1 rfl dX12_copies_8 rfl ?_
        refine j_iload_n C 2 rfl dX12_copies_9 rfl ?_
        refine j_aload_n C 0 rfl dX12_copies_10 rfl ?_
        refine j_iload_n C 2 rfl dX12_copies_11 rfl ?_
        obtain ⟨g4, h⟩ := gd_elim h
        refine j_iald C tr_7 (ib_in g4) dX12_copies_12 ?_
        refine lt_elim h (fun x5 e_x5 h => ?_)
        refine j_top e_x5 ?_
        obtain ⟨g6, h⟩ := gd_elim h
        refine j_iast C tr_1 (ib_in g6) dX12_copies_13 ?_
        refine lt_elim h (fun V7 e_V7 h => ?_)
        refine j_V e_V7 ?_
        refine lt_elim h (fun x8 e_x8 h => ?_)
        refine j_iinc C [(3, .int x8), (1, .ref (ad 7)), (2, .ref (ad 1))] 2 dX12_copies_14 rfl ((iinc_eq ci_1).trans e_x8.symm) (by decide) rfl ?_
        refine j_goto (tgt := 2) C dX12_copies_17 (by decide) ?_
        exact j_sub [1, 2, 0] rfl (ih _ _ h)
  refine j_iconst C dX12_copies_0 ci_0 ?_
  refine j_istore_n C [(3, .int (0 : Int32)), (0, .ref (ad 0)), (1, .ref (ad 7)), (2, .ref (ad 1))] dX12_copies_1 rfl (by decide) rfl ?_
  exact j_sub [2, 3, 0] rfl (H_fX12_copies_0_7_1_L2 FU _ _ h)
def fX12_copies_0_8_2_L2 : Nat → Int32 → (Nat → Nat → Int32) → Option ((Nat → Nat → Int32))
  | 0, _, _ => none
  | n + 1, x1, V2 =>
    (if (6 : Int32) ≤ x1 then
    some V2
    else
    gd (ib x1 6) (
    lt ((V2 8 (x1).toNatClampNeg)) (fun x5 =>
    gd (ib x1 6) (
    lt (va_up V2 2 (upd (V2 2) (x1).toNatClampNeg x5)) (fun V7 =>
    lt (x1 + (1 : Int32)) (fun x8 =>
    fX12_copies_0_8_2_L2 n x8 V7))))))
def fX12_copies_0_8_2 (V : Nat → Nat → Int32) : Option ((Nat → Nat → Int32)) :=
  fX12_copies_0_8_2_L2 FU (0 : Int32) V
set_option maxHeartbeats 4000000 in
set_option maxRecDepth 100000 in
theorem kX12_copies_0_8_2 (l : Launch) (B : jBT) (D : va_G) (ad : Nat → Nat) (cA : Nat → ClassId) (hI : jI ad TR) (S : Nat → Int32) (V : Nat → Nat → Int32) (L : Nat → Int64) (V0 : Nat → Nat → Int32) (h : fX12_copies_0_8_2 V = some V0) : jM l yX12_copies cX12_copies 4 none ({ frames := 0, cells := 0, slots := 0, locals := 0 }) B D TR ad cA [.ref (ad 0), .ref (ad 8), .ref (ad 2)] S V L none S V0 L := by
  refine jM_of (plainFor_of_name (by decide)) TR_ok hI (Nat.le_of_ble_eq_true rfl) ?_
  intro p e s m args below meth c C hr hlk
  refine j_lv (lv2 := [(0, .ref (ad 0)), (1, .ref (ad 8)), (2, .ref (ad 2))]) rfl ?_
  unfold fX12_copies_0_8_2 at h
  have H_fX12_copies_0_8_2_L2 : ∀ (n : Nat) (x1 : Int32) (V2 : Nat → Nat → Int32), fX12_copies_0_8_2_L2 n x1 V2 = some V0 → jW p l e ({ frames := 0, cells := 0, slots := 0, locals := 0 }) s m args below meth c (MQ below (jQc D TR ad cA none s.heap.size S V0 L) args s 0 0 (jA ad TR s.heap.size)) D TR ad cA (jA ad TR s.heap.size) 4 0 0 2 [(1, .ref (ad 8)), (2, .ref (ad 2)), (3, .int x1)] [] S V2 L := by
    intro n
    induction n with
    | zero =>
      intro x1 V2 h
      cases (show (none : Option ((Nat → Nat → Int32))) = some V0 from h)
    | succ n ih =>
      intro x1 V2 h
      unfold fX12_copies_0_8_2_L2 at h
      refine j_iload_n C 2 rfl dX12_copies_2 rfl ?_
      refine j_aload_n C 0 rfl dX12_copies_3 rfl ?_
      refine j_alen (v := (6 : Int32)) C tr_8 (by decide) dX12_copies_4 ?_
      refine j_icmp_ge (tgt := 20) C dX12_copies_5 (by decide) (fun c3 => ?_) (fun c3 => ?_)
      · have h := (if_pos c3).symm.trans h
        cases h
        exact j_vret C hr hlk rfl dX12_copies_20
      · have h := (if_neg c3).symm.trans h
        refine j_aload_n C 1 rfl dX12_copies_8 rfl ?_
        refine j_iload_n C 2 rfl dX12_copies_9 rfl ?_
        refine j_aload_n C 0 rfl dX12_copies_10 rfl ?_
        refine j_iload_n C 2 rfl dX12_copies_11 rfl ?_
        obtain ⟨g4, h⟩ := gd_elim h
        refine j_iald C tr_8 (ib_in g4) dX12_copies_12 ?_
        refine lt_elim h (fun x5 e_x5 h => ?_)
        refine j_top e_x5 ?_
        obtain ⟨g6, h⟩ := gd_elim h
        refine j_iast C tr_2 (ib_in g6) dX12_copies_13 ?_
        refine lt_elim h (fun V7 e_V7 h => ?_)
        refine j_V e_V7 ?_
        refine lt_elim h (fun x8 e_x8 h => ?_)
        refine j_iinc C [(3, .int x8), (1, .ref (ad 8)), (2, .ref (ad 2))] 2 dX12_copies_14 rfl ((iinc_eq ci_1).trans e_x8.symm) (by decide) rfl ?_
        refine j_goto (tgt := 2) C dX12_copies_17 (by decide) ?_
        exact j_sub [1, 2, 0] rfl (ih _ _ h)
  refine j_iconst C dX12_copies_0 ci_0 ?_
  refine j_istore_n C [(3, .int (0 : Int32)), (0, .ref (ad 0)), (1, .ref (ad 8)), (2, .ref (ad 2))] dX12_copies_1 rfl (by decide) rfl ?_
  exact j_sub [2, 3, 0] rfl (H_fX12_copies_0_8_2_L2 FU _ _ h)
def fX12_copies_0_9_3_L2 : Nat → Int32 → (Nat → Nat → Int32) → Option ((Nat → Nat → Int32))
  | 0, _, _ => none
  | n + 1, x1, V2 =>
    (if (4 : Int32) ≤ x1 then
    some V2
    else
    gd (ib x1 4) (
    lt ((V2 9 (x1).toNatClampNeg)) (fun x5 =>
    gd (ib x1 4) (
    lt (va_up V2 3 (upd (V2 3) (x1).toNatClampNeg x5)) (fun V7 =>
    lt (x1 + (1 : Int32)) (fun x8 =>
    fX12_copies_0_9_3_L2 n x8 V7))))))
def fX12_copies_0_9_3 (V : Nat → Nat → Int32) : Option ((Nat → Nat → Int32)) :=
  fX12_copies_0_9_3_L2 FU (0 : Int32) V
set_option maxHeartbeats 4000000 in
set_option maxRecDepth 100000 in
theorem kX12_copies_0_9_3 (l : Launch) (B : jBT) (D : va_G) (ad : Nat → Nat) (cA : Nat → ClassId) (hI : jI ad TR) (S : Nat → Int32) (V : Nat → Nat → Int32) (L : Nat → Int64) (V0 : Nat → Nat → Int32) (h : fX12_copies_0_9_3 V = some V0) : jM l yX12_copies cX12_copies 4 none ({ frames := 0, cells := 0, slots := 0, locals := 0 }) B D TR ad cA [.ref (ad 0), .ref (ad 9), .ref (ad 3)] S V L none S V0 L := by
  refine jM_of (plainFor_of_name (by decide)) TR_ok hI (Nat.le_of_ble_eq_true rfl) ?_
  intro p e s m args below meth c C hr hlk
  refine j_lv (lv2 := [(0, .ref (ad 0)), (1, .ref (ad 9)), (2, .ref (ad 3))]) rfl ?_
  unfold fX12_copies_0_9_3 at h
  have H_fX12_copies_0_9_3_L2 : ∀ (n : Nat) (x1 : Int32) (V2 : Nat → Nat → Int32), fX12_copies_0_9_3_L2 n x1 V2 = some V0 → jW p l e ({ frames := 0, cells := 0, slots := 0, locals := 0 }) s m args below meth c (MQ below (jQc D TR ad cA none s.heap.size S V0 L) args s 0 0 (jA ad TR s.heap.size)) D TR ad cA (jA ad TR s.heap.size) 4 0 0 2 [(1, .ref (ad 9)), (2, .ref (ad 3)), (3, .int x1)] [] S V2 L := by
    intro n
    induction n with
    | zero =>
      intro x1 V2 h
      cases (show (none : Option ((Nat → Nat → Int32))) = some V0 from h)
    | succ n ih =>
      intro x1 V2 h
      unfold fX12_copies_0_9_3_L2 at h
      refine j_iload_n C 2 rfl dX12_copies_2 rfl ?_
      refine j_aload_n C 0 rfl dX12_copies_3 rfl ?_
      refine j_alen (v := (4 : Int32)) C tr_9 (by decide) dX12_copies_4 ?_
      refine j_icmp_ge (tgt := 20) C dX12_copies_5 (by decide) (fun c3 => ?_) (fun c3 => ?_)
      · have h := (if_pos c3).symm.trans h
        cases h
        exact j_vret C hr hlk rfl dX12_copies_20
      · have h := (if_neg c3).symm.trans h
        refine j_aload_n C 1 rfl dX12_copies_8 rfl ?_
        refine j_iload_n C 2 rfl dX12_copies_9 rfl ?_
        refine j_aload_n C 0 rfl dX12_copies_10 rfl ?_
        refine j_iload_n C 2 rfl dX12_copies_11 rfl ?_
        obtain ⟨g4, h⟩ := gd_elim h
        refine j_iald C tr_9 (ib_in g4) dX12_copies_12 ?_
        refine lt_elim h (fun x5 e_x5 h => ?_)
        refine j_top e_x5 ?_
        obtain ⟨g6, h⟩ := gd_elim h
        refine j_iast C tr_3 (ib_in g6) dX12_copies_13 ?_
        refine lt_elim h (fun V7 e_V7 h => ?_)
        refine j_V e_V7 ?_
        refine lt_elim h (fun x8 e_x8 h => ?_)
        refine j_iinc C [(3, .int x8), (1, .ref (ad 9)), (2, .ref (ad 3))] 2 dX12_copies_14 rfl ((iinc_eq ci_1).trans e_x8.symm) (by decide) rfl ?_
        refine j_goto (tgt := 2) C dX12_copies_17 (by decide) ?_
        exact j_sub [1, 2, 0] rfl (ih _ _ h)
  refine j_iconst C dX12_copies_0 ci_0 ?_
  refine j_istore_n C [(3, .int (0 : Int32)), (0, .ref (ad 0)), (1, .ref (ad 9)), (2, .ref (ad 3))] dX12_copies_1 rfl (by decide) rfl ?_
  exact j_sub [2, 3, 0] rfl (H_fX12_copies_0_9_3_L2 FU _ _ h)
def fX12_copies_0_10_4_L2 : Nat → Int32 → (Nat → Nat → Int32) → Option ((Nat → Nat → Int32))
  | 0, _, _ => none
  | n + 1, x1, V2 =>
    (if (1600 : Int32) ≤ x1 then
    some V2
    else
    gd (ib x1 1600) (
    lt ((V2 10 (x1).toNatClampNeg)) (fun x5 =>
    gd (ib x1 1600) (
    lt (va_up V2 4 (upd (V2 4) (x1).toNatClampNeg x5)) (fun V7 =>
    lt (x1 + (1 : Int32)) (fun x8 =>
    fX12_copies_0_10_4_L2 n x8 V7))))))
def fX12_copies_0_10_4 (V : Nat → Nat → Int32) : Option ((Nat → Nat → Int32)) :=
  fX12_copies_0_10_4_L2 FU (0 : Int32) V
set_option maxHeartbeats 4000000 in
set_option maxRecDepth 100000 in
theorem kX12_copies_0_10_4 (l : Launch) (B : jBT) (D : va_G) (ad : Nat → Nat) (cA : Nat → ClassId) (hI : jI ad TR) (S : Nat → Int32) (V : Nat → Nat → Int32) (L : Nat → Int64) (V0 : Nat → Nat → Int32) (h : fX12_copies_0_10_4 V = some V0) : jM l yX12_copies cX12_copies 4 none ({ frames := 0, cells := 0, slots := 0, locals := 0 }) B D TR ad cA [.ref (ad 0), .ref (ad 10), .ref (ad 4)] S V L none S V0 L := by
  refine jM_of (plainFor_of_name (by decide)) TR_ok hI (Nat.le_of_ble_eq_true rfl) ?_
  intro p e s m args below meth c C hr hlk
  refine j_lv (lv2 := [(0, .ref (ad 0)), (1, .ref (ad 10)), (2, .ref (ad 4))]) rfl ?_
  unfold fX12_copies_0_10_4 at h
  have H_fX12_copies_0_10_4_L2 : ∀ (n : Nat) (x1 : Int32) (V2 : Nat → Nat → Int32), fX12_copies_0_10_4_L2 n x1 V2 = some V0 → jW p l e ({ frames := 0, cells := 0, slots := 0, locals := 0 }) s m args below meth c (MQ below (jQc D TR ad cA none s.heap.size S V0 L) args s 0 0 (jA ad TR s.heap.size)) D TR ad cA (jA ad TR s.heap.size) 4 0 0 2 [(1, .ref (ad 10)), (2, .ref (ad 4)), (3, .int x1)] [] S V2 L := by
    intro n
    induction n with
    | zero =>
      intro x1 V2 h
      cases (show (none : Option ((Nat → Nat → Int32))) = some V0 from h)
    | succ n ih =>
      intro x1 V2 h
      unfold fX12_copies_0_10_4_L2 at h
      refine j_iload_n C 2 rfl dX12_copies_2 rfl ?_
      refine j_aload_n C 0 rfl dX12_copies_3 rfl ?_
      refine j_alen (v := (1600 : Int32)) C tr_10 (by decide) dX12_copies_4 ?_
      refine j_icmp_ge (tgt := 20) C dX12_copies_5 (by decide) (fun c3 => ?_) (fun c3 => ?_)
      · have h := (if_pos c3).symm.trans h
        cases h
        exact j_vret C hr hlk rfl dX12_copies_20
      · have h := (if_neg c3).symm.trans h
        refine j_aload_n C 1 rfl dX12_copies_8 rfl ?_
        refine j_iload_n C 2 rfl dX12_copies_9 rfl ?_
        refine j_aload_n C 0 rfl dX12_copies_10 rfl ?_
        refine j_iload_n C 2 rfl dX12_copies_11 rfl ?_
        obtain ⟨g4, h⟩ := gd_elim h
        refine j_iald C tr_10 (ib_in g4) dX12_copies_12 ?_
        refine lt_elim h (fun x5 e_x5 h => ?_)
        refine j_top e_x5 ?_
        obtain ⟨g6, h⟩ := gd_elim h
        refine j_iast C tr_4 (ib_in g6) dX12_copies_13 ?_
        refine lt_elim h (fun V7 e_V7 h => ?_)
        refine j_V e_V7 ?_
        refine lt_elim h (fun x8 e_x8 h => ?_)
        refine j_iinc C [(3, .int x8), (1, .ref (ad 10)), (2, .ref (ad 4))] 2 dX12_copies_14 rfl ((iinc_eq ci_1).trans e_x8.symm) (by decide) rfl ?_
        refine j_goto (tgt := 2) C dX12_copies_17 (by decide) ?_
        exact j_sub [1, 2, 0] rfl (ih _ _ h)
  refine j_iconst C dX12_copies_0 ci_0 ?_
  refine j_istore_n C [(3, .int (0 : Int32)), (0, .ref (ad 0)), (1, .ref (ad 10)), (2, .ref (ad 4))] dX12_copies_1 rfl (by decide) rfl ?_
  exact j_sub [2, 3, 0] rfl (H_fX12_copies_0_10_4_L2 FU _ _ h)
theorem dX12_need_0 : decode cX12_need 0 = .ok (.aload_n 0, 1) := by decide +kernel
theorem dX12_need_1 : decode cX12_need 1 = .ok (.invokevirtual 152, 3) := by decide +kernel
theorem dX12_need_4 : decode cX12_need 4 = .ok (.ifCond .ne 4, 3) := by decide +kernel
theorem dX12_need_7 : decode cX12_need 7 = .ok (.return_, 1) := by decide +kernel
theorem dX12_need_8 : decode cX12_need 8 = .ok (.iload_n 1, 1) := by decide +kernel
theorem dX12_need_9 : decode cX12_need 9 = .ok (.ifCond .eq 10, 3) := by decide +kernel
theorem dX12_need_12 : decode cX12_need 12 = .ok (.aload_n 0, 1) := by decide +kernel
theorem dX12_need_13 : decode cX12_need 13 = .ok (.invokevirtual 156, 3) := by decide +kernel
theorem dX12_need_16 : decode cX12_need 16 = .ok (.goto 8, 3) := by decide +kernel
theorem dX12_need_19 : decode cX12_need 19 = .ok (.aload_n 0, 1) := by decide +kernel
theorem dX12_need_20 : decode cX12_need 20 = .ok (.iconst 1, 1) := by decide +kernel
theorem dX12_need_21 : decode cX12_need 21 = .ok (.invokevirtual 159, 3) := by decide +kernel
theorem dX12_need_24 : decode cX12_need 24 = .ok (.return_, 1) := by decide +kernel
def fX12_need_0 (S : Nat → Int32) (V : Nat → Nat → Int32) (L : Nat → Int64) (a1 : Int32) : Option ((Nat → Int32) × (Nat → Int64)) :=
  bd1 (fX12_isGood_0 S) (fun r1 =>
  (if r1 = 0 then
  some (S, L)
  else
  (if a1 = 0 then
  bd1 (fX12_wrong_0 S (1 : Int32)) (fun S5 =>
  some (S5, L))
  else
  bd2 (fX12_goes_0 S V L) (fun S7 L8 =>
  some (S7, L8)))))
set_option maxHeartbeats 4000000 in
set_option maxRecDepth 100000 in
theorem kX12_need_0 (l : Launch) (B : jBT) (D : va_G) (ad : Nat → Nat) (cA : Nat → ClassId) (hI : jI ad TR) (S : Nat → Int32) (V : Nat → Nat → Int32) (L : Nat → Int64) (a1 : Int32) (S0 : Nat → Int32) (L0 : Nat → Int64) (h : fX12_need_0 S V L a1 = some (S0, L0)) : jM l yX12_need cX12_need 2 none ({ frames := 2, cells := 0, slots := 0, locals := 42 }) B D TR ad cA [.ref (ad 0), .int a1] S V L none S0 V L0 := by
  refine jM_of (plainFor_of_name (by decide)) TR_ok hI (Nat.le_of_ble_eq_true rfl) ?_
  intro p e s m args below meth c C hr hlk
  refine j_lv (lv2 := [(0, .ref (ad 0)), (1, .int a1)]) rfl ?_
  unfold fX12_need_0 at h
  refine j_aload_n C 0 rfl dX12_need_0 rfl ?_
  obtain ⟨r1, h2, h⟩ := bd1_elim h
  refine j_callV (As := []) (rest := []) C (kX12_isGood_0 l B D ad cA hI S V L _ h2) mw_X12_isGood wd1656 wd59 wd1654 tr_0 rfl rfl ⟨rfl, rfl, by decide, by decide⟩ ⟨Nat.zero_le _, Nat.zero_le _⟩ rfl rfl (Nat.le_of_ble_eq_true rfl) dX12_need_1 ?_
  refine j_if_ne (tgt := 8) C dX12_need_4 (by decide) (fun c3 => ?_) (fun c3 => ?_)
  · have h := (if_neg c3).symm.trans h
    refine j_iload_n C 1 rfl dX12_need_8 rfl ?_
    refine j_if_eq (tgt := 19) C dX12_need_9 (by decide) (fun c4 => ?_) (fun c4 => ?_)
    · have h := (if_pos c4).symm.trans h
      refine j_aload_n C 0 rfl dX12_need_19 rfl ?_
      refine j_iconst C dX12_need_20 ci_1 ?_
      obtain ⟨S5, h6, h⟩ := bd1_elim h
      refine j_callV (As := [.int (1 : Int32)]) (rest := []) C (kX12_wrong_0 l B D ad cA hI S V L (1 : Int32) _ h6) mw_X12_wrong wd1679 wd63 wd1677 tr_0 rfl rfl ⟨rfl, rfl, by decide, by decide⟩ ⟨Nat.zero_le _, Nat.zero_le _⟩ rfl rfl (Nat.le_of_ble_eq_true rfl) dX12_need_21 ?_
      cases h
      exact j_vret C hr hlk rfl dX12_need_24
    · have h := (if_neg c4).symm.trans h
      refine j_aload_n C 0 rfl dX12_need_12 rfl ?_
      obtain ⟨S7, L8, h9, h⟩ := bd2_elim h
      refine j_callV (As := []) (rest := []) C (kX12_goes_0 l B D ad cA hI S V L _ _ h9) mw_X12_goes wd1642 wd57 wd1640 tr_0 rfl rfl ⟨rfl, rfl, by decide, by decide⟩ ⟨Nat.zero_le _, Nat.zero_le _⟩ rfl rfl (Nat.le_of_ble_eq_true rfl) dX12_need_13 ?_
      refine j_goto (tgt := 24) C dX12_need_16 (by decide) ?_
      cases h
      exact j_vret C hr hlk rfl dX12_need_24
  · have h := (if_pos c3).symm.trans h
    cases h
    exact j_vret C hr hlk rfl dX12_need_7
theorem dX12_readsQuarrel_0 : decode cX12_readsQuarrel 0 = .ok (.aload_n 0, 1) := by decide +kernel
theorem dX12_readsQuarrel_1 : decode cX12_readsQuarrel 1 = .ok (.getfield 222, 3) := by decide +kernel
theorem dX12_readsQuarrel_4 : decode cX12_readsQuarrel 4 = .ok (.bipush 8, 2) := by decide +kernel
theorem dX12_readsQuarrel_6 : decode cX12_readsQuarrel 6 = .ok (.if_icmp .ne 8, 3) := by decide +kernel
theorem dX12_readsQuarrel_9 : decode cX12_readsQuarrel 9 = .ok (.aload_n 0, 1) := by decide +kernel
theorem dX12_readsQuarrel_10 : decode cX12_readsQuarrel 10 = .ok (.iconst 2, 1) := by decide +kernel
theorem dX12_readsQuarrel_11 : decode cX12_readsQuarrel 11 = .ok (.invokevirtual 159, 3) := by decide +kernel
theorem dX12_readsQuarrel_14 : decode cX12_readsQuarrel 14 = .ok (.aload_n 0, 1) := by decide +kernel
theorem dX12_readsQuarrel_15 : decode cX12_readsQuarrel 15 = .ok (.invokevirtual 152, 3) := by decide +kernel
theorem dX12_readsQuarrel_18 : decode cX12_readsQuarrel 18 = .ok (.ifCond .ne 4, 3) := by decide +kernel
theorem dX12_readsQuarrel_21 : decode cX12_readsQuarrel 21 = .ok (.return_, 1) := by decide +kernel
theorem dX12_readsQuarrel_22 : decode cX12_readsQuarrel 22 = .ok (.aload_n 0, 1) := by decide +kernel
theorem dX12_readsQuarrel_23 : decode cX12_readsQuarrel 23 = .ok (.invokevirtual 156, 3) := by decide +kernel
theorem dX12_readsQuarrel_26 : decode cX12_readsQuarrel 26 = .ok (.aload_n 0, 1) := by decide +kernel
theorem dX12_readsQuarrel_27 : decode cX12_readsQuarrel 27 = .ok (.aload_n 0, 1) := by decide +kernel
theorem dX12_readsQuarrel_28 : decode cX12_readsQuarrel 28 = .ok (.getfield 212, 3) := by decide +kernel
theorem dX12_readsQuarrel_31 : decode cX12_readsQuarrel 31 = .ok (.invokevirtual 225, 3) := by decide +kernel
theorem dX12_readsQuarrel_34 : decode cX12_readsQuarrel 34 = .ok (.ifCond .eq 10, 3) := by decide +kernel
theorem dX12_readsQuarrel_37 : decode cX12_readsQuarrel 37 = .ok (.aload_n 0, 1) := by decide +kernel
theorem dX12_readsQuarrel_38 : decode cX12_readsQuarrel 38 = .ok (.getfield 120, 3) := by decide +kernel
theorem dX12_readsQuarrel_41 : decode cX12_readsQuarrel 41 = .ok (.goto 4, 3) := by decide +kernel
theorem dX12_readsQuarrel_44 : decode cX12_readsQuarrel 44 = .ok (.iconst 0, 1) := by decide +kernel
theorem dX12_readsQuarrel_45 : decode cX12_readsQuarrel 45 = .ok (.istore_n 1, 1) := by decide +kernel
theorem dX12_readsQuarrel_46 : decode cX12_readsQuarrel 46 = .ok (.aload_n 0, 1) := by decide +kernel
theorem dX12_readsQuarrel_47 : decode cX12_readsQuarrel 47 = .ok (.invokevirtual 152, 3) := by decide +kernel
theorem dX12_readsQuarrel_50 : decode cX12_readsQuarrel 50 = .ok (.ifCond .eq 7, 3) := by decide +kernel
theorem dX12_readsQuarrel_53 : decode cX12_readsQuarrel 53 = .ok (.aload_n 0, 1) := by decide +kernel
theorem dX12_readsQuarrel_54 : decode cX12_readsQuarrel 54 = .ok (.invokevirtual 156, 3) := by decide +kernel
theorem dX12_readsQuarrel_57 : decode cX12_readsQuarrel 57 = .ok (.aload_n 0, 1) := by decide +kernel
theorem dX12_readsQuarrel_58 : decode cX12_readsQuarrel 58 = .ok (.aload_n 0, 1) := by decide +kernel
theorem dX12_readsQuarrel_59 : decode cX12_readsQuarrel 59 = .ok (.getfield 212, 3) := by decide +kernel
theorem dX12_readsQuarrel_62 : decode cX12_readsQuarrel 62 = .ok (.invokevirtual 225, 3) := by decide +kernel
theorem dX12_readsQuarrel_65 : decode cX12_readsQuarrel 65 = .ok (.ifCond .eq 33, 3) := by decide +kernel
theorem dX12_readsQuarrel_68 : decode cX12_readsQuarrel 68 = .ok (.aload_n 0, 1) := by decide +kernel
theorem dX12_readsQuarrel_69 : decode cX12_readsQuarrel 69 = .ok (.getfield 120, 3) := by decide +kernel
theorem dX12_readsQuarrel_72 : decode cX12_readsQuarrel 72 = .ok (.iload_n 1, 1) := by decide +kernel
theorem dX12_readsQuarrel_73 : decode cX12_readsQuarrel 73 = .ok (.if_icmp .eq 20, 3) := by decide +kernel
theorem dX12_readsQuarrel_76 : decode cX12_readsQuarrel 76 = .ok (.aload_n 0, 1) := by decide +kernel
theorem dX12_readsQuarrel_77 : decode cX12_readsQuarrel 77 = .ok (.getfield 44, 3) := by decide +kernel
theorem dX12_readsQuarrel_80 : decode cX12_readsQuarrel 80 = .ok (.iload_n 1, 1) := by decide +kernel
theorem dX12_readsQuarrel_81 : decode cX12_readsQuarrel 81 = .ok (.iaload, 1) := by decide +kernel
theorem dX12_readsQuarrel_82 : decode cX12_readsQuarrel 82 = .ok (.aload_n 0, 1) := by decide +kernel
theorem dX12_readsQuarrel_83 : decode cX12_readsQuarrel 83 = .ok (.getfield 120, 3) := by decide +kernel
theorem dX12_readsQuarrel_86 : decode cX12_readsQuarrel 86 = .ok (.ishr, 1) := by decide +kernel
theorem dX12_readsQuarrel_87 : decode cX12_readsQuarrel 87 = .ok (.iconst 1, 1) := by decide +kernel
theorem dX12_readsQuarrel_88 : decode cX12_readsQuarrel 88 = .ok (.iand, 1) := by decide +kernel
theorem dX12_readsQuarrel_89 : decode cX12_readsQuarrel 89 = .ok (.iconst 1, 1) := by decide +kernel
theorem dX12_readsQuarrel_90 : decode cX12_readsQuarrel 90 = .ok (.if_icmp .ne 8, 3) := by decide +kernel
theorem dX12_readsQuarrel_93 : decode cX12_readsQuarrel 93 = .ok (.aload_n 0, 1) := by decide +kernel
theorem dX12_readsQuarrel_94 : decode cX12_readsQuarrel 94 = .ok (.iconst 4, 1) := by decide +kernel
theorem dX12_readsQuarrel_95 : decode cX12_readsQuarrel 95 = .ok (.invokevirtual 159, 3) := by decide +kernel
theorem dX12_readsQuarrel_98 : decode cX12_readsQuarrel 98 = .ok (.aload_n 0, 1) := by decide +kernel
theorem dX12_readsQuarrel_99 : decode cX12_readsQuarrel 99 = .ok (.invokevirtual 152, 3) := by decide +kernel
theorem dX12_readsQuarrel_102 : decode cX12_readsQuarrel 102 = .ok (.ifCond .ne 4, 3) := by decide +kernel
theorem dX12_readsQuarrel_105 : decode cX12_readsQuarrel 105 = .ok (.return_, 1) := by decide +kernel
theorem dX12_readsQuarrel_106 : decode cX12_readsQuarrel 106 = .ok (.aload_n 0, 1) := by decide +kernel
theorem dX12_readsQuarrel_107 : decode cX12_readsQuarrel 107 = .ok (.getfield 44, 3) := by decide +kernel
theorem dX12_readsQuarrel_110 : decode cX12_readsQuarrel 110 = .ok (.iload_n 1, 1) := by decide +kernel
theorem dX12_readsQuarrel_111 : decode cX12_readsQuarrel 111 = .ok (.dup2, 1) := by decide +kernel
theorem dX12_readsQuarrel_112 : decode cX12_readsQuarrel 112 = .ok (.iaload, 1) := by decide +kernel
theorem dX12_readsQuarrel_113 : decode cX12_readsQuarrel 113 = .ok (.iconst 1, 1) := by decide +kernel
theorem dX12_readsQuarrel_114 : decode cX12_readsQuarrel 114 = .ok (.aload_n 0, 1) := by decide +kernel
theorem dX12_readsQuarrel_115 : decode cX12_readsQuarrel 115 = .ok (.getfield 120, 3) := by decide +kernel
theorem dX12_readsQuarrel_118 : decode cX12_readsQuarrel 118 = .ok (.ishl, 1) := by decide +kernel
theorem dX12_readsQuarrel_119 : decode cX12_readsQuarrel 119 = .ok (.ior, 1) := by decide +kernel
theorem dX12_readsQuarrel_120 : decode cX12_readsQuarrel 120 = .ok (.iastore, 1) := by decide +kernel
theorem dX12_readsQuarrel_121 : decode cX12_readsQuarrel 121 = .ok (.aload_n 0, 1) := by decide +kernel
theorem dX12_readsQuarrel_122 : decode cX12_readsQuarrel 122 = .ok (.getfield 44, 3) := by decide +kernel
theorem dX12_readsQuarrel_125 : decode cX12_readsQuarrel 125 = .ok (.aload_n 0, 1) := by decide +kernel
theorem dX12_readsQuarrel_126 : decode cX12_readsQuarrel 126 = .ok (.getfield 120, 3) := by decide +kernel
theorem dX12_readsQuarrel_129 : decode cX12_readsQuarrel 129 = .ok (.dup2, 1) := by decide +kernel
theorem dX12_readsQuarrel_130 : decode cX12_readsQuarrel 130 = .ok (.iaload, 1) := by decide +kernel
theorem dX12_readsQuarrel_131 : decode cX12_readsQuarrel 131 = .ok (.iconst 1, 1) := by decide +kernel
theorem dX12_readsQuarrel_132 : decode cX12_readsQuarrel 132 = .ok (.iload_n 1, 1) := by decide +kernel
theorem dX12_readsQuarrel_133 : decode cX12_readsQuarrel 133 = .ok (.ishl, 1) := by decide +kernel
theorem dX12_readsQuarrel_134 : decode cX12_readsQuarrel 134 = .ok (.ior, 1) := by decide +kernel
theorem dX12_readsQuarrel_135 : decode cX12_readsQuarrel 135 = .ok (.iastore, 1) := by decide +kernel
theorem dX12_readsQuarrel_136 : decode cX12_readsQuarrel 136 = .ok (.aload_n 0, 1) := by decide +kernel
theorem dX12_readsQuarrel_137 : decode cX12_readsQuarrel 137 = .ok (.dup, 1) := by decide +kernel
theorem dX12_readsQuarrel_138 : decode cX12_readsQuarrel 138 = .ok (.getfield 222, 3) := by decide +kernel
theorem dX12_readsQuarrel_141 : decode cX12_readsQuarrel 141 = .ok (.iconst 1, 1) := by decide +kernel
theorem dX12_readsQuarrel_142 : decode cX12_readsQuarrel 142 = .ok (.iadd, 1) := by decide +kernel
theorem dX12_readsQuarrel_143 : decode cX12_readsQuarrel 143 = .ok (.putfield 222, 3) := by decide +kernel
theorem dX12_readsQuarrel_146 : decode cX12_readsQuarrel 146 = .ok (.aload_n 0, 1) := by decide +kernel
theorem dX12_readsQuarrel_147 : decode cX12_readsQuarrel 147 = .ok (.invokevirtual 156, 3) := by decide +kernel
theorem dX12_readsQuarrel_150 : decode cX12_readsQuarrel 150 = .ok (.return_, 1) := by decide +kernel
def fX12_readsQuarrel_0 (S : Nat → Int32) (V : Nat → Nat → Int32) (L : Nat → Int64) : Option ((Nat → Int32) × (Nat → Nat → Int32) × (Nat → Int64)) :=
  bk (fun (S2 : Nat → Int32) (V3 : Nat → Nat → Int32) (L4 : Nat → Int64) =>
  bd1 (fX12_isGood_0 S2) (fun r5 =>
  (if r5 = 0 then
  some (S2, V3, L4)
  else
  bd2 (fX12_goes_0 S2 V3 L4) (fun S8 L9 =>
  bd2 (fX12_amongHere_0 S8 ((S8 29))) (fun r11 S12 =>
  bk (fun (x15 : Int32) (S16 : Nat → Int32) (V17 : Nat → Nat → Int32) (L18 : Nat → Int64) =>
  bd1 (fX12_isGood_0 S16) (fun r19 =>
  bk (fun (x22 : Int32) (S23 : Nat → Int32) (V24 : Nat → Nat → Int32) (L25 : Nat → Int64) =>
  bd2 (fX12_amongHere_0 S23 ((S23 29))) (fun r26 S27 =>
  bk (fun (x30 : Int32) (S31 : Nat → Int32) (V32 : Nat → Nat → Int32) (L33 : Nat → Int64) =>
  bd1 (fX12_isGood_0 S31) (fun r34 =>
  (if r34 = 0 then
  some (S31, V32, L33)
  else
  gd (ib x30 6) (
  lt (((V32 8 (x30).toNatClampNeg) ||| ((1 : Int32) <<< ((S31 22) &&& 31)))) (fun x38 =>
  gd (ib x30 6) (
  lt (va_up V32 8 (upd (V32 8) (x30).toNatClampNeg x38)) (fun V40 =>
  lt ((S31 22)) (fun x41 =>
  gd (ib x41 6) (
  lt (((V40 8 (x41).toNatClampNeg) ||| ((1 : Int32) <<< (x30 &&& 31)))) (fun x43 =>
  gd (ib x41 6) (
  lt (va_up V40 8 (upd (V40 8) (x41).toNatClampNeg x43)) (fun V45 =>
  lt (((S31 30) + (1 : Int32))) (fun x46 =>
  lt (va_up S31 30 x46) (fun S47 =>
  bd2 (fX12_goes_0 S47 V45 L33) (fun S48 L49 =>
  some (S48, V45, L49)))))))))))))))) (fun K98_29 =>
  (if r26 = 0 then
  K98_29 x22 S27 V24 L25
  else
  bk (fun (x53 : Int32) (S54 : Nat → Int32) (V55 : Nat → Nat → Int32) (L56 : Nat → Int64) =>
  bd1 (fX12_wrong_0 S54 (4 : Int32)) (fun S57 =>
  K98_29 x53 S57 V55 L56)) (fun K93_52 =>
  (if (S27 22) = x22 then
  K93_52 x22 S27 V24 L25
  else
  gd (ib x22 6) (
  (if (((V24 8 (x22).toNatClampNeg) >>> ((S27 22) &&& 31)) &&& (1 : Int32)) = (1 : Int32) then
  K93_52 x22 S27 V24 L25
  else
  K98_29 x22 S27 V24 L25)))))))) (fun K57_21 =>
  (if r19 = 0 then
  K57_21 x15 S16 V17 L18
  else
  bd2 (fX12_goes_0 S16 V17 L18) (fun S63 L64 =>
  K57_21 x15 S63 V17 L64))))) (fun K45_14 =>
  (if r11 = 0 then
  K45_14 (0 : Int32) S12 V3 L9
  else
  K45_14 ((S12 22)) S12 V3 L9))))))) (fun K14_1 =>
  (if (S 30) = (8 : Int32) then
  bd1 (fX12_wrong_0 S (2 : Int32)) (fun S68 =>
  K14_1 S68 V L)
  else
  K14_1 S V L))
set_option maxHeartbeats 4000000 in
set_option maxRecDepth 100000 in
theorem kX12_readsQuarrel_0 (l : Launch) (B : jBT) (D : va_G) (ad : Nat → Nat) (cA : Nat → ClassId) (hI : jI ad TR) (S : Nat → Int32) (V : Nat → Nat → Int32) (L : Nat → Int64) (S0 : Nat → Int32) (V0 : Nat → Nat → Int32) (L0 : Nat → Int64) (h : fX12_readsQuarrel_0 S V L = some (S0, V0, L0)) : jM l yX12_readsQuarrel cX12_readsQuarrel 2 none ({ frames := 2, cells := 0, slots := 0, locals := 42 }) B D TR ad cA [.ref (ad 0)] S V L none S0 V0 L0 := by
  refine jM_of (plainFor_of_name (by decide)) TR_ok hI (Nat.le_of_ble_eq_true rfl) ?_
  intro p e s m args below meth c C hr hlk
  refine j_lv (lv2 := [(0, .ref (ad 0))]) rfl ?_
  unfold fX12_readsQuarrel_0 at h
  refine j_aload_n C 0 rfl dX12_readsQuarrel_0 rfl ?_
  refine fg_X12_222_TR_0 C dX12_readsQuarrel_1 ?_
  refine j_bipush C dX12_readsQuarrel_4 cb_8 ?_
  refine bk_elim h (fun K14_1 e_K14_1 h => ?_)
  have HK14_1 : ∀ (S2 : Nat → Int32) (V3 : Nat → Nat → Int32) (L4 : Nat → Int64), K14_1 S2 V3 L4 = some (S0, V0, L0) → jW p l e ({ frames := 2, cells := 0, slots := 0, locals := 42 }) s m args below meth c (MQ below (jQc D TR ad cA none s.heap.size S0 V0 L0) args s 0 0 (jA ad TR s.heap.size)) D TR ad cA (jA ad TR s.heap.size) 2 0 0 14 [(0, .ref (ad 0))] [] S2 V3 L4 := by
    subst e_K14_1
    intro S2 V3 L4 h
    refine j_aload_n C 0 rfl dX12_readsQuarrel_14 rfl ?_
    obtain ⟨r5, h6, h⟩ := bd1_elim h
    refine j_callV (As := []) (rest := []) C (kX12_isGood_0 l B D ad cA hI S2 V3 L4 _ h6) mw_X12_isGood wd1656 wd59 wd1654 tr_0 rfl rfl ⟨rfl, rfl, by decide, by decide⟩ ⟨Nat.zero_le _, Nat.zero_le _⟩ rfl rfl (Nat.le_of_ble_eq_true rfl) dX12_readsQuarrel_15 ?_
    refine j_if_ne (tgt := 22) C dX12_readsQuarrel_18 (by decide) (fun c7 => ?_) (fun c7 => ?_)
    · have h := (if_neg c7).symm.trans h
      refine j_aload_n C 0 rfl dX12_readsQuarrel_22 rfl ?_
      obtain ⟨S8, L9, h10, h⟩ := bd2_elim h
      refine j_callV (As := []) (rest := []) C (kX12_goes_0 l B D ad cA hI S2 V3 L4 _ _ h10) mw_X12_goes wd1642 wd57 wd1640 tr_0 rfl rfl ⟨rfl, rfl, by decide, by decide⟩ ⟨Nat.zero_le _, Nat.zero_le _⟩ rfl rfl (Nat.le_of_ble_eq_true rfl) dX12_readsQuarrel_23 ?_
      refine j_aload_n C 0 rfl dX12_readsQuarrel_26 rfl ?_
      refine j_aload_n C 0 rfl dX12_readsQuarrel_27 rfl ?_
      refine fg_X12_212_TR_0 C dX12_readsQuarrel_28 ?_
      obtain ⟨r11, S12, h13, h⟩ := bd2_elim h
      refine j_callV (As := [.int (S8 29)]) (rest := []) C (kX12_amongHere_0 l B D ad cA hI S8 V3 L9 ((S8 29)) _ _ h13) mw_X12_amongHere wd1699 wd68 wd1697 tr_0 rfl rfl ⟨rfl, rfl, by decide, by decide⟩ ⟨Nat.zero_le _, Nat.zero_le _⟩ rfl rfl (Nat.le_of_ble_eq_true rfl) dX12_readsQuarrel_31 ?_
      refine bk_elim h (fun K45_14 e_K45_14 h => ?_)
      have HK45_14 : ∀ (x15 : Int32) (S16 : Nat → Int32) (V17 : Nat → Nat → Int32) (L18 : Nat → Int64), K45_14 x15 S16 V17 L18 = some (S0, V0, L0) → jW p l e ({ frames := 2, cells := 0, slots := 0, locals := 42 }) s m args below meth c (MQ below (jQc D TR ad cA none s.heap.size S0 V0 L0) args s 0 0 (jA ad TR s.heap.size)) D TR ad cA (jA ad TR s.heap.size) 2 0 0 45 [(0, .ref (ad 0))] [.int x15] S16 V17 L18 := by
        subst e_K45_14
        intro x15 S16 V17 L18 h
        refine j_istore_n C [(1, .int x15), (0, .ref (ad 0))] dX12_readsQuarrel_45 rfl (by decide) rfl ?_
        refine j_aload_n C 1 rfl dX12_readsQuarrel_46 rfl ?_
        obtain ⟨r19, h20, h⟩ := bd1_elim h
        refine j_callV (As := []) (rest := []) C (kX12_isGood_0 l B D ad cA hI S16 V17 L18 _ h20) mw_X12_isGood wd1656 wd59 wd1654 tr_0 rfl rfl ⟨rfl, rfl, by decide, by decide⟩ ⟨Nat.zero_le _, Nat.zero_le _⟩ rfl rfl (Nat.le_of_ble_eq_true rfl) dX12_readsQuarrel_47 ?_
        refine bk_elim h (fun K57_21 e_K57_21 h => ?_)
        have HK57_21 : ∀ (x22 : Int32) (S23 : Nat → Int32) (V24 : Nat → Nat → Int32) (L25 : Nat → Int64), K57_21 x22 S23 V24 L25 = some (S0, V0, L0) → jW p l e ({ frames := 2, cells := 0, slots := 0, locals := 42 }) s m args below meth c (MQ below (jQc D TR ad cA none s.heap.size S0 V0 L0) args s 0 0 (jA ad TR s.heap.size)) D TR ad cA (jA ad TR s.heap.size) 2 0 0 57 [(0, .ref (ad 0)), (1, .int x22)] [] S23 V24 L25 := by
          subst e_K57_21
          intro x22 S23 V24 L25 h
          refine j_aload_n C 0 rfl dX12_readsQuarrel_57 rfl ?_
          refine j_aload_n C 0 rfl dX12_readsQuarrel_58 rfl ?_
          refine fg_X12_212_TR_0 C dX12_readsQuarrel_59 ?_
          obtain ⟨r26, S27, h28, h⟩ := bd2_elim h
          refine j_callV (As := [.int (S23 29)]) (rest := []) C (kX12_amongHere_0 l B D ad cA hI S23 V24 L25 ((S23 29)) _ _ h28) mw_X12_amongHere wd1699 wd68 wd1697 tr_0 rfl rfl ⟨rfl, rfl, by decide, by decide⟩ ⟨Nat.zero_le _, Nat.zero_le _⟩ rfl rfl (Nat.le_of_ble_eq_true rfl) dX12_readsQuarrel_62 ?_
          refine bk_elim h (fun K98_29 e_K98_29 h => ?_)
          have HK98_29 : ∀ (x30 : Int32) (S31 : Nat → Int32) (V32 : Nat → Nat → Int32) (L33 : Nat → Int64), K98_29 x30 S31 V32 L33 = some (S0, V0, L0) → jW p l e ({ frames := 2, cells := 0, slots := 0, locals := 42 }) s m args below meth c (MQ below (jQc D TR ad cA none s.heap.size S0 V0 L0) args s 0 0 (jA ad TR s.heap.size)) D TR ad cA (jA ad TR s.heap.size) 2 0 0 98 [(0, .ref (ad 0)), (1, .int x30)] [] S31 V32 L33 := by
            subst e_K98_29
            intro x30 S31 V32 L33 h
            refine j_aload_n C 0 rfl dX12_readsQuarrel_98 rfl ?_
            obtain ⟨r34, h35, h⟩ := bd1_elim h
            refine j_callV (As := []) (rest := []) C (kX12_isGood_0 l B D ad cA hI S31 V32 L33 _ h35) mw_X12_isGood wd1656 wd59 wd1654 tr_0 rfl rfl ⟨rfl, rfl, by decide, by decide⟩ ⟨Nat.zero_le _, Nat.zero_le _⟩ rfl rfl (Nat.le_of_ble_eq_true rfl) dX12_readsQuarrel_99 ?_
            refine j_if_ne (tgt := 106) C dX12_readsQuarrel_102 (by decide) (fun c36 => ?_) (fun c36 => ?_)
            · have h := (if_neg c36).symm.trans h
              refine j_aload_n C 0 rfl dX12_readsQuarrel_106 rfl ?_
              refine fg_X12_44_TR_0 C dX12_readsQuarrel_107 ?_
              refine j_iload_n C 1 rfl dX12_readsQuarrel_110 rfl ?_
              refine j_dup2_11 C dX12_readsQuarrel_111 rfl rfl ?_
              obtain ⟨g37, h⟩ := gd_elim h
              refine j_iald C tr_8 (ib_in g37) dX12_readsQuarrel_112 ?_
              refine j_iconst C dX12_readsQuarrel_113 ci_1 ?_
              refine j_aload_n C 0 rfl dX12_readsQuarrel_114 rfl ?_
              refine fg_X12_120_TR_0 C dX12_readsQuarrel_115 ?_
              refine j_ishl C dX12_readsQuarrel_118 ?_
              refine j_ior C dX12_readsQuarrel_119 ?_
              refine lt_elim h (fun x38 e_x38 h => ?_)
              refine j_top e_x38 ?_
              obtain ⟨g39, h⟩ := gd_elim h
              refine j_iast C tr_8 (ib_in g39) dX12_readsQuarrel_120 ?_
              refine lt_elim h (fun V40 e_V40 h => ?_)
              refine j_V e_V40 ?_
              refine j_aload_n C 0 rfl dX12_readsQuarrel_121 rfl ?_
              refine fg_X12_44_TR_0 C dX12_readsQuarrel_122 ?_
              refine j_aload_n C 0 rfl dX12_readsQuarrel_125 rfl ?_
              refine fg_X12_120_TR_0 C dX12_readsQuarrel_126 ?_
              refine lt_elim h (fun x41 e_x41 h => ?_)
              refine j_top e_x41 ?_
              refine j_dup2_11 C dX12_readsQuarrel_129 rfl rfl ?_
              obtain ⟨g42, h⟩ := gd_elim h
              refine j_iald C tr_8 (ib_in g42) dX12_readsQuarrel_130 ?_
              refine j_iconst C dX12_readsQuarrel_131 ci_1 ?_
              refine j_iload_n C 1 rfl dX12_readsQuarrel_132 rfl ?_
              refine j_ishl C dX12_readsQuarrel_133 ?_
              refine j_ior C dX12_readsQuarrel_134 ?_
              refine lt_elim h (fun x43 e_x43 h => ?_)
              refine j_top e_x43 ?_
              obtain ⟨g44, h⟩ := gd_elim h
              refine j_iast C tr_8 (ib_in g44) dX12_readsQuarrel_135 ?_
              refine lt_elim h (fun V45 e_V45 h => ?_)
              refine j_V e_V45 ?_
              refine j_aload_n C 0 rfl dX12_readsQuarrel_136 rfl ?_
              refine j_dup C dX12_readsQuarrel_137 rfl ?_
              refine fg_X12_222_TR_0 C dX12_readsQuarrel_138 ?_
              refine j_iconst C dX12_readsQuarrel_141 ci_1 ?_
              refine j_iadd C dX12_readsQuarrel_142 ?_
              refine lt_elim h (fun x46 e_x46 h => ?_)
              refine j_top e_x46 ?_
              refine fp_X12_222_TR_0 C dX12_readsQuarrel_143 ?_
              refine lt_elim h (fun S47 e_S47 h => ?_)
              refine j_S e_S47 ?_
              refine j_aload_n C 0 rfl dX12_readsQuarrel_146 rfl ?_
              obtain ⟨S48, L49, h50, h⟩ := bd2_elim h
              refine j_callV (As := []) (rest := []) C (kX12_goes_0 l B D ad cA hI S47 V45 L33 _ _ h50) mw_X12_goes wd1642 wd57 wd1640 tr_0 rfl rfl ⟨rfl, rfl, by decide, by decide⟩ ⟨Nat.zero_le _, Nat.zero_le _⟩ rfl rfl (Nat.le_of_ble_eq_true rfl) dX12_readsQuarrel_147 ?_
              cases h
              exact j_vret C hr hlk rfl dX12_readsQuarrel_150
            · have h := (if_pos c36).symm.trans h
              cases h
              exact j_vret C hr hlk rfl dX12_readsQuarrel_105
          refine j_if_eq (tgt := 98) C dX12_readsQuarrel_65 (by decide) (fun c51 => ?_) (fun c51 => ?_)
          · have h := (if_pos c51).symm.trans h
            exact j_sub [0, 1] rfl (HK98_29 _ _ _ _ h)
          · have h := (if_neg c51).symm.trans h
            refine j_aload_n C 0 rfl dX12_readsQuarrel_68 rfl ?_
            refine fg_X12_120_TR_0 C dX12_readsQuarrel_69 ?_
            refine j_iload_n C 1 rfl dX12_readsQuarrel_72 rfl ?_
            refine bk_elim h (fun K93_52 e_K93_52 h => ?_)
            have HK93_52 : ∀ (x53 : Int32) (S54 : Nat → Int32) (V55 : Nat → Nat → Int32) (L56 : Nat → Int64), K93_52 x53 S54 V55 L56 = some (S0, V0, L0) → jW p l e ({ frames := 2, cells := 0, slots := 0, locals := 42 }) s m args below meth c (MQ below (jQc D TR ad cA none s.heap.size S0 V0 L0) args s 0 0 (jA ad TR s.heap.size)) D TR ad cA (jA ad TR s.heap.size) 2 0 0 93 [(0, .ref (ad 0)), (1, .int x53)] [] S54 V55 L56 := by
              subst e_K93_52
              intro x53 S54 V55 L56 h
              refine j_aload_n C 0 rfl dX12_readsQuarrel_93 rfl ?_
              refine j_iconst C dX12_readsQuarrel_94 ci_4 ?_
              obtain ⟨S57, h58, h⟩ := bd1_elim h
              refine j_callV (As := [.int (4 : Int32)]) (rest := []) C (kX12_wrong_0 l B D ad cA hI S54 V55 L56 (4 : Int32) _ h58) mw_X12_wrong wd1679 wd63 wd1677 tr_0 rfl rfl ⟨rfl, rfl, by decide, by decide⟩ ⟨Nat.zero_le _, Nat.zero_le _⟩ rfl rfl (Nat.le_of_ble_eq_true rfl) dX12_readsQuarrel_95 ?_
              exact j_sub [0, 1] rfl (HK98_29 _ _ _ _ h)
            refine j_icmp_eq (tgt := 93) C dX12_readsQuarrel_73 (by decide) (fun c59 => ?_) (fun c59 => ?_)
            · have h := (if_pos c59).symm.trans h
              exact j_sub [0, 1] rfl (HK93_52 _ _ _ _ h)
            · have h := (if_neg c59).symm.trans h
              refine j_aload_n C 0 rfl dX12_readsQuarrel_76 rfl ?_
              refine fg_X12_44_TR_0 C dX12_readsQuarrel_77 ?_
              refine j_iload_n C 1 rfl dX12_readsQuarrel_80 rfl ?_
              obtain ⟨g60, h⟩ := gd_elim h
              refine j_iald C tr_8 (ib_in g60) dX12_readsQuarrel_81 ?_
              refine j_aload_n C 0 rfl dX12_readsQuarrel_82 rfl ?_
              refine fg_X12_120_TR_0 C dX12_readsQuarrel_83 ?_
              refine j_ishr C dX12_readsQuarrel_86 ?_
              refine j_iconst C dX12_readsQuarrel_87 ci_1 ?_
              refine j_iand C dX12_readsQuarrel_88 ?_
              refine j_iconst C dX12_readsQuarrel_89 ci_1 ?_
              refine j_icmp_ne (tgt := 98) C dX12_readsQuarrel_90 (by decide) (fun c61 => ?_) (fun c61 => ?_)
              · have h := (if_neg c61).symm.trans h
                exact j_sub [0, 1] rfl (HK98_29 _ _ _ _ h)
              · have h := (if_pos c61).symm.trans h
                exact j_sub [0, 1] rfl (HK93_52 _ _ _ _ h)
        refine j_if_eq (tgt := 57) C dX12_readsQuarrel_50 (by decide) (fun c62 => ?_) (fun c62 => ?_)
        · have h := (if_pos c62).symm.trans h
          exact j_sub [1, 0] rfl (HK57_21 _ _ _ _ h)
        · have h := (if_neg c62).symm.trans h
          refine j_aload_n C 1 rfl dX12_readsQuarrel_53 rfl ?_
          obtain ⟨S63, L64, h65, h⟩ := bd2_elim h
          refine j_callV (As := []) (rest := []) C (kX12_goes_0 l B D ad cA hI S16 V17 L18 _ _ h65) mw_X12_goes wd1642 wd57 wd1640 tr_0 rfl rfl ⟨rfl, rfl, by decide, by decide⟩ ⟨Nat.zero_le _, Nat.zero_le _⟩ rfl rfl (Nat.le_of_ble_eq_true rfl) dX12_readsQuarrel_54 ?_
          exact j_sub [1, 0] rfl (HK57_21 _ _ _ _ h)
      refine j_if_eq (tgt := 44) C dX12_readsQuarrel_34 (by decide) (fun c66 => ?_) (fun c66 => ?_)
      · have h := (if_pos c66).symm.trans h
        refine j_iconst C dX12_readsQuarrel_44 ci_0 ?_
        exact j_sub [0] rfl (HK45_14 _ _ _ _ h)
      · have h := (if_neg c66).symm.trans h
        refine j_aload_n C 0 rfl dX12_readsQuarrel_37 rfl ?_
        refine fg_X12_120_TR_0 C dX12_readsQuarrel_38 ?_
        refine j_goto (tgt := 45) C dX12_readsQuarrel_41 (by decide) ?_
        exact j_sub [0] rfl (HK45_14 _ _ _ _ h)
    · have h := (if_pos c7).symm.trans h
      cases h
      exact j_vret C hr hlk rfl dX12_readsQuarrel_21
  refine j_icmp_ne (tgt := 14) C dX12_readsQuarrel_6 (by decide) (fun c67 => ?_) (fun c67 => ?_)
  · have h := (if_neg c67).symm.trans h
    exact j_sub [0] rfl (HK14_1 _ _ _ h)
  · have h := (if_pos c67).symm.trans h
    refine j_aload_n C 0 rfl dX12_readsQuarrel_9 rfl ?_
    refine j_iconst C dX12_readsQuarrel_10 ci_2 ?_
    obtain ⟨S68, h69, h⟩ := bd1_elim h
    refine j_callV (As := [.int (2 : Int32)]) (rest := []) C (kX12_wrong_0 l B D ad cA hI S V L (2 : Int32) _ h69) mw_X12_wrong wd1679 wd63 wd1677 tr_0 rfl rfl ⟨rfl, rfl, by decide, by decide⟩ ⟨Nat.zero_le _, Nat.zero_le _⟩ rfl rfl (Nat.le_of_ble_eq_true rfl) dX12_readsQuarrel_11 ?_
    exact j_sub [0] rfl (HK14_1 _ _ _ h)
theorem dX12_number_0 : decode cX12_number 0 = .ok (.aload_n 0, 1) := by decide +kernel
theorem dX12_number_1 : decode cX12_number 1 = .ok (.invokevirtual 152, 3) := by decide +kernel
theorem dX12_number_4 : decode cX12_number 4 = .ok (.ifCond .ne 5, 3) := by decide +kernel
theorem dX12_number_7 : decode cX12_number 7 = .ok (.iconst 0, 1) := by decide +kernel
theorem dX12_number_8 : decode cX12_number 8 = .ok (.ireturn, 1) := by decide +kernel
theorem dX12_number_9 : decode cX12_number 9 = .ok (.aload_n 0, 1) := by decide +kernel
theorem dX12_number_10 : decode cX12_number 10 = .ok (.getfield 126, 3) := by decide +kernel
theorem dX12_number_13 : decode cX12_number 13 = .ok (.iconst 2, 1) := by decide +kernel
theorem dX12_number_14 : decode cX12_number 14 = .ok (.if_icmp .eq 11, 3) := by decide +kernel
theorem dX12_number_17 : decode cX12_number 17 = .ok (.aload_n 0, 1) := by decide +kernel
theorem dX12_number_18 : decode cX12_number 18 = .ok (.iconst 1, 1) := by decide +kernel
theorem dX12_number_19 : decode cX12_number 19 = .ok (.invokevirtual 159, 3) := by decide +kernel
theorem dX12_number_22 : decode cX12_number 22 = .ok (.goto 32, 3) := by decide +kernel
theorem dX12_number_25 : decode cX12_number 25 = .ok (.aload_n 0, 1) := by decide +kernel
theorem dX12_number_26 : decode cX12_number 26 = .ok (.getfield 136, 3) := by decide +kernel
theorem dX12_number_29 : decode cX12_number 29 = .ok (.iconst 4, 1) := by decide +kernel
theorem dX12_number_30 : decode cX12_number 30 = .ok (.if_icmp .gt 19, 3) := by decide +kernel
theorem dX12_number_33 : decode cX12_number 33 = .ok (.aload_n 0, 1) := by decide +kernel
theorem dX12_number_34 : decode cX12_number 34 = .ok (.getfield 120, 3) := by decide +kernel
theorem dX12_number_37 : decode cX12_number 37 = .ok (.iload_n 1, 1) := by decide +kernel
theorem dX12_number_38 : decode cX12_number 38 = .ok (.if_icmp .lt 11, 3) := by decide +kernel
theorem dX12_number_41 : decode cX12_number 41 = .ok (.aload_n 0, 1) := by decide +kernel
theorem dX12_number_42 : decode cX12_number 42 = .ok (.getfield 120, 3) := by decide +kernel
theorem dX12_number_45 : decode cX12_number 45 = .ok (.iload_n 2, 1) := by decide +kernel
theorem dX12_number_46 : decode cX12_number 46 = .ok (.if_icmp .le 8, 3) := by decide +kernel
theorem dX12_number_49 : decode cX12_number 49 = .ok (.aload_n 0, 1) := by decide +kernel
theorem dX12_number_50 : decode cX12_number 50 = .ok (.iconst 2, 1) := by decide +kernel
theorem dX12_number_51 : decode cX12_number 51 = .ok (.invokevirtual 159, 3) := by decide +kernel
theorem dX12_number_54 : decode cX12_number 54 = .ok (.aload_n 0, 1) := by decide +kernel
theorem dX12_number_55 : decode cX12_number 55 = .ok (.getfield 120, 3) := by decide +kernel
theorem dX12_number_58 : decode cX12_number 58 = .ok (.istore_n 3, 1) := by decide +kernel
theorem dX12_number_59 : decode cX12_number 59 = .ok (.aload_n 0, 1) := by decide +kernel
theorem dX12_number_60 : decode cX12_number 60 = .ok (.invokevirtual 152, 3) := by decide +kernel
theorem dX12_number_63 : decode cX12_number 63 = .ok (.ifCond .eq 7, 3) := by decide +kernel
theorem dX12_number_66 : decode cX12_number 66 = .ok (.aload_n 0, 1) := by decide +kernel
theorem dX12_number_67 : decode cX12_number 67 = .ok (.invokevirtual 156, 3) := by decide +kernel
theorem dX12_number_70 : decode cX12_number 70 = .ok (.iload_n 3, 1) := by decide +kernel
theorem dX12_number_71 : decode cX12_number 71 = .ok (.ireturn, 1) := by decide +kernel
def fX12_number_0 (S : Nat → Int32) (V : Nat → Nat → Int32) (L : Nat → Int64) (a1 : Int32) (a2 : Int32) : Option (Int32 × (Nat → Int32) × (Nat → Int64)) :=
  bd1 (fX12_isGood_0 S) (fun r1 =>
  (if r1 = 0 then
  some ((0 : Int32), S, L)
  else
  bk (fun (S5 : Nat → Int32) (L6 : Nat → Int64) =>
  lt ((S5 22)) (fun x7 =>
  bd1 (fX12_isGood_0 S5) (fun r8 =>
  (if r8 = 0 then
  some (x7, S5, L6)
  else
  bd2 (fX12_goes_0 S5 V L6) (fun S11 L12 =>
  some (x7, S11, L12)))))) (fun K54_4 =>
  (if (S 19) = (2 : Int32) then
  bk (fun (S16 : Nat → Int32) (L17 : Nat → Int64) =>
  bd1 (fX12_wrong_0 S16 (2 : Int32)) (fun S18 =>
  K54_4 S18 L17)) (fun K49_15 =>
  (if (4 : Int32) < (S 21) then
  K49_15 S L
  else
  (if (S 22) < a1 then
  K49_15 S L
  else
  (if (S 22) ≤ a2 then
  K54_4 S L
  else
  K49_15 S L))))
  else
  bd1 (fX12_wrong_0 S (1 : Int32)) (fun S23 =>
  K54_4 S23 L)))))
set_option maxHeartbeats 4000000 in
set_option maxRecDepth 100000 in
theorem kX12_number_0 (l : Launch) (B : jBT) (D : va_G) (ad : Nat → Nat) (cA : Nat → ClassId) (hI : jI ad TR) (S : Nat → Int32) (V : Nat → Nat → Int32) (L : Nat → Int64) (a1 : Int32) (a2 : Int32) (r0 : Int32) (S0 : Nat → Int32) (L0 : Nat → Int64) (h : fX12_number_0 S V L a1 a2 = some (r0, S0, L0)) : jM l yX12_number cX12_number 4 (some .int) ({ frames := 2, cells := 0, slots := 0, locals := 42 }) B D TR ad cA [.ref (ad 0), .int a1, .int a2] S V L (some (.int r0)) S0 V L0 := by
  refine jM_of (plainFor_of_name (by decide)) TR_ok hI (Nat.le_of_ble_eq_true rfl) ?_
  intro p e s m args below meth c C hr hlk
  refine j_lv (lv2 := [(0, .ref (ad 0)), (1, .int a1), (2, .int a2)]) rfl ?_
  unfold fX12_number_0 at h
  refine j_aload_n C 0 rfl dX12_number_0 rfl ?_
  obtain ⟨r1, h2, h⟩ := bd1_elim h
  refine j_callV (As := []) (rest := []) C (kX12_isGood_0 l B D ad cA hI S V L _ h2) mw_X12_isGood wd1656 wd59 wd1654 tr_0 rfl rfl ⟨rfl, rfl, by decide, by decide⟩ ⟨Nat.zero_le _, Nat.zero_le _⟩ rfl rfl (Nat.le_of_ble_eq_true rfl) dX12_number_1 ?_
  refine j_if_ne (tgt := 9) C dX12_number_4 (by decide) (fun c3 => ?_) (fun c3 => ?_)
  · have h := (if_neg c3).symm.trans h
    refine j_aload_n C 0 rfl dX12_number_9 rfl ?_
    refine fg_X12_126_TR_0 C dX12_number_10 ?_
    refine j_iconst C dX12_number_13 ci_2 ?_
    refine bk_elim h (fun K54_4 e_K54_4 h => ?_)
    have HK54_4 : ∀ (S5 : Nat → Int32) (L6 : Nat → Int64), K54_4 S5 L6 = some (r0, S0, L0) → jW p l e ({ frames := 2, cells := 0, slots := 0, locals := 42 }) s m args below meth c (MQ below (jQc D TR ad cA (some (.int r0)) s.heap.size S0 V L0) args s 0 0 (jA ad TR s.heap.size)) D TR ad cA (jA ad TR s.heap.size) 4 0 0 54 [(0, .ref (ad 0))] [] S5 V L6 := by
      subst e_K54_4
      intro S5 L6 h
      refine j_aload_n C 0 rfl dX12_number_54 rfl ?_
      refine fg_X12_120_TR_0 C dX12_number_55 ?_
      refine lt_elim h (fun x7 e_x7 h => ?_)
      refine j_top e_x7 ?_
      refine j_istore_n C [(3, .int x7), (0, .ref (ad 0))] dX12_number_58 rfl (by decide) rfl ?_
      refine j_aload_n C 1 rfl dX12_number_59 rfl ?_
      obtain ⟨r8, h9, h⟩ := bd1_elim h
      refine j_callV (As := []) (rest := []) C (kX12_isGood_0 l B D ad cA hI S5 V L6 _ h9) mw_X12_isGood wd1656 wd59 wd1654 tr_0 rfl rfl ⟨rfl, rfl, by decide, by decide⟩ ⟨Nat.zero_le _, Nat.zero_le _⟩ rfl rfl (Nat.le_of_ble_eq_true rfl) dX12_number_60 ?_
      refine j_if_eq (tgt := 70) C dX12_number_63 (by decide) (fun c10 => ?_) (fun c10 => ?_)
      · have h := (if_pos c10).symm.trans h
        refine j_iload_n C 0 rfl dX12_number_70 rfl ?_
        cases h
        exact j_iret C hr hlk rfl dX12_number_71
      · have h := (if_neg c10).symm.trans h
        refine j_aload_n C 1 rfl dX12_number_66 rfl ?_
        obtain ⟨S11, L12, h13, h⟩ := bd2_elim h
        refine j_callV (As := []) (rest := []) C (kX12_goes_0 l B D ad cA hI S5 V L6 _ _ h13) mw_X12_goes wd1642 wd57 wd1640 tr_0 rfl rfl ⟨rfl, rfl, by decide, by decide⟩ ⟨Nat.zero_le _, Nat.zero_le _⟩ rfl rfl (Nat.le_of_ble_eq_true rfl) dX12_number_67 ?_
        refine j_iload_n C 0 rfl dX12_number_70 rfl ?_
        cases h
        exact j_iret C hr hlk rfl dX12_number_71
    refine j_icmp_eq (tgt := 25) C dX12_number_14 (by decide) (fun c14 => ?_) (fun c14 => ?_)
    · have h := (if_pos c14).symm.trans h
      refine j_aload_n C 0 rfl dX12_number_25 rfl ?_
      refine fg_X12_136_TR_0 C dX12_number_26 ?_
      refine j_iconst C dX12_number_29 ci_4 ?_
      refine bk_elim h (fun K49_15 e_K49_15 h => ?_)
      have HK49_15 : ∀ (S16 : Nat → Int32) (L17 : Nat → Int64), K49_15 S16 L17 = some (r0, S0, L0) → jW p l e ({ frames := 2, cells := 0, slots := 0, locals := 42 }) s m args below meth c (MQ below (jQc D TR ad cA (some (.int r0)) s.heap.size S0 V L0) args s 0 0 (jA ad TR s.heap.size)) D TR ad cA (jA ad TR s.heap.size) 4 0 0 49 [(0, .ref (ad 0))] [] S16 V L17 := by
        subst e_K49_15
        intro S16 L17 h
        refine j_aload_n C 0 rfl dX12_number_49 rfl ?_
        refine j_iconst C dX12_number_50 ci_2 ?_
        obtain ⟨S18, h19, h⟩ := bd1_elim h
        refine j_callV (As := [.int (2 : Int32)]) (rest := []) C (kX12_wrong_0 l B D ad cA hI S16 V L17 (2 : Int32) _ h19) mw_X12_wrong wd1679 wd63 wd1677 tr_0 rfl rfl ⟨rfl, rfl, by decide, by decide⟩ ⟨Nat.zero_le _, Nat.zero_le _⟩ rfl rfl (Nat.le_of_ble_eq_true rfl) dX12_number_51 ?_
        exact j_sub [0] rfl (HK54_4 _ _ h)
      refine j_icmp_gt (tgt := 49) C dX12_number_30 (by decide) (fun c20 => ?_) (fun c20 => ?_)
      · have h := (if_pos c20).symm.trans h
        exact j_sub [0] rfl (HK49_15 _ _ h)
      · have h := (if_neg c20).symm.trans h
        refine j_aload_n C 0 rfl dX12_number_33 rfl ?_
        refine fg_X12_120_TR_0 C dX12_number_34 ?_
        refine j_iload_n C 1 rfl dX12_number_37 rfl ?_
        refine j_icmp_lt (tgt := 49) C dX12_number_38 (by decide) (fun c21 => ?_) (fun c21 => ?_)
        · have h := (if_pos c21).symm.trans h
          exact j_sub [0] rfl (HK49_15 _ _ h)
        · have h := (if_neg c21).symm.trans h
          refine j_aload_n C 0 rfl dX12_number_41 rfl ?_
          refine fg_X12_120_TR_0 C dX12_number_42 ?_
          refine j_iload_n C 2 rfl dX12_number_45 rfl ?_
          refine j_icmp_le (tgt := 54) C dX12_number_46 (by decide) (fun c22 => ?_) (fun c22 => ?_)
          · have h := (if_pos c22).symm.trans h
            exact j_sub [0] rfl (HK54_4 _ _ h)
          · have h := (if_neg c22).symm.trans h
            exact j_sub [0] rfl (HK49_15 _ _ h)
    · have h := (if_neg c14).symm.trans h
      refine j_aload_n C 0 rfl dX12_number_17 rfl ?_
      refine j_iconst C dX12_number_18 ci_1 ?_
      obtain ⟨S23, h24, h⟩ := bd1_elim h
      refine j_callV (As := [.int (1 : Int32)]) (rest := []) C (kX12_wrong_0 l B D ad cA hI S V L (1 : Int32) _ h24) mw_X12_wrong wd1679 wd63 wd1677 tr_0 rfl rfl ⟨rfl, rfl, by decide, by decide⟩ ⟨Nat.zero_le _, Nat.zero_le _⟩ rfl rfl (Nat.le_of_ble_eq_true rfl) dX12_number_19 ?_
      refine j_goto (tgt := 54) C dX12_number_22 (by decide) ?_
      exact j_sub [0] rfl (HK54_4 _ _ h)
  · have h := (if_pos c3).symm.trans h
    refine j_iconst C dX12_number_7 ci_0 ?_
    cases h
    exact j_iret C hr hlk rfl dX12_number_8
theorem dX12_readsTenant_0 : decode cX12_readsTenant 0 = .ok (.aload_n 0, 1) := by decide +kernel
theorem dX12_readsTenant_1 : decode cX12_readsTenant 1 = .ok (.getfield 212, 3) := by decide +kernel
theorem dX12_readsTenant_4 : decode cX12_readsTenant 4 = .ok (.bipush 6, 2) := by decide +kernel
theorem dX12_readsTenant_6 : decode cX12_readsTenant 6 = .ok (.if_icmp .ne 8, 3) := by decide +kernel
theorem dX12_readsTenant_9 : decode cX12_readsTenant 9 = .ok (.aload_n 0, 1) := by decide +kernel
theorem dX12_readsTenant_10 : decode cX12_readsTenant 10 = .ok (.iconst 2, 1) := by decide +kernel
theorem dX12_readsTenant_11 : decode cX12_readsTenant 11 = .ok (.invokevirtual 159, 3) := by decide +kernel
theorem dX12_readsTenant_14 : decode cX12_readsTenant 14 = .ok (.aload_n 0, 1) := by decide +kernel
theorem dX12_readsTenant_15 : decode cX12_readsTenant 15 = .ok (.invokevirtual 152, 3) := by decide +kernel
theorem dX12_readsTenant_18 : decode cX12_readsTenant 18 = .ok (.ifCond .ne 4, 3) := by decide +kernel
theorem dX12_readsTenant_21 : decode cX12_readsTenant 21 = .ok (.return_, 1) := by decide +kernel
theorem dX12_readsTenant_22 : decode cX12_readsTenant 22 = .ok (.aload_n 0, 1) := by decide +kernel
theorem dX12_readsTenant_23 : decode cX12_readsTenant 23 = .ok (.invokevirtual 156, 3) := by decide +kernel
theorem dX12_readsTenant_26 : decode cX12_readsTenant 26 = .ok (.iconst 4, 1) := by decide +kernel
theorem dX12_readsTenant_27 : decode cX12_readsTenant 27 = .ok (.aload_n 0, 1) := by decide +kernel
theorem dX12_readsTenant_28 : decode cX12_readsTenant 28 = .ok (.getfield 212, 3) := by decide +kernel
theorem dX12_readsTenant_31 : decode cX12_readsTenant 31 = .ok (.imul, 1) := by decide +kernel
theorem dX12_readsTenant_32 : decode cX12_readsTenant 32 = .ok (.istore_n 1, 1) := by decide +kernel
theorem dX12_readsTenant_33 : decode cX12_readsTenant 33 = .ok (.aload_n 0, 1) := by decide +kernel
theorem dX12_readsTenant_34 : decode cX12_readsTenant 34 = .ok (.getfield 41, 3) := by decide +kernel
theorem dX12_readsTenant_37 : decode cX12_readsTenant 37 = .ok (.iload_n 1, 1) := by decide +kernel
theorem dX12_readsTenant_38 : decode cX12_readsTenant 38 = .ok (.aload_n 0, 1) := by decide +kernel
theorem dX12_readsTenant_39 : decode cX12_readsTenant 39 = .ok (.iconst 0, 1) := by decide +kernel
theorem dX12_readsTenant_40 : decode cX12_readsTenant 40 = .ok (.bipush 20, 2) := by decide +kernel
theorem dX12_readsTenant_42 : decode cX12_readsTenant 42 = .ok (.invokevirtual 215, 3) := by decide +kernel
theorem dX12_readsTenant_45 : decode cX12_readsTenant 45 = .ok (.iastore, 1) := by decide +kernel
theorem dX12_readsTenant_46 : decode cX12_readsTenant 46 = .ok (.aload_n 0, 1) := by decide +kernel
theorem dX12_readsTenant_47 : decode cX12_readsTenant 47 = .ok (.invokevirtual 152, 3) := by decide +kernel
theorem dX12_readsTenant_50 : decode cX12_readsTenant 50 = .ok (.ifCond .eq 10, 3) := by decide +kernel
theorem dX12_readsTenant_53 : decode cX12_readsTenant 53 = .ok (.aload_n 0, 1) := by decide +kernel
theorem dX12_readsTenant_54 : decode cX12_readsTenant 54 = .ok (.invokevirtual 177, 3) := by decide +kernel
theorem dX12_readsTenant_57 : decode cX12_readsTenant 57 = .ok (.goto 4, 3) := by decide +kernel
theorem dX12_readsTenant_60 : decode cX12_readsTenant 60 = .ok (.iconst (-1), 1) := by decide +kernel
theorem dX12_readsTenant_61 : decode cX12_readsTenant 61 = .ok (.istore_n 2, 1) := by decide +kernel
theorem dX12_readsTenant_62 : decode cX12_readsTenant 62 = .ok (.aload_n 0, 1) := by decide +kernel
theorem dX12_readsTenant_63 : decode cX12_readsTenant 63 = .ok (.iload_n 2, 1) := by decide +kernel
theorem dX12_readsTenant_64 : decode cX12_readsTenant 64 = .ok (.bipush 6, 2) := by decide +kernel
theorem dX12_readsTenant_66 : decode cX12_readsTenant 66 = .ok (.if_icmp .lt 13, 3) := by decide +kernel
theorem dX12_readsTenant_69 : decode cX12_readsTenant 69 = .ok (.iload_n 2, 1) := by decide +kernel
theorem dX12_readsTenant_70 : decode cX12_readsTenant 70 = .ok (.bipush 8, 2) := by decide +kernel
theorem dX12_readsTenant_72 : decode cX12_readsTenant 72 = .ok (.if_icmp .gt 7, 3) := by decide +kernel
theorem dX12_readsTenant_75 : decode cX12_readsTenant 75 = .ok (.iconst 1, 1) := by decide +kernel
theorem dX12_readsTenant_76 : decode cX12_readsTenant 76 = .ok (.goto 4, 3) := by decide +kernel
theorem dX12_readsTenant_79 : decode cX12_readsTenant 79 = .ok (.iconst 0, 1) := by decide +kernel
theorem dX12_readsTenant_80 : decode cX12_readsTenant 80 = .ok (.invokevirtual 219, 3) := by decide +kernel
theorem dX12_readsTenant_83 : decode cX12_readsTenant 83 = .ok (.aload_n 0, 1) := by decide +kernel
theorem dX12_readsTenant_84 : decode cX12_readsTenant 84 = .ok (.getfield 41, 3) := by decide +kernel
theorem dX12_readsTenant_87 : decode cX12_readsTenant 87 = .ok (.iload_n 1, 1) := by decide +kernel
theorem dX12_readsTenant_88 : decode cX12_readsTenant 88 = .ok (.iconst 1, 1) := by decide +kernel
theorem dX12_readsTenant_89 : decode cX12_readsTenant 89 = .ok (.iadd, 1) := by decide +kernel
theorem dX12_readsTenant_90 : decode cX12_readsTenant 90 = .ok (.iload_n 2, 1) := by decide +kernel
theorem dX12_readsTenant_91 : decode cX12_readsTenant 91 = .ok (.bipush 6, 2) := by decide +kernel
theorem dX12_readsTenant_93 : decode cX12_readsTenant 93 = .ok (.isub, 1) := by decide +kernel
theorem dX12_readsTenant_94 : decode cX12_readsTenant 94 = .ok (.iastore, 1) := by decide +kernel
theorem dX12_readsTenant_95 : decode cX12_readsTenant 95 = .ok (.aload_n 0, 1) := by decide +kernel
theorem dX12_readsTenant_96 : decode cX12_readsTenant 96 = .ok (.getfield 41, 3) := by decide +kernel
theorem dX12_readsTenant_99 : decode cX12_readsTenant 99 = .ok (.iload_n 1, 1) := by decide +kernel
theorem dX12_readsTenant_100 : decode cX12_readsTenant 100 = .ok (.iconst 2, 1) := by decide +kernel
theorem dX12_readsTenant_101 : decode cX12_readsTenant 101 = .ok (.iadd, 1) := by decide +kernel
theorem dX12_readsTenant_102 : decode cX12_readsTenant 102 = .ok (.aload_n 0, 1) := by decide +kernel
theorem dX12_readsTenant_103 : decode cX12_readsTenant 103 = .ok (.iconst 1, 1) := by decide +kernel
theorem dX12_readsTenant_104 : decode cX12_readsTenant 104 = .ok (.bipush 12, 2) := by decide +kernel
theorem dX12_readsTenant_106 : decode cX12_readsTenant 106 = .ok (.invokevirtual 215, 3) := by decide +kernel
theorem dX12_readsTenant_109 : decode cX12_readsTenant 109 = .ok (.iastore, 1) := by decide +kernel
theorem dX12_readsTenant_110 : decode cX12_readsTenant 110 = .ok (.aload_n 0, 1) := by decide +kernel
theorem dX12_readsTenant_111 : decode cX12_readsTenant 111 = .ok (.getfield 41, 3) := by decide +kernel
theorem dX12_readsTenant_114 : decode cX12_readsTenant 114 = .ok (.iload_n 1, 1) := by decide +kernel
theorem dX12_readsTenant_115 : decode cX12_readsTenant 115 = .ok (.iconst 3, 1) := by decide +kernel
theorem dX12_readsTenant_116 : decode cX12_readsTenant 116 = .ok (.iadd, 1) := by decide +kernel
theorem dX12_readsTenant_117 : decode cX12_readsTenant 117 = .ok (.aload_n 0, 1) := by decide +kernel
theorem dX12_readsTenant_118 : decode cX12_readsTenant 118 = .ok (.iconst 0, 1) := by decide +kernel
theorem dX12_readsTenant_119 : decode cX12_readsTenant 119 = .ok (.bipush 99, 2) := by decide +kernel
theorem dX12_readsTenant_121 : decode cX12_readsTenant 121 = .ok (.invokevirtual 215, 3) := by decide +kernel
theorem dX12_readsTenant_124 : decode cX12_readsTenant 124 = .ok (.iastore, 1) := by decide +kernel
theorem dX12_readsTenant_125 : decode cX12_readsTenant 125 = .ok (.aload_n 0, 1) := by decide +kernel
theorem dX12_readsTenant_126 : decode cX12_readsTenant 126 = .ok (.getfield 44, 3) := by decide +kernel
theorem dX12_readsTenant_129 : decode cX12_readsTenant 129 = .ok (.aload_n 0, 1) := by decide +kernel
theorem dX12_readsTenant_130 : decode cX12_readsTenant 130 = .ok (.getfield 212, 3) := by decide +kernel
theorem dX12_readsTenant_133 : decode cX12_readsTenant 133 = .ok (.iconst 0, 1) := by decide +kernel
theorem dX12_readsTenant_134 : decode cX12_readsTenant 134 = .ok (.iastore, 1) := by decide +kernel
theorem dX12_readsTenant_135 : decode cX12_readsTenant 135 = .ok (.aload_n 0, 1) := by decide +kernel
theorem dX12_readsTenant_136 : decode cX12_readsTenant 136 = .ok (.invokevirtual 152, 3) := by decide +kernel
theorem dX12_readsTenant_139 : decode cX12_readsTenant 139 = .ok (.ifCond .eq 13, 3) := by decide +kernel
theorem dX12_readsTenant_142 : decode cX12_readsTenant 142 = .ok (.aload_n 0, 1) := by decide +kernel
theorem dX12_readsTenant_143 : decode cX12_readsTenant 143 = .ok (.dup, 1) := by decide +kernel
theorem dX12_readsTenant_144 : decode cX12_readsTenant 144 = .ok (.getfield 212, 3) := by decide +kernel
theorem dX12_readsTenant_147 : decode cX12_readsTenant 147 = .ok (.iconst 1, 1) := by decide +kernel
theorem dX12_readsTenant_148 : decode cX12_readsTenant 148 = .ok (.iadd, 1) := by decide +kernel
theorem dX12_readsTenant_149 : decode cX12_readsTenant 149 = .ok (.putfield 212, 3) := by decide +kernel
theorem dX12_readsTenant_152 : decode cX12_readsTenant 152 = .ok (.return_, 1) := by decide +kernel
def fX12_readsTenant_0 (S : Nat → Int32) (V : Nat → Nat → Int32) (L : Nat → Int64) : Option ((Nat → Int32) × (Nat → Nat → Int32) × (Nat → Int64)) :=
  bk (fun (S2 : Nat → Int32) (V3 : Nat → Nat → Int32) (L4 : Nat → Int64) =>
  bd1 (fX12_isGood_0 S2) (fun r5 =>
  (if r5 = 0 then
  some (S2, V3, L4)
  else
  bd2 (fX12_goes_0 S2 V3 L4) (fun S8 L9 =>
  lt (((4 : Int32) * (S8 29))) (fun x11 =>
  bd3 (fX12_number_0 S8 V3 L9 (0 : Int32) (20 : Int32)) (fun r12 S13 L14 =>
  gd (ib x11 24) (
  lt (va_up V3 7 (upd (V3 7) (x11).toNatClampNeg r12)) (fun V17 =>
  bd1 (fX12_isGood_0 S13) (fun r18 =>
  bk (fun (x21 : Int32) (x22 : Int32) (S23 : Nat → Int32) (V24 : Nat → Nat → Int32) (L25 : Nat → Int64) =>
  bk (fun (x27 : Int32) (x28 : Int32) (x29 : Int32) (S30 : Nat → Int32) (V31 : Nat → Nat → Int32) (L32 : Nat → Int64) =>
  bd2 (fX12_need_0 S30 V31 L32 x29) (fun S33 L34 =>
  lt ((x28 - (6 : Int32))) (fun x36 =>
  lt ((x27 + (1 : Int32))) (fun x37 =>
  gd (ib x37 24) (
  lt (va_up V31 7 (upd (V31 7) (x37).toNatClampNeg x36)) (fun V39 =>
  bd3 (fX12_number_0 S33 V39 L34 (1 : Int32) (12 : Int32)) (fun r40 S41 L42 =>
  lt ((x27 + (2 : Int32))) (fun x44 =>
  gd (ib x44 24) (
  lt (va_up V39 7 (upd (V39 7) (x44).toNatClampNeg r40)) (fun V46 =>
  bd3 (fX12_number_0 S41 V46 L42 (0 : Int32) (99 : Int32)) (fun r47 S48 L49 =>
  lt ((x27 + (3 : Int32))) (fun x51 =>
  gd (ib x51 24) (
  lt (va_up V46 7 (upd (V46 7) (x51).toNatClampNeg r47)) (fun V53 =>
  lt ((S48 29)) (fun x54 =>
  gd (ib x54 6) (
  lt (va_up V53 8 (upd (V53 8) (x54).toNatClampNeg (0 : Int32))) (fun V56 =>
  bd1 (fX12_isGood_0 S48) (fun r57 =>
  (if r57 = 0 then
  some (S48, V56, L49)
  else
  lt (((S48 29) + (1 : Int32))) (fun x60 =>
  lt (va_up S48 29 x60) (fun S61 =>
  some (S61, V56, L49)))))))))))))))))))))) (fun K80_26 =>
  bk (fun (x63 : Int32) (x64 : Int32) (S65 : Nat → Int32) (V66 : Nat → Nat → Int32) (L67 : Nat → Int64) =>
  K80_26 x63 x64 (0 : Int32) S65 V66 L67) (fun K79_62 =>
  (if x22 < (6 : Int32) then
  K79_62 x21 x22 S23 V24 L25
  else
  (if (8 : Int32) < x22 then
  K79_62 x21 x22 S23 V24 L25
  else
  K80_26 x21 x22 (1 : Int32) S23 V24 L25))))) (fun K61_20 =>
  (if r18 = 0 then
  K61_20 x11 (-1 : Int32) S13 V17 L14
  else
  bd1 (fX12_knownWord_0 S13 L14) (fun r71 =>
  K61_20 x11 r71 S13 V17 L14)))))))))))) (fun K14_1 =>
  (if (S 29) = (6 : Int32) then
  bd1 (fX12_wrong_0 S (2 : Int32)) (fun S74 =>
  K14_1 S74 V L)
  else
  K14_1 S V L))
set_option maxHeartbeats 4000000 in
set_option maxRecDepth 100000 in
theorem kX12_readsTenant_0 (l : Launch) (B : jBT) (D : va_G) (ad : Nat → Nat) (cA : Nat → ClassId) (hI : jI ad TR) (S : Nat → Int32) (V : Nat → Nat → Int32) (L : Nat → Int64) (S0 : Nat → Int32) (V0 : Nat → Nat → Int32) (L0 : Nat → Int64) (h : fX12_readsTenant_0 S V L = some (S0, V0, L0)) : jM l yX12_readsTenant cX12_readsTenant 3 none ({ frames := 3, cells := 0, slots := 0, locals := 70 }) B D TR ad cA [.ref (ad 0)] S V L none S0 V0 L0 := by
  refine jM_of (plainFor_of_name (by decide)) TR_ok hI (Nat.le_of_ble_eq_true rfl) ?_
  intro p e s m args below meth c C hr hlk
  refine j_lv (lv2 := [(0, .ref (ad 0))]) rfl ?_
  unfold fX12_readsTenant_0 at h
  refine j_aload_n C 0 rfl dX12_readsTenant_0 rfl ?_
  refine fg_X12_212_TR_0 C dX12_readsTenant_1 ?_
  refine j_bipush C dX12_readsTenant_4 cb_6 ?_
  refine bk_elim h (fun K14_1 e_K14_1 h => ?_)
  have HK14_1 : ∀ (S2 : Nat → Int32) (V3 : Nat → Nat → Int32) (L4 : Nat → Int64), K14_1 S2 V3 L4 = some (S0, V0, L0) → jW p l e ({ frames := 3, cells := 0, slots := 0, locals := 70 }) s m args below meth c (MQ below (jQc D TR ad cA none s.heap.size S0 V0 L0) args s 0 0 (jA ad TR s.heap.size)) D TR ad cA (jA ad TR s.heap.size) 3 0 0 14 [(0, .ref (ad 0))] [] S2 V3 L4 := by
    subst e_K14_1
    intro S2 V3 L4 h
    refine j_aload_n C 0 rfl dX12_readsTenant_14 rfl ?_
    obtain ⟨r5, h6, h⟩ := bd1_elim h
    refine j_callV (As := []) (rest := []) C (kX12_isGood_0 l B D ad cA hI S2 V3 L4 _ h6) mw_X12_isGood wd1656 wd59 wd1654 tr_0 rfl rfl ⟨rfl, rfl, by decide, by decide⟩ ⟨Nat.zero_le _, Nat.zero_le _⟩ rfl rfl (Nat.le_of_ble_eq_true rfl) dX12_readsTenant_15 ?_
    refine j_if_ne (tgt := 22) C dX12_readsTenant_18 (by decide) (fun c7 => ?_) (fun c7 => ?_)
    · have h := (if_neg c7).symm.trans h
      refine j_aload_n C 0 rfl dX12_readsTenant_22 rfl ?_
      obtain ⟨S8, L9, h10, h⟩ := bd2_elim h
      refine j_callV (As := []) (rest := []) C (kX12_goes_0 l B D ad cA hI S2 V3 L4 _ _ h10) mw_X12_goes wd1642 wd57 wd1640 tr_0 rfl rfl ⟨rfl, rfl, by decide, by decide⟩ ⟨Nat.zero_le _, Nat.zero_le _⟩ rfl rfl (Nat.le_of_ble_eq_true rfl) dX12_readsTenant_23 ?_
      refine j_iconst C dX12_readsTenant_26 ci_4 ?_
      refine j_aload_n C 0 rfl dX12_readsTenant_27 rfl ?_
      refine fg_X12_212_TR_0 C dX12_readsTenant_28 ?_
      refine j_imul C dX12_readsTenant_31 ?_
      refine lt_elim h (fun x11 e_x11 h => ?_)
      refine j_top e_x11 ?_
      refine j_istore_n C [(1, .int x11), (0, .ref (ad 0))] dX12_readsTenant_32 rfl (by decide) rfl ?_
      refine j_aload_n C 1 rfl dX12_readsTenant_33 rfl ?_
      refine fg_X12_41_TR_0 C dX12_readsTenant_34 ?_
      refine j_iload_n C 0 rfl dX12_readsTenant_37 rfl ?_
      refine j_aload_n C 1 rfl dX12_readsTenant_38 rfl ?_
      refine j_iconst C dX12_readsTenant_39 ci_0 ?_
      refine j_bipush C dX12_readsTenant_40 cb_20 ?_
      obtain ⟨r12, S13, L14, h15, h⟩ := bd3_elim h
      refine j_callV (As := [.int (0 : Int32), .int (20 : Int32)]) (rest := [.int x11, .ref (ad 7)]) C (kX12_number_0 l B D ad cA hI S8 V3 L9 (0 : Int32) (20 : Int32) _ _ _ h15) mw_X12_number wd1683 wd64 wd1681 tr_0 rfl rfl ⟨rfl, rfl, by decide, by decide⟩ ⟨Nat.zero_le _, Nat.zero_le _⟩ rfl rfl (Nat.le_of_ble_eq_true rfl) dX12_readsTenant_42 ?_
      obtain ⟨g16, h⟩ := gd_elim h
      refine j_iast C tr_7 (ib_in g16) dX12_readsTenant_45 ?_
      refine lt_elim h (fun V17 e_V17 h => ?_)
      refine j_V e_V17 ?_
      refine j_aload_n C 1 rfl dX12_readsTenant_46 rfl ?_
      obtain ⟨r18, h19, h⟩ := bd1_elim h
      refine j_callV (As := []) (rest := []) C (kX12_isGood_0 l B D ad cA hI S13 V17 L14 _ h19) mw_X12_isGood wd1656 wd59 wd1654 tr_0 rfl rfl ⟨rfl, rfl, by decide, by decide⟩ ⟨Nat.zero_le _, Nat.zero_le _⟩ rfl rfl (Nat.le_of_ble_eq_true rfl) dX12_readsTenant_47 ?_
      refine bk_elim h (fun K61_20 e_K61_20 h => ?_)
      have HK61_20 : ∀ (x21 : Int32) (x22 : Int32) (S23 : Nat → Int32) (V24 : Nat → Nat → Int32) (L25 : Nat → Int64), K61_20 x21 x22 S23 V24 L25 = some (S0, V0, L0) → jW p l e ({ frames := 3, cells := 0, slots := 0, locals := 70 }) s m args below meth c (MQ below (jQc D TR ad cA none s.heap.size S0 V0 L0) args s 0 0 (jA ad TR s.heap.size)) D TR ad cA (jA ad TR s.heap.size) 3 0 0 61 [(0, .ref (ad 0)), (1, .int x21)] [.int x22] S23 V24 L25 := by
        subst e_K61_20
        intro x21 x22 S23 V24 L25 h
        refine j_istore_n C [(2, .int x22), (0, .ref (ad 0)), (1, .int x21)] dX12_readsTenant_61 rfl (by decide) rfl ?_
        refine j_aload_n C 1 rfl dX12_readsTenant_62 rfl ?_
        refine j_iload_n C 0 rfl dX12_readsTenant_63 rfl ?_
        refine j_bipush C dX12_readsTenant_64 cb_6 ?_
        refine bk_elim h (fun K80_26 e_K80_26 h => ?_)
        have HK80_26 : ∀ (x27 : Int32) (x28 : Int32) (x29 : Int32) (S30 : Nat → Int32) (V31 : Nat → Nat → Int32) (L32 : Nat → Int64), K80_26 x27 x28 x29 S30 V31 L32 = some (S0, V0, L0) → jW p l e ({ frames := 3, cells := 0, slots := 0, locals := 70 }) s m args below meth c (MQ below (jQc D TR ad cA none s.heap.size S0 V0 L0) args s 0 0 (jA ad TR s.heap.size)) D TR ad cA (jA ad TR s.heap.size) 3 0 0 80 [(0, .ref (ad 0)), (1, .int x27), (2, .int x28)] [.int x29, .ref (ad 0)] S30 V31 L32 := by
          subst e_K80_26
          intro x27 x28 x29 S30 V31 L32 h
          obtain ⟨S33, L34, h35, h⟩ := bd2_elim h
          refine j_callV (As := [.int x29]) (rest := []) C (kX12_need_0 l B D ad cA hI S30 V31 L32 x29 _ _ h35) mw_X12_need wd1691 wd66 wd1689 tr_0 rfl rfl ⟨rfl, rfl, by decide, by decide⟩ ⟨Nat.zero_le _, Nat.zero_le _⟩ rfl rfl (Nat.le_of_ble_eq_true rfl) dX12_readsTenant_80 ?_
          refine j_aload_n C 0 rfl dX12_readsTenant_83 rfl ?_
          refine fg_X12_41_TR_0 C dX12_readsTenant_84 ?_
          refine j_iload_n C 1 rfl dX12_readsTenant_87 rfl ?_
          refine j_iconst C dX12_readsTenant_88 ci_1 ?_
          refine j_iadd C dX12_readsTenant_89 ?_
          refine j_iload_n C 2 rfl dX12_readsTenant_90 rfl ?_
          refine j_bipush C dX12_readsTenant_91 cb_6 ?_
          refine j_isub C dX12_readsTenant_93 ?_
          refine lt_elim h (fun x36 e_x36 h => ?_)
          refine j_top e_x36 ?_
          refine lt_elim h (fun x37 e_x37 h => ?_)
          refine j_top2 e_x37 ?_
          obtain ⟨g38, h⟩ := gd_elim h
          refine j_iast C tr_7 (ib_in g38) dX12_readsTenant_94 ?_
          refine lt_elim h (fun V39 e_V39 h => ?_)
          refine j_V e_V39 ?_
          refine j_aload_n C 0 rfl dX12_readsTenant_95 rfl ?_
          refine fg_X12_41_TR_0 C dX12_readsTenant_96 ?_
          refine j_iload_n C 1 rfl dX12_readsTenant_99 rfl ?_
          refine j_iconst C dX12_readsTenant_100 ci_2 ?_
          refine j_iadd C dX12_readsTenant_101 ?_
          refine j_aload_n C 0 rfl dX12_readsTenant_102 rfl ?_
          refine j_iconst C dX12_readsTenant_103 ci_1 ?_
          refine j_bipush C dX12_readsTenant_104 cb_12 ?_
          obtain ⟨r40, S41, L42, h43, h⟩ := bd3_elim h
          refine j_callV (As := [.int (1 : Int32), .int (12 : Int32)]) (rest := [.int (x27 + (2 : Int32)), .ref (ad 7)]) C (kX12_number_0 l B D ad cA hI S33 V39 L34 (1 : Int32) (12 : Int32) _ _ _ h43) mw_X12_number wd1683 wd64 wd1681 tr_0 rfl rfl ⟨rfl, rfl, by decide, by decide⟩ ⟨Nat.zero_le _, Nat.zero_le _⟩ rfl rfl (Nat.le_of_ble_eq_true rfl) dX12_readsTenant_106 ?_
          refine lt_elim h (fun x44 e_x44 h => ?_)
          refine j_top2 e_x44 ?_
          obtain ⟨g45, h⟩ := gd_elim h
          refine j_iast C tr_7 (ib_in g45) dX12_readsTenant_109 ?_
          refine lt_elim h (fun V46 e_V46 h => ?_)
          refine j_V e_V46 ?_
          refine j_aload_n C 0 rfl dX12_readsTenant_110 rfl ?_
          refine fg_X12_41_TR_0 C dX12_readsTenant_111 ?_
          refine j_iload_n C 1 rfl dX12_readsTenant_114 rfl ?_
          refine j_iconst C dX12_readsTenant_115 ci_3 ?_
          refine j_iadd C dX12_readsTenant_116 ?_
          refine j_aload_n C 0 rfl dX12_readsTenant_117 rfl ?_
          refine j_iconst C dX12_readsTenant_118 ci_0 ?_
          refine j_bipush C dX12_readsTenant_119 cb_99 ?_
          obtain ⟨r47, S48, L49, h50, h⟩ := bd3_elim h
          refine j_callV (As := [.int (0 : Int32), .int (99 : Int32)]) (rest := [.int (x27 + (3 : Int32)), .ref (ad 7)]) C (kX12_number_0 l B D ad cA hI S41 V46 L42 (0 : Int32) (99 : Int32) _ _ _ h50) mw_X12_number wd1683 wd64 wd1681 tr_0 rfl rfl ⟨rfl, rfl, by decide, by decide⟩ ⟨Nat.zero_le _, Nat.zero_le _⟩ rfl rfl (Nat.le_of_ble_eq_true rfl) dX12_readsTenant_121 ?_
          refine lt_elim h (fun x51 e_x51 h => ?_)
          refine j_top2 e_x51 ?_
          obtain ⟨g52, h⟩ := gd_elim h
          refine j_iast C tr_7 (ib_in g52) dX12_readsTenant_124 ?_
          refine lt_elim h (fun V53 e_V53 h => ?_)
          refine j_V e_V53 ?_
          refine j_aload_n C 0 rfl dX12_readsTenant_125 rfl ?_
          refine fg_X12_44_TR_0 C dX12_readsTenant_126 ?_
          refine j_aload_n C 0 rfl dX12_readsTenant_129 rfl ?_
          refine fg_X12_212_TR_0 C dX12_readsTenant_130 ?_
          refine j_iconst C dX12_readsTenant_133 ci_0 ?_
          refine lt_elim h (fun x54 e_x54 h => ?_)
          refine j_top2 e_x54 ?_
          obtain ⟨g55, h⟩ := gd_elim h
          refine j_iast C tr_8 (ib_in g55) dX12_readsTenant_134 ?_
          refine lt_elim h (fun V56 e_V56 h => ?_)
          refine j_V e_V56 ?_
          refine j_aload_n C 0 rfl dX12_readsTenant_135 rfl ?_
          obtain ⟨r57, h58, h⟩ := bd1_elim h
          refine j_callV (As := []) (rest := []) C (kX12_isGood_0 l B D ad cA hI S48 V56 L49 _ h58) mw_X12_isGood wd1656 wd59 wd1654 tr_0 rfl rfl ⟨rfl, rfl, by decide, by decide⟩ ⟨Nat.zero_le _, Nat.zero_le _⟩ rfl rfl (Nat.le_of_ble_eq_true rfl) dX12_readsTenant_136 ?_
          refine j_if_eq (tgt := 152) C dX12_readsTenant_139 (by decide) (fun c59 => ?_) (fun c59 => ?_)
          · have h := (if_pos c59).symm.trans h
            cases h
            exact j_vret C hr hlk rfl dX12_readsTenant_152
          · have h := (if_neg c59).symm.trans h
            refine j_aload_n C 0 rfl dX12_readsTenant_142 rfl ?_
            refine j_dup C dX12_readsTenant_143 rfl ?_
            refine fg_X12_212_TR_0 C dX12_readsTenant_144 ?_
            refine j_iconst C dX12_readsTenant_147 ci_1 ?_
            refine j_iadd C dX12_readsTenant_148 ?_
            refine lt_elim h (fun x60 e_x60 h => ?_)
            refine j_top e_x60 ?_
            refine fp_X12_212_TR_0 C dX12_readsTenant_149 ?_
            refine lt_elim h (fun S61 e_S61 h => ?_)
            refine j_S e_S61 ?_
            cases h
            exact j_vret C hr hlk rfl dX12_readsTenant_152
        refine bk_elim h (fun K79_62 e_K79_62 h => ?_)
        have HK79_62 : ∀ (x63 : Int32) (x64 : Int32) (S65 : Nat → Int32) (V66 : Nat → Nat → Int32) (L67 : Nat → Int64), K79_62 x63 x64 S65 V66 L67 = some (S0, V0, L0) → jW p l e ({ frames := 3, cells := 0, slots := 0, locals := 70 }) s m args below meth c (MQ below (jQc D TR ad cA none s.heap.size S0 V0 L0) args s 0 0 (jA ad TR s.heap.size)) D TR ad cA (jA ad TR s.heap.size) 3 0 0 79 [(0, .ref (ad 0)), (1, .int x63), (2, .int x64)] [.ref (ad 0)] S65 V66 L67 := by
          subst e_K79_62
          intro x63 x64 S65 V66 L67 h
          refine j_iconst C dX12_readsTenant_79 ci_0 ?_
          exact j_sub [0, 1, 2] rfl (HK80_26 _ _ _ _ _ _ h)
        refine j_icmp_lt (tgt := 79) C dX12_readsTenant_66 (by decide) (fun c68 => ?_) (fun c68 => ?_)
        · have h := (if_pos c68).symm.trans h
          exact j_sub [1, 2, 0] rfl (HK79_62 _ _ _ _ _ h)
        · have h := (if_neg c68).symm.trans h
          refine j_iload_n C 0 rfl dX12_readsTenant_69 rfl ?_
          refine j_bipush C dX12_readsTenant_70 cb_8 ?_
          refine j_icmp_gt (tgt := 79) C dX12_readsTenant_72 (by decide) (fun c69 => ?_) (fun c69 => ?_)
          · have h := (if_pos c69).symm.trans h
            exact j_sub [1, 2, 0] rfl (HK79_62 _ _ _ _ _ h)
          · have h := (if_neg c69).symm.trans h
            refine j_iconst C dX12_readsTenant_75 ci_1 ?_
            refine j_goto (tgt := 80) C dX12_readsTenant_76 (by decide) ?_
            exact j_sub [1, 2, 0] rfl (HK80_26 _ _ _ _ _ _ h)
      refine j_if_eq (tgt := 60) C dX12_readsTenant_50 (by decide) (fun c70 => ?_) (fun c70 => ?_)
      · have h := (if_pos c70).symm.trans h
        refine j_iconst C dX12_readsTenant_60 ci_m1 ?_
        exact j_sub [1, 0] rfl (HK61_20 _ _ _ _ _ h)
      · have h := (if_neg c70).symm.trans h
        refine j_aload_n C 1 rfl dX12_readsTenant_53 rfl ?_
        obtain ⟨r71, h72, h⟩ := bd1_elim h
        refine j_callV (As := []) (rest := []) C (kX12_knownWord_0 l B D ad cA hI S13 V17 L14 _ h72) mw_X12_knownWord wd1664 wd61 wd1662 tr_0 rfl rfl ⟨rfl, rfl, by decide, by decide⟩ ⟨Nat.zero_le _, Nat.zero_le _⟩ rfl rfl (Nat.le_of_ble_eq_true rfl) dX12_readsTenant_54 ?_
        refine j_goto (tgt := 61) C dX12_readsTenant_57 (by decide) ?_
        exact j_sub [1, 0] rfl (HK61_20 _ _ _ _ _ h)
    · have h := (if_pos c7).symm.trans h
      cases h
      exact j_vret C hr hlk rfl dX12_readsTenant_21
  refine j_icmp_ne (tgt := 14) C dX12_readsTenant_6 (by decide) (fun c73 => ?_) (fun c73 => ?_)
  · have h := (if_neg c73).symm.trans h
    exact j_sub [0] rfl (HK14_1 _ _ _ h)
  · have h := (if_pos c73).symm.trans h
    refine j_aload_n C 0 rfl dX12_readsTenant_9 rfl ?_
    refine j_iconst C dX12_readsTenant_10 ci_2 ?_
    obtain ⟨S74, h75, h⟩ := bd1_elim h
    refine j_callV (As := [.int (2 : Int32)]) (rest := []) C (kX12_wrong_0 l B D ad cA hI S V L (2 : Int32) _ h75) mw_X12_wrong wd1679 wd63 wd1677 tr_0 rfl rfl ⟨rfl, rfl, by decide, by decide⟩ ⟨Nat.zero_le _, Nat.zero_le _⟩ rfl rfl (Nat.le_of_ble_eq_true rfl) dX12_readsTenant_11 ?_
    exact j_sub [0] rfl (HK14_1 _ _ _ h)
theorem dX12_line_0 : decode cX12_line 0 = .ok (.aload_n 0, 1) := by decide +kernel
theorem dX12_line_1 : decode cX12_line 1 = .ok (.invokevirtual 177, 3) := by decide +kernel
theorem dX12_line_4 : decode cX12_line 4 = .ok (.istore_n 1, 1) := by decide +kernel
theorem dX12_line_5 : decode cX12_line 5 = .ok (.iload_n 1, 1) := by decide +kernel
theorem dX12_line_6 : decode cX12_line 6 = .ok (.bipush 9, 2) := by decide +kernel
theorem dX12_line_8 : decode cX12_line 8 = .ok (.if_icmp .ne 26, 3) := by decide +kernel
theorem dX12_line_11 : decode cX12_line 11 = .ok (.aload_n 0, 1) := by decide +kernel
theorem dX12_line_12 : decode cX12_line 12 = .ok (.iload_n 1, 1) := by decide +kernel
theorem dX12_line_13 : decode cX12_line 13 = .ok (.invokevirtual 228, 3) := by decide +kernel
theorem dX12_line_16 : decode cX12_line 16 = .ok (.ifCond .eq 179, 3) := by decide +kernel
theorem dX12_line_19 : decode cX12_line 19 = .ok (.aload_n 0, 1) := by decide +kernel
theorem dX12_line_20 : decode cX12_line 20 = .ok (.aload_n 0, 1) := by decide +kernel
theorem dX12_line_21 : decode cX12_line 21 = .ok (.bipush 20, 2) := by decide +kernel
theorem dX12_line_23 : decode cX12_line 23 = .ok (.bipush 60, 2) := by decide +kernel
theorem dX12_line_25 : decode cX12_line 25 = .ok (.invokevirtual 215, 3) := by decide +kernel
theorem dX12_line_28 : decode cX12_line 28 = .ok (.putfield 231, 3) := by decide +kernel
theorem dX12_line_31 : decode cX12_line 31 = .ok (.goto 164, 3) := by decide +kernel
theorem dX12_line_34 : decode cX12_line 34 = .ok (.iload_n 1, 1) := by decide +kernel
theorem dX12_line_35 : decode cX12_line 35 = .ok (.bipush 10, 2) := by decide +kernel
theorem dX12_line_37 : decode cX12_line 37 = .ok (.if_icmp .ne 36, 3) := by decide +kernel
theorem dX12_line_40 : decode cX12_line 40 = .ok (.aload_n 0, 1) := by decide +kernel
theorem dX12_line_41 : decode cX12_line 41 = .ok (.iload_n 1, 1) := by decide +kernel
theorem dX12_line_42 : decode cX12_line 42 = .ok (.invokevirtual 228, 3) := by decide +kernel
theorem dX12_line_45 : decode cX12_line 45 = .ok (.ifCond .eq 14, 3) := by decide +kernel
theorem dX12_line_48 : decode cX12_line 48 = .ok (.aload_n 0, 1) := by decide +kernel
theorem dX12_line_49 : decode cX12_line 49 = .ok (.aload_n 0, 1) := by decide +kernel
theorem dX12_line_50 : decode cX12_line 50 = .ok (.iconst 0, 1) := by decide +kernel
theorem dX12_line_51 : decode cX12_line 51 = .ok (.bipush 30, 2) := by decide +kernel
theorem dX12_line_53 : decode cX12_line 53 = .ok (.invokevirtual 215, 3) := by decide +kernel
theorem dX12_line_56 : decode cX12_line 56 = .ok (.putfield 234, 3) := by decide +kernel
theorem dX12_line_59 : decode cX12_line 59 = .ok (.aload_n 0, 1) := by decide +kernel
theorem dX12_line_60 : decode cX12_line 60 = .ok (.aload_n 0, 1) := by decide +kernel
theorem dX12_line_61 : decode cX12_line 61 = .ok (.iconst 1, 1) := by decide +kernel
theorem dX12_line_62 : decode cX12_line 62 = .ok (.bipush 99, 2) := by decide +kernel
theorem dX12_line_64 : decode cX12_line 64 = .ok (.invokevirtual 215, 3) := by decide +kernel
theorem dX12_line_67 : decode cX12_line 67 = .ok (.putfield 237, 3) := by decide +kernel
theorem dX12_line_70 : decode cX12_line 70 = .ok (.goto 125, 3) := by decide +kernel
theorem dX12_line_73 : decode cX12_line 73 = .ok (.iload_n 1, 1) := by decide +kernel
theorem dX12_line_74 : decode cX12_line 74 = .ok (.bipush 11, 2) := by decide +kernel
theorem dX12_line_76 : decode cX12_line 76 = .ok (.if_icmp .ne 27, 3) := by decide +kernel
theorem dX12_line_79 : decode cX12_line 79 = .ok (.aload_n 0, 1) := by decide +kernel
theorem dX12_line_80 : decode cX12_line 80 = .ok (.iload_n 1, 1) := by decide +kernel
theorem dX12_line_81 : decode cX12_line 81 = .ok (.invokevirtual 228, 3) := by decide +kernel
theorem dX12_line_84 : decode cX12_line 84 = .ok (.ifCond .eq 111, 3) := by decide +kernel
theorem dX12_line_87 : decode cX12_line 87 = .ok (.aload_n 0, 1) := by decide +kernel
theorem dX12_line_88 : decode cX12_line 88 = .ok (.aload_n 0, 1) := by decide +kernel
theorem dX12_line_89 : decode cX12_line 89 = .ok (.bipush 41, 2) := by decide +kernel
theorem dX12_line_91 : decode cX12_line 91 = .ok (.sipush 400, 3) := by decide +kernel
theorem dX12_line_94 : decode cX12_line 94 = .ok (.invokevirtual 215, 3) := by decide +kernel
theorem dX12_line_97 : decode cX12_line 97 = .ok (.putfield 240, 3) := by decide +kernel
theorem dX12_line_100 : decode cX12_line 100 = .ok (.goto 95, 3) := by decide +kernel
theorem dX12_line_103 : decode cX12_line 103 = .ok (.iload_n 1, 1) := by decide +kernel
theorem dX12_line_104 : decode cX12_line 104 = .ok (.bipush 12, 2) := by decide +kernel
theorem dX12_line_106 : decode cX12_line 106 = .ok (.if_icmp .ne 10, 3) := by decide +kernel
theorem dX12_line_109 : decode cX12_line 109 = .ok (.aload_n 0, 1) := by decide +kernel
theorem dX12_line_110 : decode cX12_line 110 = .ok (.invokevirtual 243, 3) := by decide +kernel
theorem dX12_line_113 : decode cX12_line 113 = .ok (.goto 82, 3) := by decide +kernel
theorem dX12_line_116 : decode cX12_line 116 = .ok (.iload_n 1, 1) := by decide +kernel
theorem dX12_line_117 : decode cX12_line 117 = .ok (.bipush 13, 2) := by decide +kernel
theorem dX12_line_119 : decode cX12_line 119 = .ok (.if_icmp .ne 10, 3) := by decide +kernel
theorem dX12_line_122 : decode cX12_line 122 = .ok (.aload_n 0, 1) := by decide +kernel
theorem dX12_line_123 : decode cX12_line 123 = .ok (.invokevirtual 246, 3) := by decide +kernel
theorem dX12_line_126 : decode cX12_line 126 = .ok (.goto 69, 3) := by decide +kernel
theorem dX12_line_129 : decode cX12_line 129 = .ok (.iload_n 1, 1) := by decide +kernel
theorem dX12_line_130 : decode cX12_line 130 = .ok (.bipush 14, 2) := by decide +kernel
theorem dX12_line_132 : decode cX12_line 132 = .ok (.if_icmp .ne 58, 3) := by decide +kernel
theorem dX12_line_135 : decode cX12_line 135 = .ok (.aload_n 0, 1) := by decide +kernel
theorem dX12_line_136 : decode cX12_line 136 = .ok (.getfield 249, 3) := by decide +kernel
theorem dX12_line_139 : decode cX12_line 139 = .ok (.iconst 4, 1) := by decide +kernel
theorem dX12_line_140 : decode cX12_line 140 = .ok (.if_icmp .ne 8, 3) := by decide +kernel
theorem dX12_line_143 : decode cX12_line 143 = .ok (.aload_n 0, 1) := by decide +kernel
theorem dX12_line_144 : decode cX12_line 144 = .ok (.iconst 2, 1) := by decide +kernel
theorem dX12_line_145 : decode cX12_line 145 = .ok (.invokevirtual 159, 3) := by decide +kernel
theorem dX12_line_148 : decode cX12_line 148 = .ok (.aload_n 0, 1) := by decide +kernel
theorem dX12_line_149 : decode cX12_line 149 = .ok (.invokevirtual 152, 3) := by decide +kernel
theorem dX12_line_152 : decode cX12_line 152 = .ok (.ifCond .ne 4, 3) := by decide +kernel
theorem dX12_line_155 : decode cX12_line 155 = .ok (.return_, 1) := by decide +kernel
theorem dX12_line_156 : decode cX12_line 156 = .ok (.aload_n 0, 1) := by decide +kernel
theorem dX12_line_157 : decode cX12_line 157 = .ok (.invokevirtual 156, 3) := by decide +kernel
theorem dX12_line_160 : decode cX12_line 160 = .ok (.aload_n 0, 1) := by decide +kernel
theorem dX12_line_161 : decode cX12_line 161 = .ok (.getfield 47, 3) := by decide +kernel
theorem dX12_line_164 : decode cX12_line 164 = .ok (.aload_n 0, 1) := by decide +kernel
theorem dX12_line_165 : decode cX12_line 165 = .ok (.getfield 249, 3) := by decide +kernel
theorem dX12_line_168 : decode cX12_line 168 = .ok (.aload_n 0, 1) := by decide +kernel
theorem dX12_line_169 : decode cX12_line 169 = .ok (.getfield 162, 3) := by decide +kernel
theorem dX12_line_172 : decode cX12_line 172 = .ok (.iastore, 1) := by decide +kernel
theorem dX12_line_173 : decode cX12_line 173 = .ok (.aload_n 0, 1) := by decide +kernel
theorem dX12_line_174 : decode cX12_line 174 = .ok (.dup, 1) := by decide +kernel
theorem dX12_line_175 : decode cX12_line 175 = .ok (.getfield 249, 3) := by decide +kernel
theorem dX12_line_178 : decode cX12_line 178 = .ok (.iconst 1, 1) := by decide +kernel
theorem dX12_line_179 : decode cX12_line 179 = .ok (.iadd, 1) := by decide +kernel
theorem dX12_line_180 : decode cX12_line 180 = .ok (.putfield 249, 3) := by decide +kernel
theorem dX12_line_183 : decode cX12_line 183 = .ok (.aload_n 0, 1) := by decide +kernel
theorem dX12_line_184 : decode cX12_line 184 = .ok (.invokevirtual 252, 3) := by decide +kernel
theorem dX12_line_187 : decode cX12_line 187 = .ok (.goto 8, 3) := by decide +kernel
theorem dX12_line_190 : decode cX12_line 190 = .ok (.aload_n 0, 1) := by decide +kernel
theorem dX12_line_191 : decode cX12_line 191 = .ok (.iconst 1, 1) := by decide +kernel
theorem dX12_line_192 : decode cX12_line 192 = .ok (.invokevirtual 159, 3) := by decide +kernel
theorem dX12_line_195 : decode cX12_line 195 = .ok (.aload_n 0, 1) := by decide +kernel
theorem dX12_line_196 : decode cX12_line 196 = .ok (.aload_n 0, 1) := by decide +kernel
theorem dX12_line_197 : decode cX12_line 197 = .ok (.bipush 59, 2) := by decide +kernel
theorem dX12_line_199 : decode cX12_line 199 = .ok (.invokevirtual 184, 3) := by decide +kernel
theorem dX12_line_202 : decode cX12_line 202 = .ok (.invokevirtual 219, 3) := by decide +kernel
theorem dX12_line_205 : decode cX12_line 205 = .ok (.return_, 1) := by decide +kernel
def fX12_line_0 (S : Nat → Int32) (V : Nat → Nat → Int32) (L : Nat → Int64) : Option ((Nat → Int32) × (Nat → Nat → Int32) × (Nat → Int64)) :=
  bd1 (fX12_knownWord_0 S L) (fun r1 =>
  bk (fun (S4 : Nat → Int32) (V5 : Nat → Nat → Int32) (L6 : Nat → Int64) =>
  bd1 (fX12_isSign_0 S4 (59 : Int32)) (fun r7 =>
  bd2 (fX12_need_0 S4 V5 L6 r7) (fun S9 L10 =>
  some (S9, V5, L10)))) (fun K195_3 =>
  (if r1 = (9 : Int32) then
  bd3 (fX12_begins_0 S V L r1) (fun r80 S81 L82 =>
  (if r80 = 0 then
  K195_3 S81 V L82
  else
  bd3 (fX12_number_0 S81 V L82 (20 : Int32) (60 : Int32)) (fun r85 S86 L87 =>
  lt (va_up S86 25 r85) (fun S89 =>
  K195_3 S89 V L87))))
  else
  (if r1 = (10 : Int32) then
  bd3 (fX12_begins_0 S V L r1) (fun r61 S62 L63 =>
  bk (fun (S66 : Nat → Int32) (V67 : Nat → Nat → Int32) (L68 : Nat → Int64) =>
  bd3 (fX12_number_0 S66 V67 L68 (1 : Int32) (99 : Int32)) (fun r69 S70 L71 =>
  lt (va_up S70 27 r69) (fun S73 =>
  K195_3 S73 V67 L71))) (fun K59_65 =>
  (if r61 = 0 then
  K59_65 S62 V L63
  else
  bd3 (fX12_number_0 S62 V L63 (0 : Int32) (30 : Int32)) (fun r75 S76 L77 =>
  lt (va_up S76 26 r75) (fun S79 =>
  K59_65 S79 V L77)))))
  else
  (if r1 = (11 : Int32) then
  bd3 (fX12_begins_0 S V L r1) (fun r51 S52 L53 =>
  (if r51 = 0 then
  K195_3 S52 V L53
  else
  bd3 (fX12_number_0 S52 V L53 (41 : Int32) (400 : Int32)) (fun r56 S57 L58 =>
  lt (va_up S57 28 r56) (fun S60 =>
  K195_3 S60 V L58))))
  else
  (if r1 = (12 : Int32) then
  bd3 (fX12_readsTenant_0 S V L) (fun S47 V48 L49 =>
  K195_3 S47 V48 L49)
  else
  (if r1 = (13 : Int32) then
  bd3 (fX12_readsQuarrel_0 S V L) (fun S43 V44 L45 =>
  K195_3 S43 V44 L45)
  else
  (if r1 = (14 : Int32) then
  bk (fun (S21 : Nat → Int32) (V22 : Nat → Nat → Int32) (L23 : Nat → Int64) =>
  bd1 (fX12_isGood_0 S21) (fun r24 =>
  (if r24 = 0 then
  some (S21, V22, L23)
  else
  bd2 (fX12_goes_0 S21 V22 L23) (fun S27 L28 =>
  lt ((S27 33)) (fun x30 =>
  lt ((S27 31)) (fun x31 =>
  gd (ib x31 4) (
  lt (va_up V22 9 (upd (V22 9) (x31).toNatClampNeg x30)) (fun V33 =>
  lt (((S27 31) + (1 : Int32))) (fun x34 =>
  lt (va_up S27 31 x34) (fun S35 =>
  bd3 (fX12_expression_0 S35 V33 L28) (fun S36 V37 L38 =>
  K195_3 S36 V37 L38))))))))))) (fun K148_20 =>
  (if (S 31) = (4 : Int32) then
  bd1 (fX12_wrong_0 S (2 : Int32)) (fun S41 =>
  K148_20 S41 V L)
  else
  K148_20 S V L))
  else
  bd1 (fX12_wrong_0 S (1 : Int32)) (fun S18 =>
  K195_3 S18 V L)))))))))
set_option maxHeartbeats 4000000 in
set_option maxRecDepth 100000 in
theorem kX12_line_0 (l : Launch) (B : jBT) (D : va_G) (ad : Nat → Nat) (cA : Nat → ClassId) (hI : jI ad TR) (S : Nat → Int32) (V : Nat → Nat → Int32) (L : Nat → Int64) (S0 : Nat → Int32) (V0 : Nat → Nat → Int32) (L0 : Nat → Int64) (h : fX12_line_0 S V L = some (S0, V0, L0)) : jM l yX12_line cX12_line 2 none ({ frames := 6, cells := 0, slots := 0, locals := 137 }) B D TR ad cA [.ref (ad 0)] S V L none S0 V0 L0 := by
  refine jM_of (plainFor_of_name (by decide)) TR_ok hI (Nat.le_of_ble_eq_true rfl) ?_
  intro p e s m args below meth c C hr hlk
  refine j_lv (lv2 := [(0, .ref (ad 0))]) rfl ?_
  unfold fX12_line_0 at h
  refine j_aload_n C 0 rfl dX12_line_0 rfl ?_
  obtain ⟨r1, h2, h⟩ := bd1_elim h
  refine j_callV (As := []) (rest := []) C (kX12_knownWord_0 l B D ad cA hI S V L _ h2) mw_X12_knownWord wd1664 wd61 wd1662 tr_0 rfl rfl ⟨rfl, rfl, by decide, by decide⟩ ⟨Nat.zero_le _, Nat.zero_le _⟩ rfl rfl (Nat.le_of_ble_eq_true rfl) dX12_line_1 ?_
  refine j_istore_n C [(1, .int r1), (0, .ref (ad 0))] dX12_line_4 rfl (by decide) rfl ?_
  refine j_iload_n C 0 rfl dX12_line_5 rfl ?_
  refine j_bipush C dX12_line_6 cb_9 ?_
  refine bk_elim h (fun K195_3 e_K195_3 h => ?_)
  have HK195_3 : ∀ (S4 : Nat → Int32) (V5 : Nat → Nat → Int32) (L6 : Nat → Int64), K195_3 S4 V5 L6 = some (S0, V0, L0) → jW p l e ({ frames := 6, cells := 0, slots := 0, locals := 137 }) s m args below meth c (MQ below (jQc D TR ad cA none s.heap.size S0 V0 L0) args s 0 0 (jA ad TR s.heap.size)) D TR ad cA (jA ad TR s.heap.size) 2 0 0 195 [(0, .ref (ad 0))] [] S4 V5 L6 := by
    subst e_K195_3
    intro S4 V5 L6 h
    refine j_aload_n C 0 rfl dX12_line_195 rfl ?_
    refine j_aload_n C 0 rfl dX12_line_196 rfl ?_
    refine j_bipush C dX12_line_197 cb_59 ?_
    obtain ⟨r7, h8, h⟩ := bd1_elim h
    refine j_callV (As := [.int (59 : Int32)]) (rest := [.ref (ad 0)]) C (kX12_isSign_0 l B D ad cA hI S4 V5 L6 (59 : Int32) _ h8) mw_X12_isSign wd1711 wd71 wd1709 tr_0 rfl rfl ⟨rfl, rfl, by decide, by decide⟩ ⟨Nat.zero_le _, Nat.zero_le _⟩ rfl rfl (Nat.le_of_ble_eq_true rfl) dX12_line_199 ?_
    obtain ⟨S9, L10, h11, h⟩ := bd2_elim h
    refine j_callV (As := [.int r7]) (rest := []) C (kX12_need_0 l B D ad cA hI S4 V5 L6 r7 _ _ h11) mw_X12_need wd1691 wd66 wd1689 tr_0 rfl rfl ⟨rfl, rfl, by decide, by decide⟩ ⟨Nat.zero_le _, Nat.zero_le _⟩ rfl rfl (Nat.le_of_ble_eq_true rfl) dX12_line_202 ?_
    cases h
    exact j_vret C hr hlk rfl dX12_line_205
  refine j_icmp_ne (tgt := 34) C dX12_line_8 (by decide) (fun c12 => ?_) (fun c12 => ?_)
  · have h := (if_neg c12).symm.trans h
    refine j_iload_n C 0 rfl dX12_line_34 rfl ?_
    refine j_bipush C dX12_line_35 cb_10 ?_
    refine j_icmp_ne (tgt := 73) C dX12_line_37 (by decide) (fun c13 => ?_) (fun c13 => ?_)
    · have h := (if_neg c13).symm.trans h
      refine j_iload_n C 0 rfl dX12_line_73 rfl ?_
      refine j_bipush C dX12_line_74 cb_11 ?_
      refine j_icmp_ne (tgt := 103) C dX12_line_76 (by decide) (fun c14 => ?_) (fun c14 => ?_)
      · have h := (if_neg c14).symm.trans h
        refine j_iload_n C 0 rfl dX12_line_103 rfl ?_
        refine j_bipush C dX12_line_104 cb_12 ?_
        refine j_icmp_ne (tgt := 116) C dX12_line_106 (by decide) (fun c15 => ?_) (fun c15 => ?_)
        · have h := (if_neg c15).symm.trans h
          refine j_iload_n C 0 rfl dX12_line_116 rfl ?_
          refine j_bipush C dX12_line_117 cb_13 ?_
          refine j_icmp_ne (tgt := 129) C dX12_line_119 (by decide) (fun c16 => ?_) (fun c16 => ?_)
          · have h := (if_neg c16).symm.trans h
            refine j_iload_n C 0 rfl dX12_line_129 rfl ?_
            refine j_bipush C dX12_line_130 cb_14 ?_
            refine j_icmp_ne (tgt := 190) C dX12_line_132 (by decide) (fun c17 => ?_) (fun c17 => ?_)
            · have h := (if_neg c17).symm.trans h
              refine j_aload_n C 1 rfl dX12_line_190 rfl ?_
              refine j_iconst C dX12_line_191 ci_1 ?_
              obtain ⟨S18, h19, h⟩ := bd1_elim h
              refine j_callV (As := [.int (1 : Int32)]) (rest := []) C (kX12_wrong_0 l B D ad cA hI S V L (1 : Int32) _ h19) mw_X12_wrong wd1679 wd63 wd1677 tr_0 rfl rfl ⟨rfl, rfl, by decide, by decide⟩ ⟨Nat.zero_le _, Nat.zero_le _⟩ rfl rfl (Nat.le_of_ble_eq_true rfl) dX12_line_192 ?_
              exact j_sub [1] rfl (HK195_3 _ _ _ h)
            · have h := (if_pos c17).symm.trans h
              refine j_aload_n C 1 rfl dX12_line_135 rfl ?_
              refine fg_X12_249_TR_0 C dX12_line_136 ?_
              refine j_iconst C dX12_line_139 ci_4 ?_
              refine bk_elim h (fun K148_20 e_K148_20 h => ?_)
              have HK148_20 : ∀ (S21 : Nat → Int32) (V22 : Nat → Nat → Int32) (L23 : Nat → Int64), K148_20 S21 V22 L23 = some (S0, V0, L0) → jW p l e ({ frames := 6, cells := 0, slots := 0, locals := 137 }) s m args below meth c (MQ below (jQc D TR ad cA none s.heap.size S0 V0 L0) args s 0 0 (jA ad TR s.heap.size)) D TR ad cA (jA ad TR s.heap.size) 2 0 0 148 [(0, .ref (ad 0))] [] S21 V22 L23 := by
                subst e_K148_20
                intro S21 V22 L23 h
                refine j_aload_n C 0 rfl dX12_line_148 rfl ?_
                obtain ⟨r24, h25, h⟩ := bd1_elim h
                refine j_callV (As := []) (rest := []) C (kX12_isGood_0 l B D ad cA hI S21 V22 L23 _ h25) mw_X12_isGood wd1656 wd59 wd1654 tr_0 rfl rfl ⟨rfl, rfl, by decide, by decide⟩ ⟨Nat.zero_le _, Nat.zero_le _⟩ rfl rfl (Nat.le_of_ble_eq_true rfl) dX12_line_149 ?_
                refine j_if_ne (tgt := 156) C dX12_line_152 (by decide) (fun c26 => ?_) (fun c26 => ?_)
                · have h := (if_neg c26).symm.trans h
                  refine j_aload_n C 0 rfl dX12_line_156 rfl ?_
                  obtain ⟨S27, L28, h29, h⟩ := bd2_elim h
                  refine j_callV (As := []) (rest := []) C (kX12_goes_0 l B D ad cA hI S21 V22 L23 _ _ h29) mw_X12_goes wd1642 wd57 wd1640 tr_0 rfl rfl ⟨rfl, rfl, by decide, by decide⟩ ⟨Nat.zero_le _, Nat.zero_le _⟩ rfl rfl (Nat.le_of_ble_eq_true rfl) dX12_line_157 ?_
                  refine j_aload_n C 0 rfl dX12_line_160 rfl ?_
                  refine fg_X12_47_TR_0 C dX12_line_161 ?_
                  refine j_aload_n C 0 rfl dX12_line_164 rfl ?_
                  refine fg_X12_249_TR_0 C dX12_line_165 ?_
                  refine j_aload_n C 0 rfl dX12_line_168 rfl ?_
                  refine fg_X12_162_TR_0 C dX12_line_169 ?_
                  refine lt_elim h (fun x30 e_x30 h => ?_)
                  refine j_top e_x30 ?_
                  refine lt_elim h (fun x31 e_x31 h => ?_)
                  refine j_top2 e_x31 ?_
                  obtain ⟨g32, h⟩ := gd_elim h
                  refine j_iast C tr_9 (ib_in g32) dX12_line_172 ?_
                  refine lt_elim h (fun V33 e_V33 h => ?_)
                  refine j_V e_V33 ?_
                  refine j_aload_n C 0 rfl dX12_line_173 rfl ?_
                  refine j_dup C dX12_line_174 rfl ?_
                  refine fg_X12_249_TR_0 C dX12_line_175 ?_
                  refine j_iconst C dX12_line_178 ci_1 ?_
                  refine j_iadd C dX12_line_179 ?_
                  refine lt_elim h (fun x34 e_x34 h => ?_)
                  refine j_top e_x34 ?_
                  refine fp_X12_249_TR_0 C dX12_line_180 ?_
                  refine lt_elim h (fun S35 e_S35 h => ?_)
                  refine j_S e_S35 ?_
                  refine j_aload_n C 0 rfl dX12_line_183 rfl ?_
                  obtain ⟨S36, V37, L38, h39, h⟩ := bd3_elim h
                  refine j_callV (As := []) (rest := []) C (kX12_expression_0 l B D ad cA hI S35 V33 L28 _ _ _ h39) mw_X12_expression wd1703 wd69 wd1701 tr_0 rfl rfl ⟨rfl, rfl, by decide, by decide⟩ ⟨Nat.zero_le _, Nat.zero_le _⟩ rfl rfl (Nat.le_of_ble_eq_true rfl) dX12_line_184 ?_
                  refine j_goto (tgt := 195) C dX12_line_187 (by decide) ?_
                  exact j_sub [0] rfl (HK195_3 _ _ _ h)
                · have h := (if_pos c26).symm.trans h
                  cases h
                  exact j_vret C hr hlk rfl dX12_line_155
              refine j_icmp_ne (tgt := 148) C dX12_line_140 (by decide) (fun c40 => ?_) (fun c40 => ?_)
              · have h := (if_neg c40).symm.trans h
                exact j_sub [1] rfl (HK148_20 _ _ _ h)
              · have h := (if_pos c40).symm.trans h
                refine j_aload_n C 1 rfl dX12_line_143 rfl ?_
                refine j_iconst C dX12_line_144 ci_2 ?_
                obtain ⟨S41, h42, h⟩ := bd1_elim h
                refine j_callV (As := [.int (2 : Int32)]) (rest := []) C (kX12_wrong_0 l B D ad cA hI S V L (2 : Int32) _ h42) mw_X12_wrong wd1679 wd63 wd1677 tr_0 rfl rfl ⟨rfl, rfl, by decide, by decide⟩ ⟨Nat.zero_le _, Nat.zero_le _⟩ rfl rfl (Nat.le_of_ble_eq_true rfl) dX12_line_145 ?_
                exact j_sub [1] rfl (HK148_20 _ _ _ h)
          · have h := (if_pos c16).symm.trans h
            refine j_aload_n C 1 rfl dX12_line_122 rfl ?_
            obtain ⟨S43, V44, L45, h46, h⟩ := bd3_elim h
            refine j_callV (As := []) (rest := []) C (kX12_readsQuarrel_0 l B D ad cA hI S V L _ _ _ h46) mw_X12_readsQuarrel wd1695 wd67 wd1693 tr_0 rfl rfl ⟨rfl, rfl, by decide, by decide⟩ ⟨Nat.zero_le _, Nat.zero_le _⟩ rfl rfl (Nat.le_of_ble_eq_true rfl) dX12_line_123 ?_
            refine j_goto (tgt := 195) C dX12_line_126 (by decide) ?_
            exact j_sub [1] rfl (HK195_3 _ _ _ h)
        · have h := (if_pos c15).symm.trans h
          refine j_aload_n C 1 rfl dX12_line_109 rfl ?_
          obtain ⟨S47, V48, L49, h50, h⟩ := bd3_elim h
          refine j_callV (As := []) (rest := []) C (kX12_readsTenant_0 l B D ad cA hI S V L _ _ _ h50) mw_X12_readsTenant wd1687 wd65 wd1685 tr_0 rfl rfl ⟨rfl, rfl, by decide, by decide⟩ ⟨Nat.zero_le _, Nat.zero_le _⟩ rfl rfl (Nat.le_of_ble_eq_true rfl) dX12_line_110 ?_
          refine j_goto (tgt := 195) C dX12_line_113 (by decide) ?_
          exact j_sub [1] rfl (HK195_3 _ _ _ h)
      · have h := (if_pos c14).symm.trans h
        refine j_aload_n C 1 rfl dX12_line_79 rfl ?_
        refine j_iload_n C 0 rfl dX12_line_80 rfl ?_
        obtain ⟨r51, S52, L53, h54, h⟩ := bd3_elim h
        refine j_callV (As := [.int r1]) (rest := []) C (kX12_begins_0 l B D ad cA hI S V L r1 _ _ _ h54) mw_X12_begins wd1675 wd62 wd1673 tr_0 rfl rfl ⟨rfl, rfl, by decide, by decide⟩ ⟨Nat.zero_le _, Nat.zero_le _⟩ rfl rfl (Nat.le_of_ble_eq_true rfl) dX12_line_81 ?_
        refine j_if_eq (tgt := 195) C dX12_line_84 (by decide) (fun c55 => ?_) (fun c55 => ?_)
        · have h := (if_pos c55).symm.trans h
          exact j_sub [1] rfl (HK195_3 _ _ _ h)
        · have h := (if_neg c55).symm.trans h
          refine j_aload_n C 1 rfl dX12_line_87 rfl ?_
          refine j_aload_n C 1 rfl dX12_line_88 rfl ?_
          refine j_bipush C dX12_line_89 cb_41 ?_
          refine j_sipush C dX12_line_91 cs_400 ?_
          obtain ⟨r56, S57, L58, h59, h⟩ := bd3_elim h
          refine j_callV (As := [.int (41 : Int32), .int (400 : Int32)]) (rest := [.ref (ad 0)]) C (kX12_number_0 l B D ad cA hI S52 V L53 (41 : Int32) (400 : Int32) _ _ _ h59) mw_X12_number wd1683 wd64 wd1681 tr_0 rfl rfl ⟨rfl, rfl, by decide, by decide⟩ ⟨Nat.zero_le _, Nat.zero_le _⟩ rfl rfl (Nat.le_of_ble_eq_true rfl) dX12_line_94 ?_
          refine fp_X12_240_TR_0 C dX12_line_97 ?_
          refine lt_elim h (fun S60 e_S60 h => ?_)
          refine j_S e_S60 ?_
          refine j_goto (tgt := 195) C dX12_line_100 (by decide) ?_
          exact j_sub [1] rfl (HK195_3 _ _ _ h)
    · have h := (if_pos c13).symm.trans h
      refine j_aload_n C 1 rfl dX12_line_40 rfl ?_
      refine j_iload_n C 0 rfl dX12_line_41 rfl ?_
      obtain ⟨r61, S62, L63, h64, h⟩ := bd3_elim h
      refine j_callV (As := [.int r1]) (rest := []) C (kX12_begins_0 l B D ad cA hI S V L r1 _ _ _ h64) mw_X12_begins wd1675 wd62 wd1673 tr_0 rfl rfl ⟨rfl, rfl, by decide, by decide⟩ ⟨Nat.zero_le _, Nat.zero_le _⟩ rfl rfl (Nat.le_of_ble_eq_true rfl) dX12_line_42 ?_
      refine bk_elim h (fun K59_65 e_K59_65 h => ?_)
      have HK59_65 : ∀ (S66 : Nat → Int32) (V67 : Nat → Nat → Int32) (L68 : Nat → Int64), K59_65 S66 V67 L68 = some (S0, V0, L0) → jW p l e ({ frames := 6, cells := 0, slots := 0, locals := 137 }) s m args below meth c (MQ below (jQc D TR ad cA none s.heap.size S0 V0 L0) args s 0 0 (jA ad TR s.heap.size)) D TR ad cA (jA ad TR s.heap.size) 2 0 0 59 [(0, .ref (ad 0))] [] S66 V67 L68 := by
        subst e_K59_65
        intro S66 V67 L68 h
        refine j_aload_n C 0 rfl dX12_line_59 rfl ?_
        refine j_aload_n C 0 rfl dX12_line_60 rfl ?_
        refine j_iconst C dX12_line_61 ci_1 ?_
        refine j_bipush C dX12_line_62 cb_99 ?_
        obtain ⟨r69, S70, L71, h72, h⟩ := bd3_elim h
        refine j_callV (As := [.int (1 : Int32), .int (99 : Int32)]) (rest := [.ref (ad 0)]) C (kX12_number_0 l B D ad cA hI S66 V67 L68 (1 : Int32) (99 : Int32) _ _ _ h72) mw_X12_number wd1683 wd64 wd1681 tr_0 rfl rfl ⟨rfl, rfl, by decide, by decide⟩ ⟨Nat.zero_le _, Nat.zero_le _⟩ rfl rfl (Nat.le_of_ble_eq_true rfl) dX12_line_64 ?_
        refine fp_X12_237_TR_0 C dX12_line_67 ?_
        refine lt_elim h (fun S73 e_S73 h => ?_)
        refine j_S e_S73 ?_
        refine j_goto (tgt := 195) C dX12_line_70 (by decide) ?_
        exact j_sub [0] rfl (HK195_3 _ _ _ h)
      refine j_if_eq (tgt := 59) C dX12_line_45 (by decide) (fun c74 => ?_) (fun c74 => ?_)
      · have h := (if_pos c74).symm.trans h
        exact j_sub [1] rfl (HK59_65 _ _ _ h)
      · have h := (if_neg c74).symm.trans h
        refine j_aload_n C 1 rfl dX12_line_48 rfl ?_
        refine j_aload_n C 1 rfl dX12_line_49 rfl ?_
        refine j_iconst C dX12_line_50 ci_0 ?_
        refine j_bipush C dX12_line_51 cb_30 ?_
        obtain ⟨r75, S76, L77, h78, h⟩ := bd3_elim h
        refine j_callV (As := [.int (0 : Int32), .int (30 : Int32)]) (rest := [.ref (ad 0)]) C (kX12_number_0 l B D ad cA hI S62 V L63 (0 : Int32) (30 : Int32) _ _ _ h78) mw_X12_number wd1683 wd64 wd1681 tr_0 rfl rfl ⟨rfl, rfl, by decide, by decide⟩ ⟨Nat.zero_le _, Nat.zero_le _⟩ rfl rfl (Nat.le_of_ble_eq_true rfl) dX12_line_53 ?_
        refine fp_X12_234_TR_0 C dX12_line_56 ?_
        refine lt_elim h (fun S79 e_S79 h => ?_)
        refine j_S e_S79 ?_
        exact j_sub [1] rfl (HK59_65 _ _ _ h)
  · have h := (if_pos c12).symm.trans h
    refine j_aload_n C 1 rfl dX12_line_11 rfl ?_
    refine j_iload_n C 0 rfl dX12_line_12 rfl ?_
    obtain ⟨r80, S81, L82, h83, h⟩ := bd3_elim h
    refine j_callV (As := [.int r1]) (rest := []) C (kX12_begins_0 l B D ad cA hI S V L r1 _ _ _ h83) mw_X12_begins wd1675 wd62 wd1673 tr_0 rfl rfl ⟨rfl, rfl, by decide, by decide⟩ ⟨Nat.zero_le _, Nat.zero_le _⟩ rfl rfl (Nat.le_of_ble_eq_true rfl) dX12_line_13 ?_
    refine j_if_eq (tgt := 195) C dX12_line_16 (by decide) (fun c84 => ?_) (fun c84 => ?_)
    · have h := (if_pos c84).symm.trans h
      exact j_sub [1] rfl (HK195_3 _ _ _ h)
    · have h := (if_neg c84).symm.trans h
      refine j_aload_n C 1 rfl dX12_line_19 rfl ?_
      refine j_aload_n C 1 rfl dX12_line_20 rfl ?_
      refine j_bipush C dX12_line_21 cb_20 ?_
      refine j_bipush C dX12_line_23 cb_60 ?_
      obtain ⟨r85, S86, L87, h88, h⟩ := bd3_elim h
      refine j_callV (As := [.int (20 : Int32), .int (60 : Int32)]) (rest := [.ref (ad 0)]) C (kX12_number_0 l B D ad cA hI S81 V L82 (20 : Int32) (60 : Int32) _ _ _ h88) mw_X12_number wd1683 wd64 wd1681 tr_0 rfl rfl ⟨rfl, rfl, by decide, by decide⟩ ⟨Nat.zero_le _, Nat.zero_le _⟩ rfl rfl (Nat.le_of_ble_eq_true rfl) dX12_line_25 ?_
      refine fp_X12_231_TR_0 C dX12_line_28 ?_
      refine lt_elim h (fun S89 e_S89 h => ?_)
      refine j_S e_S89 ?_
      refine j_goto (tgt := 195) C dX12_line_31 (by decide) ?_
      exact j_sub [1] rfl (HK195_3 _ _ _ h)
theorem dX12_house_0 : decode cX12_house 0 = .ok (.aload_n 0, 1) := by decide +kernel
theorem dX12_house_1 : decode cX12_house 1 = .ok (.iconst 0, 1) := by decide +kernel
theorem dX12_house_2 : decode cX12_house 2 = .ok (.putfield 93, 3) := by decide +kernel
theorem dX12_house_5 : decode cX12_house 5 = .ok (.aload_n 0, 1) := by decide +kernel
theorem dX12_house_6 : decode cX12_house 6 = .ok (.iload_n 1, 1) := by decide +kernel
theorem dX12_house_7 : decode cX12_house 7 = .ok (.ifCond .lt 15, 3) := by decide +kernel
theorem dX12_house_10 : decode cX12_house 10 = .ok (.iload_n 1, 1) := by decide +kernel
theorem dX12_house_11 : decode cX12_house 11 = .ok (.aload_n 0, 1) := by decide +kernel
theorem dX12_house_12 : decode cX12_house 12 = .ok (.getfield 96, 3) := by decide +kernel
theorem dX12_house_15 : decode cX12_house 15 = .ok (.if_icmp .gt 7, 3) := by decide +kernel
theorem dX12_house_18 : decode cX12_house 18 = .ok (.iconst 1, 1) := by decide +kernel
theorem dX12_house_19 : decode cX12_house 19 = .ok (.goto 4, 3) := by decide +kernel
theorem dX12_house_22 : decode cX12_house 22 = .ok (.iconst 0, 1) := by decide +kernel
theorem dX12_house_23 : decode cX12_house 23 = .ok (.iconst 1, 1) := by decide +kernel
theorem dX12_house_24 : decode cX12_house 24 = .ok (.invokevirtual 255, 3) := by decide +kernel
theorem dX12_house_27 : decode cX12_house 27 = .ok (.ifCond .ne 5, 3) := by decide +kernel
theorem dX12_house_30 : decode cX12_house 30 = .ok (.iconst 0, 1) := by decide +kernel
theorem dX12_house_31 : decode cX12_house 31 = .ok (.ireturn, 1) := by decide +kernel
theorem dX12_house_32 : decode cX12_house 32 = .ok (.aload_n 0, 1) := by decide +kernel
theorem dX12_house_33 : decode cX12_house 33 = .ok (.iconst 0, 1) := by decide +kernel
theorem dX12_house_34 : decode cX12_house 34 = .ok (.putfield 96, 3) := by decide +kernel
theorem dX12_house_37 : decode cX12_house 37 = .ok (.aload_n 0, 1) := by decide +kernel
theorem dX12_house_38 : decode cX12_house 38 = .ok (.iconst (-1), 1) := by decide +kernel
theorem dX12_house_39 : decode cX12_house 39 = .ok (.putfield 35, 3) := by decide +kernel
theorem dX12_house_42 : decode cX12_house 42 = .ok (.aload_n 0, 1) := by decide +kernel
theorem dX12_house_43 : decode cX12_house 43 = .ok (.iconst 0, 1) := by decide +kernel
theorem dX12_house_44 : decode cX12_house 44 = .ok (.putfield 149, 3) := by decide +kernel
theorem dX12_house_47 : decode cX12_house 47 = .ok (.aload_n 0, 1) := by decide +kernel
theorem dX12_house_48 : decode cX12_house 48 = .ok (.iload_n 1, 1) := by decide +kernel
theorem dX12_house_49 : decode cX12_house 49 = .ok (.putfield 103, 3) := by decide +kernel
theorem dX12_house_52 : decode cX12_house 52 = .ok (.aload_n 0, 1) := by decide +kernel
theorem dX12_house_53 : decode cX12_house 53 = .ok (.iconst 0, 1) := by decide +kernel
theorem dX12_house_54 : decode cX12_house 54 = .ok (.putfield 106, 3) := by decide +kernel
theorem dX12_house_57 : decode cX12_house 57 = .ok (.aload_n 0, 1) := by decide +kernel
theorem dX12_house_58 : decode cX12_house 58 = .ok (.bipush 30, 2) := by decide +kernel
theorem dX12_house_60 : decode cX12_house 60 = .ok (.putfield 231, 3) := by decide +kernel
theorem dX12_house_63 : decode cX12_house 63 = .ok (.aload_n 0, 1) := by decide +kernel
theorem dX12_house_64 : decode cX12_house 64 = .ok (.iconst 0, 1) := by decide +kernel
theorem dX12_house_65 : decode cX12_house 65 = .ok (.putfield 234, 3) := by decide +kernel
theorem dX12_house_68 : decode cX12_house 68 = .ok (.aload_n 0, 1) := by decide +kernel
theorem dX12_house_69 : decode cX12_house 69 = .ok (.bipush 7, 2) := by decide +kernel
theorem dX12_house_71 : decode cX12_house 71 = .ok (.putfield 237, 3) := by decide +kernel
theorem dX12_house_74 : decode cX12_house 74 = .ok (.aload_n 0, 1) := by decide +kernel
theorem dX12_house_75 : decode cX12_house 75 = .ok (.sipush 200, 3) := by decide +kernel
theorem dX12_house_78 : decode cX12_house 78 = .ok (.putfield 240, 3) := by decide +kernel
theorem dX12_house_81 : decode cX12_house 81 = .ok (.aload_n 0, 1) := by decide +kernel
theorem dX12_house_82 : decode cX12_house 82 = .ok (.iconst 0, 1) := by decide +kernel
theorem dX12_house_83 : decode cX12_house 83 = .ok (.putfield 212, 3) := by decide +kernel
theorem dX12_house_86 : decode cX12_house 86 = .ok (.aload_n 0, 1) := by decide +kernel
theorem dX12_house_87 : decode cX12_house 87 = .ok (.iconst 0, 1) := by decide +kernel
theorem dX12_house_88 : decode cX12_house 88 = .ok (.putfield 222, 3) := by decide +kernel
theorem dX12_house_91 : decode cX12_house 91 = .ok (.aload_n 0, 1) := by decide +kernel
theorem dX12_house_92 : decode cX12_house 92 = .ok (.iconst 0, 1) := by decide +kernel
theorem dX12_house_93 : decode cX12_house 93 = .ok (.putfield 249, 3) := by decide +kernel
theorem dX12_house_96 : decode cX12_house 96 = .ok (.aload_n 0, 1) := by decide +kernel
theorem dX12_house_97 : decode cX12_house 97 = .ok (.iconst 0, 1) := by decide +kernel
theorem dX12_house_98 : decode cX12_house 98 = .ok (.putfield 209, 3) := by decide +kernel
theorem dX12_house_101 : decode cX12_house 101 = .ok (.aload_n 0, 1) := by decide +kernel
theorem dX12_house_102 : decode cX12_house 102 = .ok (.iconst 0, 1) := by decide +kernel
theorem dX12_house_103 : decode cX12_house 103 = .ok (.putfield 162, 3) := by decide +kernel
theorem dX12_house_106 : decode cX12_house 106 = .ok (.aload_n 0, 1) := by decide +kernel
theorem dX12_house_107 : decode cX12_house 107 = .ok (.invokevirtual 156, 3) := by decide +kernel
theorem dX12_house_110 : decode cX12_house 110 = .ok (.aload_n 0, 1) := by decide +kernel
theorem dX12_house_111 : decode cX12_house 111 = .ok (.invokevirtual 152, 3) := by decide +kernel
theorem dX12_house_114 : decode cX12_house 114 = .ok (.ifCond .eq 17, 3) := by decide +kernel
theorem dX12_house_117 : decode cX12_house 117 = .ok (.aload_n 0, 1) := by decide +kernel
theorem dX12_house_118 : decode cX12_house 118 = .ok (.getfield 126, 3) := by decide +kernel
theorem dX12_house_121 : decode cX12_house 121 = .ok (.ifCond .eq 10, 3) := by decide +kernel
theorem dX12_house_124 : decode cX12_house 124 = .ok (.aload_n 0, 1) := by decide +kernel
theorem dX12_house_125 : decode cX12_house 125 = .ok (.invokevirtual 259, 3) := by decide +kernel
theorem dX12_house_128 : decode cX12_house 128 = .ok (.goto (-18), 3) := by decide +kernel
theorem dX12_house_131 : decode cX12_house 131 = .ok (.aload_n 0, 1) := by decide +kernel
theorem dX12_house_132 : decode cX12_house 132 = .ok (.invokevirtual 152, 3) := by decide +kernel
theorem dX12_house_135 : decode cX12_house 135 = .ok (.ifCond .ne 18, 3) := by decide +kernel
theorem dX12_house_138 : decode cX12_house 138 = .ok (.aload_n 0, 1) := by decide +kernel
theorem dX12_house_139 : decode cX12_house 139 = .ok (.getfield 38, 3) := by decide +kernel
theorem dX12_house_142 : decode cX12_house 142 = .ok (.iconst 0, 1) := by decide +kernel
theorem dX12_house_143 : decode cX12_house 143 = .ok (.dup2, 1) := by decide +kernel
theorem dX12_house_144 : decode cX12_house 144 = .ok (.iaload, 1) := by decide +kernel
theorem dX12_house_145 : decode cX12_house 145 = .ok (.iconst 1, 1) := by decide +kernel
theorem dX12_house_146 : decode cX12_house 146 = .ok (.iadd, 1) := by decide +kernel
theorem dX12_house_147 : decode cX12_house 147 = .ok (.iastore, 1) := by decide +kernel
theorem dX12_house_148 : decode cX12_house 148 = .ok (.aload_n 0, 1) := by decide +kernel
theorem dX12_house_149 : decode cX12_house 149 = .ok (.getfield 149, 3) := by decide +kernel
theorem dX12_house_152 : decode cX12_house 152 = .ok (.ireturn, 1) := by decide +kernel
theorem dX12_house_153 : decode cX12_house 153 = .ok (.aload_n 0, 1) := by decide +kernel
theorem dX12_house_154 : decode cX12_house 154 = .ok (.aload_n 0, 1) := by decide +kernel
theorem dX12_house_155 : decode cX12_house 155 = .ok (.getfield 231, 3) := by decide +kernel
theorem dX12_house_158 : decode cX12_house 158 = .ok (.putfield 7, 3) := by decide +kernel
theorem dX12_house_161 : decode cX12_house 161 = .ok (.aload_n 0, 1) := by decide +kernel
theorem dX12_house_162 : decode cX12_house 162 = .ok (.aload_n 0, 1) := by decide +kernel
theorem dX12_house_163 : decode cX12_house 163 = .ok (.getfield 234, 3) := by decide +kernel
theorem dX12_house_166 : decode cX12_house 166 = .ok (.putfield 262, 3) := by decide +kernel
theorem dX12_house_169 : decode cX12_house 169 = .ok (.aload_n 0, 1) := by decide +kernel
theorem dX12_house_170 : decode cX12_house 170 = .ok (.aload_n 0, 1) := by decide +kernel
theorem dX12_house_171 : decode cX12_house 171 = .ok (.getfield 237, 3) := by decide +kernel
theorem dX12_house_174 : decode cX12_house 174 = .ok (.putfield 13, 3) := by decide +kernel
theorem dX12_house_177 : decode cX12_house 177 = .ok (.aload_n 0, 1) := by decide +kernel
theorem dX12_house_178 : decode cX12_house 178 = .ok (.aload_n 0, 1) := by decide +kernel
theorem dX12_house_179 : decode cX12_house 179 = .ok (.getfield 240, 3) := by decide +kernel
theorem dX12_house_182 : decode cX12_house 182 = .ok (.putfield 16, 3) := by decide +kernel
theorem dX12_house_185 : decode cX12_house 185 = .ok (.aload_n 0, 1) := by decide +kernel
theorem dX12_house_186 : decode cX12_house 186 = .ok (.aload_n 0, 1) := by decide +kernel
theorem dX12_house_187 : decode cX12_house 187 = .ok (.getfield 212, 3) := by decide +kernel
theorem dX12_house_190 : decode cX12_house 190 = .ok (.putfield 265, 3) := by decide +kernel
theorem dX12_house_193 : decode cX12_house 193 = .ok (.aload_n 0, 1) := by decide +kernel
theorem dX12_house_194 : decode cX12_house 194 = .ok (.aload_n 0, 1) := by decide +kernel
theorem dX12_house_195 : decode cX12_house 195 = .ok (.getfield 222, 3) := by decide +kernel
theorem dX12_house_198 : decode cX12_house 198 = .ok (.putfield 268, 3) := by decide +kernel
theorem dX12_house_201 : decode cX12_house 201 = .ok (.aload_n 0, 1) := by decide +kernel
theorem dX12_house_202 : decode cX12_house 202 = .ok (.aload_n 0, 1) := by decide +kernel
theorem dX12_house_203 : decode cX12_house 203 = .ok (.getfield 249, 3) := by decide +kernel
theorem dX12_house_206 : decode cX12_house 206 = .ok (.putfield 271, 3) := by decide +kernel
theorem dX12_house_209 : decode cX12_house 209 = .ok (.aload_n 0, 1) := by decide +kernel
theorem dX12_house_210 : decode cX12_house 210 = .ok (.aload_n 0, 1) := by decide +kernel
theorem dX12_house_211 : decode cX12_house 211 = .ok (.getfield 41, 3) := by decide +kernel
theorem dX12_house_214 : decode cX12_house 214 = .ok (.aload_n 0, 1) := by decide +kernel
theorem dX12_house_215 : decode cX12_house 215 = .ok (.getfield 19, 3) := by decide +kernel
theorem dX12_house_218 : decode cX12_house 218 = .ok (.invokevirtual 274, 3) := by decide +kernel
theorem dX12_house_221 : decode cX12_house 221 = .ok (.aload_n 0, 1) := by decide +kernel
theorem dX12_house_222 : decode cX12_house 222 = .ok (.aload_n 0, 1) := by decide +kernel
theorem dX12_house_223 : decode cX12_house 223 = .ok (.getfield 44, 3) := by decide +kernel
theorem dX12_house_226 : decode cX12_house 226 = .ok (.aload_n 0, 1) := by decide +kernel
theorem dX12_house_227 : decode cX12_house 227 = .ok (.getfield 23, 3) := by decide +kernel
theorem dX12_house_230 : decode cX12_house 230 = .ok (.invokevirtual 274, 3) := by decide +kernel
theorem dX12_house_233 : decode cX12_house 233 = .ok (.aload_n 0, 1) := by decide +kernel
theorem dX12_house_234 : decode cX12_house 234 = .ok (.aload_n 0, 1) := by decide +kernel
theorem dX12_house_235 : decode cX12_house 235 = .ok (.getfield 47, 3) := by decide +kernel
theorem dX12_house_238 : decode cX12_house 238 = .ok (.aload_n 0, 1) := by decide +kernel
theorem dX12_house_239 : decode cX12_house 239 = .ok (.getfield 26, 3) := by decide +kernel
theorem dX12_house_242 : decode cX12_house 242 = .ok (.invokevirtual 274, 3) := by decide +kernel
theorem dX12_house_245 : decode cX12_house 245 = .ok (.aload_n 0, 1) := by decide +kernel
theorem dX12_house_246 : decode cX12_house 246 = .ok (.aload_n 0, 1) := by decide +kernel
theorem dX12_house_247 : decode cX12_house 247 = .ok (.getfield 50, 3) := by decide +kernel
theorem dX12_house_250 : decode cX12_house 250 = .ok (.aload_n 0, 1) := by decide +kernel
theorem dX12_house_251 : decode cX12_house 251 = .ok (.getfield 29, 3) := by decide +kernel
theorem dX12_house_254 : decode cX12_house 254 = .ok (.invokevirtual 274, 3) := by decide +kernel
theorem dX12_house_257 : decode cX12_house 257 = .ok (.aload_n 0, 1) := by decide +kernel
theorem dX12_house_258 : decode cX12_house 258 = .ok (.iconst 0, 1) := by decide +kernel
theorem dX12_house_259 : decode cX12_house 259 = .ok (.putfield 278, 3) := by decide +kernel
theorem dX12_house_262 : decode cX12_house 262 = .ok (.aload_n 0, 1) := by decide +kernel
theorem dX12_house_263 : decode cX12_house 263 = .ok (.iconst 0, 1) := by decide +kernel
theorem dX12_house_264 : decode cX12_house 264 = .ok (.putfield 281, 3) := by decide +kernel
theorem dX12_house_267 : decode cX12_house 267 = .ok (.aload_n 0, 1) := by decide +kernel
theorem dX12_house_268 : decode cX12_house 268 = .ok (.iconst 0, 1) := by decide +kernel
theorem dX12_house_269 : decode cX12_house 269 = .ok (.putfield 284, 3) := by decide +kernel
theorem dX12_house_272 : decode cX12_house 272 = .ok (.aload_n 0, 1) := by decide +kernel
theorem dX12_house_273 : decode cX12_house 273 = .ok (.iconst 0, 1) := by decide +kernel
theorem dX12_house_274 : decode cX12_house 274 = .ok (.putfield 288, 3) := by decide +kernel
theorem dX12_house_277 : decode cX12_house 277 = .ok (.aload_n 0, 1) := by decide +kernel
theorem dX12_house_278 : decode cX12_house 278 = .ok (.iconst 0, 1) := by decide +kernel
theorem dX12_house_279 : decode cX12_house 279 = .ok (.putfield 291, 3) := by decide +kernel
theorem dX12_house_282 : decode cX12_house 282 = .ok (.iconst 0, 1) := by decide +kernel
theorem dX12_house_283 : decode cX12_house 283 = .ok (.ireturn, 1) := by decide +kernel
def fX12_house_0_L110 (E131 : (Nat → Int32) → (Nat → Nat → Int32) → (Nat → Int64) → Option (Int32 × (Nat → Int32) × (Nat → Nat → Int32) × (Nat → Int64))) : Nat → (Nat → Int32) → (Nat → Nat → Int32) → (Nat → Int64) → Option (Int32 × (Nat → Int32) × (Nat → Nat → Int32) × (Nat → Int64))
  | 0, _, _, _ => none
  | n + 1, S29, V30, L31 =>
    bd1 (fX12_isGood_0 S29) (fun r32 =>
    (if r32 = 0 then
    E131 S29 V30 L31
    else
    (if (S29 19) = 0 then
    E131 S29 V30 L31
    else
    bd3 (fX12_line_0 S29 V30 L31) (fun S36 V37 L38 =>
    fX12_house_0_L110 E131 n S36 V37 L38))))
def fX12_house_0 (S : Nat → Int32) (V : Nat → Nat → Int32) (L : Nat → Int64) (a1 : Int32) : Option (Int32 × (Nat → Int32) × (Nat → Nat → Int32) × (Nat → Int64)) :=
  lt (va_up S 0 (0 : Int32)) (fun S1 =>
  bk (fun (x3 : Int32) (x4 : Int32) (S5 : Nat → Int32) (V6 : Nat → Nat → Int32) (L7 : Nat → Int64) =>
  bd2 (fX12_right_0 S5 x4 (1 : Int32)) (fun r8 S9 =>
  (if r8 = 0 then
  some ((0 : Int32), S9, V6, L7)
  else
  lt (va_up S9 13 (0 : Int32)) (fun S12 =>
  lt (va_up S12 15 (-1 : Int32)) (fun S13 =>
  lt (va_up S13 14 (0 : Int32)) (fun S14 =>
  lt (va_up S14 17 x3) (fun S15 =>
  lt (va_up S15 18 (0 : Int32)) (fun S16 =>
  lt (va_up S16 25 (30 : Int32)) (fun S17 =>
  lt (va_up S17 26 (0 : Int32)) (fun S18 =>
  lt (va_up S18 27 (7 : Int32)) (fun S19 =>
  lt (va_up S19 28 (200 : Int32)) (fun S20 =>
  lt (va_up S20 29 (0 : Int32)) (fun S21 =>
  lt (va_up S21 30 (0 : Int32)) (fun S22 =>
  lt (va_up S22 31 (0 : Int32)) (fun S23 =>
  lt (va_up S23 32 (0 : Int32)) (fun S24 =>
  lt (va_up S24 33 (0 : Int32)) (fun S25 =>
  bd2 (fX12_goes_0 S25 V6 L7) (fun S26 L27 =>
  bk (fun (S44 : Nat → Int32) (V45 : Nat → Nat → Int32) (L46 : Nat → Int64) =>
  bd1 (fX12_isGood_0 S44) (fun r47 =>
  (if r47 = 0 then
  gd (ib (0 : Int32) 3) (
  lt (((V45 6 ((0 : Int32)).toNatClampNeg) + (1 : Int32))) (fun x78 =>
  gd (ib (0 : Int32) 3) (
  lt (va_up V45 6 (upd (V45 6) ((0 : Int32)).toNatClampNeg x78)) (fun V80 =>
  some ((S44 14), S44, V80, L46)))))
  else
  lt ((S44 25)) (fun x50 =>
  lt (va_up S44 1 x50) (fun S51 =>
  lt ((S51 26)) (fun x52 =>
  lt (va_up S51 2 x52) (fun S53 =>
  lt ((S53 27)) (fun x54 =>
  lt (va_up S53 3 x54) (fun S55 =>
  lt ((S55 28)) (fun x56 =>
  lt (va_up S55 4 x56) (fun S57 =>
  lt ((S57 29)) (fun x58 =>
  lt (va_up S57 5 x58) (fun S59 =>
  lt ((S59 30)) (fun x60 =>
  lt (va_up S59 6 x60) (fun S61 =>
  lt ((S61 31)) (fun x62 =>
  lt (va_up S61 7 x62) (fun S63 =>
  bd1 (fX12_copies_0_7_1 V45) (fun V64 =>
  bd1 (fX12_copies_0_8_2 V64) (fun V66 =>
  bd1 (fX12_copies_0_9_3 V66) (fun V68 =>
  bd1 (fX12_copies_0_10_4 V68) (fun V70 =>
  lt (va_up S63 42 (0 : Int32)) (fun S72 =>
  lt (va_up S72 53 (0 : Int32)) (fun S73 =>
  lt (va_up S73 49 (0 : Int32)) (fun S74 =>
  lt (va_up S74 52 (0 : Int32)) (fun S75 =>
  lt (va_up S75 55 (0 : Int32)) (fun S76 =>
  some ((0 : Int32), S76, V70, L46))))))))))))))))))))))))))) (fun X131_43 =>
  fX12_house_0_L110 X131_43 FU S26 V6 L27))))))))))))))))))) (fun K23_2 =>
  bk (fun (x82 : Int32) (S83 : Nat → Int32) (V84 : Nat → Nat → Int32) (L85 : Nat → Int64) =>
  K23_2 x82 (0 : Int32) S83 V84 L85) (fun K22_81 =>
  (if a1 < 0 then
  K22_81 a1 S1 V L
  else
  (if (S1 13) < a1 then
  K22_81 a1 S1 V L
  else
  K23_2 a1 (1 : Int32) S1 V L)))))
set_option maxHeartbeats 4000000 in
set_option maxRecDepth 100000 in
theorem kX12_house_0 (l : Launch) (B : jBT) (D : va_G) (ad : Nat → Nat) (cA : Nat → ClassId) (hI : jI ad TR) (S : Nat → Int32) (V : Nat → Nat → Int32) (L : Nat → Int64) (a1 : Int32) (r0 : Int32) (S0 : Nat → Int32) (V0 : Nat → Nat → Int32) (L0 : Nat → Int64) (h : fX12_house_0 S V L a1 = some (r0, S0, V0, L0)) : jM l yX12_house cX12_house 2 (some .int) ({ frames := 7, cells := 0, slots := 0, locals := 158 }) B D TR ad cA [.ref (ad 0), .int a1] S V L (some (.int r0)) S0 V0 L0 := by
  refine jM_of (plainFor_of_name (by decide)) TR_ok hI (Nat.le_of_ble_eq_true rfl) ?_
  intro p e s m args below meth c C hr hlk
  refine j_lv (lv2 := [(0, .ref (ad 0)), (1, .int a1)]) rfl ?_
  unfold fX12_house_0 at h
  have H_fX12_house_0_L110 : ∀ (E131 : (Nat → Int32) → (Nat → Nat → Int32) → (Nat → Int64) → Option (Int32 × (Nat → Int32) × (Nat → Nat → Int32) × (Nat → Int64))) (_ : ∀ (S40 : Nat → Int32) (V41 : Nat → Nat → Int32) (L42 : Nat → Int64), E131 S40 V41 L42 = some (r0, S0, V0, L0) → jW p l e ({ frames := 7, cells := 0, slots := 0, locals := 158 }) s m args below meth c (MQ below (jQc D TR ad cA (some (.int r0)) s.heap.size S0 V0 L0) args s 0 0 (jA ad TR s.heap.size)) D TR ad cA (jA ad TR s.heap.size) 2 0 0 131 [(0, .ref (ad 0))] [] S40 V41 L42) (n : Nat) (S29 : Nat → Int32) (V30 : Nat → Nat → Int32) (L31 : Nat → Int64), fX12_house_0_L110 E131 n S29 V30 L31 = some (r0, S0, V0, L0) → jW p l e ({ frames := 7, cells := 0, slots := 0, locals := 158 }) s m args below meth c (MQ below (jQc D TR ad cA (some (.int r0)) s.heap.size S0 V0 L0) args s 0 0 (jA ad TR s.heap.size)) D TR ad cA (jA ad TR s.heap.size) 2 0 0 110 [(0, .ref (ad 0))] [] S29 V30 L31 := by
    intro E131 HE131
    intro n
    induction n with
    | zero =>
      intro S29 V30 L31 h
      cases (show (none : Option (Int32 × (Nat → Int32) × (Nat → Nat → Int32) × (Nat → Int64))) = some (r0, S0, V0, L0) from h)
    | succ n ih =>
      intro S29 V30 L31 h
      unfold fX12_house_0_L110 at h
      refine j_aload_n C 0 rfl dX12_house_110 rfl ?_
      obtain ⟨r32, h33, h⟩ := bd1_elim h
      refine j_callV (As := []) (rest := []) C (kX12_isGood_0 l B D ad cA hI S29 V30 L31 _ h33) mw_X12_isGood wd1656 wd59 wd1654 tr_0 rfl rfl ⟨rfl, rfl, by decide, by decide⟩ ⟨Nat.zero_le _, Nat.zero_le _⟩ rfl rfl (Nat.le_of_ble_eq_true rfl) dX12_house_111 ?_
      refine j_if_eq (tgt := 131) C dX12_house_114 (by decide) (fun c34 => ?_) (fun c34 => ?_)
      · have h := (if_pos c34).symm.trans h
        exact j_sub [0] rfl (HE131 _ _ _ h)
      · have h := (if_neg c34).symm.trans h
        refine j_aload_n C 0 rfl dX12_house_117 rfl ?_
        refine fg_X12_126_TR_0 C dX12_house_118 ?_
        refine j_if_eq (tgt := 131) C dX12_house_121 (by decide) (fun c35 => ?_) (fun c35 => ?_)
        · have h := (if_pos c35).symm.trans h
          exact j_sub [0] rfl (HE131 _ _ _ h)
        · have h := (if_neg c35).symm.trans h
          refine j_aload_n C 0 rfl dX12_house_124 rfl ?_
          obtain ⟨S36, V37, L38, h39, h⟩ := bd3_elim h
          refine j_callV (As := []) (rest := []) C (kX12_line_0 l B D ad cA hI S29 V30 L31 _ _ _ h39) mw_X12_line wd1660 wd60 wd1658 tr_0 rfl rfl ⟨rfl, rfl, by decide, by decide⟩ ⟨Nat.zero_le _, Nat.zero_le _⟩ rfl rfl (Nat.le_of_ble_eq_true rfl) dX12_house_125 ?_
          refine j_goto (tgt := 110) C dX12_house_128 (by decide) ?_
          exact j_sub [0] rfl (ih _ _ _ h)
  refine j_aload_n C 0 rfl dX12_house_0 rfl ?_
  refine j_iconst C dX12_house_1 ci_0 ?_
  refine fp_X12_93_TR_0 C dX12_house_2 ?_
  refine lt_elim h (fun S1 e_S1 h => ?_)
  refine j_S e_S1 ?_
  refine j_aload_n C 0 rfl dX12_house_5 rfl ?_
  refine j_iload_n C 1 rfl dX12_house_6 rfl ?_
  refine bk_elim h (fun K23_2 e_K23_2 h => ?_)
  have HK23_2 : ∀ (x3 : Int32) (x4 : Int32) (S5 : Nat → Int32) (V6 : Nat → Nat → Int32) (L7 : Nat → Int64), K23_2 x3 x4 S5 V6 L7 = some (r0, S0, V0, L0) → jW p l e ({ frames := 7, cells := 0, slots := 0, locals := 158 }) s m args below meth c (MQ below (jQc D TR ad cA (some (.int r0)) s.heap.size S0 V0 L0) args s 0 0 (jA ad TR s.heap.size)) D TR ad cA (jA ad TR s.heap.size) 2 0 0 23 [(0, .ref (ad 0)), (1, .int x3)] [.int x4, .ref (ad 0)] S5 V6 L7 := by
    subst e_K23_2
    intro x3 x4 S5 V6 L7 h
    refine j_iconst C dX12_house_23 ci_1 ?_
    obtain ⟨r8, S9, h10, h⟩ := bd2_elim h
    refine j_callV (As := [.int x4, .int (1 : Int32)]) (rest := []) C (kX12_right_0 l B D ad cA hI S5 V6 L7 x4 (1 : Int32) _ _ h10) mw_X12_right wd1638 wd56 wd1636 tr_0 rfl rfl ⟨rfl, rfl, by decide, by decide⟩ ⟨Nat.zero_le _, Nat.zero_le _⟩ rfl rfl (Nat.le_of_ble_eq_true rfl) dX12_house_24 ?_
    refine j_if_ne (tgt := 32) C dX12_house_27 (by decide) (fun c11 => ?_) (fun c11 => ?_)
    · have h := (if_neg c11).symm.trans h
      refine j_aload_n C 0 rfl dX12_house_32 rfl ?_
      refine j_iconst C dX12_house_33 ci_0 ?_
      refine fp_X12_96_TR_0 C dX12_house_34 ?_
      refine lt_elim h (fun S12 e_S12 h => ?_)
      refine j_S e_S12 ?_
      refine j_aload_n C 0 rfl dX12_house_37 rfl ?_
      refine j_iconst C dX12_house_38 ci_m1 ?_
      refine fp_X12_35_TR_0 C dX12_house_39 ?_
      refine lt_elim h (fun S13 e_S13 h => ?_)
      refine j_S e_S13 ?_
      refine j_aload_n C 0 rfl dX12_house_42 rfl ?_
      refine j_iconst C dX12_house_43 ci_0 ?_
      refine fp_X12_149_TR_0 C dX12_house_44 ?_
      refine lt_elim h (fun S14 e_S14 h => ?_)
      refine j_S e_S14 ?_
      refine j_aload_n C 0 rfl dX12_house_47 rfl ?_
      refine j_iload_n C 1 rfl dX12_house_48 rfl ?_
      refine fp_X12_103_TR_0 C dX12_house_49 ?_
      refine lt_elim h (fun S15 e_S15 h => ?_)
      refine j_S e_S15 ?_
      refine j_aload_n C 0 rfl dX12_house_52 rfl ?_
      refine j_iconst C dX12_house_53 ci_0 ?_
      refine fp_X12_106_TR_0 C dX12_house_54 ?_
      refine lt_elim h (fun S16 e_S16 h => ?_)
      refine j_S e_S16 ?_
      refine j_aload_n C 0 rfl dX12_house_57 rfl ?_
      refine j_bipush C dX12_house_58 cb_30 ?_
      refine fp_X12_231_TR_0 C dX12_house_60 ?_
      refine lt_elim h (fun S17 e_S17 h => ?_)
      refine j_S e_S17 ?_
      refine j_aload_n C 0 rfl dX12_house_63 rfl ?_
      refine j_iconst C dX12_house_64 ci_0 ?_
      refine fp_X12_234_TR_0 C dX12_house_65 ?_
      refine lt_elim h (fun S18 e_S18 h => ?_)
      refine j_S e_S18 ?_
      refine j_aload_n C 0 rfl dX12_house_68 rfl ?_
      refine j_bipush C dX12_house_69 cb_7 ?_
      refine fp_X12_237_TR_0 C dX12_house_71 ?_
      refine lt_elim h (fun S19 e_S19 h => ?_)
      refine j_S e_S19 ?_
      refine j_aload_n C 0 rfl dX12_house_74 rfl ?_
      refine j_sipush C dX12_house_75 cs_200 ?_
      refine fp_X12_240_TR_0 C dX12_house_78 ?_
      refine lt_elim h (fun S20 e_S20 h => ?_)
      refine j_S e_S20 ?_
      refine j_aload_n C 0 rfl dX12_house_81 rfl ?_
      refine j_iconst C dX12_house_82 ci_0 ?_
      refine fp_X12_212_TR_0 C dX12_house_83 ?_
      refine lt_elim h (fun S21 e_S21 h => ?_)
      refine j_S e_S21 ?_
      refine j_aload_n C 0 rfl dX12_house_86 rfl ?_
      refine j_iconst C dX12_house_87 ci_0 ?_
      refine fp_X12_222_TR_0 C dX12_house_88 ?_
      refine lt_elim h (fun S22 e_S22 h => ?_)
      refine j_S e_S22 ?_
      refine j_aload_n C 0 rfl dX12_house_91 rfl ?_
      refine j_iconst C dX12_house_92 ci_0 ?_
      refine fp_X12_249_TR_0 C dX12_house_93 ?_
      refine lt_elim h (fun S23 e_S23 h => ?_)
      refine j_S e_S23 ?_
      refine j_aload_n C 0 rfl dX12_house_96 rfl ?_
      refine j_iconst C dX12_house_97 ci_0 ?_
      refine fp_X12_209_TR_0 C dX12_house_98 ?_
      refine lt_elim h (fun S24 e_S24 h => ?_)
      refine j_S e_S24 ?_
      refine j_aload_n C 0 rfl dX12_house_101 rfl ?_
      refine j_iconst C dX12_house_102 ci_0 ?_
      refine fp_X12_162_TR_0 C dX12_house_103 ?_
      refine lt_elim h (fun S25 e_S25 h => ?_)
      refine j_S e_S25 ?_
      refine j_aload_n C 0 rfl dX12_house_106 rfl ?_
      obtain ⟨S26, L27, h28, h⟩ := bd2_elim h
      refine j_callV (As := []) (rest := []) C (kX12_goes_0 l B D ad cA hI S25 V6 L7 _ _ h28) mw_X12_goes wd1642 wd57 wd1640 tr_0 rfl rfl ⟨rfl, rfl, by decide, by decide⟩ ⟨Nat.zero_le _, Nat.zero_le _⟩ rfl rfl (Nat.le_of_ble_eq_true rfl) dX12_house_107 ?_
      refine bk_elim h (fun X131_43 e_X131_43 h => ?_)
      have HX131_43 : ∀ (S44 : Nat → Int32) (V45 : Nat → Nat → Int32) (L46 : Nat → Int64), X131_43 S44 V45 L46 = some (r0, S0, V0, L0) → jW p l e ({ frames := 7, cells := 0, slots := 0, locals := 158 }) s m args below meth c (MQ below (jQc D TR ad cA (some (.int r0)) s.heap.size S0 V0 L0) args s 0 0 (jA ad TR s.heap.size)) D TR ad cA (jA ad TR s.heap.size) 2 0 0 131 [(0, .ref (ad 0))] [] S44 V45 L46 := by
        subst e_X131_43
        intro S44 V45 L46 h
        refine j_aload_n C 0 rfl dX12_house_131 rfl ?_
        obtain ⟨r47, h48, h⟩ := bd1_elim h
        refine j_callV (As := []) (rest := []) C (kX12_isGood_0 l B D ad cA hI S44 V45 L46 _ h48) mw_X12_isGood wd1656 wd59 wd1654 tr_0 rfl rfl ⟨rfl, rfl, by decide, by decide⟩ ⟨Nat.zero_le _, Nat.zero_le _⟩ rfl rfl (Nat.le_of_ble_eq_true rfl) dX12_house_132 ?_
        refine j_if_ne (tgt := 153) C dX12_house_135 (by decide) (fun c49 => ?_) (fun c49 => ?_)
        · have h := (if_neg c49).symm.trans h
          refine j_aload_n C 0 rfl dX12_house_153 rfl ?_
          refine j_aload_n C 0 rfl dX12_house_154 rfl ?_
          refine fg_X12_231_TR_0 C dX12_house_155 ?_
          refine lt_elim h (fun x50 e_x50 h => ?_)
          refine j_top e_x50 ?_
          refine fp_X12_7_TR_0 C dX12_house_158 ?_
          refine lt_elim h (fun S51 e_S51 h => ?_)
          refine j_S e_S51 ?_
          refine j_aload_n C 0 rfl dX12_house_161 rfl ?_
          refine j_aload_n C 0 rfl dX12_house_162 rfl ?_
          refine fg_X12_234_TR_0 C dX12_house_163 ?_
          refine lt_elim h (fun x52 e_x52 h => ?_)
          refine j_top e_x52 ?_
          refine fp_X12_262_TR_0 C dX12_house_166 ?_
          refine lt_elim h (fun S53 e_S53 h => ?_)
          refine j_S e_S53 ?_
          refine j_aload_n C 0 rfl dX12_house_169 rfl ?_
          refine j_aload_n C 0 rfl dX12_house_170 rfl ?_
          refine fg_X12_237_TR_0 C dX12_house_171 ?_
          refine lt_elim h (fun x54 e_x54 h => ?_)
          refine j_top e_x54 ?_
          refine fp_X12_13_TR_0 C dX12_house_174 ?_
          refine lt_elim h (fun S55 e_S55 h => ?_)
          refine j_S e_S55 ?_
          refine j_aload_n C 0 rfl dX12_house_177 rfl ?_
          refine j_aload_n C 0 rfl dX12_house_178 rfl ?_
          refine fg_X12_240_TR_0 C dX12_house_179 ?_
          refine lt_elim h (fun x56 e_x56 h => ?_)
          refine j_top e_x56 ?_
          refine fp_X12_16_TR_0 C dX12_house_182 ?_
          refine lt_elim h (fun S57 e_S57 h => ?_)
          refine j_S e_S57 ?_
          refine j_aload_n C 0 rfl dX12_house_185 rfl ?_
          refine j_aload_n C 0 rfl dX12_house_186 rfl ?_
          refine fg_X12_212_TR_0 C dX12_house_187 ?_
          refine lt_elim h (fun x58 e_x58 h => ?_)
          refine j_top e_x58 ?_
          refine fp_X12_265_TR_0 C dX12_house_190 ?_
          refine lt_elim h (fun S59 e_S59 h => ?_)
          refine j_S e_S59 ?_
          refine j_aload_n C 0 rfl dX12_house_193 rfl ?_
          refine j_aload_n C 0 rfl dX12_house_194 rfl ?_
          refine fg_X12_222_TR_0 C dX12_house_195 ?_
          refine lt_elim h (fun x60 e_x60 h => ?_)
          refine j_top e_x60 ?_
          refine fp_X12_268_TR_0 C dX12_house_198 ?_
          refine lt_elim h (fun S61 e_S61 h => ?_)
          refine j_S e_S61 ?_
          refine j_aload_n C 0 rfl dX12_house_201 rfl ?_
          refine j_aload_n C 0 rfl dX12_house_202 rfl ?_
          refine fg_X12_249_TR_0 C dX12_house_203 ?_
          refine lt_elim h (fun x62 e_x62 h => ?_)
          refine j_top e_x62 ?_
          refine fp_X12_271_TR_0 C dX12_house_206 ?_
          refine lt_elim h (fun S63 e_S63 h => ?_)
          refine j_S e_S63 ?_
          refine j_aload_n C 0 rfl dX12_house_209 rfl ?_
          refine j_aload_n C 0 rfl dX12_house_210 rfl ?_
          refine fg_X12_41_TR_0 C dX12_house_211 ?_
          refine j_aload_n C 0 rfl dX12_house_214 rfl ?_
          refine fg_X12_19_TR_0 C dX12_house_215 ?_
          obtain ⟨V64, h65, h⟩ := bd1_elim h
          refine j_callV (As := [.ref (ad 7), .ref (ad 1)]) (rest := []) C (kX12_copies_0_7_1 l B D ad cA hI S63 V45 L46 _ h65) mw_X12_copies wd1749 wd79 wd1747 tr_0 rfl rfl ⟨rfl, rfl, by decide, by decide⟩ ⟨Nat.zero_le _, Nat.zero_le _⟩ rfl rfl (Nat.le_of_ble_eq_true rfl) dX12_house_218 ?_
          refine j_aload_n C 0 rfl dX12_house_221 rfl ?_
          refine j_aload_n C 0 rfl dX12_house_222 rfl ?_
          refine fg_X12_44_TR_0 C dX12_house_223 ?_
          refine j_aload_n C 0 rfl dX12_house_226 rfl ?_
          refine fg_X12_23_TR_0 C dX12_house_227 ?_
          obtain ⟨V66, h67, h⟩ := bd1_elim h
          refine j_callV (As := [.ref (ad 8), .ref (ad 2)]) (rest := []) C (kX12_copies_0_8_2 l B D ad cA hI S63 V64 L46 _ h67) mw_X12_copies wd1749 wd79 wd1747 tr_0 rfl rfl ⟨rfl, rfl, by decide, by decide⟩ ⟨Nat.zero_le _, Nat.zero_le _⟩ rfl rfl (Nat.le_of_ble_eq_true rfl) dX12_house_230 ?_
          refine j_aload_n C 0 rfl dX12_house_233 rfl ?_
          refine j_aload_n C 0 rfl dX12_house_234 rfl ?_
          refine fg_X12_47_TR_0 C dX12_house_235 ?_
          refine j_aload_n C 0 rfl dX12_house_238 rfl ?_
          refine fg_X12_26_TR_0 C dX12_house_239 ?_
          obtain ⟨V68, h69, h⟩ := bd1_elim h
          refine j_callV (As := [.ref (ad 9), .ref (ad 3)]) (rest := []) C (kX12_copies_0_9_3 l B D ad cA hI S63 V66 L46 _ h69) mw_X12_copies wd1749 wd79 wd1747 tr_0 rfl rfl ⟨rfl, rfl, by decide, by decide⟩ ⟨Nat.zero_le _, Nat.zero_le _⟩ rfl rfl (Nat.le_of_ble_eq_true rfl) dX12_house_242 ?_
          refine j_aload_n C 0 rfl dX12_house_245 rfl ?_
          refine j_aload_n C 0 rfl dX12_house_246 rfl ?_
          refine fg_X12_50_TR_0 C dX12_house_247 ?_
          refine j_aload_n C 0 rfl dX12_house_250 rfl ?_
          refine fg_X12_29_TR_0 C dX12_house_251 ?_
          obtain ⟨V70, h71, h⟩ := bd1_elim h
          refine j_callV (As := [.ref (ad 10), .ref (ad 4)]) (rest := []) C (kX12_copies_0_10_4 l B D ad cA hI S63 V68 L46 _ h71) mw_X12_copies wd1749 wd79 wd1747 tr_0 rfl rfl ⟨rfl, rfl, by decide, by decide⟩ ⟨Nat.zero_le _, Nat.zero_le _⟩ rfl rfl (Nat.le_of_ble_eq_true rfl) dX12_house_254 ?_
          refine j_aload_n C 0 rfl dX12_house_257 rfl ?_
          refine j_iconst C dX12_house_258 ci_0 ?_
          refine fp_X12_278_TR_0 C dX12_house_259 ?_
          refine lt_elim h (fun S72 e_S72 h => ?_)
          refine j_S e_S72 ?_
          refine j_aload_n C 0 rfl dX12_house_262 rfl ?_
          refine j_iconst C dX12_house_263 ci_0 ?_
          refine fp_X12_281_TR_0 C dX12_house_264 ?_
          refine lt_elim h (fun S73 e_S73 h => ?_)
          refine j_S e_S73 ?_
          refine j_aload_n C 0 rfl dX12_house_267 rfl ?_
          refine j_iconst C dX12_house_268 ci_0 ?_
          refine fp_X12_284_TR_0 C rfl rfl dX12_house_269 ?_
          refine lt_elim h (fun S74 e_S74 h => ?_)
          refine j_S e_S74 ?_
          refine j_aload_n C 0 rfl dX12_house_272 rfl ?_
          refine j_iconst C dX12_house_273 ci_0 ?_
          refine fp_X12_288_TR_0 C rfl rfl dX12_house_274 ?_
          refine lt_elim h (fun S75 e_S75 h => ?_)
          refine j_S e_S75 ?_
          refine j_aload_n C 0 rfl dX12_house_277 rfl ?_
          refine j_iconst C dX12_house_278 ci_0 ?_
          refine fp_X12_291_TR_0 C rfl rfl dX12_house_279 ?_
          refine lt_elim h (fun S76 e_S76 h => ?_)
          refine j_S e_S76 ?_
          refine j_iconst C dX12_house_282 ci_0 ?_
          cases h
          exact j_iret C hr hlk rfl dX12_house_283
        · have h := (if_pos c49).symm.trans h
          refine j_aload_n C 0 rfl dX12_house_138 rfl ?_
          refine fg_X12_38_TR_0 C dX12_house_139 ?_
          refine j_iconst C dX12_house_142 ci_0 ?_
          refine j_dup2_11 C dX12_house_143 rfl rfl ?_
          obtain ⟨g77, h⟩ := gd_elim h
          refine j_iald C tr_6 (ib_in g77) dX12_house_144 ?_
          refine j_iconst C dX12_house_145 ci_1 ?_
          refine j_iadd C dX12_house_146 ?_
          refine lt_elim h (fun x78 e_x78 h => ?_)
          refine j_top e_x78 ?_
          obtain ⟨g79, h⟩ := gd_elim h
          refine j_iast C tr_6 (ib_in g79) dX12_house_147 ?_
          refine lt_elim h (fun V80 e_V80 h => ?_)
          refine j_V e_V80 ?_
          refine j_aload_n C 0 rfl dX12_house_148 rfl ?_
          refine fg_X12_149_TR_0 C dX12_house_149 ?_
          cases h
          exact j_iret C hr hlk rfl dX12_house_152
      exact j_sub [0] rfl (H_fX12_house_0_L110 _ HX131_43 FU _ _ _ h)
    · have h := (if_pos c11).symm.trans h
      refine j_iconst C dX12_house_30 ci_0 ?_
      cases h
      exact j_iret C hr hlk rfl dX12_house_31
  refine bk_elim h (fun K22_81 e_K22_81 h => ?_)
  have HK22_81 : ∀ (x82 : Int32) (S83 : Nat → Int32) (V84 : Nat → Nat → Int32) (L85 : Nat → Int64), K22_81 x82 S83 V84 L85 = some (r0, S0, V0, L0) → jW p l e ({ frames := 7, cells := 0, slots := 0, locals := 158 }) s m args below meth c (MQ below (jQc D TR ad cA (some (.int r0)) s.heap.size S0 V0 L0) args s 0 0 (jA ad TR s.heap.size)) D TR ad cA (jA ad TR s.heap.size) 2 0 0 22 [(0, .ref (ad 0)), (1, .int x82)] [.ref (ad 0)] S83 V84 L85 := by
    subst e_K22_81
    intro x82 S83 V84 L85 h
    refine j_iconst C dX12_house_22 ci_0 ?_
    exact j_sub [0, 1] rfl (HK23_2 _ _ _ _ _ h)
  refine j_if_lt (tgt := 22) C dX12_house_7 (by decide) (fun c86 => ?_) (fun c86 => ?_)
  · have h := (if_pos c86).symm.trans h
    exact j_sub [0, 1] rfl (HK22_81 _ _ _ _ h)
  · have h := (if_neg c86).symm.trans h
    refine j_iload_n C 1 rfl dX12_house_10 rfl ?_
    refine j_aload_n C 0 rfl dX12_house_11 rfl ?_
    refine fg_X12_96_TR_0 C dX12_house_12 ?_
    refine j_icmp_gt (tgt := 22) C dX12_house_15 (by decide) (fun c87 => ?_) (fun c87 => ?_)
    · have h := (if_pos c87).symm.trans h
      exact j_sub [0, 1] rfl (HK22_81 _ _ _ _ h)
    · have h := (if_neg c87).symm.trans h
      refine j_iconst C dX12_house_18 ci_1 ?_
      refine j_goto (tgt := 23) C dX12_house_19 (by decide) ?_
      exact j_sub [0, 1] rfl (HK23_2 _ _ _ _ _ h)
