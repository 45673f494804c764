theorem dX12_fault_0 : decode cX12_fault 0 = .ok (.aload_n 0, 1) := by decide +kernel
theorem dX12_fault_1 : decode cX12_fault 1 = .ok (.iconst 0, 1) := by decide +kernel
theorem dX12_fault_2 : decode cX12_fault 2 = .ok (.putfield 93, 3) := by decide +kernel
theorem dX12_fault_5 : decode cX12_fault 5 = .ok (.aload_n 0, 1) := by decide +kernel
theorem dX12_fault_6 : decode cX12_fault 6 = .ok (.getfield 35, 3) := by decide +kernel
theorem dX12_fault_9 : decode cX12_fault 9 = .ok (.ireturn, 1) := by decide +kernel
def fX12_fault_0 (S : Nat → Int32) : Option (Int32 × (Nat → Int32)) :=
  lt (va_up S 0 (0 : Int32)) (fun S1 =>
  some ((S1 15), S1))
set_option maxHeartbeats 4000000 in
set_option maxRecDepth 100000 in
theorem kX12_fault_0 (l : Launch) (B : jBT) (D : va_G) (ad : Nat → Nat) (cA : Nat → ClassId) (hI : jI ad TR) (S : Nat → Int32) (V : Nat → Nat → Int32) (L : Nat → Int64) (r0 : Int32) (S0 : Nat → Int32) (h : fX12_fault_0 S = some (r0, S0)) : jM l yX12_fault cX12_fault 1 (some .int) ({ frames := 0, cells := 0, slots := 0, locals := 0 }) B D TR ad cA [.ref (ad 0)] S V L (some (.int r0)) S0 V L := by
  refine jM_of (plainFor_of_name (by decide)) TR_ok hI (Nat.le_of_ble_eq_true rfl) ?_
  intro p e s m args below meth c C hr hlk
  refine j_lv (lv2 := [(0, .ref (ad 0))]) rfl ?_
  unfold fX12_fault_0 at h
  refine j_aload_n C 0 rfl dX12_fault_0 rfl ?_
  refine j_iconst C dX12_fault_1 ci_0 ?_
  refine fp_X12_93_TR_0 C dX12_fault_2 ?_
  refine lt_elim h (fun S1 e_S1 h => ?_)
  refine j_S e_S1 ?_
  refine j_aload_n C 0 rfl dX12_fault_5 rfl ?_
  refine fg_X12_35_TR_0 C dX12_fault_6 ?_
  cases h
  exact j_iret C hr hlk rfl dX12_fault_9
theorem dX12_lays_0 : decode cX12_lays 0 = .ok (.bipush 24, 2) := by decide +kernel
theorem dX12_lays_2 : decode cX12_lays 2 = .ok (.istore_n 2, 1) := by decide +kernel
theorem dX12_lays_3 : decode cX12_lays 3 = .ok (.iload_n 2, 1) := by decide +kernel
theorem dX12_lays_4 : decode cX12_lays 4 = .ok (.ifCond .lt 35, 3) := by decide +kernel
theorem dX12_lays_7 : decode cX12_lays 7 = .ok (.aload_n 0, 1) := by decide +kernel
theorem dX12_lays_8 : decode cX12_lays 8 = .ok (.getfield 32, 3) := by decide +kernel
theorem dX12_lays_11 : decode cX12_lays 11 = .ok (.aload_n 0, 1) := by decide +kernel
theorem dX12_lays_12 : decode cX12_lays 12 = .ok (.getfield 96, 3) := by decide +kernel
theorem dX12_lays_15 : decode cX12_lays 15 = .ok (.iload_n 1, 1) := by decide +kernel
theorem dX12_lays_16 : decode cX12_lays 16 = .ok (.iload_n 2, 1) := by decide +kernel
theorem dX12_lays_17 : decode cX12_lays 17 = .ok (.ishr, 1) := by decide +kernel
theorem dX12_lays_18 : decode cX12_lays 18 = .ok (.sipush 255, 3) := by decide +kernel
theorem dX12_lays_21 : decode cX12_lays 21 = .ok (.iand, 1) := by decide +kernel
theorem dX12_lays_22 : decode cX12_lays 22 = .ok (.iastore, 1) := by decide +kernel
theorem dX12_lays_23 : decode cX12_lays 23 = .ok (.aload_n 0, 1) := by decide +kernel
theorem dX12_lays_24 : decode cX12_lays 24 = .ok (.dup, 1) := by decide +kernel
theorem dX12_lays_25 : decode cX12_lays 25 = .ok (.getfield 96, 3) := by decide +kernel
theorem dX12_lays_28 : decode cX12_lays 28 = .ok (.iconst 1, 1) := by decide +kernel
theorem dX12_lays_29 : decode cX12_lays 29 = .ok (.iadd, 1) := by decide +kernel
theorem dX12_lays_30 : decode cX12_lays 30 = .ok (.putfield 96, 3) := by decide +kernel
theorem dX12_lays_33 : decode cX12_lays 33 = .ok (.iinc 2 (-8), 3) := by decide +kernel
theorem dX12_lays_36 : decode cX12_lays 36 = .ok (.goto (-33), 3) := by decide +kernel
theorem dX12_lays_39 : decode cX12_lays 39 = .ok (.return_, 1) := by decide +kernel
def fX12_lays_0_L3 : Nat → Int32 → Int32 → (Nat → Int32) → (Nat → Nat → Int32) → Option ((Nat → Int32) × (Nat → Nat → Int32))
  | 0, _, _, _, _ => none
  | n + 1, x1, x2, S3, V4 =>
    (if x2 < 0 then
    some (S3, V4)
    else
    lt (((x1 >>> (x2 &&& 31)) &&& (255 : Int32))) (fun x6 =>
    lt ((S3 13)) (fun x7 =>
    gd (ib x7 600) (
    lt (va_up V4 5 (upd (V4 5) (x7).toNatClampNeg x6)) (fun V9 =>
    lt (((S3 13) + (1 : Int32))) (fun x10 =>
    lt (va_up S3 13 x10) (fun S11 =>
    lt (x2 + (-8 : Int32)) (fun x12 =>
    fX12_lays_0_L3 n x1 x12 S11 V9))))))))
def fX12_lays_0 (S : Nat → Int32) (V : Nat → Nat → Int32) (a1 : Int32) : Option ((Nat → Int32) × (Nat → Nat → Int32)) :=
  fX12_lays_0_L3 FU a1 (24 : Int32) S V
set_option maxHeartbeats 4000000 in
set_option maxRecDepth 100000 in
theorem kX12_lays_0 (l : Launch) (B : jBT) (D : va_G) (ad : Nat → Nat) (cA : Nat → ClassId) (hI : jI ad TR) (S : Nat → Int32) (V : Nat → Nat → Int32) (L : Nat → Int64) (a1 : Int32) (S0 : Nat → Int32) (V0 : Nat → Nat → Int32) (h : fX12_lays_0 S V a1 = some (S0, V0)) : jM l yX12_lays cX12_lays 3 none ({ frames := 0, cells := 0, slots := 0, locals := 0 }) B D TR ad cA [.ref (ad 0), .int a1] S V L none S0 V0 L := by
  refine jM_of (plainFor_of_name (by decide)) TR_ok hI (Nat.le_of_ble_eq_true rfl) ?_
  intro p e s m args below meth c C hr hlk
  refine j_lv (lv2 := [(0, .ref (ad 0)), (1, .int a1)]) rfl ?_
  unfold fX12_lays_0 at h
  have H_fX12_lays_0_L3 : ∀ (n : Nat) (x1 : Int32) (x2 : Int32) (S3 : Nat → Int32) (V4 : Nat → Nat → Int32), fX12_lays_0_L3 n x1 x2 S3 V4 = some (S0, V0) → jW p l e ({ frames := 0, cells := 0, slots := 0, locals := 0 }) s m args below meth c (MQ below (jQc D TR ad cA none s.heap.size S0 V0 L) args s 0 0 (jA ad TR s.heap.size)) D TR ad cA (jA ad TR s.heap.size) 3 0 0 3 [(0, .ref (ad 0)), (1, .int x1), (2, .int x2)] [] S3 V4 L := by
    intro n
    induction n with
    | zero =>
      intro x1 x2 S3 V4 h
      cases (show (none : Option ((Nat → Int32) × (Nat → Nat → Int32))) = some (S0, V0) from h)
    | succ n ih =>
      intro x1 x2 S3 V4 h
      unfold fX12_lays_0_L3 at h
      refine j_iload_n C 2 rfl dX12_lays_3 rfl ?_
      refine j_if_lt (tgt := 39) C dX12_lays_4 (by decide) (fun c5 => ?_) (fun c5 => ?_)
      · have h := (if_pos c5).symm.trans h
        cases h
        exact j_vret C hr hlk rfl dX12_lays_39
      · have h := (if_neg c5).symm.trans h
        refine j_aload_n C 0 rfl dX12_lays_7 rfl ?_
        refine fg_X12_32_TR_0 C dX12_lays_8 ?_
        refine j_aload_n C 0 rfl dX12_lays_11 rfl ?_
        refine fg_X12_96_TR_0 C dX12_lays_12 ?_
        refine j_iload_n C 1 rfl dX12_lays_15 rfl ?_
        refine j_iload_n C 2 rfl dX12_lays_16 rfl ?_
        refine j_ishr C dX12_lays_17 ?_
        refine j_sipush C dX12_lays_18 cs_255 ?_
        refine j_iand C dX12_lays_21 ?_
        refine lt_elim h (fun x6 e_x6 h => ?_)
        refine j_top e_x6 ?_
        refine lt_elim h (fun x7 e_x7 h => ?_)
        refine j_top2 e_x7 ?_
        obtain ⟨g8, h⟩ := gd_elim h
        refine j_iast C tr_5 (ib_in g8) dX12_lays_22 ?_
        refine lt_elim h (fun V9 e_V9 h => ?_)
        refine j_V e_V9 ?_
        refine j_aload_n C 0 rfl dX12_lays_23 rfl ?_
        refine j_dup C dX12_lays_24 rfl ?_
        refine fg_X12_96_TR_0 C dX12_lays_25 ?_
        refine j_iconst C dX12_lays_28 ci_1 ?_
        refine j_iadd C dX12_lays_29 ?_
        refine lt_elim h (fun x10 e_x10 h => ?_)
        refine j_top e_x10 ?_
        refine fp_X12_96_TR_0 C dX12_lays_30 ?_
        refine lt_elim h (fun S11 e_S11 h => ?_)
        refine j_S e_S11 ?_
        refine lt_elim h (fun x12 e_x12 h => ?_)
        refine j_iinc C [(2, .int x12), (0, .ref (ad 0)), (1, .int x1)] 2 dX12_lays_33 rfl ((iinc_eq ci_m8).trans e_x12.symm) (by decide) rfl ?_
        refine j_goto (tgt := 3) C dX12_lays_36 (by decide) ?_
        exact j_sub [1, 2, 0] rfl (ih _ _ _ _ h)
  refine j_bipush C dX12_lays_0 cb_24 ?_
  refine j_istore_n C [(2, .int (24 : Int32)), (0, .ref (ad 0)), (1, .int a1)] dX12_lays_2 rfl (by decide) rfl ?_
  exact j_sub [1, 2, 0] rfl (H_fX12_lays_0_L3 FU _ _ _ _ h)
theorem dX12_feed_0 : decode cX12_feed 0 = .ok (.aload_n 0, 1) := by decide +kernel
theorem dX12_feed_1 : decode cX12_feed 1 = .ok (.iconst 0, 1) := by decide +kernel
theorem dX12_feed_2 : decode cX12_feed 2 = .ok (.putfield 93, 3) := by decide +kernel
theorem dX12_feed_5 : decode cX12_feed 5 = .ok (.aload_n 0, 1) := by decide +kernel
theorem dX12_feed_6 : decode cX12_feed 6 = .ok (.getfield 96, 3) := by decide +kernel
theorem dX12_feed_9 : decode cX12_feed 9 = .ok (.bipush 20, 2) := by decide +kernel
theorem dX12_feed_11 : decode cX12_feed 11 = .ok (.iadd, 1) := by decide +kernel
theorem dX12_feed_12 : decode cX12_feed 12 = .ok (.sipush 600, 3) := by decide +kernel
theorem dX12_feed_15 : decode cX12_feed 15 = .ok (.if_icmp .le 5, 3) := by decide +kernel
theorem dX12_feed_18 : decode cX12_feed 18 = .ok (.iconst (-1), 1) := by decide +kernel
theorem dX12_feed_19 : decode cX12_feed 19 = .ok (.ireturn, 1) := by decide +kernel
theorem dX12_feed_20 : decode cX12_feed 20 = .ok (.aload_n 0, 1) := by decide +kernel
theorem dX12_feed_21 : decode cX12_feed 21 = .ok (.iload_n 1, 1) := by decide +kernel
theorem dX12_feed_22 : decode cX12_feed 22 = .ok (.invokevirtual 99, 3) := by decide +kernel
theorem dX12_feed_25 : decode cX12_feed 25 = .ok (.aload_n 0, 1) := by decide +kernel
theorem dX12_feed_26 : decode cX12_feed 26 = .ok (.iload_n 2, 1) := by decide +kernel
theorem dX12_feed_27 : decode cX12_feed 27 = .ok (.invokevirtual 99, 3) := by decide +kernel
theorem dX12_feed_30 : decode cX12_feed 30 = .ok (.aload_n 0, 1) := by decide +kernel
theorem dX12_feed_31 : decode cX12_feed 31 = .ok (.iload_n 3, 1) := by decide +kernel
theorem dX12_feed_32 : decode cX12_feed 32 = .ok (.invokevirtual 99, 3) := by decide +kernel
theorem dX12_feed_35 : decode cX12_feed 35 = .ok (.aload_n 0, 1) := by decide +kernel
theorem dX12_feed_36 : decode cX12_feed 36 = .ok (.iload 4, 2) := by decide +kernel
theorem dX12_feed_38 : decode cX12_feed 38 = .ok (.invokevirtual 99, 3) := by decide +kernel
theorem dX12_feed_41 : decode cX12_feed 41 = .ok (.aload_n 0, 1) := by decide +kernel
theorem dX12_feed_42 : decode cX12_feed 42 = .ok (.iload 5, 2) := by decide +kernel
theorem dX12_feed_44 : decode cX12_feed 44 = .ok (.invokevirtual 99, 3) := by decide +kernel
theorem dX12_feed_47 : decode cX12_feed 47 = .ok (.aload_n 0, 1) := by decide +kernel
theorem dX12_feed_48 : decode cX12_feed 48 = .ok (.getfield 96, 3) := by decide +kernel
theorem dX12_feed_51 : decode cX12_feed 51 = .ok (.ireturn, 1) := by decide +kernel
def fX12_feed_0 (S : Nat → Int32) (V : Nat → Nat → Int32) (a1 : Int32) (a2 : Int32) (a3 : Int32) (a4 : Int32) (a5 : Int32) : Option (Int32 × (Nat → Int32) × (Nat → Nat → Int32)) :=
  lt (va_up S 0 (0 : Int32)) (fun S1 =>
  (if ((S1 13) + (20 : Int32)) ≤ (600 : Int32) then
  bd2 (fX12_lays_0 S1 V a1) (fun S3 V4 =>
  bd2 (fX12_lays_0 S3 V4 a2) (fun S6 V7 =>
  bd2 (fX12_lays_0 S6 V7 a3) (fun S9 V10 =>
  bd2 (fX12_lays_0 S9 V10 a4) (fun S12 V13 =>
  bd2 (fX12_lays_0 S12 V13 a5) (fun S15 V16 =>
  some ((S15 13), S15, V16))))))
  else
  some ((-1 : Int32), S1, V)))
set_option maxHeartbeats 4000000 in
set_option maxRecDepth 100000 in
theorem kX12_feed_0 (l : Launch) (B : jBT) (D : va_G) (ad : Nat → Nat) (cA : Nat → ClassId) (hI : jI ad TR) (S : Nat → Int32) (V : Nat → Nat → Int32) (L : Nat → Int64) (a1 : Int32) (a2 : Int32) (a3 : Int32) (a4 : Int32) (a5 : Int32) (r0 : Int32) (S0 : Nat → Int32) (V0 : Nat → Nat → Int32) (h : fX12_feed_0 S V a1 a2 a3 a4 a5 = some (r0, S0, V0)) : jM l yX12_feed cX12_feed 6 (some .int) ({ frames := 1, cells := 0, slots := 0, locals := 22 }) B D TR ad cA [.ref (ad 0), .int a1, .int a2, .int a3, .int a4, .int a5] S V L (some (.int r0)) S0 V0 L := by
  refine jM_of (plainFor_of_name (by decide)) TR_ok hI (Nat.le_of_ble_eq_true rfl) ?_
  intro p e s m args below meth c C hr hlk
  refine j_lv (lv2 := [(0, .ref (ad 0)), (1, .int a1), (2, .int a2), (3, .int a3), (4, .int a4), (5, .int a5)]) rfl ?_
  unfold fX12_feed_0 at h
  refine j_aload_n C 0 rfl dX12_feed_0 rfl ?_
  refine j_iconst C dX12_feed_1 ci_0 ?_
  refine fp_X12_93_TR_0 C dX12_feed_2 ?_
  refine lt_elim h (fun S1 e_S1 h => ?_)
  refine j_S e_S1 ?_
  refine j_aload_n C 0 rfl dX12_feed_5 rfl ?_
  refine fg_X12_96_TR_0 C dX12_feed_6 ?_
  refine j_bipush C dX12_feed_9 cb_20 ?_
  refine j_iadd C dX12_feed_11 ?_
  refine j_sipush C dX12_feed_12 cs_600 ?_
  refine j_icmp_le (tgt := 20) C dX12_feed_15 (by decide) (fun c2 => ?_) (fun c2 => ?_)
  · have h := (if_pos c2).symm.trans h
    refine j_aload_n C 0 rfl dX12_feed_20 rfl ?_
    refine j_iload_n C 1 rfl dX12_feed_21 rfl ?_
    obtain ⟨S3, V4, h5, h⟩ := bd2_elim h
    refine j_callV (As := [.int a1]) (rest := []) C (kX12_lays_0 l B D ad cA hI S1 V L a1 _ _ h5) mw_X12_lays wd1630 wd55 wd1628 tr_0 rfl rfl ⟨rfl, rfl, by decide, by decide⟩ ⟨Nat.zero_le _, Nat.zero_le _⟩ rfl rfl (Nat.le_of_ble_eq_true rfl) dX12_feed_22 ?_
    refine j_aload_n C 0 rfl dX12_feed_25 rfl ?_
    refine j_iload_n C 2 rfl dX12_feed_26 rfl ?_
    obtain ⟨S6, V7, h8, h⟩ := bd2_elim h
    refine j_callV (As := [.int a2]) (rest := []) C (kX12_lays_0 l B D ad cA hI S3 V4 L a2 _ _ h8) mw_X12_lays wd1630 wd55 wd1628 tr_0 rfl rfl ⟨rfl, rfl, by decide, by decide⟩ ⟨Nat.zero_le _, Nat.zero_le _⟩ rfl rfl (Nat.le_of_ble_eq_true rfl) dX12_feed_27 ?_
    refine j_aload_n C 0 rfl dX12_feed_30 rfl ?_
    refine j_iload_n C 3 rfl dX12_feed_31 rfl ?_
    obtain ⟨S9, V10, h11, h⟩ := bd2_elim h
    refine j_callV (As := [.int a3]) (rest := []) C (kX12_lays_0 l B D ad cA hI S6 V7 L a3 _ _ h11) mw_X12_lays wd1630 wd55 wd1628 tr_0 rfl rfl ⟨rfl, rfl, by decide, by decide⟩ ⟨Nat.zero_le _, Nat.zero_le _⟩ rfl rfl (Nat.le_of_ble_eq_true rfl) dX12_feed_32 ?_
    refine j_aload_n C 0 rfl dX12_feed_35 rfl ?_
    refine j_iload C 4 rfl dX12_feed_36 ?_
    obtain ⟨S12, V13, h14, h⟩ := bd2_elim h
    refine j_callV (As := [.int a4]) (rest := []) C (kX12_lays_0 l B D ad cA hI S9 V10 L a4 _ _ h14) mw_X12_lays wd1630 wd55 wd1628 tr_0 rfl rfl ⟨rfl, rfl, by decide, by decide⟩ ⟨Nat.zero_le _, Nat.zero_le _⟩ rfl rfl (Nat.le_of_ble_eq_true rfl) dX12_feed_38 ?_
    refine j_aload_n C 0 rfl dX12_feed_41 rfl ?_
    refine j_iload C 5 rfl dX12_feed_42 ?_
    obtain ⟨S15, V16, h17, h⟩ := bd2_elim h
    refine j_callV (As := [.int a5]) (rest := []) C (kX12_lays_0 l B D ad cA hI S12 V13 L a5 _ _ h17) mw_X12_lays wd1630 wd55 wd1628 tr_0 rfl rfl ⟨rfl, rfl, by decide, by decide⟩ ⟨Nat.zero_le _, Nat.zero_le _⟩ rfl rfl (Nat.le_of_ble_eq_true rfl) dX12_feed_44 ?_
    refine j_aload_n C 0 rfl dX12_feed_47 rfl ?_
    refine fg_X12_96_TR_0 C dX12_feed_48 ?_
    cases h
    exact j_iret C hr hlk rfl dX12_feed_51
  · have h := (if_neg c2).symm.trans h
    refine j_iconst C dX12_feed_18 ci_m1 ?_
    cases h
    exact j_iret C hr hlk rfl dX12_feed_19
theorem dX12_hoursOf_0 : decode cX12_hoursOf 0 = .ok (.iconst 0, 1) := by decide +kernel
theorem dX12_hoursOf_1 : decode cX12_hoursOf 1 = .ok (.istore_n 3, 1) := by decide +kernel
theorem dX12_hoursOf_2 : decode cX12_hoursOf 2 = .ok (.iconst 0, 1) := by decide +kernel
theorem dX12_hoursOf_3 : decode cX12_hoursOf 3 = .ok (.istore 4, 2) := by decide +kernel
theorem dX12_hoursOf_5 : decode cX12_hoursOf 5 = .ok (.iload 4, 2) := by decide +kernel
theorem dX12_hoursOf_7 : decode cX12_hoursOf 7 = .ok (.aload_n 0, 1) := by decide +kernel
theorem dX12_hoursOf_8 : decode cX12_hoursOf 8 = .ok (.getfield 278, 3) := by decide +kernel
theorem dX12_hoursOf_11 : decode cX12_hoursOf 11 = .ok (.if_icmp .ge 78, 3) := by decide +kernel
theorem dX12_hoursOf_14 : decode cX12_hoursOf 14 = .ok (.iload_n 3, 1) := by decide +kernel
theorem dX12_hoursOf_15 : decode cX12_hoursOf 15 = .ok (.aload_n 0, 1) := by decide +kernel
theorem dX12_hoursOf_16 : decode cX12_hoursOf 16 = .ok (.getfield 60, 3) := by decide +kernel
theorem dX12_hoursOf_19 : decode cX12_hoursOf 19 = .ok (.iconst 4, 1) := by decide +kernel
theorem dX12_hoursOf_20 : decode cX12_hoursOf 20 = .ok (.iload 4, 2) := by decide +kernel
theorem dX12_hoursOf_22 : decode cX12_hoursOf 22 = .ok (.imul, 1) := by decide +kernel
theorem dX12_hoursOf_23 : decode cX12_hoursOf 23 = .ok (.iaload, 1) := by decide +kernel
theorem dX12_hoursOf_24 : decode cX12_hoursOf 24 = .ok (.iload_n 1, 1) := by decide +kernel
theorem dX12_hoursOf_25 : decode cX12_hoursOf 25 = .ok (.if_icmp .ne 55, 3) := by decide +kernel
theorem dX12_hoursOf_28 : decode cX12_hoursOf 28 = .ok (.aload_n 0, 1) := by decide +kernel
theorem dX12_hoursOf_29 : decode cX12_hoursOf 29 = .ok (.getfield 60, 3) := by decide +kernel
theorem dX12_hoursOf_32 : decode cX12_hoursOf 32 = .ok (.iconst 4, 1) := by decide +kernel
theorem dX12_hoursOf_33 : decode cX12_hoursOf 33 = .ok (.iload 4, 2) := by decide +kernel
theorem dX12_hoursOf_35 : decode cX12_hoursOf 35 = .ok (.imul, 1) := by decide +kernel
theorem dX12_hoursOf_36 : decode cX12_hoursOf 36 = .ok (.iconst 1, 1) := by decide +kernel
theorem dX12_hoursOf_37 : decode cX12_hoursOf 37 = .ok (.iadd, 1) := by decide +kernel
theorem dX12_hoursOf_38 : decode cX12_hoursOf 38 = .ok (.iaload, 1) := by decide +kernel
theorem dX12_hoursOf_39 : decode cX12_hoursOf 39 = .ok (.iconst 2, 1) := by decide +kernel
theorem dX12_hoursOf_40 : decode cX12_hoursOf 40 = .ok (.if_icmp .ne 7, 3) := by decide +kernel
theorem dX12_hoursOf_43 : decode cX12_hoursOf 43 = .ok (.iconst 1, 1) := by decide +kernel
theorem dX12_hoursOf_44 : decode cX12_hoursOf 44 = .ok (.goto 4, 3) := by decide +kernel
theorem dX12_hoursOf_47 : decode cX12_hoursOf 47 = .ok (.iconst 0, 1) := by decide +kernel
theorem dX12_hoursOf_48 : decode cX12_hoursOf 48 = .ok (.iload_n 2, 1) := by decide +kernel
theorem dX12_hoursOf_49 : decode cX12_hoursOf 49 = .ok (.if_icmp .ne 31, 3) := by decide +kernel
theorem dX12_hoursOf_52 : decode cX12_hoursOf 52 = .ok (.aload_n 0, 1) := by decide +kernel
theorem dX12_hoursOf_53 : decode cX12_hoursOf 53 = .ok (.getfield 60, 3) := by decide +kernel
theorem dX12_hoursOf_56 : decode cX12_hoursOf 56 = .ok (.iconst 4, 1) := by decide +kernel
theorem dX12_hoursOf_57 : decode cX12_hoursOf 57 = .ok (.iload 4, 2) := by decide +kernel
theorem dX12_hoursOf_59 : decode cX12_hoursOf 59 = .ok (.imul, 1) := by decide +kernel
theorem dX12_hoursOf_60 : decode cX12_hoursOf 60 = .ok (.iconst 3, 1) := by decide +kernel
theorem dX12_hoursOf_61 : decode cX12_hoursOf 61 = .ok (.iadd, 1) := by decide +kernel
theorem dX12_hoursOf_62 : decode cX12_hoursOf 62 = .ok (.iaload, 1) := by decide +kernel
theorem dX12_hoursOf_63 : decode cX12_hoursOf 63 = .ok (.aload_n 0, 1) := by decide +kernel
theorem dX12_hoursOf_64 : decode cX12_hoursOf 64 = .ok (.getfield 60, 3) := by decide +kernel
theorem dX12_hoursOf_67 : decode cX12_hoursOf 67 = .ok (.iconst 4, 1) := by decide +kernel
theorem dX12_hoursOf_68 : decode cX12_hoursOf 68 = .ok (.iload 4, 2) := by decide +kernel
theorem dX12_hoursOf_70 : decode cX12_hoursOf 70 = .ok (.imul, 1) := by decide +kernel
theorem dX12_hoursOf_71 : decode cX12_hoursOf 71 = .ok (.iconst 2, 1) := by decide +kernel
theorem dX12_hoursOf_72 : decode cX12_hoursOf 72 = .ok (.iadd, 1) := by decide +kernel
theorem dX12_hoursOf_73 : decode cX12_hoursOf 73 = .ok (.iaload, 1) := by decide +kernel
theorem dX12_hoursOf_74 : decode cX12_hoursOf 74 = .ok (.isub, 1) := by decide +kernel
theorem dX12_hoursOf_75 : decode cX12_hoursOf 75 = .ok (.iconst 1, 1) := by decide +kernel
theorem dX12_hoursOf_76 : decode cX12_hoursOf 76 = .ok (.iadd, 1) := by decide +kernel
theorem dX12_hoursOf_77 : decode cX12_hoursOf 77 = .ok (.goto 4, 3) := by decide +kernel
theorem dX12_hoursOf_80 : decode cX12_hoursOf 80 = .ok (.iconst 0, 1) := by decide +kernel
theorem dX12_hoursOf_81 : decode cX12_hoursOf 81 = .ok (.iadd, 1) := by decide +kernel
theorem dX12_hoursOf_82 : decode cX12_hoursOf 82 = .ok (.istore_n 3, 1) := by decide +kernel
theorem dX12_hoursOf_83 : decode cX12_hoursOf 83 = .ok (.iinc 4 1, 3) := by decide +kernel
theorem dX12_hoursOf_86 : decode cX12_hoursOf 86 = .ok (.goto (-81), 3) := by decide +kernel
theorem dX12_hoursOf_89 : decode cX12_hoursOf 89 = .ok (.iload_n 3, 1) := by decide +kernel
theorem dX12_hoursOf_90 : decode cX12_hoursOf 90 = .ok (.ireturn, 1) := by decide +kernel
def fX12_hoursOf_0_L5 (S : Nat → Int32) (V : Nat → Nat → Int32) : Nat → Int32 → Int32 → Int32 → Int32 → Option (Int32)
  | 0, _, _, _, _ => none
  | n + 1, x1, x2, x3, x4 =>
    (if (S 42) ≤ x4 then
    some x3
    else
    lt (((4 : Int32) * x4)) (fun x6 =>
    gd (ib x6 52) (
    bk (fun (x9 : Int32) (x10 : Int32) (x11 : Int32) (x12 : Int32) (x13 : Int32) =>
    lt ((x13 + x12)) (fun x14 =>
    lt (x11 + (1 : Int32)) (fun x15 =>
    fX12_hoursOf_0_L5 S V n x9 x10 x14 x15))) (fun K81_8 =>
    bk (fun (x17 : Int32) (x18 : Int32) (x19 : Int32) (x20 : Int32) =>
    K81_8 x17 x18 x19 (0 : Int32) x20) (fun K80_16 =>
    (if (V 13 (x6).toNatClampNeg) = x1 then
    lt ((((4 : Int32) * x4) + (1 : Int32))) (fun x22 =>
    gd (ib x22 52) (
    bk (fun (x25 : Int32) (x26 : Int32) (x27 : Int32) (x28 : Int32) (x29 : Int32) =>
    (if x28 = x26 then
    lt ((((4 : Int32) * x27) + (3 : Int32))) (fun x31 =>
    gd (ib x31 52) (
    lt ((((4 : Int32) * x27) + (2 : Int32))) (fun x33 =>
    gd (ib x33 52) (
    K81_8 x25 x26 x27 ((((V 13 (x31).toNatClampNeg) - (V 13 (x33).toNatClampNeg)) + (1 : Int32))) x29))))
    else
    K80_16 x25 x26 x27 x29)) (fun K48_24 =>
    (if (V 13 (x22).toNatClampNeg) = (2 : Int32) then
    K48_24 x1 x2 x4 (1 : Int32) x3
    else
    K48_24 x1 x2 x4 (0 : Int32) x3))))
    else
    K80_16 x1 x2 x4 x3))))))
def fX12_hoursOf_0 (S : Nat → Int32) (V : Nat → Nat → Int32) (a1 : Int32) (a2 : Int32) : Option (Int32) :=
  fX12_hoursOf_0_L5 S V FU a1 a2 (0 : Int32) (0 : Int32)
set_option maxHeartbeats 4000000 in
set_option maxRecDepth 100000 in
theorem kX12_hoursOf_0 (l : Launch) (B : jBT) (D : va_G) (ad : Nat → Nat) (cA : Nat → ClassId) (hI : jI ad TR) (S : Nat → Int32) (V : Nat → Nat → Int32) (L : Nat → Int64) (a1 : Int32) (a2 : Int32) (r0 : Int32) (h : fX12_hoursOf_0 S V a1 a2 = some r0) : jM l yX12_hoursOf cX12_hoursOf 5 (some .int) ({ frames := 0, cells := 0, slots := 0, locals := 0 }) B D TR ad cA [.ref (ad 0), .int a1, .int a2] S V L (some (.int r0)) S V L := by
  refine jM_of (plainFor_of_name (by decide)) TR_ok hI (Nat.le_of_ble_eq_true rfl) ?_
  intro p e s m args below meth c C hr hlk
  refine j_lv (lv2 := [(0, .ref (ad 0)), (1, .int a1), (2, .int a2)]) rfl ?_
  unfold fX12_hoursOf_0 at h
  have H_fX12_hoursOf_0_L5 : ∀ (n : Nat) (x1 : Int32) (x2 : Int32) (x3 : Int32) (x4 : Int32), fX12_hoursOf_0_L5 S V n x1 x2 x3 x4 = some r0 → jW p l e ({ frames := 0, cells := 0, slots := 0, locals := 0 }) s m args below meth c (MQ below (jQc D TR ad cA (some (.int r0)) s.heap.size S V L) args s 0 0 (jA ad TR s.heap.size)) D TR ad cA (jA ad TR s.heap.size) 5 0 0 5 [(0, .ref (ad 0)), (1, .int x1), (2, .int x2), (3, .int x3), (4, .int x4)] [] S V L := by
    intro n
    induction n with
    | zero =>
      intro x1 x2 x3 x4 h
      cases (show (none : Option (Int32)) = some r0 from h)
    | succ n ih =>
      intro x1 x2 x3 x4 h
      unfold fX12_hoursOf_0_L5 at h
      refine j_iload C 4 rfl dX12_hoursOf_5 ?_
      refine j_aload_n C 0 rfl dX12_hoursOf_7 rfl ?_
      refine fg_X12_278_TR_0 C dX12_hoursOf_8 ?_
      refine j_icmp_ge (tgt := 89) C dX12_hoursOf_11 (by decide) (fun c5 => ?_) (fun c5 => ?_)
      · have h := (if_pos c5).symm.trans h
        refine j_iload_n C 3 rfl dX12_hoursOf_89 rfl ?_
        cases h
        exact j_iret C hr hlk rfl dX12_hoursOf_90
      · have h := (if_neg c5).symm.trans h
        refine j_iload_n C 3 rfl dX12_hoursOf_14 rfl ?_
        refine j_aload_n C 0 rfl dX12_hoursOf_15 rfl ?_
        refine fg_X12_60_TR_0 C dX12_hoursOf_16 ?_
        refine j_iconst C dX12_hoursOf_19 ci_4 ?_
        refine j_iload C 4 rfl dX12_hoursOf_20 ?_
        refine j_imul C dX12_hoursOf_22 ?_
        refine lt_elim h (fun x6 e_x6 h => ?_)
        refine j_top e_x6 ?_
        obtain ⟨g7, h⟩ := gd_elim h
        refine j_iald C tr_13 (ib_in g7) dX12_hoursOf_23 ?_
        refine j_iload_n C 1 rfl dX12_hoursOf_24 rfl ?_
        refine bk_elim h (fun K81_8 e_K81_8 h => ?_)
        have HK81_8 : ∀ (x9 : Int32) (x10 : Int32) (x11 : Int32) (x12 : Int32) (x13 : Int32), K81_8 x9 x10 x11 x12 x13 = some r0 → jW p l e ({ frames := 0, cells := 0, slots := 0, locals := 0 }) s m args below meth c (MQ below (jQc D TR ad cA (some (.int r0)) s.heap.size S V L) args s 0 0 (jA ad TR s.heap.size)) D TR ad cA (jA ad TR s.heap.size) 5 0 0 81 [(0, .ref (ad 0)), (1, .int x9), (2, .int x10), (4, .int x11)] [.int x12, .int x13] S V L := by
          subst e_K81_8
          intro x9 x10 x11 x12 x13 h
          refine j_iadd C dX12_hoursOf_81 ?_
          refine lt_elim h (fun x14 e_x14 h => ?_)
          refine j_top e_x14 ?_
          refine j_istore_n C [(3, .int x14), (0, .ref (ad 0)), (1, .int x9), (2, .int x10), (4, .int x11)] dX12_hoursOf_82 rfl (by decide) rfl ?_
          refine lt_elim h (fun x15 e_x15 h => ?_)
          refine j_iinc C [(4, .int x15), (3, .int x14), (0, .ref (ad 0)), (1, .int x9), (2, .int x10)] 4 dX12_hoursOf_83 rfl ((iinc_eq ci_1).trans e_x15.symm) (by decide) rfl ?_
          refine j_goto (tgt := 5) C dX12_hoursOf_86 (by decide) ?_
          exact j_sub [2, 3, 4, 1, 0] rfl (ih _ _ _ _ h)
        refine bk_elim h (fun K80_16 e_K80_16 h => ?_)
        have HK80_16 : ∀ (x17 : Int32) (x18 : Int32) (x19 : Int32) (x20 : Int32), K80_16 x17 x18 x19 x20 = some r0 → jW p l e ({ frames := 0, cells := 0, slots := 0, locals := 0 }) s m args below meth c (MQ below (jQc D TR ad cA (some (.int r0)) s.heap.size S V L) args s 0 0 (jA ad TR s.heap.size)) D TR ad cA (jA ad TR s.heap.size) 5 0 0 80 [(0, .ref (ad 0)), (1, .int x17), (2, .int x18), (4, .int x19)] [.int x20] S V L := by
          subst e_K80_16
          intro x17 x18 x19 x20 h
          refine j_iconst C dX12_hoursOf_80 ci_0 ?_
          exact j_sub [0, 1, 2, 3] rfl (HK81_8 _ _ _ _ _ h)
        refine j_icmp_ne (tgt := 80) C dX12_hoursOf_25 (by decide) (fun c21 => ?_) (fun c21 => ?_)
        · have h := (if_neg c21).symm.trans h
          exact j_sub [0, 1, 2, 4] rfl (HK80_16 _ _ _ _ h)
        · have h := (if_pos c21).symm.trans h
          refine j_aload_n C 0 rfl dX12_hoursOf_28 rfl ?_
          refine fg_X12_60_TR_0 C dX12_hoursOf_29 ?_
          refine j_iconst C dX12_hoursOf_32 ci_4 ?_
          refine j_iload C 4 rfl dX12_hoursOf_33 ?_
          refine j_imul C dX12_hoursOf_35 ?_
          refine j_iconst C dX12_hoursOf_36 ci_1 ?_
          refine j_iadd C dX12_hoursOf_37 ?_
          refine lt_elim h (fun x22 e_x22 h => ?_)
          refine j_top e_x22 ?_
          obtain ⟨g23, h⟩ := gd_elim h
          refine j_iald C tr_13 (ib_in g23) dX12_hoursOf_38 ?_
          refine j_iconst C dX12_hoursOf_39 ci_2 ?_
          refine bk_elim h (fun K48_24 e_K48_24 h => ?_)
          have HK48_24 : ∀ (x25 : Int32) (x26 : Int32) (x27 : Int32) (x28 : Int32) (x29 : Int32), K48_24 x25 x26 x27 x28 x29 = some r0 → jW p l e ({ frames := 0, cells := 0, slots := 0, locals := 0 }) s m args below meth c (MQ below (jQc D TR ad cA (some (.int r0)) s.heap.size S V L) args s 0 0 (jA ad TR s.heap.size)) D TR ad cA (jA ad TR s.heap.size) 5 0 0 48 [(0, .ref (ad 0)), (1, .int x25), (2, .int x26), (4, .int x27)] [.int x28, .int x29] S V L := by
            subst e_K48_24
            intro x25 x26 x27 x28 x29 h
            refine j_iload_n C 2 rfl dX12_hoursOf_48 rfl ?_
            refine j_icmp_ne (tgt := 80) C dX12_hoursOf_49 (by decide) (fun c30 => ?_) (fun c30 => ?_)
            · have h := (if_neg c30).symm.trans h
              exact j_sub [0, 1, 2, 3] rfl (HK80_16 _ _ _ _ h)
            · have h := (if_pos c30).symm.trans h
              refine j_aload_n C 0 rfl dX12_hoursOf_52 rfl ?_
              refine fg_X12_60_TR_0 C dX12_hoursOf_53 ?_
              refine j_iconst C dX12_hoursOf_56 ci_4 ?_
              refine j_iload C 3 rfl dX12_hoursOf_57 ?_
              refine j_imul C dX12_hoursOf_59 ?_
              refine j_iconst C dX12_hoursOf_60 ci_3 ?_
              refine j_iadd C dX12_hoursOf_61 ?_
              refine lt_elim h (fun x31 e_x31 h => ?_)
              refine j_top e_x31 ?_
              obtain ⟨g32, h⟩ := gd_elim h
              refine j_iald C tr_13 (ib_in g32) dX12_hoursOf_62 ?_
              refine j_aload_n C 0 rfl dX12_hoursOf_63 rfl ?_
              refine fg_X12_60_TR_0 C dX12_hoursOf_64 ?_
              refine j_iconst C dX12_hoursOf_67 ci_4 ?_
              refine j_iload C 3 rfl dX12_hoursOf_68 ?_
              refine j_imul C dX12_hoursOf_70 ?_
              refine j_iconst C dX12_hoursOf_71 ci_2 ?_
              refine j_iadd C dX12_hoursOf_72 ?_
              refine lt_elim h (fun x33 e_x33 h => ?_)
              refine j_top e_x33 ?_
              obtain ⟨g34, h⟩ := gd_elim h
              refine j_iald C tr_13 (ib_in g34) dX12_hoursOf_73 ?_
              refine j_isub C dX12_hoursOf_74 ?_
              refine j_iconst C dX12_hoursOf_75 ci_1 ?_
              refine j_iadd C dX12_hoursOf_76 ?_
              refine j_goto (tgt := 81) C dX12_hoursOf_77 (by decide) ?_
              exact j_sub [0, 1, 2, 3] rfl (HK81_8 _ _ _ _ _ h)
          refine j_icmp_ne (tgt := 47) C dX12_hoursOf_40 (by decide) (fun c35 => ?_) (fun c35 => ?_)
          · have h := (if_neg c35).symm.trans h
            refine j_iconst C dX12_hoursOf_47 ci_0 ?_
            exact j_sub [0, 1, 2, 4] rfl (HK48_24 _ _ _ _ _ h)
          · have h := (if_pos c35).symm.trans h
            refine j_iconst C dX12_hoursOf_43 ci_1 ?_
            refine j_goto (tgt := 48) C dX12_hoursOf_44 (by decide) ?_
            exact j_sub [0, 1, 2, 4] rfl (HK48_24 _ _ _ _ _ h)
  refine j_iconst C dX12_hoursOf_0 ci_0 ?_
  refine j_istore_n C [(3, .int (0 : Int32)), (0, .ref (ad 0)), (1, .int a1), (2, .int a2)] dX12_hoursOf_1 rfl (by decide) rfl ?_
  refine j_iconst C dX12_hoursOf_2 ci_0 ?_
  refine j_istore C [(4, .int (0 : Int32)), (3, .int (0 : Int32)), (0, .ref (ad 0)), (1, .int a1), (2, .int a2)] dX12_hoursOf_3 (by decide) rfl ?_
  exact j_sub [2, 3, 4, 1, 0] rfl (H_fX12_hoursOf_0_L5 FU _ _ _ _ h)
theorem dX12_hoursOfOffer_0 : decode cX12_hoursOfOffer 0 = .ok (.iconst 0, 1) := by decide +kernel
theorem dX12_hoursOfOffer_1 : decode cX12_hoursOfOffer 1 = .ok (.istore_n 2, 1) := by decide +kernel
theorem dX12_hoursOfOffer_2 : decode cX12_hoursOfOffer 2 = .ok (.aload_n 0, 1) := by decide +kernel
theorem dX12_hoursOfOffer_3 : decode cX12_hoursOfOffer 3 = .ok (.getfield 84, 3) := by decide +kernel
theorem dX12_hoursOfOffer_6 : decode cX12_hoursOfOffer 6 = .ok (.iconst 3, 1) := by decide +kernel
theorem dX12_hoursOfOffer_7 : decode cX12_hoursOfOffer 7 = .ok (.iload_n 1, 1) := by decide +kernel
theorem dX12_hoursOfOffer_8 : decode cX12_hoursOfOffer 8 = .ok (.imul, 1) := by decide +kernel
theorem dX12_hoursOfOffer_9 : decode cX12_hoursOfOffer 9 = .ok (.iaload, 1) := by decide +kernel
theorem dX12_hoursOfOffer_10 : decode cX12_hoursOfOffer 10 = .ok (.istore_n 3, 1) := by decide +kernel
theorem dX12_hoursOfOffer_11 : decode cX12_hoursOfOffer 11 = .ok (.iload_n 3, 1) := by decide +kernel
theorem dX12_hoursOfOffer_12 : decode cX12_hoursOfOffer 12 = .ok (.aload_n 0, 1) := by decide +kernel
theorem dX12_hoursOfOffer_13 : decode cX12_hoursOfOffer 13 = .ok (.getfield 84, 3) := by decide +kernel
theorem dX12_hoursOfOffer_16 : decode cX12_hoursOfOffer 16 = .ok (.iconst 3, 1) := by decide +kernel
theorem dX12_hoursOfOffer_17 : decode cX12_hoursOfOffer 17 = .ok (.iload_n 1, 1) := by decide +kernel
theorem dX12_hoursOfOffer_18 : decode cX12_hoursOfOffer 18 = .ok (.imul, 1) := by decide +kernel
theorem dX12_hoursOfOffer_19 : decode cX12_hoursOfOffer 19 = .ok (.iconst 1, 1) := by decide +kernel
theorem dX12_hoursOfOffer_20 : decode cX12_hoursOfOffer 20 = .ok (.iadd, 1) := by decide +kernel
theorem dX12_hoursOfOffer_21 : decode cX12_hoursOfOffer 21 = .ok (.iaload, 1) := by decide +kernel
theorem dX12_hoursOfOffer_22 : decode cX12_hoursOfOffer 22 = .ok (.if_icmp .gt 84, 3) := by decide +kernel
theorem dX12_hoursOfOffer_25 : decode cX12_hoursOfOffer 25 = .ok (.aload_n 0, 1) := by decide +kernel
theorem dX12_hoursOfOffer_26 : decode cX12_hoursOfOffer 26 = .ok (.getfield 60, 3) := by decide +kernel
theorem dX12_hoursOfOffer_29 : decode cX12_hoursOfOffer 29 = .ok (.aload_n 0, 1) := by decide +kernel
theorem dX12_hoursOfOffer_30 : decode cX12_hoursOfOffer 30 = .ok (.getfield 278, 3) := by decide +kernel
theorem dX12_hoursOfOffer_33 : decode cX12_hoursOfOffer 33 = .ok (.iconst 0, 1) := by decide +kernel
theorem dX12_hoursOfOffer_34 : decode cX12_hoursOfOffer 34 = .ok (.iload_n 3, 1) := by decide +kernel
theorem dX12_hoursOfOffer_35 : decode cX12_hoursOfOffer 35 = .ok (.invokestatic 298, 3) := by decide +kernel
theorem dX12_hoursOfOffer_38 : decode cX12_hoursOfOffer 38 = .ok (.iconst (-1), 1) := by decide +kernel
theorem dX12_hoursOfOffer_39 : decode cX12_hoursOfOffer 39 = .ok (.if_icmp .eq 41, 3) := by decide +kernel
theorem dX12_hoursOfOffer_42 : decode cX12_hoursOfOffer 42 = .ok (.aload_n 0, 1) := by decide +kernel
theorem dX12_hoursOfOffer_43 : decode cX12_hoursOfOffer 43 = .ok (.getfield 60, 3) := by decide +kernel
theorem dX12_hoursOfOffer_46 : decode cX12_hoursOfOffer 46 = .ok (.aload_n 0, 1) := by decide +kernel
theorem dX12_hoursOfOffer_47 : decode cX12_hoursOfOffer 47 = .ok (.getfield 278, 3) := by decide +kernel
theorem dX12_hoursOfOffer_50 : decode cX12_hoursOfOffer 50 = .ok (.iconst 1, 1) := by decide +kernel
theorem dX12_hoursOfOffer_51 : decode cX12_hoursOfOffer 51 = .ok (.iload_n 3, 1) := by decide +kernel
theorem dX12_hoursOfOffer_52 : decode cX12_hoursOfOffer 52 = .ok (.invokestatic 298, 3) := by decide +kernel
theorem dX12_hoursOfOffer_55 : decode cX12_hoursOfOffer 55 = .ok (.iconst (-1), 1) := by decide +kernel
theorem dX12_hoursOfOffer_56 : decode cX12_hoursOfOffer 56 = .ok (.if_icmp .eq 24, 3) := by decide +kernel
theorem dX12_hoursOfOffer_59 : decode cX12_hoursOfOffer 59 = .ok (.aload_n 0, 1) := by decide +kernel
theorem dX12_hoursOfOffer_60 : decode cX12_hoursOfOffer 60 = .ok (.getfield 60, 3) := by decide +kernel
theorem dX12_hoursOfOffer_63 : decode cX12_hoursOfOffer 63 = .ok (.aload_n 0, 1) := by decide +kernel
theorem dX12_hoursOfOffer_64 : decode cX12_hoursOfOffer 64 = .ok (.getfield 278, 3) := by decide +kernel
theorem dX12_hoursOfOffer_67 : decode cX12_hoursOfOffer 67 = .ok (.iconst 2, 1) := by decide +kernel
theorem dX12_hoursOfOffer_68 : decode cX12_hoursOfOffer 68 = .ok (.iload_n 3, 1) := by decide +kernel
theorem dX12_hoursOfOffer_69 : decode cX12_hoursOfOffer 69 = .ok (.invokestatic 298, 3) := by decide +kernel
theorem dX12_hoursOfOffer_72 : decode cX12_hoursOfOffer 72 = .ok (.iconst (-1), 1) := by decide +kernel
theorem dX12_hoursOfOffer_73 : decode cX12_hoursOfOffer 73 = .ok (.if_icmp .ne 7, 3) := by decide +kernel
theorem dX12_hoursOfOffer_76 : decode cX12_hoursOfOffer 76 = .ok (.iconst 1, 1) := by decide +kernel
theorem dX12_hoursOfOffer_77 : decode cX12_hoursOfOffer 77 = .ok (.goto 4, 3) := by decide +kernel
theorem dX12_hoursOfOffer_80 : decode cX12_hoursOfOffer 80 = .ok (.iconst 0, 1) := by decide +kernel
theorem dX12_hoursOfOffer_81 : decode cX12_hoursOfOffer 81 = .ok (.istore 4, 2) := by decide +kernel
theorem dX12_hoursOfOffer_83 : decode cX12_hoursOfOffer 83 = .ok (.iload_n 2, 1) := by decide +kernel
theorem dX12_hoursOfOffer_84 : decode cX12_hoursOfOffer 84 = .ok (.iload 4, 2) := by decide +kernel
theorem dX12_hoursOfOffer_86 : decode cX12_hoursOfOffer 86 = .ok (.ifCond .eq 9, 3) := by decide +kernel
theorem dX12_hoursOfOffer_89 : decode cX12_hoursOfOffer 89 = .ok (.iconst 1, 1) := by decide +kernel
theorem dX12_hoursOfOffer_90 : decode cX12_hoursOfOffer 90 = .ok (.iload_n 3, 1) := by decide +kernel
theorem dX12_hoursOfOffer_91 : decode cX12_hoursOfOffer 91 = .ok (.ishl, 1) := by decide +kernel
theorem dX12_hoursOfOffer_92 : decode cX12_hoursOfOffer 92 = .ok (.goto 6, 3) := by decide +kernel
theorem dX12_hoursOfOffer_95 : decode cX12_hoursOfOffer 95 = .ok (.ldc_w 388, 3) := by decide +kernel
theorem dX12_hoursOfOffer_98 : decode cX12_hoursOfOffer 98 = .ok (.ior, 1) := by decide +kernel
theorem dX12_hoursOfOffer_99 : decode cX12_hoursOfOffer 99 = .ok (.istore_n 2, 1) := by decide +kernel
theorem dX12_hoursOfOffer_100 : decode cX12_hoursOfOffer 100 = .ok (.iinc 3 1, 3) := by decide +kernel
theorem dX12_hoursOfOffer_103 : decode cX12_hoursOfOffer 103 = .ok (.goto (-92), 3) := by decide +kernel
theorem dX12_hoursOfOffer_106 : decode cX12_hoursOfOffer 106 = .ok (.iload_n 2, 1) := by decide +kernel
theorem dX12_hoursOfOffer_107 : decode cX12_hoursOfOffer 107 = .ok (.ireturn, 1) := by decide +kernel
def fX12_hoursOfOffer_0_L11 (S : Nat → Int32) (V : Nat → Nat → Int32) : Nat → Int32 → Int32 → Int32 → Option (Int32)
  | 0, _, _, _ => none
  | n + 1, x4, x5, x6 =>
    lt ((((3 : Int32) * x4) + (1 : Int32))) (fun x7 =>
    gd (ib x7 24) (
    (if (V 21 (x7).toNatClampNeg) < x6 then
    some x5
    else
    bd1 (fX12_inOf_13 V ((S 42)) (0 : Int32) x6) (fun r10 =>
    bk (fun (x13 : Int32) (x14 : Int32) (x15 : Int32) (x16 : Int32) =>
    bk (fun (x18 : Int32) (x19 : Int32) (x20 : Int32) (x21 : Int32) =>
    lt ((x21 ||| x20)) (fun x22 =>
    lt (x19 + (1 : Int32)) (fun x23 =>
    fX12_hoursOfOffer_0_L11 S V n x18 x22 x23))) (fun K98_17 =>
    (if x16 = 0 then
    K98_17 x13 x15 (16777216 : Int32) x14
    else
    K98_17 x13 x15 (((1 : Int32) <<< (x15 &&& 31))) x14))) (fun K81_12 =>
    bk (fun (x26 : Int32) (x27 : Int32) (x28 : Int32) =>
    K81_12 x26 x27 x28 (0 : Int32)) (fun K80_25 =>
    (if r10 = (-1 : Int32) then
    K80_25 x4 x5 x6
    else
    bd1 (fX12_inOf_13 V ((S 42)) (1 : Int32) x6) (fun r30 =>
    (if r30 = (-1 : Int32) then
    K80_25 x4 x5 x6
    else
    bd1 (fX12_inOf_13 V ((S 42)) (2 : Int32) x6) (fun r33 =>
    (if r33 = (-1 : Int32) then
    K81_12 x4 x5 x6 (1 : Int32)
    else
    K80_25 x4 x5 x6)))))))))))
def fX12_hoursOfOffer_0 (S : Nat → Int32) (V : Nat → Nat → Int32) (a1 : Int32) : Option (Int32) :=
  lt (((3 : Int32) * a1)) (fun x1 =>
  gd (ib x1 24) (
  lt ((V 21 (x1).toNatClampNeg)) (fun x3 =>
  fX12_hoursOfOffer_0_L11 S V FU a1 (0 : Int32) x3)))
set_option maxHeartbeats 4000000 in
set_option maxRecDepth 100000 in
theorem kX12_hoursOfOffer_0 (l : Launch) (B : jBT) (D : va_G) (ad : Nat → Nat) (cA : Nat → ClassId) (hI : jI ad TR) (S : Nat → Int32) (V : Nat → Nat → Int32) (L : Nat → Int64) (a1 : Int32) (r0 : Int32) (h : fX12_hoursOfOffer_0 S V a1 = some r0) : jM l yX12_hoursOfOffer cX12_hoursOfOffer 5 (some .int) ({ frames := 1, cells := 0, slots := 0, locals := 24 }) B D TR ad cA [.ref (ad 0), .int a1] S V L (some (.int r0)) S V L := by
  refine jM_of (plainFor_of_name (by decide)) TR_ok hI (Nat.le_of_ble_eq_true rfl) ?_
  intro p e s m args below meth c C hr hlk
  refine j_lv (lv2 := [(0, .ref (ad 0)), (1, .int a1)]) rfl ?_
  unfold fX12_hoursOfOffer_0 at h
  have H_fX12_hoursOfOffer_0_L11 : ∀ (n : Nat) (x4 : Int32) (x5 : Int32) (x6 : Int32), fX12_hoursOfOffer_0_L11 S V n x4 x5 x6 = some r0 → jW p l e ({ frames := 1, cells := 0, slots := 0, locals := 24 }) s m args below meth c (MQ below (jQc D TR ad cA (some (.int r0)) s.heap.size S V L) args s 0 0 (jA ad TR s.heap.size)) D TR ad cA (jA ad TR s.heap.size) 5 0 0 11 [(0, .ref (ad 0)), (1, .int x4), (2, .int x5), (3, .int x6)] [] S V L := by
    intro n
    induction n with
    | zero =>
      intro x4 x5 x6 h
      cases (show (none : Option (Int32)) = some r0 from h)
    | succ n ih =>
      intro x4 x5 x6 h
      unfold fX12_hoursOfOffer_0_L11 at h
      refine j_iload_n C 3 rfl dX12_hoursOfOffer_11 rfl ?_
      refine j_aload_n C 0 rfl dX12_hoursOfOffer_12 rfl ?_
      refine fg_X12_84_TR_0 C dX12_hoursOfOffer_13 ?_
      refine j_iconst C dX12_hoursOfOffer_16 ci_3 ?_
      refine j_iload_n C 1 rfl dX12_hoursOfOffer_17 rfl ?_
      refine j_imul C dX12_hoursOfOffer_18 ?_
      refine j_iconst C dX12_hoursOfOffer_19 ci_1 ?_
      refine j_iadd C dX12_hoursOfOffer_20 ?_
      refine lt_elim h (fun x7 e_x7 h => ?_)
      refine j_top e_x7 ?_
      obtain ⟨g8, h⟩ := gd_elim h
      refine j_iald C tr_21 (ib_in g8) dX12_hoursOfOffer_21 ?_
      refine j_icmp_gt (tgt := 106) C dX12_hoursOfOffer_22 (by decide) (fun c9 => ?_) (fun c9 => ?_)
      · have h := (if_pos c9).symm.trans h
        refine j_iload_n C 2 rfl dX12_hoursOfOffer_106 rfl ?_
        cases h
        exact j_iret C hr hlk rfl dX12_hoursOfOffer_107
      · have h := (if_neg c9).symm.trans h
        refine j_aload_n C 0 rfl dX12_hoursOfOffer_25 rfl ?_
        refine fg_X12_60_TR_0 C dX12_hoursOfOffer_26 ?_
        refine j_aload_n C 0 rfl dX12_hoursOfOffer_29 rfl ?_
        refine fg_X12_278_TR_0 C dX12_hoursOfOffer_30 ?_
        refine j_iconst C dX12_hoursOfOffer_33 ci_0 ?_
        refine j_iload_n C 3 rfl dX12_hoursOfOffer_34 rfl ?_
        obtain ⟨r10, h11, h⟩ := bd1_elim h
        refine j_callS (As := [.ref (ad 13), .int (S 42), .int (0 : Int32), .int x6]) (rest := []) C (kX12_inOf_13 l B D ad cA hI S V L ((S 42)) (0 : Int32) x6 _ h11) mw_X12_inOf wd1775 wd1774 ⟨rfl, rfl, by decide, by decide⟩ ⟨Nat.zero_le _, Nat.zero_le _⟩ rfl rfl (Nat.le_of_ble_eq_true rfl) dX12_hoursOfOffer_35 ?_
        refine j_iconst C dX12_hoursOfOffer_38 ci_m1 ?_
        refine bk_elim h (fun K81_12 e_K81_12 h => ?_)
        have HK81_12 : ∀ (x13 : Int32) (x14 : Int32) (x15 : Int32) (x16 : Int32), K81_12 x13 x14 x15 x16 = some r0 → jW p l e ({ frames := 1, cells := 0, slots := 0, locals := 24 }) s m args below meth c (MQ below (jQc D TR ad cA (some (.int r0)) s.heap.size S V L) args s 0 0 (jA ad TR s.heap.size)) D TR ad cA (jA ad TR s.heap.size) 5 0 0 81 [(0, .ref (ad 0)), (1, .int x13), (2, .int x14), (3, .int x15)] [.int x16] S V L := by
          subst e_K81_12
          intro x13 x14 x15 x16 h
          refine j_istore C [(4, .int x16), (0, .ref (ad 0)), (1, .int x13), (2, .int x14), (3, .int x15)] dX12_hoursOfOffer_81 (by decide) rfl ?_
          refine j_iload_n C 3 rfl dX12_hoursOfOffer_83 rfl ?_
          refine j_iload C 0 rfl dX12_hoursOfOffer_84 ?_
          refine bk_elim h (fun K98_17 e_K98_17 h => ?_)
          have HK98_17 : ∀ (x18 : Int32) (x19 : Int32) (x20 : Int32) (x21 : Int32), K98_17 x18 x19 x20 x21 = some r0 → jW p l e ({ frames := 1, cells := 0, slots := 0, locals := 24 }) s m args below meth c (MQ below (jQc D TR ad cA (some (.int r0)) s.heap.size S V L) args s 0 0 (jA ad TR s.heap.size)) D TR ad cA (jA ad TR s.heap.size) 5 0 0 98 [(0, .ref (ad 0)), (1, .int x18), (3, .int x19)] [.int x20, .int x21] S V L := by
            subst e_K98_17
            intro x18 x19 x20 x21 h
            refine j_ior C dX12_hoursOfOffer_98 ?_
            refine lt_elim h (fun x22 e_x22 h => ?_)
            refine j_top e_x22 ?_
            refine j_istore_n C [(2, .int x22), (0, .ref (ad 0)), (1, .int x18), (3, .int x19)] dX12_hoursOfOffer_99 rfl (by decide) rfl ?_
            refine lt_elim h (fun x23 e_x23 h => ?_)
            refine j_iinc C [(3, .int x23), (2, .int x22), (0, .ref (ad 0)), (1, .int x18)] 3 dX12_hoursOfOffer_100 rfl ((iinc_eq ci_1).trans e_x23.symm) (by decide) rfl ?_
            refine j_goto (tgt := 11) C dX12_hoursOfOffer_103 (by decide) ?_
            exact j_sub [2, 3, 1, 0] rfl (ih _ _ _ h)
          refine j_if_eq (tgt := 95) C dX12_hoursOfOffer_86 (by decide) (fun c24 => ?_) (fun c24 => ?_)
          · have h := (if_pos c24).symm.trans h
            refine j_ldcw C wd1936 dX12_hoursOfOffer_95 ?_
            exact j_sub [1, 2, 4] rfl (HK98_17 _ _ _ _ h)
          · have h := (if_neg c24).symm.trans h
            refine j_iconst C dX12_hoursOfOffer_89 ci_1 ?_
            refine j_iload_n C 4 rfl dX12_hoursOfOffer_90 rfl ?_
            refine j_ishl C dX12_hoursOfOffer_91 ?_
            refine j_goto (tgt := 98) C dX12_hoursOfOffer_92 (by decide) ?_
            exact j_sub [1, 2, 4] rfl (HK98_17 _ _ _ _ h)
        refine bk_elim h (fun K80_25 e_K80_25 h => ?_)
        have HK80_25 : ∀ (x26 : Int32) (x27 : Int32) (x28 : Int32), K80_25 x26 x27 x28 = some r0 → jW p l e ({ frames := 1, cells := 0, slots := 0, locals := 24 }) s m args below meth c (MQ below (jQc D TR ad cA (some (.int r0)) s.heap.size S V L) args s 0 0 (jA ad TR s.heap.size)) D TR ad cA (jA ad TR s.heap.size) 5 0 0 80 [(0, .ref (ad 0)), (1, .int x26), (2, .int x27), (3, .int x28)] [] S V L := by
          subst e_K80_25
          intro x26 x27 x28 h
          refine j_iconst C dX12_hoursOfOffer_80 ci_0 ?_
          exact j_sub [0, 1, 2, 3] rfl (HK81_12 _ _ _ _ h)
        refine j_icmp_eq (tgt := 80) C dX12_hoursOfOffer_39 (by decide) (fun c29 => ?_) (fun c29 => ?_)
        · have h := (if_pos c29).symm.trans h
          exact j_sub [0, 1, 2, 3] rfl (HK80_25 _ _ _ h)
        · have h := (if_neg c29).symm.trans h
          refine j_aload_n C 0 rfl dX12_hoursOfOffer_42 rfl ?_
          refine fg_X12_60_TR_0 C dX12_hoursOfOffer_43 ?_
          refine j_aload_n C 0 rfl dX12_hoursOfOffer_46 rfl ?_
          refine fg_X12_278_TR_0 C dX12_hoursOfOffer_47 ?_
          refine j_iconst C dX12_hoursOfOffer_50 ci_1 ?_
          refine j_iload_n C 3 rfl dX12_hoursOfOffer_51 rfl ?_
          obtain ⟨r30, h31, h⟩ := bd1_elim h
          refine j_callS (As := [.ref (ad 13), .int (S 42), .int (1 : Int32), .int x6]) (rest := []) C (kX12_inOf_13 l B D ad cA hI S V L ((S 42)) (1 : Int32) x6 _ h31) mw_X12_inOf wd1775 wd1774 ⟨rfl, rfl, by decide, by decide⟩ ⟨Nat.zero_le _, Nat.zero_le _⟩ rfl rfl (Nat.le_of_ble_eq_true rfl) dX12_hoursOfOffer_52 ?_
          refine j_iconst C dX12_hoursOfOffer_55 ci_m1 ?_
          refine j_icmp_eq (tgt := 80) C dX12_hoursOfOffer_56 (by decide) (fun c32 => ?_) (fun c32 => ?_)
          · have h := (if_pos c32).symm.trans h
            exact j_sub [0, 1, 2, 3] rfl (HK80_25 _ _ _ h)
          · have h := (if_neg c32).symm.trans h
            refine j_aload_n C 0 rfl dX12_hoursOfOffer_59 rfl ?_
            refine fg_X12_60_TR_0 C dX12_hoursOfOffer_60 ?_
            refine j_aload_n C 0 rfl dX12_hoursOfOffer_63 rfl ?_
            refine fg_X12_278_TR_0 C dX12_hoursOfOffer_64 ?_
            refine j_iconst C dX12_hoursOfOffer_67 ci_2 ?_
            refine j_iload_n C 3 rfl dX12_hoursOfOffer_68 rfl ?_
            obtain ⟨r33, h34, h⟩ := bd1_elim h
            refine j_callS (As := [.ref (ad 13), .int (S 42), .int (2 : Int32), .int x6]) (rest := []) C (kX12_inOf_13 l B D ad cA hI S V L ((S 42)) (2 : Int32) x6 _ h34) mw_X12_inOf wd1775 wd1774 ⟨rfl, rfl, by decide, by decide⟩ ⟨Nat.zero_le _, Nat.zero_le _⟩ rfl rfl (Nat.le_of_ble_eq_true rfl) dX12_hoursOfOffer_69 ?_
            refine j_iconst C dX12_hoursOfOffer_72 ci_m1 ?_
            refine j_icmp_ne (tgt := 80) C dX12_hoursOfOffer_73 (by decide) (fun c35 => ?_) (fun c35 => ?_)
            · have h := (if_neg c35).symm.trans h
              exact j_sub [0, 1, 2, 3] rfl (HK80_25 _ _ _ h)
            · have h := (if_pos c35).symm.trans h
              refine j_iconst C dX12_hoursOfOffer_76 ci_1 ?_
              refine j_goto (tgt := 81) C dX12_hoursOfOffer_77 (by decide) ?_
              exact j_sub [0, 1, 2, 3] rfl (HK81_12 _ _ _ _ h)
  refine j_iconst C dX12_hoursOfOffer_0 ci_0 ?_
  refine j_istore_n C [(2, .int (0 : Int32)), (0, .ref (ad 0)), (1, .int a1)] dX12_hoursOfOffer_1 rfl (by decide) rfl ?_
  refine j_aload_n C 1 rfl dX12_hoursOfOffer_2 rfl ?_
  refine fg_X12_84_TR_0 C dX12_hoursOfOffer_3 ?_
  refine j_iconst C dX12_hoursOfOffer_6 ci_3 ?_
  refine j_iload_n C 2 rfl dX12_hoursOfOffer_7 rfl ?_
  refine j_imul C dX12_hoursOfOffer_8 ?_
  refine lt_elim h (fun x1 e_x1 h => ?_)
  refine j_top e_x1 ?_
  obtain ⟨g2, h⟩ := gd_elim h
  refine j_iald C tr_21 (ib_in g2) dX12_hoursOfOffer_9 ?_
  refine lt_elim h (fun x3 e_x3 h => ?_)
  refine j_top e_x3 ?_
  refine j_istore_n C [(3, .int x3), (2, .int (0 : Int32)), (0, .ref (ad 0)), (1, .int a1)] dX12_hoursOfOffer_10 rfl (by decide) rfl ?_
  exact j_sub [2, 3, 1, 0] rfl (H_fX12_hoursOfOffer_0_L11 FU _ _ _ h)
