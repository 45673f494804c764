theorem dX12_within_0 : decode cX12_within 0 = .ok (.iload_n 0, 1) := by decide +kernel
theorem dX12_within_1 : decode cX12_within 1 = .ok (.iload_n 1, 1) := by decide +kernel
theorem dX12_within_2 : decode cX12_within 2 = .ok (.if_icmp .lt 12, 3) := by decide +kernel
theorem dX12_within_5 : decode cX12_within 5 = .ok (.iload_n 0, 1) := by decide +kernel
theorem dX12_within_6 : decode cX12_within 6 = .ok (.iload_n 2, 1) := by decide +kernel
theorem dX12_within_7 : decode cX12_within 7 = .ok (.if_icmp .gt 7, 3) := by decide +kernel
theorem dX12_within_10 : decode cX12_within 10 = .ok (.iconst 1, 1) := by decide +kernel
theorem dX12_within_11 : decode cX12_within 11 = .ok (.goto 4, 3) := by decide +kernel
theorem dX12_within_14 : decode cX12_within 14 = .ok (.iconst 0, 1) := by decide +kernel
theorem dX12_within_15 : decode cX12_within 15 = .ok (.ireturn, 1) := by decide +kernel
def fX12_within (a1 : Int32) (a2 : Int32) (a3 : Int32) : Option (Int32) :=
  (if a1 < a2 then
  some (0 : Int32)
  else
  (if a3 < a1 then
  some (0 : Int32)
  else
  some (1 : Int32)))
set_option maxHeartbeats 4000000 in
set_option maxRecDepth 100000 in
theorem kX12_within (l : Launch) (B : jBT) (D : va_G) (ad : Nat → Nat) (cA : Nat → ClassId) (hI : jI ad TR) (S : Nat → Int32) (V : Nat → Nat → Int32) (L : Nat → Int64) (a1 : Int32) (a2 : Int32) (a3 : Int32) (r0 : Int32) (h : fX12_within a1 a2 a3 = some r0) : jM l yX12_within cX12_within 3 (some .boolean) ({ frames := 0, cells := 0, slots := 0, locals := 0 }) B D TR ad cA [.int a1, .int a2, .int a3] S V L (some (.int r0)) S V L := by
  refine jM_of (plainFor_of_name (by decide)) TR_ok hI (Nat.le_of_ble_eq_true rfl) ?_
  intro p e s m args below meth c C hr hlk
  refine j_lv (lv2 := [(0, .int a1), (1, .int a2), (2, .int a3)]) rfl ?_
  unfold fX12_within at h
  refine j_iload_n C 0 rfl dX12_within_0 rfl ?_
  refine j_iload_n C 1 rfl dX12_within_1 rfl ?_
  refine j_icmp_lt (tgt := 14) C dX12_within_2 (by decide) (fun c1 => ?_) (fun c1 => ?_)
  · have h := (if_pos c1).symm.trans h
    refine j_iconst C dX12_within_14 ci_0 ?_
    cases h
    exact j_zret C hr hlk rfl rfl dX12_within_15
  · have h := (if_neg c1).symm.trans h
    refine j_iload_n C 0 rfl dX12_within_5 rfl ?_
    refine j_iload_n C 2 rfl dX12_within_6 rfl ?_
    refine j_icmp_gt (tgt := 14) C dX12_within_7 (by decide) (fun c2 => ?_) (fun c2 => ?_)
    · have h := (if_pos c2).symm.trans h
      refine j_iconst C dX12_within_14 ci_0 ?_
      cases h
      exact j_zret C hr hlk rfl rfl dX12_within_15
    · have h := (if_neg c2).symm.trans h
      refine j_iconst C dX12_within_10 ci_1 ?_
      refine j_goto (tgt := 15) C dX12_within_11 (by decide) ?_
      cases h
      exact j_zret C hr hlk rfl rfl dX12_within_15
theorem dX12_right_0 : decode cX12_right 0 = .ok (.aload_n 0, 1) := by decide +kernel
theorem dX12_right_1 : decode cX12_right 1 = .ok (.getfield 93, 3) := by decide +kernel
theorem dX12_right_4 : decode cX12_right 4 = .ok (.ifCond .ne 12, 3) := by decide +kernel
theorem dX12_right_7 : decode cX12_right 7 = .ok (.iload_n 1, 1) := by decide +kernel
theorem dX12_right_8 : decode cX12_right 8 = .ok (.ifCond .ne 8, 3) := by decide +kernel
theorem dX12_right_11 : decode cX12_right 11 = .ok (.aload_n 0, 1) := by decide +kernel
theorem dX12_right_12 : decode cX12_right 12 = .ok (.iload_n 2, 1) := by decide +kernel
theorem dX12_right_13 : decode cX12_right 13 = .ok (.putfield 93, 3) := by decide +kernel
theorem dX12_right_16 : decode cX12_right 16 = .ok (.aload_n 0, 1) := by decide +kernel
theorem dX12_right_17 : decode cX12_right 17 = .ok (.getfield 93, 3) := by decide +kernel
theorem dX12_right_20 : decode cX12_right 20 = .ok (.ifCond .ne 7, 3) := by decide +kernel
theorem dX12_right_23 : decode cX12_right 23 = .ok (.iconst 1, 1) := by decide +kernel
theorem dX12_right_24 : decode cX12_right 24 = .ok (.goto 4, 3) := by decide +kernel
theorem dX12_right_27 : decode cX12_right 27 = .ok (.iconst 0, 1) := by decide +kernel
theorem dX12_right_28 : decode cX12_right 28 = .ok (.ireturn, 1) := by decide +kernel
def fX12_right_0 (S : Nat → Int32) (a1 : Int32) (a2 : Int32) : Option (Int32 × (Nat → Int32)) :=
  bk (fun (S2 : Nat → Int32) =>
  (if (S2 0) = 0 then
  some ((1 : Int32), S2)
  else
  some ((0 : Int32), S2))) (fun K16_1 =>
  (if (S 0) = 0 then
  (if a1 = 0 then
  lt (va_up S 0 a2) (fun S6 =>
  K16_1 S6)
  else
  K16_1 S)
  else
  K16_1 S))
set_option maxHeartbeats 4000000 in
set_option maxRecDepth 100000 in
theorem kX12_right_0 (l : Launch) (B : jBT) (D : va_G) (ad : Nat → Nat) (cA : Nat → ClassId) (hI : jI ad TR) (S : Nat → Int32) (V : Nat → Nat → Int32) (L : Nat → Int64) (a1 : Int32) (a2 : Int32) (r0 : Int32) (S0 : Nat → Int32) (h : fX12_right_0 S a1 a2 = some (r0, S0)) : jM l yX12_right cX12_right 3 (some .boolean) ({ frames := 0, cells := 0, slots := 0, locals := 0 }) B D TR ad cA [.ref (ad 0), .int a1, .int a2] S V L (some (.int r0)) S0 V L := by
  refine jM_of (plainFor_of_name (by decide)) TR_ok hI (Nat.le_of_ble_eq_true rfl) ?_
  intro p e s m args below meth c C hr hlk
  refine j_lv (lv2 := [(0, .ref (ad 0)), (1, .int a1), (2, .int a2)]) rfl ?_
  unfold fX12_right_0 at h
  refine j_aload_n C 0 rfl dX12_right_0 rfl ?_
  refine fg_X12_93_TR_0 C dX12_right_1 ?_
  refine bk_elim h (fun K16_1 e_K16_1 h => ?_)
  have HK16_1 : ∀ (S2 : Nat → Int32), K16_1 S2 = some (r0, S0) → jW p l e ({ frames := 0, cells := 0, slots := 0, locals := 0 }) s m args below meth c (MQ below (jQc D TR ad cA (some (.int r0)) s.heap.size S0 V L) args s 0 0 (jA ad TR s.heap.size)) D TR ad cA (jA ad TR s.heap.size) 3 0 0 16 [(0, .ref (ad 0))] [] S2 V L := by
    subst e_K16_1
    intro S2 h
    refine j_aload_n C 0 rfl dX12_right_16 rfl ?_
    refine fg_X12_93_TR_0 C dX12_right_17 ?_
    refine j_if_ne (tgt := 27) C dX12_right_20 (by decide) (fun c3 => ?_) (fun c3 => ?_)
    · have h := (if_neg c3).symm.trans h
      refine j_iconst C dX12_right_27 ci_0 ?_
      cases h
      exact j_zret C hr hlk rfl rfl dX12_right_28
    · have h := (if_pos c3).symm.trans h
      refine j_iconst C dX12_right_23 ci_1 ?_
      refine j_goto (tgt := 28) C dX12_right_24 (by decide) ?_
      cases h
      exact j_zret C hr hlk rfl rfl dX12_right_28
  refine j_if_ne (tgt := 16) C dX12_right_4 (by decide) (fun c4 => ?_) (fun c4 => ?_)
  · have h := (if_neg c4).symm.trans h
    exact j_sub [0] rfl (HK16_1 _ h)
  · have h := (if_pos c4).symm.trans h
    refine j_iload_n C 1 rfl dX12_right_7 rfl ?_
    refine j_if_ne (tgt := 16) C dX12_right_8 (by decide) (fun c5 => ?_) (fun c5 => ?_)
    · have h := (if_neg c5).symm.trans h
      exact j_sub [0] rfl (HK16_1 _ h)
    · have h := (if_pos c5).symm.trans h
      refine j_aload_n C 0 rfl dX12_right_11 rfl ?_
      refine j_iload_n C 2 rfl dX12_right_12 rfl ?_
      refine fp_X12_93_TR_0 C dX12_right_13 ?_
      refine lt_elim h (fun S6 e_S6 h => ?_)
      refine j_S e_S6 ?_
      exact j_sub [0] rfl (HK16_1 _ h)
theorem dX12_isDay_0 : decode cX12_isDay 0 = .ok (.aload_n 0, 1) := by decide +kernel
theorem dX12_isDay_1 : decode cX12_isDay 1 = .ok (.iload_n 1, 1) := by decide +kernel
theorem dX12_isDay_2 : decode cX12_isDay 2 = .ok (.iconst 0, 1) := by decide +kernel
theorem dX12_isDay_3 : decode cX12_isDay 3 = .ok (.sipush 9999, 3) := by decide +kernel
theorem dX12_isDay_6 : decode cX12_isDay 6 = .ok (.invokestatic 294, 3) := by decide +kernel
theorem dX12_isDay_9 : decode cX12_isDay 9 = .ok (.iload_n 2, 1) := by decide +kernel
theorem dX12_isDay_10 : decode cX12_isDay 10 = .ok (.invokevirtual 255, 3) := by decide +kernel
theorem dX12_isDay_13 : decode cX12_isDay 13 = .ok (.ireturn, 1) := by decide +kernel
def fX12_isDay_0 (S : Nat → Int32) (a1 : Int32) (a2 : Int32) : Option (Int32 × (Nat → Int32)) :=
  bd1 (fX12_within a1 (0 : Int32) (9999 : Int32)) (fun r1 =>
  bd2 (fX12_right_0 S r1 a2) (fun r3 S4 =>
  gd (isb r3) (
  some (r3, S4))))
set_option maxHeartbeats 4000000 in
set_option maxRecDepth 100000 in
theorem kX12_isDay_0 (l : Launch) (B : jBT) (D : va_G) (ad : Nat → Nat) (cA : Nat → ClassId) (hI : jI ad TR) (S : Nat → Int32) (V : Nat → Nat → Int32) (L : Nat → Int64) (a1 : Int32) (a2 : Int32) (r0 : Int32) (S0 : Nat → Int32) (h : fX12_isDay_0 S a1 a2 = some (r0, S0)) : jM l yX12_isDay cX12_isDay 3 (some .boolean) ({ frames := 1, cells := 0, slots := 0, locals := 22 }) B D TR ad cA [.ref (ad 0), .int a1, .int a2] S V L (some (.int r0)) S0 V L := by
  refine jM_of (plainFor_of_name (by decide)) TR_ok hI (Nat.le_of_ble_eq_true rfl) ?_
  intro p e s m args below meth c C hr hlk
  refine j_lv (lv2 := [(0, .ref (ad 0)), (1, .int a1), (2, .int a2)]) rfl ?_
  unfold fX12_isDay_0 at h
  refine j_aload_n C 0 rfl dX12_isDay_0 rfl ?_
  refine j_iload_n C 1 rfl dX12_isDay_1 rfl ?_
  refine j_iconst C dX12_isDay_2 ci_0 ?_
  refine j_sipush C dX12_isDay_3 cs_9999 ?_
  obtain ⟨r1, h2, h⟩ := bd1_elim h
  refine j_callS (As := [.int a1, .int (0 : Int32), .int (9999 : Int32)]) (rest := [.ref (ad 0)]) C (kX12_within l B D ad cA hI S V L a1 (0 : Int32) (9999 : Int32) _ h2) mw_X12_within wd1760 wd1759 ⟨rfl, rfl, by decide, by decide⟩ ⟨Nat.zero_le _, Nat.zero_le _⟩ rfl rfl (Nat.le_of_ble_eq_true rfl) dX12_isDay_6 ?_
  refine j_iload_n C 2 rfl dX12_isDay_9 rfl ?_
  obtain ⟨r3, S4, h5, h⟩ := bd2_elim h
  refine j_callV (As := [.int r1, .int a2]) (rest := []) C (kX12_right_0 l B D ad cA hI S V L r1 a2 _ _ h5) mw_X12_right wd1638 wd56 wd1636 tr_0 rfl rfl ⟨rfl, rfl, by decide, by decide⟩ ⟨Nat.zero_le _, Nat.zero_le _⟩ rfl rfl (Nat.le_of_ble_eq_true rfl) dX12_isDay_10 ?_
  obtain ⟨g6, h⟩ := gd_elim h
  cases h
  exact j_zret C hr hlk rfl (isb_n g6) dX12_isDay_13
theorem dX12_inOf_0 : decode cX12_inOf 0 = .ok (.iconst 0, 1) := by decide +kernel
theorem dX12_inOf_1 : decode cX12_inOf 1 = .ok (.istore 4, 2) := by decide +kernel
theorem dX12_inOf_3 : decode cX12_inOf 3 = .ok (.iload 4, 2) := by decide +kernel
theorem dX12_inOf_5 : decode cX12_inOf 5 = .ok (.iload_n 1, 1) := by decide +kernel
theorem dX12_inOf_6 : decode cX12_inOf 6 = .ok (.if_icmp .ge 52, 3) := by decide +kernel
theorem dX12_inOf_9 : decode cX12_inOf 9 = .ok (.aload_n 0, 1) := by decide +kernel
theorem dX12_inOf_10 : decode cX12_inOf 10 = .ok (.iconst 4, 1) := by decide +kernel
theorem dX12_inOf_11 : decode cX12_inOf 11 = .ok (.iload 4, 2) := by decide +kernel
theorem dX12_inOf_13 : decode cX12_inOf 13 = .ok (.imul, 1) := by decide +kernel
theorem dX12_inOf_14 : decode cX12_inOf 14 = .ok (.iconst 1, 1) := by decide +kernel
theorem dX12_inOf_15 : decode cX12_inOf 15 = .ok (.iadd, 1) := by decide +kernel
theorem dX12_inOf_16 : decode cX12_inOf 16 = .ok (.iaload, 1) := by decide +kernel
theorem dX12_inOf_17 : decode cX12_inOf 17 = .ok (.iload_n 2, 1) := by decide +kernel
theorem dX12_inOf_18 : decode cX12_inOf 18 = .ok (.if_icmp .ne 34, 3) := by decide +kernel
theorem dX12_inOf_21 : decode cX12_inOf 21 = .ok (.aload_n 0, 1) := by decide +kernel
theorem dX12_inOf_22 : decode cX12_inOf 22 = .ok (.iconst 4, 1) := by decide +kernel
theorem dX12_inOf_23 : decode cX12_inOf 23 = .ok (.iload 4, 2) := by decide +kernel
theorem dX12_inOf_25 : decode cX12_inOf 25 = .ok (.imul, 1) := by decide +kernel
theorem dX12_inOf_26 : decode cX12_inOf 26 = .ok (.iconst 2, 1) := by decide +kernel
theorem dX12_inOf_27 : decode cX12_inOf 27 = .ok (.iadd, 1) := by decide +kernel
theorem dX12_inOf_28 : decode cX12_inOf 28 = .ok (.iaload, 1) := by decide +kernel
theorem dX12_inOf_29 : decode cX12_inOf 29 = .ok (.iload_n 3, 1) := by decide +kernel
theorem dX12_inOf_30 : decode cX12_inOf 30 = .ok (.if_icmp .gt 22, 3) := by decide +kernel
theorem dX12_inOf_33 : decode cX12_inOf 33 = .ok (.iload_n 3, 1) := by decide +kernel
theorem dX12_inOf_34 : decode cX12_inOf 34 = .ok (.aload_n 0, 1) := by decide +kernel
theorem dX12_inOf_35 : decode cX12_inOf 35 = .ok (.iconst 4, 1) := by decide +kernel
theorem dX12_inOf_36 : decode cX12_inOf 36 = .ok (.iload 4, 2) := by decide +kernel
theorem dX12_inOf_38 : decode cX12_inOf 38 = .ok (.imul, 1) := by decide +kernel
theorem dX12_inOf_39 : decode cX12_inOf 39 = .ok (.iconst 3, 1) := by decide +kernel
theorem dX12_inOf_40 : decode cX12_inOf 40 = .ok (.iadd, 1) := by decide +kernel
theorem dX12_inOf_41 : decode cX12_inOf 41 = .ok (.iaload, 1) := by decide +kernel
theorem dX12_inOf_42 : decode cX12_inOf 42 = .ok (.if_icmp .gt 10, 3) := by decide +kernel
theorem dX12_inOf_45 : decode cX12_inOf 45 = .ok (.aload_n 0, 1) := by decide +kernel
theorem dX12_inOf_46 : decode cX12_inOf 46 = .ok (.iconst 4, 1) := by decide +kernel
theorem dX12_inOf_47 : decode cX12_inOf 47 = .ok (.iload 4, 2) := by decide +kernel
theorem dX12_inOf_49 : decode cX12_inOf 49 = .ok (.imul, 1) := by decide +kernel
theorem dX12_inOf_50 : decode cX12_inOf 50 = .ok (.iaload, 1) := by decide +kernel
theorem dX12_inOf_51 : decode cX12_inOf 51 = .ok (.ireturn, 1) := by decide +kernel
theorem dX12_inOf_52 : decode cX12_inOf 52 = .ok (.iinc 4 1, 3) := by decide +kernel
theorem dX12_inOf_55 : decode cX12_inOf 55 = .ok (.goto (-52), 3) := by decide +kernel
theorem dX12_inOf_58 : decode cX12_inOf 58 = .ok (.iconst (-1), 1) := by decide +kernel
theorem dX12_inOf_59 : decode cX12_inOf 59 = .ok (.ireturn, 1) := by decide +kernel
def fX12_inOf_13_L3 (E45 : Int32 → Option (Int32)) (V : Nat → Nat → Int32) : Nat → Int32 → Int32 → Int32 → Int32 → Option (Int32)
  | 0, _, _, _, _ => none
  | n + 1, x1, x2, x3, x4 =>
    (if x1 ≤ x4 then
    some (-1 : Int32)
    else
    lt ((((4 : Int32) * x4) + (1 : Int32))) (fun x6 =>
    gd (ib x6 52) (
    bk (fun (x9 : Int32) (x10 : Int32) (x11 : Int32) (x12 : Int32) =>
    lt (x12 + (1 : Int32)) (fun x13 =>
    fX12_inOf_13_L3 E45 V n x9 x10 x11 x13)) (fun K52_8 =>
    (if (V 13 (x6).toNatClampNeg) = x2 then
    lt ((((4 : Int32) * x4) + (2 : Int32))) (fun x15 =>
    gd (ib x15 52) (
    (if x3 < (V 13 (x15).toNatClampNeg) then
    K52_8 x1 x2 x3 x4
    else
    lt ((((4 : Int32) * x4) + (3 : Int32))) (fun x18 =>
    gd (ib x18 52) (
    (if (V 13 (x18).toNatClampNeg) < x3 then
    K52_8 x1 x2 x3 x4
    else
    E45 x4))))))
    else
    K52_8 x1 x2 x3 x4)))))
def fX12_inOf_13 (V : Nat → Nat → Int32) (a1 : Int32) (a2 : Int32) (a3 : Int32) : Option (Int32) :=
  bk (fun (x23 : Int32) =>
  lt (((4 : Int32) * x23)) (fun x24 =>
  gd (ib x24 52) (
  some ((V 13 (x24).toNatClampNeg))))) (fun X45_22 =>
  fX12_inOf_13_L3 X45_22 V FU a1 a2 a3 (0 : Int32))
set_option maxHeartbeats 4000000 in
set_option maxRecDepth 100000 in
theorem kX12_inOf_13 (l : Launch) (B : jBT) (D : va_G) (ad : Nat → Nat) (cA : Nat → ClassId) (hI : jI ad TR) (S : Nat → Int32) (V : Nat → Nat → Int32) (L : Nat → Int64) (a1 : Int32) (a2 : Int32) (a3 : Int32) (r0 : Int32) (h : fX12_inOf_13 V a1 a2 a3 = some r0) : jM l yX12_inOf cX12_inOf 5 (some .int) ({ frames := 0, cells := 0, slots := 0, locals := 0 }) B D TR ad cA [.ref (ad 13), .int a1, .int a2, .int a3] S V L (some (.int r0)) S V L := by
  refine jM_of (plainFor_of_name (by decide)) TR_ok hI (Nat.le_of_ble_eq_true rfl) ?_
  intro p e s m args below meth c C hr hlk
  refine j_lv (lv2 := [(0, .ref (ad 13)), (1, .int a1), (2, .int a2), (3, .int a3)]) rfl ?_
  unfold fX12_inOf_13 at h
  have H_fX12_inOf_13_L3 : ∀ (E45 : Int32 → Option (Int32)) (_ : ∀ (x21 : Int32), E45 x21 = some r0 → jW p l e ({ frames := 0, cells := 0, slots := 0, locals := 0 }) s m args below meth c (MQ below (jQc D TR ad cA (some (.int r0)) s.heap.size S V L) args s 0 0 (jA ad TR s.heap.size)) D TR ad cA (jA ad TR s.heap.size) 5 0 0 45 [(0, .ref (ad 13)), (4, .int x21)] [] S V L) (n : Nat) (x1 : Int32) (x2 : Int32) (x3 : Int32) (x4 : Int32), fX12_inOf_13_L3 E45 V n x1 x2 x3 x4 = some r0 → jW p l e ({ frames := 0, cells := 0, slots := 0, locals := 0 }) s m args below meth c (MQ below (jQc D TR ad cA (some (.int r0)) s.heap.size S V L) args s 0 0 (jA ad TR s.heap.size)) D TR ad cA (jA ad TR s.heap.size) 5 0 0 3 [(0, .ref (ad 13)), (1, .int x1), (2, .int x2), (3, .int x3), (4, .int x4)] [] S V L := by
    intro E45 HE45
    intro n
    induction n with
    | zero =>
      intro x1 x2 x3 x4 h
      cases (show (none : Option (Int32)) = some r0 from h)
    | succ n ih =>
      intro x1 x2 x3 x4 h
      unfold fX12_inOf_13_L3 at h
      refine j_iload C 4 rfl dX12_inOf_3 ?_
      refine j_iload_n C 1 rfl dX12_inOf_5 rfl ?_
      refine j_icmp_ge (tgt := 58) C dX12_inOf_6 (by decide) (fun c5 => ?_) (fun c5 => ?_)
      · have h := (if_pos c5).symm.trans h
        refine j_iconst C dX12_inOf_58 ci_m1 ?_
        cases h
        exact j_iret C hr hlk rfl dX12_inOf_59
      · have h := (if_neg c5).symm.trans h
        refine j_aload_n C 0 rfl dX12_inOf_9 rfl ?_
        refine j_iconst C dX12_inOf_10 ci_4 ?_
        refine j_iload C 4 rfl dX12_inOf_11 ?_
        refine j_imul C dX12_inOf_13 ?_
        refine j_iconst C dX12_inOf_14 ci_1 ?_
        refine j_iadd C dX12_inOf_15 ?_
        refine lt_elim h (fun x6 e_x6 h => ?_)
        refine j_top e_x6 ?_
        obtain ⟨g7, h⟩ := gd_elim h
        refine j_iald C tr_13 (ib_in g7) dX12_inOf_16 ?_
        refine j_iload_n C 2 rfl dX12_inOf_17 rfl ?_
        refine bk_elim h (fun K52_8 e_K52_8 h => ?_)
        have HK52_8 : ∀ (x9 : Int32) (x10 : Int32) (x11 : Int32) (x12 : Int32), K52_8 x9 x10 x11 x12 = some r0 → jW p l e ({ frames := 0, cells := 0, slots := 0, locals := 0 }) s m args below meth c (MQ below (jQc D TR ad cA (some (.int r0)) s.heap.size S V L) args s 0 0 (jA ad TR s.heap.size)) D TR ad cA (jA ad TR s.heap.size) 5 0 0 52 [(0, .ref (ad 13)), (1, .int x9), (2, .int x10), (3, .int x11), (4, .int x12)] [] S V L := by
          subst e_K52_8
          intro x9 x10 x11 x12 h
          refine lt_elim h (fun x13 e_x13 h => ?_)
          refine j_iinc C [(4, .int x13), (0, .ref (ad 13)), (1, .int x9), (2, .int x10), (3, .int x11)] 4 dX12_inOf_52 rfl ((iinc_eq ci_1).trans e_x13.symm) (by decide) rfl ?_
          refine j_goto (tgt := 3) C dX12_inOf_55 (by decide) ?_
          exact j_sub [1, 2, 3, 4, 0] rfl (ih _ _ _ _ h)
        refine j_icmp_ne (tgt := 52) C dX12_inOf_18 (by decide) (fun c14 => ?_) (fun c14 => ?_)
        · have h := (if_neg c14).symm.trans h
          exact j_sub [0, 1, 2, 3, 4] rfl (HK52_8 _ _ _ _ h)
        · have h := (if_pos c14).symm.trans h
          refine j_aload_n C 0 rfl dX12_inOf_21 rfl ?_
          refine j_iconst C dX12_inOf_22 ci_4 ?_
          refine j_iload C 4 rfl dX12_inOf_23 ?_
          refine j_imul C dX12_inOf_25 ?_
          refine j_iconst C dX12_inOf_26 ci_2 ?_
          refine j_iadd C dX12_inOf_27 ?_
          refine lt_elim h (fun x15 e_x15 h => ?_)
          refine j_top e_x15 ?_
          obtain ⟨g16, h⟩ := gd_elim h
          refine j_iald C tr_13 (ib_in g16) dX12_inOf_28 ?_
          refine j_iload_n C 3 rfl dX12_inOf_29 rfl ?_
          refine j_icmp_gt (tgt := 52) C dX12_inOf_30 (by decide) (fun c17 => ?_) (fun c17 => ?_)
          · have h := (if_pos c17).symm.trans h
            exact j_sub [0, 1, 2, 3, 4] rfl (HK52_8 _ _ _ _ h)
          · have h := (if_neg c17).symm.trans h
            refine j_iload_n C 3 rfl dX12_inOf_33 rfl ?_
            refine j_aload_n C 0 rfl dX12_inOf_34 rfl ?_
            refine j_iconst C dX12_inOf_35 ci_4 ?_
            refine j_iload C 4 rfl dX12_inOf_36 ?_
            refine j_imul C dX12_inOf_38 ?_
            refine j_iconst C dX12_inOf_39 ci_3 ?_
            refine j_iadd C dX12_inOf_40 ?_
            refine lt_elim h (fun x18 e_x18 h => ?_)
            refine j_top e_x18 ?_
            obtain ⟨g19, h⟩ := gd_elim h
            refine j_iald C tr_13 (ib_in g19) dX12_inOf_41 ?_
            refine j_icmp_gt (tgt := 52) C dX12_inOf_42 (by decide) (fun c20 => ?_) (fun c20 => ?_)
            · have h := (if_pos c20).symm.trans h
              exact j_sub [0, 1, 2, 3, 4] rfl (HK52_8 _ _ _ _ h)
            · have h := (if_neg c20).symm.trans h
              exact j_sub [0, 4] rfl (HE45 _ h)
  refine j_iconst C dX12_inOf_0 ci_0 ?_
  refine j_istore C [(4, .int (0 : Int32)), (0, .ref (ad 13)), (1, .int a1), (2, .int a2), (3, .int a3)] dX12_inOf_1 (by decide) rfl ?_
  refine bk_elim h (fun X45_22 e_X45_22 h => ?_)
  have HX45_22 : ∀ (x23 : Int32), X45_22 x23 = some r0 → jW p l e ({ frames := 0, cells := 0, slots := 0, locals := 0 }) s m args below meth c (MQ below (jQc D TR ad cA (some (.int r0)) s.heap.size S V L) args s 0 0 (jA ad TR s.heap.size)) D TR ad cA (jA ad TR s.heap.size) 5 0 0 45 [(0, .ref (ad 13)), (4, .int x23)] [] S V L := by
    subst e_X45_22
    intro x23 h
    refine j_aload_n C 0 rfl dX12_inOf_45 rfl ?_
    refine j_iconst C dX12_inOf_46 ci_4 ?_
    refine j_iload C 1 rfl dX12_inOf_47 ?_
    refine j_imul C dX12_inOf_49 ?_
    refine lt_elim h (fun x24 e_x24 h => ?_)
    refine j_top e_x24 ?_
    obtain ⟨g25, h⟩ := gd_elim h
    refine j_iald C tr_13 (ib_in g25) dX12_inOf_50 ?_
    cases h
    exact j_iret C hr hlk rfl dX12_inOf_51
  exact j_sub [1, 2, 3, 4, 0] rfl (H_fX12_inOf_13_L3 _ HX45_22 FU _ _ _ _ h)
theorem dX12_allIn_0 : decode cX12_allIn 0 = .ok (.iconst 0, 1) := by decide +kernel
theorem dX12_allIn_1 : decode cX12_allIn 1 = .ok (.istore_n 3, 1) := by decide +kernel
theorem dX12_allIn_2 : decode cX12_allIn 2 = .ok (.iconst 0, 1) := by decide +kernel
theorem dX12_allIn_3 : decode cX12_allIn 3 = .ok (.istore 4, 2) := by decide +kernel
theorem dX12_allIn_5 : decode cX12_allIn 5 = .ok (.iload 4, 2) := by decide +kernel
theorem dX12_allIn_7 : decode cX12_allIn 7 = .ok (.iconst 2, 1) := by decide +kernel
theorem dX12_allIn_8 : decode cX12_allIn 8 = .ok (.if_icmp .gt 36, 3) := by decide +kernel
theorem dX12_allIn_11 : decode cX12_allIn 11 = .ok (.aload_n 0, 1) := by decide +kernel
theorem dX12_allIn_12 : decode cX12_allIn 12 = .ok (.iload_n 1, 1) := by decide +kernel
theorem dX12_allIn_13 : decode cX12_allIn 13 = .ok (.iload 4, 2) := by decide +kernel
theorem dX12_allIn_15 : decode cX12_allIn 15 = .ok (.iload_n 2, 1) := by decide +kernel
theorem dX12_allIn_16 : decode cX12_allIn 16 = .ok (.invokestatic 298, 3) := by decide +kernel
theorem dX12_allIn_19 : decode cX12_allIn 19 = .ok (.istore 5, 2) := by decide +kernel
theorem dX12_allIn_21 : decode cX12_allIn 21 = .ok (.iload_n 3, 1) := by decide +kernel
theorem dX12_allIn_22 : decode cX12_allIn 22 = .ok (.iload 5, 2) := by decide +kernel
theorem dX12_allIn_24 : decode cX12_allIn 24 = .ok (.iconst (-1), 1) := by decide +kernel
theorem dX12_allIn_25 : decode cX12_allIn 25 = .ok (.if_icmp .ne 7, 3) := by decide +kernel
theorem dX12_allIn_28 : decode cX12_allIn 28 = .ok (.iconst 0, 1) := by decide +kernel
theorem dX12_allIn_29 : decode cX12_allIn 29 = .ok (.goto 7, 3) := by decide +kernel
theorem dX12_allIn_32 : decode cX12_allIn 32 = .ok (.iconst 1, 1) := by decide +kernel
theorem dX12_allIn_33 : decode cX12_allIn 33 = .ok (.iload 5, 2) := by decide +kernel
theorem dX12_allIn_35 : decode cX12_allIn 35 = .ok (.ishl, 1) := by decide +kernel
theorem dX12_allIn_36 : decode cX12_allIn 36 = .ok (.ior, 1) := by decide +kernel
theorem dX12_allIn_37 : decode cX12_allIn 37 = .ok (.istore_n 3, 1) := by decide +kernel
theorem dX12_allIn_38 : decode cX12_allIn 38 = .ok (.iinc 4 1, 3) := by decide +kernel
theorem dX12_allIn_41 : decode cX12_allIn 41 = .ok (.goto (-36), 3) := by decide +kernel
theorem dX12_allIn_44 : decode cX12_allIn 44 = .ok (.iload_n 3, 1) := by decide +kernel
theorem dX12_allIn_45 : decode cX12_allIn 45 = .ok (.ireturn, 1) := by decide +kernel
def fX12_allIn_13_L5 (V : Nat → Nat → Int32) : Nat → Int32 → Int32 → Int32 → Int32 → Option (Int32)
  | 0, _, _, _, _ => none
  | n + 1, x1, x2, x3, x4 =>
    (if (2 : Int32) < x4 then
    some x3
    else
    bd1 (fX12_inOf_13 V x1 x4 x2) (fun r6 =>
    bk (fun (x9 : Int32) (x10 : Int32) (x11 : Int32) (x12 : Int32) (x13 : Int32) =>
    lt ((x13 ||| x12)) (fun x14 =>
    lt (x11 + (1 : Int32)) (fun x15 =>
    fX12_allIn_13_L5 V n x9 x10 x14 x15))) (fun K36_8 =>
    (if r6 = (-1 : Int32) then
    K36_8 x1 x2 x4 (0 : Int32) x3
    else
    K36_8 x1 x2 x4 (((1 : Int32) <<< (r6 &&& 31))) x3))))
def fX12_allIn_13 (V : Nat → Nat → Int32) (a1 : Int32) (a2 : Int32) : Option (Int32) :=
  fX12_allIn_13_L5 V FU a1 a2 (0 : Int32) (0 : Int32)
set_option maxHeartbeats 4000000 in
set_option maxRecDepth 100000 in
theorem kX12_allIn_13 (l : Launch) (B : jBT) (D : va_G) (ad : Nat → Nat) (cA : Nat → ClassId) (hI : jI ad TR) (S : Nat → Int32) (V : Nat → Nat → Int32) (L : Nat → Int64) (a1 : Int32) (a2 : Int32) (r0 : Int32) (h : fX12_allIn_13 V a1 a2 = some r0) : jM l yX12_allIn cX12_allIn 6 (some .int) ({ frames := 1, cells := 0, slots := 0, locals := 24 }) B D TR ad cA [.ref (ad 13), .int a1, .int a2] S V L (some (.int r0)) S V L := by
  refine jM_of (plainFor_of_name (by decide)) TR_ok hI (Nat.le_of_ble_eq_true rfl) ?_
  intro p e s m args below meth c C hr hlk
  refine j_lv (lv2 := [(0, .ref (ad 13)), (1, .int a1), (2, .int a2)]) rfl ?_
  unfold fX12_allIn_13 at h
  have H_fX12_allIn_13_L5 : ∀ (n : Nat) (x1 : Int32) (x2 : Int32) (x3 : Int32) (x4 : Int32), fX12_allIn_13_L5 V n x1 x2 x3 x4 = some r0 → jW p l e ({ frames := 1, cells := 0, slots := 0, locals := 24 }) s m args below meth c (MQ below (jQc D TR ad cA (some (.int r0)) s.heap.size S V L) args s 0 0 (jA ad TR s.heap.size)) D TR ad cA (jA ad TR s.heap.size) 6 0 0 5 [(0, .ref (ad 13)), (1, .int x1), (2, .int x2), (3, .int x3), (4, .int x4)] [] S V L := by
    intro n
    induction n with
    | zero =>
      intro x1 x2 x3 x4 h
      cases (show (none : Option (Int32)) = some r0 from h)
    | succ n ih =>
      intro x1 x2 x3 x4 h
      unfold fX12_allIn_13_L5 at h
      refine j_iload C 4 rfl dX12_allIn_5 ?_
      refine j_iconst C dX12_allIn_7 ci_2 ?_
      refine j_icmp_gt (tgt := 44) C dX12_allIn_8 (by decide) (fun c5 => ?_) (fun c5 => ?_)
      · have h := (if_pos c5).symm.trans h
        refine j_iload_n C 3 rfl dX12_allIn_44 rfl ?_
        cases h
        exact j_iret C hr hlk rfl dX12_allIn_45
      · have h := (if_neg c5).symm.trans h
        refine j_aload_n C 0 rfl dX12_allIn_11 rfl ?_
        refine j_iload_n C 1 rfl dX12_allIn_12 rfl ?_
        refine j_iload C 4 rfl dX12_allIn_13 ?_
        refine j_iload_n C 2 rfl dX12_allIn_15 rfl ?_
        obtain ⟨r6, h7, h⟩ := bd1_elim h
        refine j_callS (As := [.ref (ad 13), .int x1, .int x4, .int x2]) (rest := []) C (kX12_inOf_13 l B D ad cA hI S V L x1 x4 x2 _ h7) mw_X12_inOf wd1775 wd1774 ⟨rfl, rfl, by decide, by decide⟩ ⟨Nat.zero_le _, Nat.zero_le _⟩ rfl rfl (Nat.le_of_ble_eq_true rfl) dX12_allIn_16 ?_
        refine j_istore C [(5, .int r6), (0, .ref (ad 13)), (1, .int x1), (2, .int x2), (3, .int x3), (4, .int x4)] dX12_allIn_19 (by decide) rfl ?_
        refine j_iload_n C 4 rfl dX12_allIn_21 rfl ?_
        refine j_iload C 0 rfl dX12_allIn_22 ?_
        refine j_iconst C dX12_allIn_24 ci_m1 ?_
        refine bk_elim h (fun K36_8 e_K36_8 h => ?_)
        have HK36_8 : ∀ (x9 : Int32) (x10 : Int32) (x11 : Int32) (x12 : Int32) (x13 : Int32), K36_8 x9 x10 x11 x12 x13 = some r0 → jW p l e ({ frames := 1, cells := 0, slots := 0, locals := 24 }) s m args below meth c (MQ below (jQc D TR ad cA (some (.int r0)) s.heap.size S V L) args s 0 0 (jA ad TR s.heap.size)) D TR ad cA (jA ad TR s.heap.size) 6 0 0 36 [(0, .ref (ad 13)), (1, .int x9), (2, .int x10), (4, .int x11)] [.int x12, .int x13] S V L := by
          subst e_K36_8
          intro x9 x10 x11 x12 x13 h
          refine j_ior C dX12_allIn_36 ?_
          refine lt_elim h (fun x14 e_x14 h => ?_)
          refine j_top e_x14 ?_
          refine j_istore_n C [(3, .int x14), (0, .ref (ad 13)), (1, .int x9), (2, .int x10), (4, .int x11)] dX12_allIn_37 rfl (by decide) rfl ?_
          refine lt_elim h (fun x15 e_x15 h => ?_)
          refine j_iinc C [(4, .int x15), (3, .int x14), (0, .ref (ad 13)), (1, .int x9), (2, .int x10)] 4 dX12_allIn_38 rfl ((iinc_eq ci_1).trans e_x15.symm) (by decide) rfl ?_
          refine j_goto (tgt := 5) C dX12_allIn_41 (by decide) ?_
          exact j_sub [2, 3, 4, 1, 0] rfl (ih _ _ _ _ h)
        refine j_icmp_ne (tgt := 32) C dX12_allIn_25 (by decide) (fun c16 => ?_) (fun c16 => ?_)
        · have h := (if_neg c16).symm.trans h
          refine j_iconst C dX12_allIn_32 ci_1 ?_
          refine j_iload C 0 rfl dX12_allIn_33 ?_
          refine j_ishl C dX12_allIn_35 ?_
          exact j_sub [1, 2, 3, 5] rfl (HK36_8 _ _ _ _ _ h)
        · have h := (if_pos c16).symm.trans h
          refine j_iconst C dX12_allIn_28 ci_0 ?_
          refine j_goto (tgt := 36) C dX12_allIn_29 (by decide) ?_
          exact j_sub [1, 2, 3, 5] rfl (HK36_8 _ _ _ _ _ h)
  refine j_iconst C dX12_allIn_0 ci_0 ?_
  refine j_istore_n C [(3, .int (0 : Int32)), (0, .ref (ad 13)), (1, .int a1), (2, .int a2)] dX12_allIn_1 rfl (by decide) rfl ?_
  refine j_iconst C dX12_allIn_2 ci_0 ?_
  refine j_istore C [(4, .int (0 : Int32)), (3, .int (0 : Int32)), (0, .ref (ad 13)), (1, .int a1), (2, .int a2)] dX12_allIn_3 (by decide) rfl ?_
  exact j_sub [2, 3, 4, 1, 0] rfl (H_fX12_allIn_13_L5 FU _ _ _ _ h)
theorem dX12_oilOn_0 : decode cX12_oilOn 0 = .ok (.aload_n 0, 1) := by decide +kernel
theorem dX12_oilOn_1 : decode cX12_oilOn 1 = .ok (.getfield 262, 3) := by decide +kernel
theorem dX12_oilOn_4 : decode cX12_oilOn 4 = .ok (.iload_n 1, 1) := by decide +kernel
theorem dX12_oilOn_5 : decode cX12_oilOn 5 = .ok (.aload_n 0, 1) := by decide +kernel
theorem dX12_oilOn_6 : decode cX12_oilOn 6 = .ok (.getfield 13, 3) := by decide +kernel
theorem dX12_oilOn_9 : decode cX12_oilOn 9 = .ok (.idiv, 1) := by decide +kernel
theorem dX12_oilOn_10 : decode cX12_oilOn 10 = .ok (.isub, 1) := by decide +kernel
theorem dX12_oilOn_11 : decode cX12_oilOn 11 = .ok (.istore_n 2, 1) := by decide +kernel
theorem dX12_oilOn_12 : decode cX12_oilOn 12 = .ok (.iload_n 2, 1) := by decide +kernel
theorem dX12_oilOn_13 : decode cX12_oilOn 13 = .ok (.ifCond .le 7, 3) := by decide +kernel
theorem dX12_oilOn_16 : decode cX12_oilOn 16 = .ok (.iload_n 2, 1) := by decide +kernel
theorem dX12_oilOn_17 : decode cX12_oilOn 17 = .ok (.goto 4, 3) := by decide +kernel
theorem dX12_oilOn_20 : decode cX12_oilOn 20 = .ok (.iconst 0, 1) := by decide +kernel
theorem dX12_oilOn_21 : decode cX12_oilOn 21 = .ok (.ireturn, 1) := by decide +kernel
def fX12_oilOn_0 (S : Nat → Int32) (a1 : Int32) : Option (Int32) :=
  lt ((S 3)) (fun x1 =>
  gd (nz x1) (
  lt (((S 2) - (a1 / x1))) (fun x3 =>
  (if x3 ≤ 0 then
  some (0 : Int32)
  else
  some x3))))
set_option maxHeartbeats 4000000 in
set_option maxRecDepth 100000 in
theorem kX12_oilOn_0 (l : Launch) (B : jBT) (D : va_G) (ad : Nat → Nat) (cA : Nat → ClassId) (hI : jI ad TR) (S : Nat → Int32) (V : Nat → Nat → Int32) (L : Nat → Int64) (a1 : Int32) (r0 : Int32) (h : fX12_oilOn_0 S a1 = some r0) : jM l yX12_oilOn cX12_oilOn 3 (some .int) ({ frames := 0, cells := 0, slots := 0, locals := 0 }) B D TR ad cA [.ref (ad 0), .int a1] S V L (some (.int r0)) S V L := by
  refine jM_of (plainFor_of_name (by decide)) TR_ok hI (Nat.le_of_ble_eq_true rfl) ?_
  intro p e s m args below meth c C hr hlk
  refine j_lv (lv2 := [(0, .ref (ad 0)), (1, .int a1)]) rfl ?_
  unfold fX12_oilOn_0 at h
  refine j_aload_n C 0 rfl dX12_oilOn_0 rfl ?_
  refine fg_X12_262_TR_0 C dX12_oilOn_1 ?_
  refine j_iload_n C 1 rfl dX12_oilOn_4 rfl ?_
  refine j_aload_n C 0 rfl dX12_oilOn_5 rfl ?_
  refine fg_X12_13_TR_0 C dX12_oilOn_6 ?_
  refine lt_elim h (fun x1 e_x1 h => ?_)
  refine j_top e_x1 ?_
  obtain ⟨g2, h⟩ := gd_elim h
  refine j_idiv C dX12_oilOn_9 (nz_ne g2) ?_
  refine j_isub C dX12_oilOn_10 ?_
  refine lt_elim h (fun x3 e_x3 h => ?_)
  refine j_top e_x3 ?_
  refine j_istore_n C [(2, .int x3), (0, .ref (ad 0)), (1, .int a1)] dX12_oilOn_11 rfl (by decide) rfl ?_
  refine j_iload_n C 0 rfl dX12_oilOn_12 rfl ?_
  refine j_if_le (tgt := 20) C dX12_oilOn_13 (by decide) (fun c4 => ?_) (fun c4 => ?_)
  · have h := (if_pos c4).symm.trans h
    refine j_iconst C dX12_oilOn_20 ci_0 ?_
    cases h
    exact j_iret C hr hlk rfl dX12_oilOn_21
  · have h := (if_neg c4).symm.trans h
    refine j_iload_n C 0 rfl dX12_oilOn_16 rfl ?_
    refine j_goto (tgt := 21) C dX12_oilOn_17 (by decide) ?_
    cases h
    exact j_iret C hr hlk rfl dX12_oilOn_21
theorem dX12_bits_0 : decode cX12_bits 0 = .ok (.iconst 0, 1) := by decide +kernel
theorem dX12_bits_1 : decode cX12_bits 1 = .ok (.istore_n 1, 1) := by decide +kernel
theorem dX12_bits_2 : decode cX12_bits 2 = .ok (.iconst 0, 1) := by decide +kernel
theorem dX12_bits_3 : decode cX12_bits 3 = .ok (.istore_n 2, 1) := by decide +kernel
theorem dX12_bits_4 : decode cX12_bits 4 = .ok (.iload_n 2, 1) := by decide +kernel
theorem dX12_bits_5 : decode cX12_bits 5 = .ok (.bipush 8, 2) := by decide +kernel
theorem dX12_bits_7 : decode cX12_bits 7 = .ok (.if_icmp .ge 17, 3) := by decide +kernel
theorem dX12_bits_10 : decode cX12_bits 10 = .ok (.iload_n 1, 1) := by decide +kernel
theorem dX12_bits_11 : decode cX12_bits 11 = .ok (.iload_n 0, 1) := by decide +kernel
theorem dX12_bits_12 : decode cX12_bits 12 = .ok (.iload_n 2, 1) := by decide +kernel
theorem dX12_bits_13 : decode cX12_bits 13 = .ok (.ishr, 1) := by decide +kernel
theorem dX12_bits_14 : decode cX12_bits 14 = .ok (.iconst 1, 1) := by decide +kernel
theorem dX12_bits_15 : decode cX12_bits 15 = .ok (.iand, 1) := by decide +kernel
theorem dX12_bits_16 : decode cX12_bits 16 = .ok (.iadd, 1) := by decide +kernel
theorem dX12_bits_17 : decode cX12_bits 17 = .ok (.istore_n 1, 1) := by decide +kernel
theorem dX12_bits_18 : decode cX12_bits 18 = .ok (.iinc 2 1, 3) := by decide +kernel
theorem dX12_bits_21 : decode cX12_bits 21 = .ok (.goto (-17), 3) := by decide +kernel
theorem dX12_bits_24 : decode cX12_bits 24 = .ok (.iload_n 1, 1) := by decide +kernel
theorem dX12_bits_25 : decode cX12_bits 25 = .ok (.ireturn, 1) := by decide +kernel
def fX12_bits_L4 : Nat → Int32 → Int32 → Int32 → Option (Int32)
  | 0, _, _, _ => none
  | n + 1, x1, x2, x3 =>
    (if (8 : Int32) ≤ x3 then
    some x2
    else
    lt ((x2 + ((x1 >>> (x3 &&& 31)) &&& (1 : Int32)))) (fun x5 =>
    lt (x3 + (1 : Int32)) (fun x6 =>
    fX12_bits_L4 n x1 x5 x6)))
def fX12_bits (a1 : Int32) : Option (Int32) :=
  fX12_bits_L4 FU a1 (0 : Int32) (0 : Int32)
set_option maxHeartbeats 4000000 in
set_option maxRecDepth 100000 in
theorem kX12_bits (l : Launch) (B : jBT) (D : va_G) (ad : Nat → Nat) (cA : Nat → ClassId) (hI : jI ad TR) (S : Nat → Int32) (V : Nat → Nat → Int32) (L : Nat → Int64) (a1 : Int32) (r0 : Int32) (h : fX12_bits a1 = some r0) : jM l yX12_bits cX12_bits 3 (some .int) ({ frames := 0, cells := 0, slots := 0, locals := 0 }) B D TR ad cA [.int a1] S V L (some (.int r0)) S V L := by
  refine jM_of (plainFor_of_name (by decide)) TR_ok hI (Nat.le_of_ble_eq_true rfl) ?_
  intro p e s m args below meth c C hr hlk
  refine j_lv (lv2 := [(0, .int a1)]) rfl ?_
  unfold fX12_bits at h
  have H_fX12_bits_L4 : ∀ (n : Nat) (x1 : Int32) (x2 : Int32) (x3 : Int32), fX12_bits_L4 n x1 x2 x3 = some r0 → jW p l e ({ frames := 0, cells := 0, slots := 0, locals := 0 }) s m args below meth c (MQ below (jQc D TR ad cA (some (.int r0)) s.heap.size S V L) args s 0 0 (jA ad TR s.heap.size)) D TR ad cA (jA ad TR s.heap.size) 3 0 0 4 [(0, .int x1), (1, .int x2), (2, .int x3)] [] S V L := by
    intro n
    induction n with
    | zero =>
      intro x1 x2 x3 h
      cases (show (none : Option (Int32)) = some r0 from h)
    | succ n ih =>
      intro x1 x2 x3 h
      unfold fX12_bits_L4 at h
      refine j_iload_n C 2 rfl dX12_bits_4 rfl ?_
      refine j_bipush C dX12_bits_5 cb_8 ?_
      refine j_icmp_ge (tgt := 24) C dX12_bits_7 (by decide) (fun c4 => ?_) (fun c4 => ?_)
      · have h := (if_pos c4).symm.trans h
        refine j_iload_n C 1 rfl dX12_bits_24 rfl ?_
        cases h
        exact j_iret C hr hlk rfl dX12_bits_25
      · have h := (if_neg c4).symm.trans h
        refine j_iload_n C 1 rfl dX12_bits_10 rfl ?_
        refine j_iload_n C 0 rfl dX12_bits_11 rfl ?_
        refine j_iload_n C 2 rfl dX12_bits_12 rfl ?_
        refine j_ishr C dX12_bits_13 ?_
        refine j_iconst C dX12_bits_14 ci_1 ?_
        refine j_iand C dX12_bits_15 ?_
        refine j_iadd C dX12_bits_16 ?_
        refine lt_elim h (fun x5 e_x5 h => ?_)
        refine j_top e_x5 ?_
        refine j_istore_n C [(1, .int x5), (0, .int x1), (2, .int x3)] dX12_bits_17 rfl (by decide) rfl ?_
        refine lt_elim h (fun x6 e_x6 h => ?_)
        refine j_iinc C [(2, .int x6), (1, .int x5), (0, .int x1)] 2 dX12_bits_18 rfl ((iinc_eq ci_1).trans e_x6.symm) (by decide) rfl ?_
        refine j_goto (tgt := 4) C dX12_bits_21 (by decide) ?_
        exact j_sub [2, 1, 0] rfl (ih _ _ _ h)
  refine j_iconst C dX12_bits_0 ci_0 ?_
  refine j_istore_n C [(1, .int (0 : Int32)), (0, .int a1)] dX12_bits_1 rfl (by decide) rfl ?_
  refine j_iconst C dX12_bits_2 ci_0 ?_
  refine j_istore_n C [(2, .int (0 : Int32)), (1, .int (0 : Int32)), (0, .int a1)] dX12_bits_3 rfl (by decide) rfl ?_
  exact j_sub [2, 1, 0] rfl (H_fX12_bits_L4 FU _ _ _ h)
theorem dX12_swingBy_0 : decode cX12_swingBy 0 = .ok (.iconst 2, 1) := by decide +kernel
theorem dX12_swingBy_1 : decode cX12_swingBy 1 = .ok (.aload_n 0, 1) := by decide +kernel
theorem dX12_swingBy_2 : decode cX12_swingBy 2 = .ok (.getfield 7, 3) := by decide +kernel
theorem dX12_swingBy_5 : decode cX12_swingBy 5 = .ok (.imul, 1) := by decide +kernel
theorem dX12_swingBy_6 : decode cX12_swingBy 6 = .ok (.aload_n 0, 1) := by decide +kernel
theorem dX12_swingBy_7 : decode cX12_swingBy 7 = .ok (.iload_n 2, 1) := by decide +kernel
theorem dX12_swingBy_8 : decode cX12_swingBy 8 = .ok (.invokevirtual 345, 3) := by decide +kernel
theorem dX12_swingBy_11 : decode cX12_swingBy 11 = .ok (.isub, 1) := by decide +kernel
theorem dX12_swingBy_12 : decode cX12_swingBy 12 = .ok (.istore_n 3, 1) := by decide +kernel
theorem dX12_swingBy_13 : decode cX12_swingBy 13 = .ok (.iconst 0, 1) := by decide +kernel
theorem dX12_swingBy_14 : decode cX12_swingBy 14 = .ok (.istore 4, 2) := by decide +kernel
theorem dX12_swingBy_16 : decode cX12_swingBy 16 = .ok (.iconst 0, 1) := by decide +kernel
theorem dX12_swingBy_17 : decode cX12_swingBy 17 = .ok (.istore 5, 2) := by decide +kernel
theorem dX12_swingBy_19 : decode cX12_swingBy 19 = .ok (.iload 5, 2) := by decide +kernel
theorem dX12_swingBy_21 : decode cX12_swingBy 21 = .ok (.aload_n 0, 1) := by decide +kernel
theorem dX12_swingBy_22 : decode cX12_swingBy 22 = .ok (.getfield 265, 3) := by decide +kernel
theorem dX12_swingBy_25 : decode cX12_swingBy 25 = .ok (.if_icmp .ge 50, 3) := by decide +kernel
theorem dX12_swingBy_28 : decode cX12_swingBy 28 = .ok (.iload_n 1, 1) := by decide +kernel
theorem dX12_swingBy_29 : decode cX12_swingBy 29 = .ok (.iload 5, 2) := by decide +kernel
theorem dX12_swingBy_31 : decode cX12_swingBy 31 = .ok (.ishr, 1) := by decide +kernel
theorem dX12_swingBy_32 : decode cX12_swingBy 32 = .ok (.iconst 1, 1) := by decide +kernel
theorem dX12_swingBy_33 : decode cX12_swingBy 33 = .ok (.iand, 1) := by decide +kernel
theorem dX12_swingBy_34 : decode cX12_swingBy 34 = .ok (.ifCond .ne 6, 3) := by decide +kernel
theorem dX12_swingBy_37 : decode cX12_swingBy 37 = .ok (.goto 32, 3) := by decide +kernel
theorem dX12_swingBy_40 : decode cX12_swingBy 40 = .ok (.iload_n 3, 1) := by decide +kernel
theorem dX12_swingBy_41 : decode cX12_swingBy 41 = .ok (.aload_n 0, 1) := by decide +kernel
theorem dX12_swingBy_42 : decode cX12_swingBy 42 = .ok (.getfield 19, 3) := by decide +kernel
theorem dX12_swingBy_45 : decode cX12_swingBy 45 = .ok (.iconst 4, 1) := by decide +kernel
theorem dX12_swingBy_46 : decode cX12_swingBy 46 = .ok (.iload 5, 2) := by decide +kernel
theorem dX12_swingBy_48 : decode cX12_swingBy 48 = .ok (.imul, 1) := by decide +kernel
theorem dX12_swingBy_49 : decode cX12_swingBy 49 = .ok (.iaload, 1) := by decide +kernel
theorem dX12_swingBy_50 : decode cX12_swingBy 50 = .ok (.iadd, 1) := by decide +kernel
theorem dX12_swingBy_51 : decode cX12_swingBy 51 = .ok (.istore_n 3, 1) := by decide +kernel
theorem dX12_swingBy_52 : decode cX12_swingBy 52 = .ok (.iload 4, 2) := by decide +kernel
theorem dX12_swingBy_54 : decode cX12_swingBy 54 = .ok (.aload_n 0, 1) := by decide +kernel
theorem dX12_swingBy_55 : decode cX12_swingBy 55 = .ok (.getfield 23, 3) := by decide +kernel
theorem dX12_swingBy_58 : decode cX12_swingBy 58 = .ok (.iload 5, 2) := by decide +kernel
theorem dX12_swingBy_60 : decode cX12_swingBy 60 = .ok (.iaload, 1) := by decide +kernel
theorem dX12_swingBy_61 : decode cX12_swingBy 61 = .ok (.iload_n 1, 1) := by decide +kernel
theorem dX12_swingBy_62 : decode cX12_swingBy 62 = .ok (.iand, 1) := by decide +kernel
theorem dX12_swingBy_63 : decode cX12_swingBy 63 = .ok (.invokestatic 309, 3) := by decide +kernel
theorem dX12_swingBy_66 : decode cX12_swingBy 66 = .ok (.iadd, 1) := by decide +kernel
theorem dX12_swingBy_67 : decode cX12_swingBy 67 = .ok (.istore 4, 2) := by decide +kernel
theorem dX12_swingBy_69 : decode cX12_swingBy 69 = .ok (.iinc 5 1, 3) := by decide +kernel
theorem dX12_swingBy_72 : decode cX12_swingBy 72 = .ok (.goto (-53), 3) := by decide +kernel
theorem dX12_swingBy_75 : decode cX12_swingBy 75 = .ok (.iload_n 3, 1) := by decide +kernel
theorem dX12_swingBy_76 : decode cX12_swingBy 76 = .ok (.iload 4, 2) := by decide +kernel
theorem dX12_swingBy_78 : decode cX12_swingBy 78 = .ok (.iconst 2, 1) := by decide +kernel
theorem dX12_swingBy_79 : decode cX12_swingBy 79 = .ok (.idiv, 1) := by decide +kernel
theorem dX12_swingBy_80 : decode cX12_swingBy 80 = .ok (.iconst 3, 1) := by decide +kernel
theorem dX12_swingBy_81 : decode cX12_swingBy 81 = .ok (.imul, 1) := by decide +kernel
theorem dX12_swingBy_82 : decode cX12_swingBy 82 = .ok (.iadd, 1) := by decide +kernel
theorem dX12_swingBy_83 : decode cX12_swingBy 83 = .ok (.istore_n 3, 1) := by decide +kernel
theorem dX12_swingBy_84 : decode cX12_swingBy 84 = .ok (.iload_n 3, 1) := by decide +kernel
theorem dX12_swingBy_85 : decode cX12_swingBy 85 = .ok (.iconst 2, 1) := by decide +kernel
theorem dX12_swingBy_86 : decode cX12_swingBy 86 = .ok (.if_icmp .ge 7, 3) := by decide +kernel
theorem dX12_swingBy_89 : decode cX12_swingBy 89 = .ok (.iconst 2, 1) := by decide +kernel
theorem dX12_swingBy_90 : decode cX12_swingBy 90 = .ok (.goto 4, 3) := by decide +kernel
theorem dX12_swingBy_93 : decode cX12_swingBy 93 = .ok (.iload_n 3, 1) := by decide +kernel
theorem dX12_swingBy_94 : decode cX12_swingBy 94 = .ok (.ireturn, 1) := by decide +kernel
def fX12_swingBy_0_L19 (E75 : Int32 → Int32 → Option (Int32)) (S : Nat → Int32) (V : Nat → Nat → Int32) : Nat → Int32 → Int32 → Int32 → Int32 → Option (Int32)
  | 0, _, _, _, _ => none
  | n + 1, x4, x5, x6, x7 =>
    (if (S 5) ≤ x7 then
    E75 x5 x6
    else
    bk (fun (x10 : Int32) (x11 : Int32) (x12 : Int32) (x13 : Int32) =>
    lt (x13 + (1 : Int32)) (fun x14 =>
    fX12_swingBy_0_L19 E75 S V n x10 x11 x12 x14)) (fun K69_9 =>
    (if ((x4 >>> (x7 &&& 31)) &&& (1 : Int32)) = 0 then
    K69_9 x4 x5 x6 x7
    else
    lt (((4 : Int32) * x7)) (fun x16 =>
    gd (ib x16 24) (
    lt ((x5 + (V 1 (x16).toNatClampNeg))) (fun x18 =>
    gd (ib x7 6) (
    bd1 (fX12_bits (((V 2 (x7).toNatClampNeg) &&& x4))) (fun r20 =>
    lt ((x6 + r20)) (fun x22 =>
    K69_9 x4 x18 x22 x7)))))))))
def fX12_swingBy_0 (S : Nat → Int32) (V : Nat → Nat → Int32) (a1 : Int32) (a2 : Int32) : Option (Int32) :=
  bd1 (fX12_oilOn_0 S a2) (fun r1 =>
  lt ((((2 : Int32) * (S 1)) - r1)) (fun x3 =>
  bk (fun (x26 : Int32) (x27 : Int32) =>
  lt ((x26 + ((x27 / (2 : Int32)) * (3 : Int32)))) (fun x28 =>
  (if (2 : Int32) ≤ x28 then
  some x28
  else
  some (2 : Int32)))) (fun X75_25 =>
  fX12_swingBy_0_L19 X75_25 S V FU a1 x3 (0 : Int32) (0 : Int32))))
set_option maxHeartbeats 4000000 in
set_option maxRecDepth 100000 in
theorem kX12_swingBy_0 (l : Launch) (B : jBT) (D : va_G) (ad : Nat → Nat) (cA : Nat → ClassId) (hI : jI ad TR) (S : Nat → Int32) (V : Nat → Nat → Int32) (L : Nat → Int64) (a1 : Int32) (a2 : Int32) (r0 : Int32) (h : fX12_swingBy_0 S V a1 a2 = some r0) : jM l yX12_swingBy cX12_swingBy 6 (some .int) ({ frames := 1, cells := 0, slots := 0, locals := 22 }) B D TR ad cA [.ref (ad 0), .int a1, .int a2] S V L (some (.int r0)) S V L := by
  refine jM_of (plainFor_of_name (by decide)) TR_ok hI (Nat.le_of_ble_eq_true rfl) ?_
  intro p e s m args below meth c C hr hlk
  refine j_lv (lv2 := [(0, .ref (ad 0)), (1, .int a1), (2, .int a2)]) rfl ?_
  unfold fX12_swingBy_0 at h
  have H_fX12_swingBy_0_L19 : ∀ (E75 : Int32 → Int32 → Option (Int32)) (_ : ∀ (x23 : Int32) (x24 : Int32), E75 x23 x24 = some r0 → jW p l e ({ frames := 1, cells := 0, slots := 0, locals := 22 }) s m args below meth c (MQ below (jQc D TR ad cA (some (.int r0)) s.heap.size S V L) args s 0 0 (jA ad TR s.heap.size)) D TR ad cA (jA ad TR s.heap.size) 6 0 0 75 [(3, .int x23), (4, .int x24)] [] S V L) (n : Nat) (x4 : Int32) (x5 : Int32) (x6 : Int32) (x7 : Int32), fX12_swingBy_0_L19 E75 S V n x4 x5 x6 x7 = some r0 → jW p l e ({ frames := 1, cells := 0, slots := 0, locals := 22 }) s m args below meth c (MQ below (jQc D TR ad cA (some (.int r0)) s.heap.size S V L) args s 0 0 (jA ad TR s.heap.size)) D TR ad cA (jA ad TR s.heap.size) 6 0 0 19 [(0, .ref (ad 0)), (1, .int x4), (3, .int x5), (4, .int x6), (5, .int x7)] [] S V L := by
    intro E75 HE75
    intro n
    induction n with
    | zero =>
      intro x4 x5 x6 x7 h
      cases (show (none : Option (Int32)) = some r0 from h)
    | succ n ih =>
      intro x4 x5 x6 x7 h
      unfold fX12_swingBy_0_L19 at h
      refine j_iload C 4 rfl dX12_swingBy_19 ?_
      refine j_aload_n C 0 rfl dX12_swingBy_21 rfl ?_
      refine fg_X12_265_TR_0 C dX12_swingBy_22 ?_
      refine j_icmp_ge (tgt := 75) C dX12_swingBy_25 (by decide) (fun c8 => ?_) (fun c8 => ?_)
      · have h := (if_pos c8).symm.trans h
        exact j_sub [2, 3] rfl (HE75 _ _ h)
      · have h := (if_neg c8).symm.trans h
        refine j_iload_n C 1 rfl dX12_swingBy_28 rfl ?_
        refine j_iload C 4 rfl dX12_swingBy_29 ?_
        refine j_ishr C dX12_swingBy_31 ?_
        refine j_iconst C dX12_swingBy_32 ci_1 ?_
        refine j_iand C dX12_swingBy_33 ?_
        refine bk_elim h (fun K69_9 e_K69_9 h => ?_)
        have HK69_9 : ∀ (x10 : Int32) (x11 : Int32) (x12 : Int32) (x13 : Int32), K69_9 x10 x11 x12 x13 = some r0 → jW p l e ({ frames := 1, cells := 0, slots := 0, locals := 22 }) s m args below meth c (MQ below (jQc D TR ad cA (some (.int r0)) s.heap.size S V L) args s 0 0 (jA ad TR s.heap.size)) D TR ad cA (jA ad TR s.heap.size) 6 0 0 69 [(0, .ref (ad 0)), (1, .int x10), (3, .int x11), (4, .int x12), (5, .int x13)] [] S V L := by
          subst e_K69_9
          intro x10 x11 x12 x13 h
          refine lt_elim h (fun x14 e_x14 h => ?_)
          refine j_iinc C [(5, .int x14), (0, .ref (ad 0)), (1, .int x10), (3, .int x11), (4, .int x12)] 4 dX12_swingBy_69 rfl ((iinc_eq ci_1).trans e_x14.symm) (by decide) rfl ?_
          refine j_goto (tgt := 19) C dX12_swingBy_72 (by decide) ?_
          exact j_sub [1, 2, 3, 4, 0] rfl (ih _ _ _ _ h)
        refine j_if_ne (tgt := 40) C dX12_swingBy_34 (by decide) (fun c15 => ?_) (fun c15 => ?_)
        · have h := (if_neg c15).symm.trans h
          refine j_iload_n C 2 rfl dX12_swingBy_40 rfl ?_
          refine j_aload_n C 0 rfl dX12_swingBy_41 rfl ?_
          refine fg_X12_19_TR_0 C dX12_swingBy_42 ?_
          refine j_iconst C dX12_swingBy_45 ci_4 ?_
          refine j_iload C 4 rfl dX12_swingBy_46 ?_
          refine j_imul C dX12_swingBy_48 ?_
          refine lt_elim h (fun x16 e_x16 h => ?_)
          refine j_top e_x16 ?_
          obtain ⟨g17, h⟩ := gd_elim h
          refine j_iald C tr_1 (ib_in g17) dX12_swingBy_49 ?_
          refine j_iadd C dX12_swingBy_50 ?_
          refine lt_elim h (fun x18 e_x18 h => ?_)
          refine j_top e_x18 ?_
          refine j_istore_n C [(3, .int x18), (0, .ref (ad 0)), (1, .int x4), (4, .int x6), (5, .int x7)] dX12_swingBy_51 rfl (by decide) rfl ?_
          refine j_iload C 3 rfl dX12_swingBy_52 ?_
          refine j_aload_n C 1 rfl dX12_swingBy_54 rfl ?_
          refine fg_X12_23_TR_0 C dX12_swingBy_55 ?_
          refine j_iload C 4 rfl dX12_swingBy_58 ?_
          obtain ⟨g19, h⟩ := gd_elim h
          refine j_iald C tr_2 (ib_in g19) dX12_swingBy_60 ?_
          refine j_iload_n C 2 rfl dX12_swingBy_61 rfl ?_
          refine j_iand C dX12_swingBy_62 ?_
          obtain ⟨r20, h21, h⟩ := bd1_elim h
          refine j_callS (As := [.int ((V 2 (x7).toNatClampNeg) &&& x4)]) (rest := [.int x6]) C (kX12_bits l B D ad cA hI S V L (((V 2 (x7).toNatClampNeg) &&& x4)) _ h21) mw_X12_bits wd1797 wd1796 ⟨rfl, rfl, by decide, by decide⟩ ⟨Nat.zero_le _, Nat.zero_le _⟩ rfl rfl (Nat.le_of_ble_eq_true rfl) dX12_swingBy_63 ?_
          refine j_iadd C dX12_swingBy_66 ?_
          refine lt_elim h (fun x22 e_x22 h => ?_)
          refine j_top e_x22 ?_
          refine j_istore C [(4, .int x22), (3, .int x18), (0, .ref (ad 0)), (1, .int x4), (5, .int x7)] dX12_swingBy_67 (by decide) rfl ?_
          exact j_sub [2, 3, 1, 0, 4] rfl (HK69_9 _ _ _ _ h)
        · have h := (if_pos c15).symm.trans h
          refine j_goto (tgt := 69) C dX12_swingBy_37 (by decide) ?_
          exact j_sub [0, 1, 2, 3, 4] rfl (HK69_9 _ _ _ _ h)
  refine j_iconst C dX12_swingBy_0 ci_2 ?_
  refine j_aload_n C 0 rfl dX12_swingBy_1 rfl ?_
  refine fg_X12_7_TR_0 C dX12_swingBy_2 ?_
  refine j_imul C dX12_swingBy_5 ?_
  refine j_aload_n C 0 rfl dX12_swingBy_6 rfl ?_
  refine j_iload_n C 2 rfl dX12_swingBy_7 rfl ?_
  obtain ⟨r1, h2, h⟩ := bd1_elim h
  refine j_callV (As := [.int a2]) (rest := [.int ((2 : Int32) * (S 1))]) C (kX12_oilOn_0 l B D ad cA hI S V L a2 _ h2) mw_X12_oilOn wd1848 wd92 wd1846 tr_0 rfl rfl ⟨rfl, rfl, by decide, by decide⟩ ⟨Nat.zero_le _, Nat.zero_le _⟩ rfl rfl (Nat.le_of_ble_eq_true rfl) dX12_swingBy_8 ?_
  refine j_isub C dX12_swingBy_11 ?_
  refine lt_elim h (fun x3 e_x3 h => ?_)
  refine j_top e_x3 ?_
  refine j_istore_n C [(3, .int x3), (0, .ref (ad 0)), (1, .int a1), (2, .int a2)] dX12_swingBy_12 rfl (by decide) rfl ?_
  refine j_iconst C dX12_swingBy_13 ci_0 ?_
  refine j_istore C [(4, .int (0 : Int32)), (3, .int x3), (0, .ref (ad 0)), (1, .int a1), (2, .int a2)] dX12_swingBy_14 (by decide) rfl ?_
  refine j_iconst C dX12_swingBy_16 ci_0 ?_
  refine j_istore C [(5, .int (0 : Int32)), (4, .int (0 : Int32)), (3, .int x3), (0, .ref (ad 0)), (1, .int a1), (2, .int a2)] dX12_swingBy_17 (by decide) rfl ?_
  refine bk_elim h (fun X75_25 e_X75_25 h => ?_)
  have HX75_25 : ∀ (x26 : Int32) (x27 : Int32), X75_25 x26 x27 = some r0 → jW p l e ({ frames := 1, cells := 0, slots := 0, locals := 22 }) s m args below meth c (MQ below (jQc D TR ad cA (some (.int r0)) s.heap.size S V L) args s 0 0 (jA ad TR s.heap.size)) D TR ad cA (jA ad TR s.heap.size) 6 0 0 75 [(3, .int x26), (4, .int x27)] [] S V L := by
    subst e_X75_25
    intro x26 x27 h
    refine j_iload_n C 0 rfl dX12_swingBy_75 rfl ?_
    refine j_iload C 1 rfl dX12_swingBy_76 ?_
    refine j_iconst C dX12_swingBy_78 ci_2 ?_
    refine j_idiv C dX12_swingBy_79 (by decide) ?_
    refine j_iconst C dX12_swingBy_80 ci_3 ?_
    refine j_imul C dX12_swingBy_81 ?_
    refine j_iadd C dX12_swingBy_82 ?_
    refine lt_elim h (fun x28 e_x28 h => ?_)
    refine j_top e_x28 ?_
    refine j_istore_n C [(3, .int x28), (4, .int x27)] dX12_swingBy_83 rfl (by decide) rfl ?_
    refine j_iload_n C 0 rfl dX12_swingBy_84 rfl ?_
    refine j_iconst C dX12_swingBy_85 ci_2 ?_
    refine j_icmp_ge (tgt := 93) C dX12_swingBy_86 (by decide) (fun c29 => ?_) (fun c29 => ?_)
    · have h := (if_pos c29).symm.trans h
      refine j_iload_n C 0 rfl dX12_swingBy_93 rfl ?_
      cases h
      exact j_iret C hr hlk rfl dX12_swingBy_94
    · have h := (if_neg c29).symm.trans h
      refine j_iconst C dX12_swingBy_89 ci_2 ?_
      refine j_goto (tgt := 94) C dX12_swingBy_90 (by decide) ?_
      cases h
      exact j_iret C hr hlk rfl dX12_swingBy_94
  exact j_sub [3, 4, 2, 1, 0] rfl (H_fX12_swingBy_0_L19 _ HX75_25 FU _ _ _ _ h)
theorem dX12_swingOf_0 : decode cX12_swingOf 0 = .ok (.aload_n 0, 1) := by decide +kernel
theorem dX12_swingOf_1 : decode cX12_swingOf 1 = .ok (.aload_n 1, 1) := by decide +kernel
theorem dX12_swingOf_2 : decode cX12_swingOf 2 = .ok (.iload_n 2, 1) := by decide +kernel
theorem dX12_swingOf_3 : decode cX12_swingOf 3 = .ok (.iload_n 3, 1) := by decide +kernel
theorem dX12_swingOf_4 : decode cX12_swingOf 4 = .ok (.invokestatic 305, 3) := by decide +kernel
theorem dX12_swingOf_7 : decode cX12_swingOf 7 = .ok (.iload 4, 2) := by decide +kernel
theorem dX12_swingOf_9 : decode cX12_swingOf 9 = .ok (.invokevirtual 348, 3) := by decide +kernel
theorem dX12_swingOf_12 : decode cX12_swingOf 12 = .ok (.ireturn, 1) := by decide +kernel
def fX12_swingOf_0_13 (S : Nat → Int32) (V : Nat → Nat → Int32) (a1 : Int32) (a2 : Int32) (a3 : Int32) : Option (Int32) :=
  bd1 (fX12_allIn_13 V a1 a2) (fun r1 =>
  bd1 (fX12_swingBy_0 S V r1 a3) (fun r3 =>
  some r3))
set_option maxHeartbeats 4000000 in
set_option maxRecDepth 100000 in
theorem kX12_swingOf_0_13 (l : Launch) (B : jBT) (D : va_G) (ad : Nat → Nat) (cA : Nat → ClassId) (hI : jI ad TR) (S : Nat → Int32) (V : Nat → Nat → Int32) (L : Nat → Int64) (a1 : Int32) (a2 : Int32) (a3 : Int32) (r0 : Int32) (h : fX12_swingOf_0_13 S V a1 a2 a3 = some r0) : jM l yX12_swingOf cX12_swingOf 5 (some .int) ({ frames := 2, cells := 0, slots := 0, locals := 49 }) B D TR ad cA [.ref (ad 0), .ref (ad 13), .int a1, .int a2, .int a3] S V L (some (.int r0)) S V L := by
  refine jM_of (plainFor_of_name (by decide)) TR_ok hI (Nat.le_of_ble_eq_true rfl) ?_
  intro p e s m args below meth c C hr hlk
  refine j_lv (lv2 := [(0, .ref (ad 0)), (1, .ref (ad 13)), (2, .int a1), (3, .int a2), (4, .int a3)]) rfl ?_
  unfold fX12_swingOf_0_13 at h
  refine j_aload_n C 0 rfl dX12_swingOf_0 rfl ?_
  refine j_aload_n C 1 rfl dX12_swingOf_1 rfl ?_
  refine j_iload_n C 2 rfl dX12_swingOf_2 rfl ?_
  refine j_iload_n C 3 rfl dX12_swingOf_3 rfl ?_
  obtain ⟨r1, h2, h⟩ := bd1_elim h
  refine j_callS (As := [.ref (ad 13), .int a1, .int a2]) (rest := [.ref (ad 0)]) C (kX12_allIn_13 l B D ad cA hI S V L a1 a2 _ h2) mw_X12_allIn wd1778 wd1777 ⟨rfl, rfl, by decide, by decide⟩ ⟨Nat.zero_le _, Nat.zero_le _⟩ rfl rfl (Nat.le_of_ble_eq_true rfl) dX12_swingOf_4 ?_
  refine j_iload C 4 rfl dX12_swingOf_7 ?_
  obtain ⟨r3, h4, h⟩ := bd1_elim h
  refine j_callV (As := [.int r1, .int a3]) (rest := []) C (kX12_swingBy_0 l B D ad cA hI S V L r1 a3 _ h4) mw_X12_swingBy wd1844 wd91 wd1842 tr_0 rfl rfl ⟨rfl, rfl, by decide, by decide⟩ ⟨Nat.zero_le _, Nat.zero_le _⟩ rfl rfl (Nat.le_of_ble_eq_true rfl) dX12_swingOf_9 ?_
  cases h
  exact j_iret C hr hlk rfl dX12_swingOf_12
theorem dX12_slowOf_0 : decode cX12_slowOf 0 = .ok (.iconst 0, 1) := by decide +kernel
theorem dX12_slowOf_1 : decode cX12_slowOf 1 = .ok (.istore 6, 2) := by decide +kernel
theorem dX12_slowOf_3 : decode cX12_slowOf 3 = .ok (.iload_n 3, 1) := by decide +kernel
theorem dX12_slowOf_4 : decode cX12_slowOf 4 = .ok (.istore 7, 2) := by decide +kernel
theorem dX12_slowOf_6 : decode cX12_slowOf 6 = .ok (.iload 7, 2) := by decide +kernel
theorem dX12_slowOf_8 : decode cX12_slowOf 8 = .ok (.iload 4, 2) := by decide +kernel
theorem dX12_slowOf_10 : decode cX12_slowOf 10 = .ok (.if_icmp .gt 27, 3) := by decide +kernel
theorem dX12_slowOf_13 : decode cX12_slowOf 13 = .ok (.iload 6, 2) := by decide +kernel
theorem dX12_slowOf_15 : decode cX12_slowOf 15 = .ok (.aload_n 0, 1) := by decide +kernel
theorem dX12_slowOf_16 : decode cX12_slowOf 16 = .ok (.aload_n 1, 1) := by decide +kernel
theorem dX12_slowOf_17 : decode cX12_slowOf 17 = .ok (.iload_n 2, 1) := by decide +kernel
theorem dX12_slowOf_18 : decode cX12_slowOf 18 = .ok (.iload 7, 2) := by decide +kernel
theorem dX12_slowOf_20 : decode cX12_slowOf 20 = .ok (.iload 5, 2) := by decide +kernel
theorem dX12_slowOf_22 : decode cX12_slowOf 22 = .ok (.invokevirtual 351, 3) := by decide +kernel
theorem dX12_slowOf_25 : decode cX12_slowOf 25 = .ok (.bipush 60, 2) := by decide +kernel
theorem dX12_slowOf_27 : decode cX12_slowOf 27 = .ok (.isub, 1) := by decide +kernel
theorem dX12_slowOf_28 : decode cX12_slowOf 28 = .ok (.iadd, 1) := by decide +kernel
theorem dX12_slowOf_29 : decode cX12_slowOf 29 = .ok (.istore 6, 2) := by decide +kernel
theorem dX12_slowOf_31 : decode cX12_slowOf 31 = .ok (.iinc 7 1, 3) := by decide +kernel
theorem dX12_slowOf_34 : decode cX12_slowOf 34 = .ok (.goto (-28), 3) := by decide +kernel
theorem dX12_slowOf_37 : decode cX12_slowOf 37 = .ok (.iload 6, 2) := by decide +kernel
theorem dX12_slowOf_39 : decode cX12_slowOf 39 = .ok (.ireturn, 1) := by decide +kernel
def fX12_slowOf_0_13_L6 (S : Nat → Int32) (V : Nat → Nat → Int32) : Nat → Int32 → Int32 → Int32 → Int32 → Int32 → Option (Int32)
  | 0, _, _, _, _, _ => none
  | n + 1, x1, x2, x3, x4, x5 =>
    (if x2 < x5 then
    some x4
    else
    bd1 (fX12_swingOf_0_13 S V x1 x5 x3) (fun r7 =>
    lt ((x4 + (r7 - (60 : Int32)))) (fun x9 =>
    lt (x5 + (1 : Int32)) (fun x10 =>
    fX12_slowOf_0_13_L6 S V n x1 x2 x3 x9 x10))))
def fX12_slowOf_0_13 (S : Nat → Int32) (V : Nat → Nat → Int32) (a1 : Int32) (a2 : Int32) (a3 : Int32) (a4 : Int32) : Option (Int32) :=
  fX12_slowOf_0_13_L6 S V FU a1 a3 a4 (0 : Int32) a2
set_option maxHeartbeats 4000000 in
set_option maxRecDepth 100000 in
theorem kX12_slowOf_0_13 (l : Launch) (B : jBT) (D : va_G) (ad : Nat → Nat) (cA : Nat → ClassId) (hI : jI ad TR) (S : Nat → Int32) (V : Nat → Nat → Int32) (L : Nat → Int64) (a1 : Int32) (a2 : Int32) (a3 : Int32) (a4 : Int32) (r0 : Int32) (h : fX12_slowOf_0_13 S V a1 a2 a3 a4 = some r0) : jM l yX12_slowOf cX12_slowOf 8 (some .int) ({ frames := 3, cells := 0, slots := 0, locals := 73 }) B D TR ad cA [.ref (ad 0), .ref (ad 13), .int a1, .int a2, .int a3, .int a4] S V L (some (.int r0)) S V L := by
  refine jM_of (plainFor_of_name (by decide)) TR_ok hI (Nat.le_of_ble_eq_true rfl) ?_
  intro p e s m args below meth c C hr hlk
  refine j_lv (lv2 := [(0, .ref (ad 0)), (1, .ref (ad 13)), (2, .int a1), (3, .int a2), (4, .int a3), (5, .int a4)]) rfl ?_
  unfold fX12_slowOf_0_13 at h
  have H_fX12_slowOf_0_13_L6 : ∀ (n : Nat) (x1 : Int32) (x2 : Int32) (x3 : Int32) (x4 : Int32) (x5 : Int32), fX12_slowOf_0_13_L6 S V n x1 x2 x3 x4 x5 = some r0 → jW p l e ({ frames := 3, cells := 0, slots := 0, locals := 73 }) s m args below meth c (MQ below (jQc D TR ad cA (some (.int r0)) s.heap.size S V L) args s 0 0 (jA ad TR s.heap.size)) D TR ad cA (jA ad TR s.heap.size) 8 0 0 6 [(0, .ref (ad 0)), (1, .ref (ad 13)), (2, .int x1), (4, .int x2), (5, .int x3), (6, .int x4), (7, .int x5)] [] S V L := by
    intro n
    induction n with
    | zero =>
      intro x1 x2 x3 x4 x5 h
      cases (show (none : Option (Int32)) = some r0 from h)
    | succ n ih =>
      intro x1 x2 x3 x4 x5 h
      unfold fX12_slowOf_0_13_L6 at h
      refine j_iload C 6 rfl dX12_slowOf_6 ?_
      refine j_iload C 3 rfl dX12_slowOf_8 ?_
      refine j_icmp_gt (tgt := 37) C dX12_slowOf_10 (by decide) (fun c6 => ?_) (fun c6 => ?_)
      · have h := (if_pos c6).symm.trans h
        refine j_iload C 5 rfl dX12_slowOf_37 ?_
        cases h
        exact j_iret C hr hlk rfl dX12_slowOf_39
      · have h := (if_neg c6).symm.trans h
        refine j_iload C 5 rfl dX12_slowOf_13 ?_
        refine j_aload_n C 0 rfl dX12_slowOf_15 rfl ?_
        refine j_aload_n C 1 rfl dX12_slowOf_16 rfl ?_
        refine j_iload_n C 2 rfl dX12_slowOf_17 rfl ?_
        refine j_iload C 6 rfl dX12_slowOf_18 ?_
        refine j_iload C 4 rfl dX12_slowOf_20 ?_
        obtain ⟨r7, h8, h⟩ := bd1_elim h
        refine j_callV (As := [.ref (ad 13), .int x1, .int x5, .int x3]) (rest := [.int x4]) C (kX12_swingOf_0_13 l B D ad cA hI S V L x1 x5 x3 _ h8) mw_X12_swingOf wd1840 wd90 wd1838 tr_0 rfl rfl ⟨rfl, rfl, by decide, by decide⟩ ⟨Nat.zero_le _, Nat.zero_le _⟩ rfl rfl (Nat.le_of_ble_eq_true rfl) dX12_slowOf_22 ?_
        refine j_bipush C dX12_slowOf_25 cb_60 ?_
        refine j_isub C dX12_slowOf_27 ?_
        refine j_iadd C dX12_slowOf_28 ?_
        refine lt_elim h (fun x9 e_x9 h => ?_)
        refine j_top e_x9 ?_
        refine j_istore C [(6, .int x9), (0, .ref (ad 0)), (1, .ref (ad 13)), (2, .int x1), (4, .int x2), (5, .int x3), (7, .int x5)] dX12_slowOf_29 (by decide) rfl ?_
        refine lt_elim h (fun x10 e_x10 h => ?_)
        refine j_iinc C [(7, .int x10), (6, .int x9), (0, .ref (ad 0)), (1, .ref (ad 13)), (2, .int x1), (4, .int x2), (5, .int x3)] 6 dX12_slowOf_31 rfl ((iinc_eq ci_1).trans e_x10.symm) (by decide) rfl ?_
        refine j_goto (tgt := 6) C dX12_slowOf_34 (by decide) ?_
        exact j_sub [2, 3, 4, 5, 6, 1, 0] rfl (ih _ _ _ _ _ h)
  refine j_iconst C dX12_slowOf_0 ci_0 ?_
  refine j_istore C [(6, .int (0 : Int32)), (0, .ref (ad 0)), (1, .ref (ad 13)), (2, .int a1), (3, .int a2), (4, .int a3), (5, .int a4)] dX12_slowOf_1 (by decide) rfl ?_
  refine j_iload_n C 4 rfl dX12_slowOf_3 rfl ?_
  refine j_istore C [(7, .int a2), (6, .int (0 : Int32)), (0, .ref (ad 0)), (1, .ref (ad 13)), (2, .int a1), (3, .int a2), (4, .int a3), (5, .int a4)] dX12_slowOf_4 (by decide) rfl ?_
  exact j_sub [2, 3, 4, 6, 7, 1, 0] rfl (H_fX12_slowOf_0_13_L6 FU _ _ _ _ _ h)
theorem dX12_slowDay_0 : decode cX12_slowDay 0 = .ok (.aload_n 0, 1) := by decide +kernel
theorem dX12_slowDay_1 : decode cX12_slowDay 1 = .ok (.aload_n 0, 1) := by decide +kernel
theorem dX12_slowDay_2 : decode cX12_slowDay 2 = .ok (.getfield 60, 3) := by decide +kernel
theorem dX12_slowDay_5 : decode cX12_slowDay 5 = .ok (.aload_n 0, 1) := by decide +kernel
theorem dX12_slowDay_6 : decode cX12_slowDay 6 = .ok (.getfield 278, 3) := by decide +kernel
theorem dX12_slowDay_9 : decode cX12_slowDay 9 = .ok (.iconst 0, 1) := by decide +kernel
theorem dX12_slowDay_10 : decode cX12_slowDay 10 = .ok (.bipush 23, 2) := by decide +kernel
theorem dX12_slowDay_12 : decode cX12_slowDay 12 = .ok (.iload_n 1, 1) := by decide +kernel
theorem dX12_slowDay_13 : decode cX12_slowDay 13 = .ok (.invokevirtual 354, 3) := by decide +kernel
theorem dX12_slowDay_16 : decode cX12_slowDay 16 = .ok (.ireturn, 1) := by decide +kernel
def fX12_slowDay_0 (S : Nat → Int32) (V : Nat → Nat → Int32) (a1 : Int32) : Option (Int32) :=
  bd1 (fX12_slowOf_0_13 S V ((S 42)) (0 : Int32) (23 : Int32) a1) (fun r1 =>
  some r1)
set_option maxHeartbeats 4000000 in
set_option maxRecDepth 100000 in
theorem kX12_slowDay_0 (l : Launch) (B : jBT) (D : va_G) (ad : Nat → Nat) (cA : Nat → ClassId) (hI : jI ad TR) (S : Nat → Int32) (V : Nat → Nat → Int32) (L : Nat → Int64) (a1 : Int32) (r0 : Int32) (h : fX12_slowDay_0 S V a1 = some r0) : jM l yX12_slowDay cX12_slowDay 2 (some .int) ({ frames := 4, cells := 0, slots := 0, locals := 100 }) B D TR ad cA [.ref (ad 0), .int a1] S V L (some (.int r0)) S V L := by
  refine jM_of (plainFor_of_name (by decide)) TR_ok hI (Nat.le_of_ble_eq_true rfl) ?_
  intro p e s m args below meth c C hr hlk
  refine j_lv (lv2 := [(0, .ref (ad 0)), (1, .int a1)]) rfl ?_
  unfold fX12_slowDay_0 at h
  refine j_aload_n C 0 rfl dX12_slowDay_0 rfl ?_
  refine j_aload_n C 0 rfl dX12_slowDay_1 rfl ?_
  refine fg_X12_60_TR_0 C dX12_slowDay_2 ?_
  refine j_aload_n C 0 rfl dX12_slowDay_5 rfl ?_
  refine fg_X12_278_TR_0 C dX12_slowDay_6 ?_
  refine j_iconst C dX12_slowDay_9 ci_0 ?_
  refine j_bipush C dX12_slowDay_10 cb_23 ?_
  refine j_iload_n C 1 rfl dX12_slowDay_12 rfl ?_
  obtain ⟨r1, h2, h⟩ := bd1_elim h
  refine j_callV (As := [.ref (ad 13), .int (S 42), .int (0 : Int32), .int (23 : Int32), .int a1]) (rest := []) C (kX12_slowOf_0_13 l B D ad cA hI S V L ((S 42)) (0 : Int32) (23 : Int32) a1 _ h2) mw_X12_slowOf wd1856 wd93 wd1854 tr_0 rfl rfl ⟨rfl, rfl, by decide, by decide⟩ ⟨Nat.zero_le _, Nat.zero_le _⟩ rfl rfl (Nat.le_of_ble_eq_true rfl) dX12_slowDay_13 ?_
  cases h
  exact j_iret C hr hlk rfl dX12_slowDay_16
theorem dX12_birthday_0 : decode cX12_birthday 0 = .ok (.aload_n 0, 1) := by decide +kernel
theorem dX12_birthday_1 : decode cX12_birthday 1 = .ok (.iconst 0, 1) := by decide +kernel
theorem dX12_birthday_2 : decode cX12_birthday 2 = .ok (.putfield 93, 3) := by decide +kernel
theorem dX12_birthday_5 : decode cX12_birthday 5 = .ok (.aload_n 0, 1) := by decide +kernel
theorem dX12_birthday_6 : decode cX12_birthday 6 = .ok (.iload_n 1, 1) := by decide +kernel
theorem dX12_birthday_7 : decode cX12_birthday 7 = .ok (.iconst 1, 1) := by decide +kernel
theorem dX12_birthday_8 : decode cX12_birthday 8 = .ok (.invokevirtual 358, 3) := by decide +kernel
theorem dX12_birthday_11 : decode cX12_birthday 11 = .ok (.ifCond .ne 5, 3) := by decide +kernel
theorem dX12_birthday_14 : decode cX12_birthday 14 = .ok (.iconst 0, 1) := by decide +kernel
theorem dX12_birthday_15 : decode cX12_birthday 15 = .ok (.ireturn, 1) := by decide +kernel
theorem dX12_birthday_16 : decode cX12_birthday 16 = .ok (.iconst 0, 1) := by decide +kernel
theorem dX12_birthday_17 : decode cX12_birthday 17 = .ok (.istore_n 2, 1) := by decide +kernel
theorem dX12_birthday_18 : decode cX12_birthday 18 = .ok (.iload_n 1, 1) := by decide +kernel
theorem dX12_birthday_19 : decode cX12_birthday 19 = .ok (.istore_n 3, 1) := by decide +kernel
theorem dX12_birthday_20 : decode cX12_birthday 20 = .ok (.iload_n 3, 1) := by decide +kernel
theorem dX12_birthday_21 : decode cX12_birthday 21 = .ok (.sipush 10000, 3) := by decide +kernel
theorem dX12_birthday_24 : decode cX12_birthday 24 = .ok (.if_icmp .ge 43, 3) := by decide +kernel
theorem dX12_birthday_27 : decode cX12_birthday 27 = .ok (.iload_n 2, 1) := by decide +kernel
theorem dX12_birthday_28 : decode cX12_birthday 28 = .ok (.aload_n 0, 1) := by decide +kernel
theorem dX12_birthday_29 : decode cX12_birthday 29 = .ok (.iload_n 3, 1) := by decide +kernel
theorem dX12_birthday_30 : decode cX12_birthday 30 = .ok (.invokevirtual 361, 3) := by decide +kernel
theorem dX12_birthday_33 : decode cX12_birthday 33 = .ok (.iadd, 1) := by decide +kernel
theorem dX12_birthday_34 : decode cX12_birthday 34 = .ok (.istore_n 2, 1) := by decide +kernel
theorem dX12_birthday_35 : decode cX12_birthday 35 = .ok (.iload_n 2, 1) := by decide +kernel
theorem dX12_birthday_36 : decode cX12_birthday 36 = .ok (.sipush 1440, 3) := by decide +kernel
theorem dX12_birthday_39 : decode cX12_birthday 39 = .ok (.if_icmp .lt 9, 3) := by decide +kernel
theorem dX12_birthday_42 : decode cX12_birthday 42 = .ok (.iload_n 3, 1) := by decide +kernel
theorem dX12_birthday_43 : decode cX12_birthday 43 = .ok (.iload_n 1, 1) := by decide +kernel
theorem dX12_birthday_44 : decode cX12_birthday 44 = .ok (.isub, 1) := by decide +kernel
theorem dX12_birthday_45 : decode cX12_birthday 45 = .ok (.iconst 1, 1) := by decide +kernel
theorem dX12_birthday_46 : decode cX12_birthday 46 = .ok (.iadd, 1) := by decide +kernel
theorem dX12_birthday_47 : decode cX12_birthday 47 = .ok (.ireturn, 1) := by decide +kernel
theorem dX12_birthday_48 : decode cX12_birthday 48 = .ok (.iload_n 2, 1) := by decide +kernel
theorem dX12_birthday_49 : decode cX12_birthday 49 = .ok (.sipush (-1440), 3) := by decide +kernel
theorem dX12_birthday_52 : decode cX12_birthday 52 = .ok (.if_icmp .gt 9, 3) := by decide +kernel
theorem dX12_birthday_55 : decode cX12_birthday 55 = .ok (.iload_n 1, 1) := by decide +kernel
theorem dX12_birthday_56 : decode cX12_birthday 56 = .ok (.iload_n 3, 1) := by decide +kernel
theorem dX12_birthday_57 : decode cX12_birthday 57 = .ok (.isub, 1) := by decide +kernel
theorem dX12_birthday_58 : decode cX12_birthday 58 = .ok (.iconst 1, 1) := by decide +kernel
theorem dX12_birthday_59 : decode cX12_birthday 59 = .ok (.isub, 1) := by decide +kernel
theorem dX12_birthday_60 : decode cX12_birthday 60 = .ok (.ireturn, 1) := by decide +kernel
theorem dX12_birthday_61 : decode cX12_birthday 61 = .ok (.iinc 3 1, 3) := by decide +kernel
theorem dX12_birthday_64 : decode cX12_birthday 64 = .ok (.goto (-44), 3) := by decide +kernel
theorem dX12_birthday_67 : decode cX12_birthday 67 = .ok (.iconst 0, 1) := by decide +kernel
theorem dX12_birthday_68 : decode cX12_birthday 68 = .ok (.ireturn, 1) := by decide +kernel
def fX12_birthday_0_L20 (E42 : Int32 → Int32 → (Nat → Int32) → Option (Int32 × (Nat → Int32))) (E55 : Int32 → Int32 → (Nat → Int32) → Option (Int32 × (Nat → Int32))) (V : Nat → Nat → Int32) : Nat → Int32 → Int32 → Int32 → (Nat → Int32) → Option (Int32 × (Nat → Int32))
  | 0, _, _, _, _ => none
  | n + 1, x6, x7, x8, S9 =>
    (if (10000 : Int32) ≤ x8 then
    some ((0 : Int32), S9)
    else
    bd1 (fX12_slowDay_0 S9 V x8) (fun r11 =>
    lt ((x7 + r11)) (fun x13 =>
    (if x13 < (1440 : Int32) then
    (if (-1440 : Int32) < x13 then
    lt (x8 + (1 : Int32)) (fun x16 =>
    fX12_birthday_0_L20 E42 E55 V n x6 x13 x16 S9)
    else
    E55 x6 x8 S9)
    else
    E42 x6 x8 S9))))
def fX12_birthday_0 (S : Nat → Int32) (V : Nat → Nat → Int32) (a1 : Int32) : Option (Int32 × (Nat → Int32)) :=
  lt (va_up S 0 (0 : Int32)) (fun S1 =>
  bd2 (fX12_isDay_0 S1 a1 (1 : Int32)) (fun r2 S3 =>
  (if r2 = 0 then
  some ((0 : Int32), S3)
  else
  bk (fun (x24 : Int32) (x25 : Int32) (S26 : Nat → Int32) =>
  some (((x25 - x24) + (1 : Int32)), S26)) (fun X42_23 =>
  bk (fun (x28 : Int32) (x29 : Int32) (S30 : Nat → Int32) =>
  some (((x28 - x29) - (1 : Int32)), S30)) (fun X55_27 =>
  fX12_birthday_0_L20 X42_23 X55_27 V FU a1 (0 : Int32) a1 S3)))))
set_option maxHeartbeats 4000000 in
set_option maxRecDepth 100000 in
theorem kX12_birthday_0 (l : Launch) (B : jBT) (D : va_G) (ad : Nat → Nat) (cA : Nat → ClassId) (hI : jI ad TR) (S : Nat → Int32) (V : Nat → Nat → Int32) (L : Nat → Int64) (a1 : Int32) (r0 : Int32) (S0 : Nat → Int32) (h : fX12_birthday_0 S V a1 = some (r0, S0)) : jM l yX12_birthday cX12_birthday 4 (some .int) ({ frames := 5, cells := 0, slots := 0, locals := 121 }) B D TR ad cA [.ref (ad 0), .int a1] S V L (some (.int r0)) S0 V L := by
  refine jM_of (plainFor_of_name (by decide)) TR_ok hI (Nat.le_of_ble_eq_true rfl) ?_
  intro p e s m args below meth c C hr hlk
  refine j_lv (lv2 := [(0, .ref (ad 0)), (1, .int a1)]) rfl ?_
  unfold fX12_birthday_0 at h
  have H_fX12_birthday_0_L20 : ∀ (E42 : Int32 → Int32 → (Nat → Int32) → Option (Int32 × (Nat → Int32))) (E55 : Int32 → Int32 → (Nat → Int32) → Option (Int32 × (Nat → Int32))) (_ : ∀ (x17 : Int32) (x18 : Int32) (S19 : Nat → Int32), E42 x17 x18 S19 = some (r0, S0) → jW p l e ({ frames := 5, cells := 0, slots := 0, locals := 121 }) s m args below meth c (MQ below (jQc D TR ad cA (some (.int r0)) s.heap.size S0 V L) args s 0 0 (jA ad TR s.heap.size)) D TR ad cA (jA ad TR s.heap.size) 4 0 0 42 [(1, .int x17), (3, .int x18)] [] S19 V L) (_ : ∀ (x20 : Int32) (x21 : Int32) (S22 : Nat → Int32), E55 x20 x21 S22 = some (r0, S0) → jW p l e ({ frames := 5, cells := 0, slots := 0, locals := 121 }) s m args below meth c (MQ below (jQc D TR ad cA (some (.int r0)) s.heap.size S0 V L) args s 0 0 (jA ad TR s.heap.size)) D TR ad cA (jA ad TR s.heap.size) 4 0 0 55 [(1, .int x20), (3, .int x21)] [] S22 V L) (n : Nat) (x6 : Int32) (x7 : Int32) (x8 : Int32) (S9 : Nat → Int32), fX12_birthday_0_L20 E42 E55 V n x6 x7 x8 S9 = some (r0, S0) → jW p l e ({ frames := 5, cells := 0, slots := 0, locals := 121 }) s m args below meth c (MQ below (jQc D TR ad cA (some (.int r0)) s.heap.size S0 V L) args s 0 0 (jA ad TR s.heap.size)) D TR ad cA (jA ad TR s.heap.size) 4 0 0 20 [(0, .ref (ad 0)), (1, .int x6), (2, .int x7), (3, .int x8)] [] S9 V L := by
    intro E42 E55 HE42 HE55
    intro n
    induction n with
    | zero =>
      intro x6 x7 x8 S9 h
      cases (show (none : Option (Int32 × (Nat → Int32))) = some (r0, S0) from h)
    | succ n ih =>
      intro x6 x7 x8 S9 h
      unfold fX12_birthday_0_L20 at h
      refine j_iload_n C 3 rfl dX12_birthday_20 rfl ?_
      refine j_sipush C dX12_birthday_21 cs_10000 ?_
      refine j_icmp_ge (tgt := 67) C dX12_birthday_24 (by decide) (fun c10 => ?_) (fun c10 => ?_)
      · have h := (if_pos c10).symm.trans h
        refine j_iconst C dX12_birthday_67 ci_0 ?_
        cases h
        exact j_iret C hr hlk rfl dX12_birthday_68
      · have h := (if_neg c10).symm.trans h
        refine j_iload_n C 2 rfl dX12_birthday_27 rfl ?_
        refine j_aload_n C 0 rfl dX12_birthday_28 rfl ?_
        refine j_iload_n C 3 rfl dX12_birthday_29 rfl ?_
        obtain ⟨r11, h12, h⟩ := bd1_elim h
        refine j_callV (As := [.int x8]) (rest := [.int x7]) C (kX12_slowDay_0 l B D ad cA hI S9 V L x8 _ h12) mw_X12_slowDay wd1864 wd94 wd1862 tr_0 rfl rfl ⟨rfl, rfl, by decide, by decide⟩ ⟨Nat.zero_le _, Nat.zero_le _⟩ rfl rfl (Nat.le_of_ble_eq_true rfl) dX12_birthday_30 ?_
        refine j_iadd C dX12_birthday_33 ?_
        refine lt_elim h (fun x13 e_x13 h => ?_)
        refine j_top e_x13 ?_
        refine j_istore_n C [(2, .int x13), (0, .ref (ad 0)), (1, .int x6), (3, .int x8)] dX12_birthday_34 rfl (by decide) rfl ?_
        refine j_iload_n C 0 rfl dX12_birthday_35 rfl ?_
        refine j_sipush C dX12_birthday_36 cs_1440 ?_
        refine j_icmp_lt (tgt := 48) C dX12_birthday_39 (by decide) (fun c14 => ?_) (fun c14 => ?_)
        · have h := (if_pos c14).symm.trans h
          refine j_iload_n C 0 rfl dX12_birthday_48 rfl ?_
          refine j_sipush C dX12_birthday_49 cs_m1440 ?_
          refine j_icmp_gt (tgt := 61) C dX12_birthday_52 (by decide) (fun c15 => ?_) (fun c15 => ?_)
          · have h := (if_pos c15).symm.trans h
            refine lt_elim h (fun x16 e_x16 h => ?_)
            refine j_iinc C [(3, .int x16), (2, .int x13), (0, .ref (ad 0)), (1, .int x6)] 3 dX12_birthday_61 rfl ((iinc_eq ci_1).trans e_x16.symm) (by decide) rfl ?_
            refine j_goto (tgt := 20) C dX12_birthday_64 (by decide) ?_
            exact j_sub [2, 3, 1, 0] rfl (ih _ _ _ _ h)
          · have h := (if_neg c15).symm.trans h
            exact j_sub [2, 3] rfl (HE55 _ _ _ h)
        · have h := (if_neg c14).symm.trans h
          exact j_sub [2, 3] rfl (HE42 _ _ _ h)
  refine j_aload_n C 0 rfl dX12_birthday_0 rfl ?_
  refine j_iconst C dX12_birthday_1 ci_0 ?_
  refine fp_X12_93_TR_0 C dX12_birthday_2 ?_
  refine lt_elim h (fun S1 e_S1 h => ?_)
  refine j_S e_S1 ?_
  refine j_aload_n C 0 rfl dX12_birthday_5 rfl ?_
  refine j_iload_n C 1 rfl dX12_birthday_6 rfl ?_
  refine j_iconst C dX12_birthday_7 ci_1 ?_
  obtain ⟨r2, S3, h4, h⟩ := bd2_elim h
  refine j_callV (As := [.int a1, .int (1 : Int32)]) (rest := []) C (kX12_isDay_0 l B D ad cA hI S1 V L a1 (1 : Int32) _ _ h4) mw_X12_isDay wd1836 wd89 wd1834 tr_0 rfl rfl ⟨rfl, rfl, by decide, by decide⟩ ⟨Nat.zero_le _, Nat.zero_le _⟩ rfl rfl (Nat.le_of_ble_eq_true rfl) dX12_birthday_8 ?_
  refine j_if_ne (tgt := 16) C dX12_birthday_11 (by decide) (fun c5 => ?_) (fun c5 => ?_)
  · have h := (if_neg c5).symm.trans h
    refine j_iconst C dX12_birthday_16 ci_0 ?_
    refine j_istore_n C [(2, .int (0 : Int32)), (0, .ref (ad 0)), (1, .int a1)] dX12_birthday_17 rfl (by decide) rfl ?_
    refine j_iload_n C 2 rfl dX12_birthday_18 rfl ?_
    refine j_istore_n C [(3, .int a1), (2, .int (0 : Int32)), (0, .ref (ad 0)), (1, .int a1)] dX12_birthday_19 rfl (by decide) rfl ?_
    refine bk_elim h (fun X42_23 e_X42_23 h => ?_)
    have HX42_23 : ∀ (x24 : Int32) (x25 : Int32) (S26 : Nat → Int32), X42_23 x24 x25 S26 = some (r0, S0) → jW p l e ({ frames := 5, cells := 0, slots := 0, locals := 121 }) s m args below meth c (MQ below (jQc D TR ad cA (some (.int r0)) s.heap.size S0 V L) args s 0 0 (jA ad TR s.heap.size)) D TR ad cA (jA ad TR s.heap.size) 4 0 0 42 [(1, .int x24), (3, .int x25)] [] S26 V L := by
      subst e_X42_23
      intro x24 x25 S26 h
      refine j_iload_n C 1 rfl dX12_birthday_42 rfl ?_
      refine j_iload_n C 0 rfl dX12_birthday_43 rfl ?_
      refine j_isub C dX12_birthday_44 ?_
      refine j_iconst C dX12_birthday_45 ci_1 ?_
      refine j_iadd C dX12_birthday_46 ?_
      cases h
      exact j_iret C hr hlk rfl dX12_birthday_47
    refine bk_elim h (fun X55_27 e_X55_27 h => ?_)
    have HX55_27 : ∀ (x28 : Int32) (x29 : Int32) (S30 : Nat → Int32), X55_27 x28 x29 S30 = some (r0, S0) → jW p l e ({ frames := 5, cells := 0, slots := 0, locals := 121 }) s m args below meth c (MQ below (jQc D TR ad cA (some (.int r0)) s.heap.size S0 V L) args s 0 0 (jA ad TR s.heap.size)) D TR ad cA (jA ad TR s.heap.size) 4 0 0 55 [(1, .int x28), (3, .int x29)] [] S30 V L := by
      subst e_X55_27
      intro x28 x29 S30 h
      refine j_iload_n C 0 rfl dX12_birthday_55 rfl ?_
      refine j_iload_n C 1 rfl dX12_birthday_56 rfl ?_
      refine j_isub C dX12_birthday_57 ?_
      refine j_iconst C dX12_birthday_58 ci_1 ?_
      refine j_isub C dX12_birthday_59 ?_
      cases h
      exact j_iret C hr hlk rfl dX12_birthday_60
    exact j_sub [2, 3, 1, 0] rfl (H_fX12_birthday_0_L20 _ _ HX42_23 HX55_27 FU _ _ _ _ h)
  · have h := (if_pos c5).symm.trans h
    refine j_iconst C dX12_birthday_14 ci_0 ?_
    cases h
    exact j_iret C hr hlk rfl dX12_birthday_15
