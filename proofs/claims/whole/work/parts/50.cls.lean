theorem dX6_present_0 : decode cX6_present 0 = .ok (.aload_n 0, 1) := by decide +kernel
theorem dX6_present_1 : decode cX6_present 1 = .ok (.getfield 15, 3) := by decide +kernel
theorem dX6_present_4 : decode cX6_present 4 = .ok (.iload_n 1, 1) := by decide +kernel
theorem dX6_present_5 : decode cX6_present 5 = .ok (.iload_n 2, 1) := by decide +kernel
theorem dX6_present_6 : decode cX6_present 6 = .ok (.invokevirtual 29, 3) := by decide +kernel
theorem dX6_present_9 : decode cX6_present 9 = .ok (.istore 4, 2) := by decide +kernel
theorem dX6_present_11 : decode cX6_present 11 = .ok (.iload 4, 2) := by decide +kernel
theorem dX6_present_13 : decode cX6_present 13 = .ok (.iload_n 3, 1) := by decide +kernel
theorem dX6_present_14 : decode cX6_present 14 = .ok (.if_icmp .ne 7, 3) := by decide +kernel
theorem dX6_present_17 : decode cX6_present 17 = .ok (.iconst (-1), 1) := by decide +kernel
theorem dX6_present_18 : decode cX6_present 18 = .ok (.goto 5, 3) := by decide +kernel
theorem dX6_present_21 : decode cX6_present 21 = .ok (.iload 4, 2) := by decide +kernel
theorem dX6_present_23 : decode cX6_present 23 = .ok (.ireturn, 1) := by decide +kernel
def fX6_present_48 (V : Nat → Nat → Int32) (a1 : Int32) (a2 : Int32) (a3 : Int32) : Option (Int32) :=
  bd1 (fX4_who_30 V a1 a2) (fun r1 =>
  (if r1 = a3 then
  some (-1 : Int32)
  else
  some r1))
set_option maxHeartbeats 4000000 in
set_option maxRecDepth 100000 in
theorem kX6_present_48 (l : Launch) (B : jBT) (D : va_G) (ad : Nat → Nat) (cA : Nat → ClassId) (hI : jI ad TC) (S : Nat → Int32) (V : Nat → Nat → Int32) (L : Nat → Int64) (a1 : Int32) (a2 : Int32) (a3 : Int32) (r0 : Int32) (h : fX6_present_48 V a1 a2 a3 = some r0) : jM l yX6_present cX6_present 5 (some .int) ({ frames := 1, cells := 0, slots := 0, locals := 23 }) B D TC ad cA [.ref (ad 48), .int a1, .int a2, .int a3] S V L (some (.int r0)) S V L := by
  refine jM_of (by decide) TC_ok hI (Nat.le_of_ble_eq_true rfl) ?_
  intro p e s m args below meth c C hr hlk
  refine j_lv (lv2 := [(0, .ref (ad 48)), (1, .int a1), (2, .int a2), (3, .int a3)]) rfl ?_
  unfold fX6_present_48 at h
  refine j_aload_n C 0 rfl dX6_present_0 rfl ?_
  refine fg_X6_15_TC_48 C dX6_present_1 ?_
  refine j_iload_n C 1 rfl dX6_present_4 rfl ?_
  refine j_iload_n C 2 rfl dX6_present_5 rfl ?_
  obtain ⟨r1, h2, h⟩ := bd1_elim h
  refine j_callV (As := [.int a1, .int a2]) (rest := []) C (kX4_who_30 l B D ad cA hI S V L a1 a2 _ h2) mw_X4_who wd612 wd613 wd1140 tc_30 rfl rfl ⟨rfl, rfl, by decide, by decide⟩ ⟨Nat.zero_le _, Nat.zero_le _⟩ rfl rfl (Nat.le_of_ble_eq_true rfl) dX6_present_6 ?_
  refine j_istore C [(4, .int r1), (0, .ref (ad 48)), (1, .int a1), (2, .int a2), (3, .int a3)] dX6_present_9 (by decide) rfl ?_
  refine j_iload C 0 rfl dX6_present_11 ?_
  refine j_iload_n C 4 rfl dX6_present_13 rfl ?_
  refine j_icmp_ne (tgt := 21) C dX6_present_14 (by decide) (fun c3 => ?_) (fun c3 => ?_)
  · have h := (if_neg c3).symm.trans h
    refine j_iload C 0 rfl dX6_present_21 ?_
    cases h
    exact j_iret C hr hlk rfl dX6_present_23
  · have h := (if_pos c3).symm.trans h
    refine j_iconst C dX6_present_17 ci_m1 ?_
    refine j_goto (tgt := 23) C dX6_present_18 (by decide) ?_
    cases h
    exact j_iret C hr hlk rfl dX6_present_23
theorem dX6_swingIn_0 : decode cX6_swingIn 0 = .ok (.aload_n 0, 1) := by decide +kernel
theorem dX6_swingIn_1 : decode cX6_swingIn 1 = .ok (.getfield 9, 3) := by decide +kernel
theorem dX6_swingIn_4 : decode cX6_swingIn 4 = .ok (.aload_n 0, 1) := by decide +kernel
theorem dX6_swingIn_5 : decode cX6_swingIn 5 = .ok (.iconst 0, 1) := by decide +kernel
theorem dX6_swingIn_6 : decode cX6_swingIn 6 = .ok (.iload_n 1, 1) := by decide +kernel
theorem dX6_swingIn_7 : decode cX6_swingIn 7 = .ok (.iload_n 3, 1) := by decide +kernel
theorem dX6_swingIn_8 : decode cX6_swingIn 8 = .ok (.invokevirtual 19, 3) := by decide +kernel
theorem dX6_swingIn_11 : decode cX6_swingIn 11 = .ok (.aload_n 0, 1) := by decide +kernel
theorem dX6_swingIn_12 : decode cX6_swingIn 12 = .ok (.iconst 1, 1) := by decide +kernel
theorem dX6_swingIn_13 : decode cX6_swingIn 13 = .ok (.iload_n 1, 1) := by decide +kernel
theorem dX6_swingIn_14 : decode cX6_swingIn 14 = .ok (.iload_n 3, 1) := by decide +kernel
theorem dX6_swingIn_15 : decode cX6_swingIn 15 = .ok (.invokevirtual 19, 3) := by decide +kernel
theorem dX6_swingIn_18 : decode cX6_swingIn 18 = .ok (.aload_n 0, 1) := by decide +kernel
theorem dX6_swingIn_19 : decode cX6_swingIn 19 = .ok (.iconst 2, 1) := by decide +kernel
theorem dX6_swingIn_20 : decode cX6_swingIn 20 = .ok (.iload_n 1, 1) := by decide +kernel
theorem dX6_swingIn_21 : decode cX6_swingIn 21 = .ok (.iload_n 3, 1) := by decide +kernel
theorem dX6_swingIn_22 : decode cX6_swingIn 22 = .ok (.invokevirtual 19, 3) := by decide +kernel
theorem dX6_swingIn_25 : decode cX6_swingIn 25 = .ok (.iload_n 2, 1) := by decide +kernel
theorem dX6_swingIn_26 : decode cX6_swingIn 26 = .ok (.invokevirtual 23, 3) := by decide +kernel
theorem dX6_swingIn_29 : decode cX6_swingIn 29 = .ok (.ireturn, 1) := by decide +kernel
def fX6_swingIn_48 (S : Nat → Int32) (V : Nat → Nat → Int32) (a1 : Int32) (a2 : Int32) (a3 : Int32) : Option (Int32) :=
  bd1 (fX6_present_48 V (0 : Int32) a1 a3) (fun r1 =>
  bd1 (fX6_present_48 V (1 : Int32) a1 a3) (fun r3 =>
  bd1 (fX6_present_48 V (2 : Int32) a1 a3) (fun r5 =>
  bd1 (fX2_swingOf_3 S V r1 r3 r5 a2) (fun r7 =>
  some r7))))
set_option maxHeartbeats 4000000 in
set_option maxRecDepth 100000 in
theorem kX6_swingIn_48 (l : Launch) (B : jBT) (D : va_G) (ad : Nat → Nat) (cA : Nat → ClassId) (hI : jI ad TC) (S : Nat → Int32) (V : Nat → Nat → Int32) (L : Nat → Int64) (a1 : Int32) (a2 : Int32) (a3 : Int32) (r0 : Int32) (h : fX6_swingIn_48 S V a1 a2 a3 = some r0) : jM l yX6_swingIn cX6_swingIn 4 (some .int) ({ frames := 2, cells := 0, slots := 0, locals := 48 }) B D TC ad cA [.ref (ad 48), .int a1, .int a2, .int a3] S V L (some (.int r0)) S V L := by
  refine jM_of (by decide) TC_ok hI (Nat.le_of_ble_eq_true rfl) ?_
  intro p e s m args below meth c C hr hlk
  refine j_lv (lv2 := [(0, .ref (ad 48)), (1, .int a1), (2, .int a2), (3, .int a3)]) rfl ?_
  unfold fX6_swingIn_48 at h
  refine j_aload_n C 0 rfl dX6_swingIn_0 rfl ?_
  refine fg_X6_9_TC_48 C dX6_swingIn_1 ?_
  refine j_aload_n C 0 rfl dX6_swingIn_4 rfl ?_
  refine j_iconst C dX6_swingIn_5 ci_0 ?_
  refine j_iload_n C 1 rfl dX6_swingIn_6 rfl ?_
  refine j_iload_n C 3 rfl dX6_swingIn_7 rfl ?_
  obtain ⟨r1, h2, h⟩ := bd1_elim h
  refine j_callV (As := [.int (0 : Int32), .int a1, .int a3]) (rest := [.ref (ad 3)]) C (kX6_present_48 l B D ad cA hI S V L (0 : Int32) a1 a3 _ h2) mw_X6_present wd1138 wd37 wd1136 tc_48 rfl rfl ⟨rfl, rfl, by decide, by decide⟩ ⟨Nat.zero_le _, Nat.zero_le _⟩ rfl rfl (Nat.le_of_ble_eq_true rfl) dX6_swingIn_8 ?_
  refine j_aload_n C 0 rfl dX6_swingIn_11 rfl ?_
  refine j_iconst C dX6_swingIn_12 ci_1 ?_
  refine j_iload_n C 1 rfl dX6_swingIn_13 rfl ?_
  refine j_iload_n C 3 rfl dX6_swingIn_14 rfl ?_
  obtain ⟨r3, h4, h⟩ := bd1_elim h
  refine j_callV (As := [.int (1 : Int32), .int a1, .int a3]) (rest := [.int r1, .ref (ad 3)]) C (kX6_present_48 l B D ad cA hI S V L (1 : Int32) a1 a3 _ h4) mw_X6_present wd1138 wd37 wd1136 tc_48 rfl rfl ⟨rfl, rfl, by decide, by decide⟩ ⟨Nat.zero_le _, Nat.zero_le _⟩ rfl rfl (Nat.le_of_ble_eq_true rfl) dX6_swingIn_15 ?_
  refine j_aload_n C 0 rfl dX6_swingIn_18 rfl ?_
  refine j_iconst C dX6_swingIn_19 ci_2 ?_
  refine j_iload_n C 1 rfl dX6_swingIn_20 rfl ?_
  refine j_iload_n C 3 rfl dX6_swingIn_21 rfl ?_
  obtain ⟨r5, h6, h⟩ := bd1_elim h
  refine j_callV (As := [.int (2 : Int32), .int a1, .int a3]) (rest := [.int r3, .int r1, .ref (ad 3)]) C (kX6_present_48 l B D ad cA hI S V L (2 : Int32) a1 a3 _ h6) mw_X6_present wd1138 wd37 wd1136 tc_48 rfl rfl ⟨rfl, rfl, by decide, by decide⟩ ⟨Nat.zero_le _, Nat.zero_le _⟩ rfl rfl (Nat.le_of_ble_eq_true rfl) dX6_swingIn_22 ?_
  refine j_iload_n C 2 rfl dX6_swingIn_25 rfl ?_
  obtain ⟨r7, h8, h⟩ := bd1_elim h
  refine j_callV (As := [.int r1, .int r3, .int r5, .int a2]) (rest := []) C (kX2_swingOf_3 l B D ad cA hI S V L r1 r3 r5 a2 _ h8) mw_X2_swingOf wd1142 wd1143 wd1141 tc_3 rfl rfl ⟨rfl, rfl, by decide, by decide⟩ ⟨Nat.zero_le _, Nat.zero_le _⟩ rfl rfl (Nat.le_of_ble_eq_true rfl) dX6_swingIn_26 ?_
  cases h
  exact j_iret C hr hlk rfl dX6_swingIn_29
theorem dX6_slowness_0 : decode cX6_slowness 0 = .ok (.iconst 0, 1) := by decide +kernel
theorem dX6_slowness_1 : decode cX6_slowness 1 = .ok (.istore 5, 2) := by decide +kernel
theorem dX6_slowness_3 : decode cX6_slowness 3 = .ok (.iload_n 1, 1) := by decide +kernel
theorem dX6_slowness_4 : decode cX6_slowness 4 = .ok (.istore 6, 2) := by decide +kernel
theorem dX6_slowness_6 : decode cX6_slowness 6 = .ok (.iload 6, 2) := by decide +kernel
theorem dX6_slowness_8 : decode cX6_slowness 8 = .ok (.iload_n 2, 1) := by decide +kernel
theorem dX6_slowness_9 : decode cX6_slowness 9 = .ok (.if_icmp .gt 26, 3) := by decide +kernel
theorem dX6_slowness_12 : decode cX6_slowness 12 = .ok (.iload 5, 2) := by decide +kernel
theorem dX6_slowness_14 : decode cX6_slowness 14 = .ok (.aload_n 0, 1) := by decide +kernel
theorem dX6_slowness_15 : decode cX6_slowness 15 = .ok (.iload 6, 2) := by decide +kernel
theorem dX6_slowness_17 : decode cX6_slowness 17 = .ok (.iload_n 3, 1) := by decide +kernel
theorem dX6_slowness_18 : decode cX6_slowness 18 = .ok (.iload 4, 2) := by decide +kernel
theorem dX6_slowness_20 : decode cX6_slowness 20 = .ok (.invokevirtual 35, 3) := by decide +kernel
theorem dX6_slowness_23 : decode cX6_slowness 23 = .ok (.bipush 60, 2) := by decide +kernel
theorem dX6_slowness_25 : decode cX6_slowness 25 = .ok (.isub, 1) := by decide +kernel
theorem dX6_slowness_26 : decode cX6_slowness 26 = .ok (.iadd, 1) := by decide +kernel
theorem dX6_slowness_27 : decode cX6_slowness 27 = .ok (.istore 5, 2) := by decide +kernel
theorem dX6_slowness_29 : decode cX6_slowness 29 = .ok (.iinc 6 1, 3) := by decide +kernel
theorem dX6_slowness_32 : decode cX6_slowness 32 = .ok (.goto (-26), 3) := by decide +kernel
theorem dX6_slowness_35 : decode cX6_slowness 35 = .ok (.iload 5, 2) := by decide +kernel
theorem dX6_slowness_37 : decode cX6_slowness 37 = .ok (.ireturn, 1) := by decide +kernel
def fX6_slowness_48_L6 (S : Nat → Int32) (V : Nat → Nat → Int32) : Nat → Int32 → Int32 → Int32 → Int32 → Int32 → Option (Int32)
  | 0, _, _, _, _, _ => none
  | n + 1, x1, x2, x3, x4, x5 =>
    (if x1 < x5 then
    some x4
    else
    bd1 (fX6_swingIn_48 S V x5 x2 x3) (fun r7 =>
    lt ((x4 + (r7 - (60 : Int32)))) (fun x9 =>
    lt (x5 + (1 : Int32)) (fun x10 =>
    fX6_slowness_48_L6 S V n x1 x2 x3 x9 x10))))
def fX6_slowness_48 (S : Nat → Int32) (V : Nat → Nat → Int32) (a1 : Int32) (a2 : Int32) (a3 : Int32) (a4 : Int32) : Option (Int32) :=
  fX6_slowness_48_L6 S V FU a2 a3 a4 (0 : Int32) a1
set_option maxHeartbeats 4000000 in
set_option maxRecDepth 100000 in
theorem kX6_slowness_48 (l : Launch) (B : jBT) (D : va_G) (ad : Nat → Nat) (cA : Nat → ClassId) (hI : jI ad TC) (S : Nat → Int32) (V : Nat → Nat → Int32) (L : Nat → Int64) (a1 : Int32) (a2 : Int32) (a3 : Int32) (a4 : Int32) (r0 : Int32) (h : fX6_slowness_48 S V a1 a2 a3 a4 = some r0) : jM l yX6_slowness cX6_slowness 7 (some .int) ({ frames := 3, cells := 0, slots := 0, locals := 71 }) B D TC ad cA [.ref (ad 48), .int a1, .int a2, .int a3, .int a4] S V L (some (.int r0)) S V L := by
  refine jM_of (by decide) TC_ok hI (Nat.le_of_ble_eq_true rfl) ?_
  intro p e s m args below meth c C hr hlk
  refine j_lv (lv2 := [(0, .ref (ad 48)), (1, .int a1), (2, .int a2), (3, .int a3), (4, .int a4)]) rfl ?_
  unfold fX6_slowness_48 at h
  have H_fX6_slowness_48_L6 : ∀ (n : Nat) (x1 : Int32) (x2 : Int32) (x3 : Int32) (x4 : Int32) (x5 : Int32), fX6_slowness_48_L6 S V n x1 x2 x3 x4 x5 = some r0 → jW p l e ({ frames := 3, cells := 0, slots := 0, locals := 71 }) s m args below meth c (MQ below (jQc D TC ad cA (some (.int r0)) s.heap.size S V L) args s 0 0 (jA ad TC s.heap.size)) D TC ad cA (jA ad TC s.heap.size) 7 0 0 6 [(0, .ref (ad 48)), (2, .int x1), (3, .int x2), (4, .int x3), (5, .int x4), (6, .int x5)] [] S V L := by
    intro n
    induction n with
    | zero =>
      intro x1 x2 x3 x4 x5 h
      cases (show (none : Option (Int32)) = some r0 from h)
    | succ n ih =>
      intro x1 x2 x3 x4 x5 h
      unfold fX6_slowness_48_L6 at h
      refine j_iload C 5 rfl dX6_slowness_6 ?_
      refine j_iload_n C 1 rfl dX6_slowness_8 rfl ?_
      refine j_icmp_gt (tgt := 35) C dX6_slowness_9 (by decide) (fun c6 => ?_) (fun c6 => ?_)
      · have h := (if_pos c6).symm.trans h
        refine j_iload C 4 rfl dX6_slowness_35 ?_
        cases h
        exact j_iret C hr hlk rfl dX6_slowness_37
      · have h := (if_neg c6).symm.trans h
        refine j_iload C 4 rfl dX6_slowness_12 ?_
        refine j_aload_n C 0 rfl dX6_slowness_14 rfl ?_
        refine j_iload C 5 rfl dX6_slowness_15 ?_
        refine j_iload_n C 2 rfl dX6_slowness_17 rfl ?_
        refine j_iload C 3 rfl dX6_slowness_18 ?_
        obtain ⟨r7, h8, h⟩ := bd1_elim h
        refine j_callV (As := [.int x5, .int x2, .int x3]) (rest := [.int x4]) C (kX6_swingIn_48 l B D ad cA hI S V L x5 x2 x3 _ h8) mw_X6_swingIn wd1133 wd1134 wd1159 tc_48 rfl rfl ⟨rfl, rfl, by decide, by decide⟩ ⟨Nat.zero_le _, Nat.zero_le _⟩ rfl rfl (Nat.le_of_ble_eq_true rfl) dX6_slowness_20 ?_
        refine j_bipush C dX6_slowness_23 cb_60 ?_
        refine j_isub C dX6_slowness_25 ?_
        refine j_iadd C dX6_slowness_26 ?_
        refine lt_elim h (fun x9 e_x9 h => ?_)
        refine j_top e_x9 ?_
        refine j_istore C [(5, .int x9), (0, .ref (ad 48)), (2, .int x1), (3, .int x2), (4, .int x3), (6, .int x5)] dX6_slowness_27 (by decide) rfl ?_
        refine lt_elim h (fun x10 e_x10 h => ?_)
        refine j_iinc C [(6, .int x10), (5, .int x9), (0, .ref (ad 48)), (2, .int x1), (3, .int x2), (4, .int x3)] 5 dX6_slowness_29 rfl ((iinc_eq ci_1).trans e_x10.symm) (by decide) rfl ?_
        refine j_goto (tgt := 6) C dX6_slowness_32 (by decide) ?_
        exact j_sub [2, 3, 4, 5, 1, 0] rfl (ih _ _ _ _ _ h)
  refine j_iconst C dX6_slowness_0 ci_0 ?_
  refine j_istore C [(5, .int (0 : Int32)), (0, .ref (ad 48)), (1, .int a1), (2, .int a2), (3, .int a3), (4, .int a4)] dX6_slowness_1 (by decide) rfl ?_
  refine j_iload_n C 2 rfl dX6_slowness_3 rfl ?_
  refine j_istore C [(6, .int a1), (5, .int (0 : Int32)), (0, .ref (ad 48)), (1, .int a1), (2, .int a2), (3, .int a3), (4, .int a4)] dX6_slowness_4 (by decide) rfl ?_
  exact j_sub [2, 4, 5, 6, 1, 0] rfl (H_fX6_slowness_48_L6 FU _ _ _ _ _ h)
theorem dX6_slownessOfDay_0 : decode cX6_slownessOfDay 0 = .ok (.aload_n 0, 1) := by decide +kernel
theorem dX6_slownessOfDay_1 : decode cX6_slownessOfDay 1 = .ok (.iconst 0, 1) := by decide +kernel
theorem dX6_slownessOfDay_2 : decode cX6_slownessOfDay 2 = .ok (.bipush 23, 2) := by decide +kernel
theorem dX6_slownessOfDay_4 : decode cX6_slownessOfDay 4 = .ok (.iload_n 1, 1) := by decide +kernel
theorem dX6_slownessOfDay_5 : decode cX6_slownessOfDay 5 = .ok (.iconst (-1), 1) := by decide +kernel
theorem dX6_slownessOfDay_6 : decode cX6_slownessOfDay 6 = .ok (.invokevirtual 38, 3) := by decide +kernel
theorem dX6_slownessOfDay_9 : decode cX6_slownessOfDay 9 = .ok (.ireturn, 1) := by decide +kernel
def fX6_slownessOfDay_48 (S : Nat → Int32) (V : Nat → Nat → Int32) (a1 : Int32) : Option (Int32) :=
  bd1 (fX6_slowness_48 S V (0 : Int32) (23 : Int32) a1 (-1 : Int32)) (fun r1 =>
  some r1)
set_option maxHeartbeats 4000000 in
set_option maxRecDepth 100000 in
theorem kX6_slownessOfDay_48 (l : Launch) (B : jBT) (D : va_G) (ad : Nat → Nat) (cA : Nat → ClassId) (hI : jI ad TC) (S : Nat → Int32) (V : Nat → Nat → Int32) (L : Nat → Int64) (a1 : Int32) (r0 : Int32) (h : fX6_slownessOfDay_48 S V a1 = some r0) : jM l yX6_slownessOfDay cX6_slownessOfDay 2 (some .int) ({ frames := 4, cells := 0, slots := 0, locals := 97 }) B D TC ad cA [.ref (ad 48), .int a1] S V L (some (.int r0)) S V L := by
  refine jM_of (by decide) TC_ok hI (Nat.le_of_ble_eq_true rfl) ?_
  intro p e s m args below meth c C hr hlk
  refine j_lv (lv2 := [(0, .ref (ad 48)), (1, .int a1)]) rfl ?_
  unfold fX6_slownessOfDay_48 at h
  refine j_aload_n C 0 rfl dX6_slownessOfDay_0 rfl ?_
  refine j_iconst C dX6_slownessOfDay_1 ci_0 ?_
  refine j_bipush C dX6_slownessOfDay_2 cb_23 ?_
  refine j_iload_n C 1 rfl dX6_slownessOfDay_4 rfl ?_
  refine j_iconst C dX6_slownessOfDay_5 ci_m1 ?_
  obtain ⟨r1, h2, h⟩ := bd1_elim h
  refine j_callV (As := [.int (0 : Int32), .int (23 : Int32), .int a1, .int (-1 : Int32)]) (rest := []) C (kX6_slowness_48 l B D ad cA hI S V L (0 : Int32) (23 : Int32) a1 (-1 : Int32) _ h2) mw_X6_slowness wd1156 wd1157 wd1171 tc_48 rfl rfl ⟨rfl, rfl, by decide, by decide⟩ ⟨Nat.zero_le _, Nat.zero_le _⟩ rfl rfl (Nat.le_of_ble_eq_true rfl) dX6_slownessOfDay_6 ?_
  cases h
  exact j_iret C hr hlk rfl dX6_slownessOfDay_9
theorem dX6_daysToBirthday_0 : decode cX6_daysToBirthday 0 = .ok (.iconst 0, 1) := by decide +kernel
theorem dX6_daysToBirthday_1 : decode cX6_daysToBirthday 1 = .ok (.istore_n 2, 1) := by decide +kernel
theorem dX6_daysToBirthday_2 : decode cX6_daysToBirthday 2 = .ok (.iload_n 1, 1) := by decide +kernel
theorem dX6_daysToBirthday_3 : decode cX6_daysToBirthday 3 = .ok (.istore_n 3, 1) := by decide +kernel
theorem dX6_daysToBirthday_4 : decode cX6_daysToBirthday 4 = .ok (.iconst 0, 1) := by decide +kernel
theorem dX6_daysToBirthday_5 : decode cX6_daysToBirthday 5 = .ok (.istore 4, 2) := by decide +kernel
theorem dX6_daysToBirthday_7 : decode cX6_daysToBirthday 7 = .ok (.iload 4, 2) := by decide +kernel
theorem dX6_daysToBirthday_9 : decode cX6_daysToBirthday 9 = .ok (.bipush 30, 2) := by decide +kernel
theorem dX6_daysToBirthday_11 : decode cX6_daysToBirthday 11 = .ok (.if_icmp .gt 108, 3) := by decide +kernel
theorem dX6_daysToBirthday_14 : decode cX6_daysToBirthday 14 = .ok (.iload_n 3, 1) := by decide +kernel
theorem dX6_daysToBirthday_15 : decode cX6_daysToBirthday 15 = .ok (.sipush 9999, 3) := by decide +kernel
theorem dX6_daysToBirthday_18 : decode cX6_daysToBirthday 18 = .ok (.if_icmp .gt 101, 3) := by decide +kernel
theorem dX6_daysToBirthday_21 : decode cX6_daysToBirthday 21 = .ok (.aload_n 0, 1) := by decide +kernel
theorem dX6_daysToBirthday_22 : decode cX6_daysToBirthday 22 = .ok (.aload_n 0, 1) := by decide +kernel
theorem dX6_daysToBirthday_23 : decode cX6_daysToBirthday 23 = .ok (.getfield 9, 3) := by decide +kernel
theorem dX6_daysToBirthday_26 : decode cX6_daysToBirthday 26 = .ok (.iload_n 3, 1) := by decide +kernel
theorem dX6_daysToBirthday_27 : decode cX6_daysToBirthday 27 = .ok (.invokevirtual 49, 3) := by decide +kernel
theorem dX6_daysToBirthday_30 : decode cX6_daysToBirthday 30 = .ok (.invokevirtual 57, 3) := by decide +kernel
theorem dX6_daysToBirthday_33 : decode cX6_daysToBirthday 33 = .ok (.istore 5, 2) := by decide +kernel
theorem dX6_daysToBirthday_35 : decode cX6_daysToBirthday 35 = .ok (.aload_n 0, 1) := by decide +kernel
theorem dX6_daysToBirthday_36 : decode cX6_daysToBirthday 36 = .ok (.getfield 9, 3) := by decide +kernel
theorem dX6_daysToBirthday_39 : decode cX6_daysToBirthday 39 = .ok (.iload_n 3, 1) := by decide +kernel
theorem dX6_daysToBirthday_40 : decode cX6_daysToBirthday 40 = .ok (.invokevirtual 60, 3) := by decide +kernel
theorem dX6_daysToBirthday_43 : decode cX6_daysToBirthday 43 = .ok (.istore 6, 2) := by decide +kernel
theorem dX6_daysToBirthday_45 : decode cX6_daysToBirthday 45 = .ok (.iload 5, 2) := by decide +kernel
theorem dX6_daysToBirthday_47 : decode cX6_daysToBirthday 47 = .ok (.ifCond .ge 14, 3) := by decide +kernel
theorem dX6_daysToBirthday_50 : decode cX6_daysToBirthday 50 = .ok (.iload_n 2, 1) := by decide +kernel
theorem dX6_daysToBirthday_51 : decode cX6_daysToBirthday 51 = .ok (.ineg, 1) := by decide +kernel
theorem dX6_daysToBirthday_52 : decode cX6_daysToBirthday 52 = .ok (.iload 5, 2) := by decide +kernel
theorem dX6_daysToBirthday_54 : decode cX6_daysToBirthday 54 = .ok (.ineg, 1) := by decide +kernel
theorem dX6_daysToBirthday_55 : decode cX6_daysToBirthday 55 = .ok (.invokestatic 63, 3) := by decide +kernel
theorem dX6_daysToBirthday_58 : decode cX6_daysToBirthday 58 = .ok (.goto 9, 3) := by decide +kernel
theorem dX6_daysToBirthday_61 : decode cX6_daysToBirthday 61 = .ok (.iload_n 2, 1) := by decide +kernel
theorem dX6_daysToBirthday_62 : decode cX6_daysToBirthday 62 = .ok (.iload 5, 2) := by decide +kernel
theorem dX6_daysToBirthday_64 : decode cX6_daysToBirthday 64 = .ok (.invokestatic 63, 3) := by decide +kernel
theorem dX6_daysToBirthday_67 : decode cX6_daysToBirthday 67 = .ok (.istore 7, 2) := by decide +kernel
theorem dX6_daysToBirthday_69 : decode cX6_daysToBirthday 69 = .ok (.iload 7, 2) := by decide +kernel
theorem dX6_daysToBirthday_71 : decode cX6_daysToBirthday 71 = .ok (.iload 6, 2) := by decide +kernel
theorem dX6_daysToBirthday_73 : decode cX6_daysToBirthday 73 = .ok (.iload_n 3, 1) := by decide +kernel
theorem dX6_daysToBirthday_74 : decode cX6_daysToBirthday 74 = .ok (.isub, 1) := by decide +kernel
theorem dX6_daysToBirthday_75 : decode cX6_daysToBirthday 75 = .ok (.if_icmp .gt 25, 3) := by decide +kernel
theorem dX6_daysToBirthday_78 : decode cX6_daysToBirthday 78 = .ok (.iload_n 3, 1) := by decide +kernel
theorem dX6_daysToBirthday_79 : decode cX6_daysToBirthday 79 = .ok (.iload_n 1, 1) := by decide +kernel
theorem dX6_daysToBirthday_80 : decode cX6_daysToBirthday 80 = .ok (.isub, 1) := by decide +kernel
theorem dX6_daysToBirthday_81 : decode cX6_daysToBirthday 81 = .ok (.iload 7, 2) := by decide +kernel
theorem dX6_daysToBirthday_83 : decode cX6_daysToBirthday 83 = .ok (.iadd, 1) := by decide +kernel
theorem dX6_daysToBirthday_84 : decode cX6_daysToBirthday 84 = .ok (.istore 8, 2) := by decide +kernel
theorem dX6_daysToBirthday_86 : decode cX6_daysToBirthday 86 = .ok (.iload 5, 2) := by decide +kernel
theorem dX6_daysToBirthday_88 : decode cX6_daysToBirthday 88 = .ok (.ifCond .ge 9, 3) := by decide +kernel
theorem dX6_daysToBirthday_91 : decode cX6_daysToBirthday 91 = .ok (.iload 8, 2) := by decide +kernel
theorem dX6_daysToBirthday_93 : decode cX6_daysToBirthday 93 = .ok (.ineg, 1) := by decide +kernel
theorem dX6_daysToBirthday_94 : decode cX6_daysToBirthday 94 = .ok (.goto 5, 3) := by decide +kernel
theorem dX6_daysToBirthday_97 : decode cX6_daysToBirthday 97 = .ok (.iload 8, 2) := by decide +kernel
theorem dX6_daysToBirthday_99 : decode cX6_daysToBirthday 99 = .ok (.ireturn, 1) := by decide +kernel
theorem dX6_daysToBirthday_100 : decode cX6_daysToBirthday 100 = .ok (.iload_n 2, 1) := by decide +kernel
theorem dX6_daysToBirthday_101 : decode cX6_daysToBirthday 101 = .ok (.iload 5, 2) := by decide +kernel
theorem dX6_daysToBirthday_103 : decode cX6_daysToBirthday 103 = .ok (.iload 6, 2) := by decide +kernel
theorem dX6_daysToBirthday_105 : decode cX6_daysToBirthday 105 = .ok (.iload_n 3, 1) := by decide +kernel
theorem dX6_daysToBirthday_106 : decode cX6_daysToBirthday 106 = .ok (.isub, 1) := by decide +kernel
theorem dX6_daysToBirthday_107 : decode cX6_daysToBirthday 107 = .ok (.imul, 1) := by decide +kernel
theorem dX6_daysToBirthday_108 : decode cX6_daysToBirthday 108 = .ok (.iadd, 1) := by decide +kernel
theorem dX6_daysToBirthday_109 : decode cX6_daysToBirthday 109 = .ok (.istore_n 2, 1) := by decide +kernel
theorem dX6_daysToBirthday_110 : decode cX6_daysToBirthday 110 = .ok (.iload 6, 2) := by decide +kernel
theorem dX6_daysToBirthday_112 : decode cX6_daysToBirthday 112 = .ok (.istore_n 3, 1) := by decide +kernel
theorem dX6_daysToBirthday_113 : decode cX6_daysToBirthday 113 = .ok (.iinc 4 1, 3) := by decide +kernel
theorem dX6_daysToBirthday_116 : decode cX6_daysToBirthday 116 = .ok (.goto (-109), 3) := by decide +kernel
theorem dX6_daysToBirthday_119 : decode cX6_daysToBirthday 119 = .ok (.iconst 0, 1) := by decide +kernel
theorem dX6_daysToBirthday_120 : decode cX6_daysToBirthday 120 = .ok (.ireturn, 1) := by decide +kernel
def fX6_daysToBirthday_48_L7 (E78 : Int32 → Int32 → Int32 → Int32 → Option (Int32)) (S : Nat → Int32) (V : Nat → Nat → Int32) : Nat → Int32 → Int32 → Int32 → Int32 → Option (Int32)
  | 0, _, _, _, _ => none
  | n + 1, x1, x2, x3, x4 =>
    (if (30 : Int32) < x4 then
    some (0 : Int32)
    else
    (if (9999 : Int32) < x3 then
    some (0 : Int32)
    else
    bd1 (fX2_oilLeft_3 S x3) (fun r7 =>
    bd1 (fX6_slownessOfDay_48 S V r7) (fun r9 =>
    bd1 (fX2_dayOfLessOil_3 S x3) (fun r11 =>
    bk (fun (x14 : Int32) (x15 : Int32) (x16 : Int32) (x17 : Int32) (x18 : Int32) (x19 : Int32) (x20 : Int32) =>
    (if (x19 - x16) < x20 then
    lt ((x15 + (x18 * (x19 - x16)))) (fun x22 =>
    lt (x17 + (1 : Int32)) (fun x23 =>
    fX6_daysToBirthday_48_L7 E78 S V n x14 x22 x19 x23))
    else
    E78 x14 x16 x18 x20)) (fun K67_13 =>
    (if 0 ≤ r9 then
    bd1 (fX6_daysToADay x2 r9) (fun r25 =>
    K67_13 x1 x2 x3 x4 r9 r11 r25)
    else
    bd1 (fX6_daysToADay ((-x2)) ((-r9))) (fun r27 =>
    K67_13 x1 x2 x3 x4 r9 r11 r27))))))))
def fX6_daysToBirthday_48 (S : Nat → Int32) (V : Nat → Nat → Int32) (a1 : Int32) : Option (Int32) :=
  bk (fun (x34 : Int32) (x35 : Int32) (x36 : Int32) (x37 : Int32) =>
  lt (((x35 - x34) + x37)) (fun x38 =>
  (if 0 ≤ x36 then
  some x38
  else
  some ((-x38))))) (fun X78_33 =>
  fX6_daysToBirthday_48_L7 X78_33 S V FU a1 (0 : Int32) a1 (0 : Int32))
set_option maxHeartbeats 4000000 in
set_option maxRecDepth 100000 in
theorem kX6_daysToBirthday_48 (l : Launch) (B : jBT) (D : va_G) (ad : Nat → Nat) (cA : Nat → ClassId) (hI : jI ad TC) (S : Nat → Int32) (V : Nat → Nat → Int32) (L : Nat → Int64) (a1 : Int32) (r0 : Int32) (h : fX6_daysToBirthday_48 S V a1 = some r0) : jM l yX6_daysToBirthday cX6_daysToBirthday 9 (some .int) ({ frames := 5, cells := 0, slots := 0, locals := 118 }) B D TC ad cA [.ref (ad 48), .int a1] S V L (some (.int r0)) S V L := by
  refine jM_of (by decide) TC_ok hI (Nat.le_of_ble_eq_true rfl) ?_
  intro p e s m args below meth c C hr hlk
  refine j_lv (lv2 := [(0, .ref (ad 48)), (1, .int a1)]) rfl ?_
  unfold fX6_daysToBirthday_48 at h
  have H_fX6_daysToBirthday_48_L7 : ∀ (E78 : Int32 → Int32 → Int32 → Int32 → Option (Int32)) (_ : ∀ (x29 : Int32) (x30 : Int32) (x31 : Int32) (x32 : Int32), E78 x29 x30 x31 x32 = some r0 → jW p l e ({ frames := 5, cells := 0, slots := 0, locals := 118 }) s m args below meth c (MQ below (jQc D TC ad cA (some (.int r0)) s.heap.size S V L) args s 0 0 (jA ad TC s.heap.size)) D TC ad cA (jA ad TC s.heap.size) 9 0 0 78 [(1, .int x29), (3, .int x30), (5, .int x31), (7, .int x32)] [] S V L) (n : Nat) (x1 : Int32) (x2 : Int32) (x3 : Int32) (x4 : Int32), fX6_daysToBirthday_48_L7 E78 S V n x1 x2 x3 x4 = some r0 → jW p l e ({ frames := 5, cells := 0, slots := 0, locals := 118 }) s m args below meth c (MQ below (jQc D TC ad cA (some (.int r0)) s.heap.size S V L) args s 0 0 (jA ad TC s.heap.size)) D TC ad cA (jA ad TC s.heap.size) 9 0 0 7 [(0, .ref (ad 48)), (1, .int x1), (2, .int x2), (3, .int x3), (4, .int x4)] [] S V L := by
    intro E78 HE78
    intro n
    induction n with
    | zero =>
      intro x1 x2 x3 x4 h
      cases (show (none : Option (Int32)) = some r0 from h)
    | succ n ih =>
      intro x1 x2 x3 x4 h
      unfold fX6_daysToBirthday_48_L7 at h
      refine j_iload C 4 rfl dX6_daysToBirthday_7 ?_
      refine j_bipush C dX6_daysToBirthday_9 cb_30 ?_
      refine j_icmp_gt (tgt := 119) C dX6_daysToBirthday_11 (by decide) (fun c5 => ?_) (fun c5 => ?_)
      · have h := (if_pos c5).symm.trans h
        refine j_iconst C dX6_daysToBirthday_119 ci_0 ?_
        cases h
        exact j_iret C hr hlk rfl dX6_daysToBirthday_120
      · have h := (if_neg c5).symm.trans h
        refine j_iload_n C 3 rfl dX6_daysToBirthday_14 rfl ?_
        refine j_sipush C dX6_daysToBirthday_15 cs_9999 ?_
        refine j_icmp_gt (tgt := 119) C dX6_daysToBirthday_18 (by decide) (fun c6 => ?_) (fun c6 => ?_)
        · have h := (if_pos c6).symm.trans h
          refine j_iconst C dX6_daysToBirthday_119 ci_0 ?_
          cases h
          exact j_iret C hr hlk rfl dX6_daysToBirthday_120
        · have h := (if_neg c6).symm.trans h
          refine j_aload_n C 0 rfl dX6_daysToBirthday_21 rfl ?_
          refine j_aload_n C 0 rfl dX6_daysToBirthday_22 rfl ?_
          refine fg_X6_9_TC_48 C dX6_daysToBirthday_23 ?_
          refine j_iload_n C 3 rfl dX6_daysToBirthday_26 rfl ?_
          obtain ⟨r7, h8, h⟩ := bd1_elim h
          refine j_callV (As := [.int x3]) (rest := [.ref (ad 48)]) C (kX2_oilLeft_3 l B D ad cA hI S V L x3 _ h8) mw_X2_oilLeft wd1128 wd1129 wd1379 tc_3 rfl rfl ⟨rfl, rfl, by decide, by decide⟩ ⟨Nat.zero_le _, Nat.zero_le _⟩ rfl rfl (Nat.le_of_ble_eq_true rfl) dX6_daysToBirthday_27 ?_
          obtain ⟨r9, h10, h⟩ := bd1_elim h
          refine j_callV (As := [.int r7]) (rest := []) C (kX6_slownessOfDay_48 l B D ad cA hI S V L r7 _ h10) mw_X6_slownessOfDay wd1168 wd1169 wd1391 tc_48 rfl rfl ⟨rfl, rfl, by decide, by decide⟩ ⟨Nat.zero_le _, Nat.zero_le _⟩ rfl rfl (Nat.le_of_ble_eq_true rfl) dX6_daysToBirthday_30 ?_
          refine j_istore C [(5, .int r9), (0, .ref (ad 48)), (1, .int x1), (2, .int x2), (3, .int x3), (4, .int x4)] dX6_daysToBirthday_33 (by decide) rfl ?_
          refine j_aload_n C 1 rfl dX6_daysToBirthday_35 rfl ?_
          refine fg_X6_9_TC_48 C dX6_daysToBirthday_36 ?_
          refine j_iload_n C 4 rfl dX6_daysToBirthday_39 rfl ?_
          obtain ⟨r11, h12, h⟩ := bd1_elim h
          refine j_callV (As := [.int x3]) (rest := []) C (kX2_dayOfLessOil_3 l B D ad cA hI S V L x3 _ h12) mw_X2_dayOfLessOil wd1393 wd1394 wd1392 tc_3 rfl rfl ⟨rfl, rfl, by decide, by decide⟩ ⟨Nat.zero_le _, Nat.zero_le _⟩ rfl rfl (Nat.le_of_ble_eq_true rfl) dX6_daysToBirthday_40 ?_
          refine j_istore C [(6, .int r11), (5, .int r9), (0, .ref (ad 48)), (1, .int x1), (2, .int x2), (3, .int x3), (4, .int x4)] dX6_daysToBirthday_43 (by decide) rfl ?_
          refine j_iload C 1 rfl dX6_daysToBirthday_45 ?_
          refine bk_elim h (fun K67_13 e_K67_13 h => ?_)
          have HK67_13 : ∀ (x14 : Int32) (x15 : Int32) (x16 : Int32) (x17 : Int32) (x18 : Int32) (x19 : Int32) (x20 : Int32), K67_13 x14 x15 x16 x17 x18 x19 x20 = some r0 → jW p l e ({ frames := 5, cells := 0, slots := 0, locals := 118 }) s m args below meth c (MQ below (jQc D TC ad cA (some (.int r0)) s.heap.size S V L) args s 0 0 (jA ad TC s.heap.size)) D TC ad cA (jA ad TC s.heap.size) 9 0 0 67 [(0, .ref (ad 48)), (1, .int x14), (2, .int x15), (3, .int x16), (4, .int x17), (5, .int x18), (6, .int x19)] [.int x20] S V L := by
            subst e_K67_13
            intro x14 x15 x16 x17 x18 x19 x20 h
            refine j_istore C [(7, .int x20), (0, .ref (ad 48)), (1, .int x14), (2, .int x15), (3, .int x16), (4, .int x17), (5, .int x18), (6, .int x19)] dX6_daysToBirthday_67 (by decide) rfl ?_
            refine j_iload C 0 rfl dX6_daysToBirthday_69 ?_
            refine j_iload C 7 rfl dX6_daysToBirthday_71 ?_
            refine j_iload_n C 4 rfl dX6_daysToBirthday_73 rfl ?_
            refine j_isub C dX6_daysToBirthday_74 ?_
            refine j_icmp_gt (tgt := 100) C dX6_daysToBirthday_75 (by decide) (fun c21 => ?_) (fun c21 => ?_)
            · have h := (if_pos c21).symm.trans h
              refine j_iload_n C 3 rfl dX6_daysToBirthday_100 rfl ?_
              refine j_iload C 6 rfl dX6_daysToBirthday_101 ?_
              refine j_iload C 7 rfl dX6_daysToBirthday_103 ?_
              refine j_iload_n C 4 rfl dX6_daysToBirthday_105 rfl ?_
              refine j_isub C dX6_daysToBirthday_106 ?_
              refine j_imul C dX6_daysToBirthday_107 ?_
              refine j_iadd C dX6_daysToBirthday_108 ?_
              refine lt_elim h (fun x22 e_x22 h => ?_)
              refine j_top e_x22 ?_
              refine j_istore_n C [(2, .int x22), (7, .int x20), (0, .ref (ad 48)), (1, .int x14), (3, .int x16), (4, .int x17), (5, .int x18), (6, .int x19)] dX6_daysToBirthday_109 rfl (by decide) rfl ?_
              refine j_iload C 7 rfl dX6_daysToBirthday_110 ?_
              refine j_istore_n C [(3, .int x19), (2, .int x22), (7, .int x20), (0, .ref (ad 48)), (1, .int x14), (4, .int x17), (5, .int x18), (6, .int x19)] dX6_daysToBirthday_112 rfl (by decide) rfl ?_
              refine lt_elim h (fun x23 e_x23 h => ?_)
              refine j_iinc C [(4, .int x23), (3, .int x19), (2, .int x22), (7, .int x20), (0, .ref (ad 48)), (1, .int x14), (5, .int x18), (6, .int x19)] 5 dX6_daysToBirthday_113 rfl ((iinc_eq ci_1).trans e_x23.symm) (by decide) rfl ?_
              refine j_goto (tgt := 7) C dX6_daysToBirthday_116 (by decide) ?_
              exact j_sub [4, 5, 2, 1, 0] rfl (ih _ _ _ _ h)
            · have h := (if_neg c21).symm.trans h
              exact j_sub [2, 4, 6, 0] rfl (HE78 _ _ _ _ h)
          refine j_if_ge (tgt := 61) C dX6_daysToBirthday_47 (by decide) (fun c24 => ?_) (fun c24 => ?_)
          · have h := (if_pos c24).symm.trans h
            refine j_iload_n C 4 rfl dX6_daysToBirthday_61 rfl ?_
            refine j_iload C 1 rfl dX6_daysToBirthday_62 ?_
            obtain ⟨r25, h26, h⟩ := bd1_elim h
            refine j_callS (As := [.int x2, .int r9]) (rest := []) C (kX6_daysToADay l B D ad cA hI S V L x2 r9 _ h26) mw_X6_daysToADay wd1398 wd1397 ⟨rfl, rfl, by decide, by decide⟩ ⟨Nat.zero_le _, Nat.zero_le _⟩ rfl rfl (Nat.le_of_ble_eq_true rfl) dX6_daysToBirthday_64 ?_
            exact j_sub [2, 3, 4, 5, 6, 1, 0] rfl (HK67_13 _ _ _ _ _ _ _ h)
          · have h := (if_neg c24).symm.trans h
            refine j_iload_n C 4 rfl dX6_daysToBirthday_50 rfl ?_
            refine j_ineg C dX6_daysToBirthday_51 ?_
            refine j_iload C 1 rfl dX6_daysToBirthday_52 ?_
            refine j_ineg C dX6_daysToBirthday_54 ?_
            obtain ⟨r27, h28, h⟩ := bd1_elim h
            refine j_callS (As := [.int (-x2), .int (-r9)]) (rest := []) C (kX6_daysToADay l B D ad cA hI S V L ((-x2)) ((-r9)) _ h28) mw_X6_daysToADay wd1398 wd1397 ⟨rfl, rfl, by decide, by decide⟩ ⟨Nat.zero_le _, Nat.zero_le _⟩ rfl rfl (Nat.le_of_ble_eq_true rfl) dX6_daysToBirthday_55 ?_
            refine j_goto (tgt := 67) C dX6_daysToBirthday_58 (by decide) ?_
            exact j_sub [2, 3, 4, 5, 6, 1, 0] rfl (HK67_13 _ _ _ _ _ _ _ h)
  refine j_iconst C dX6_daysToBirthday_0 ci_0 ?_
  refine j_istore_n C [(2, .int (0 : Int32)), (0, .ref (ad 48)), (1, .int a1)] dX6_daysToBirthday_1 rfl (by decide) rfl ?_
  refine j_iload_n C 2 rfl dX6_daysToBirthday_2 rfl ?_
  refine j_istore_n C [(3, .int a1), (2, .int (0 : Int32)), (0, .ref (ad 48)), (1, .int a1)] dX6_daysToBirthday_3 rfl (by decide) rfl ?_
  refine j_iconst C dX6_daysToBirthday_4 ci_0 ?_
  refine j_istore C [(4, .int (0 : Int32)), (3, .int a1), (2, .int (0 : Int32)), (0, .ref (ad 48)), (1, .int a1)] dX6_daysToBirthday_5 (by decide) rfl ?_
  refine bk_elim h (fun X78_33 e_X78_33 h => ?_)
  have HX78_33 : ∀ (x34 : Int32) (x35 : Int32) (x36 : Int32) (x37 : Int32), X78_33 x34 x35 x36 x37 = some r0 → jW p l e ({ frames := 5, cells := 0, slots := 0, locals := 118 }) s m args below meth c (MQ below (jQc D TC ad cA (some (.int r0)) s.heap.size S V L) args s 0 0 (jA ad TC s.heap.size)) D TC ad cA (jA ad TC s.heap.size) 9 0 0 78 [(1, .int x34), (3, .int x35), (5, .int x36), (7, .int x37)] [] S V L := by
    subst e_X78_33
    intro x34 x35 x36 x37 h
    refine j_iload_n C 1 rfl dX6_daysToBirthday_78 rfl ?_
    refine j_iload_n C 0 rfl dX6_daysToBirthday_79 rfl ?_
    refine j_isub C dX6_daysToBirthday_80 ?_
    refine j_iload C 3 rfl dX6_daysToBirthday_81 ?_
    refine j_iadd C dX6_daysToBirthday_83 ?_
    refine lt_elim h (fun x38 e_x38 h => ?_)
    refine j_top e_x38 ?_
    refine j_istore C [(8, .int x38), (1, .int x34), (3, .int x35), (5, .int x36), (7, .int x37)] dX6_daysToBirthday_84 (by decide) rfl ?_
    refine j_iload C 3 rfl dX6_daysToBirthday_86 ?_
    refine j_if_ge (tgt := 97) C dX6_daysToBirthday_88 (by decide) (fun c39 => ?_) (fun c39 => ?_)
    · have h := (if_pos c39).symm.trans h
      refine j_iload C 0 rfl dX6_daysToBirthday_97 ?_
      cases h
      exact j_iret C hr hlk rfl dX6_daysToBirthday_99
    · have h := (if_neg c39).symm.trans h
      refine j_iload C 0 rfl dX6_daysToBirthday_91 ?_
      refine j_ineg C dX6_daysToBirthday_93 ?_
      refine j_goto (tgt := 99) C dX6_daysToBirthday_94 (by decide) ?_
      cases h
      exact j_iret C hr hlk rfl dX6_daysToBirthday_99
  exact j_sub [3, 4, 2, 1, 0] rfl (H_fX6_daysToBirthday_48_L7 _ HX78_33 FU _ _ _ _ h)
theorem dX6_fartherOfBoth_0 : decode cX6_fartherOfBoth 0 = .ok (.iload_n 3, 1) := by decide +kernel
theorem dX6_fartherOfBoth_1 : decode cX6_fartherOfBoth 1 = .ok (.aload_n 0, 1) := by decide +kernel
theorem dX6_fartherOfBoth_2 : decode cX6_fartherOfBoth 2 = .ok (.getfield 9, 3) := by decide +kernel
theorem dX6_fartherOfBoth_5 : decode cX6_fartherOfBoth 5 = .ok (.getfield 73, 3) := by decide +kernel
theorem dX6_fartherOfBoth_8 : decode cX6_fartherOfBoth 8 = .ok (.iload_n 1, 1) := by decide +kernel
theorem dX6_fartherOfBoth_9 : decode cX6_fartherOfBoth 9 = .ok (.iaload, 1) := by decide +kernel
theorem dX6_fartherOfBoth_10 : decode cX6_fartherOfBoth 10 = .ok (.iload 4, 2) := by decide +kernel
theorem dX6_fartherOfBoth_12 : decode cX6_fartherOfBoth 12 = .ok (.imul, 1) := by decide +kernel
theorem dX6_fartherOfBoth_13 : decode cX6_fartherOfBoth 13 = .ok (.iadd, 1) := by decide +kernel
theorem dX6_fartherOfBoth_14 : decode cX6_fartherOfBoth 14 = .ok (.istore 5, 2) := by decide +kernel
theorem dX6_fartherOfBoth_16 : decode cX6_fartherOfBoth 16 = .ok (.bipush 24, 2) := by decide +kernel
theorem dX6_fartherOfBoth_18 : decode cX6_fartherOfBoth 18 = .ok (.iconst 2, 1) := by decide +kernel
theorem dX6_fartherOfBoth_19 : decode cX6_fartherOfBoth 19 = .ok (.iload_n 2, 1) := by decide +kernel
theorem dX6_fartherOfBoth_20 : decode cX6_fartherOfBoth 20 = .ok (.imul, 1) := by decide +kernel
theorem dX6_fartherOfBoth_21 : decode cX6_fartherOfBoth 21 = .ok (.bipush 60, 2) := by decide +kernel
theorem dX6_fartherOfBoth_23 : decode cX6_fartherOfBoth 23 = .ok (.isub, 1) := by decide +kernel
theorem dX6_fartherOfBoth_24 : decode cX6_fartherOfBoth 24 = .ok (.imul, 1) := by decide +kernel
theorem dX6_fartherOfBoth_25 : decode cX6_fartherOfBoth 25 = .ok (.aload_n 0, 1) := by decide +kernel
theorem dX6_fartherOfBoth_26 : decode cX6_fartherOfBoth 26 = .ok (.getfield 9, 3) := by decide +kernel
theorem dX6_fartherOfBoth_29 : decode cX6_fartherOfBoth 29 = .ok (.getfield 73, 3) := by decide +kernel
theorem dX6_fartherOfBoth_32 : decode cX6_fartherOfBoth 32 = .ok (.iload_n 1, 1) := by decide +kernel
theorem dX6_fartherOfBoth_33 : decode cX6_fartherOfBoth 33 = .ok (.iaload, 1) := by decide +kernel
theorem dX6_fartherOfBoth_34 : decode cX6_fartherOfBoth 34 = .ok (.aload_n 0, 1) := by decide +kernel
theorem dX6_fartherOfBoth_35 : decode cX6_fartherOfBoth 35 = .ok (.getfield 9, 3) := by decide +kernel
theorem dX6_fartherOfBoth_38 : decode cX6_fartherOfBoth 38 = .ok (.getfield 66, 3) := by decide +kernel
theorem dX6_fartherOfBoth_41 : decode cX6_fartherOfBoth 41 = .ok (.iload_n 1, 1) := by decide +kernel
theorem dX6_fartherOfBoth_42 : decode cX6_fartherOfBoth 42 = .ok (.iaload, 1) := by decide +kernel
theorem dX6_fartherOfBoth_43 : decode cX6_fartherOfBoth 43 = .ok (.iload 4, 2) := by decide +kernel
theorem dX6_fartherOfBoth_45 : decode cX6_fartherOfBoth 45 = .ok (.isub, 1) := by decide +kernel
theorem dX6_fartherOfBoth_46 : decode cX6_fartherOfBoth 46 = .ok (.imul, 1) := by decide +kernel
theorem dX6_fartherOfBoth_47 : decode cX6_fartherOfBoth 47 = .ok (.iadd, 1) := by decide +kernel
theorem dX6_fartherOfBoth_48 : decode cX6_fartherOfBoth 48 = .ok (.istore 6, 2) := by decide +kernel
theorem dX6_fartherOfBoth_50 : decode cX6_fartherOfBoth 50 = .ok (.iload 5, 2) := by decide +kernel
theorem dX6_fartherOfBoth_52 : decode cX6_fartherOfBoth 52 = .ok (.invokestatic 76, 3) := by decide +kernel
theorem dX6_fartherOfBoth_55 : decode cX6_fartherOfBoth 55 = .ok (.iload 6, 2) := by decide +kernel
theorem dX6_fartherOfBoth_57 : decode cX6_fartherOfBoth 57 = .ok (.invokestatic 76, 3) := by decide +kernel
theorem dX6_fartherOfBoth_60 : decode cX6_fartherOfBoth 60 = .ok (.invokestatic 41, 3) := by decide +kernel
theorem dX6_fartherOfBoth_63 : decode cX6_fartherOfBoth 63 = .ok (.ireturn, 1) := by decide +kernel
def fX6_fartherOfBoth_48 (V : Nat → Nat → Int32) (a1 : Int32) (a2 : Int32) (a3 : Int32) (a4 : Int32) : Option (Int32) :=
  gd (ib a1 6) (
  lt ((a3 + ((V 4 (a1).toNatClampNeg) * a4))) (fun x2 =>
  gd (ib a1 6) (
  gd (ib a1 6) (
  lt ((((24 : Int32) * (((2 : Int32) * a2) - (60 : Int32))) + ((V 4 (a1).toNatClampNeg) * ((V 6 (a1).toNatClampNeg) - a4)))) (fun x5 =>
  bd1 (fJ9_abs_0f7a4 x2) (fun r6 =>
  bd1 (fJ9_abs_0f7a4 x5) (fun r8 =>
  bd1 (fJ9_max_7cf53 r6 r8) (fun r10 =>
  some r10))))))))
set_option maxHeartbeats 4000000 in
set_option maxRecDepth 100000 in
theorem kX6_fartherOfBoth_48 (l : Launch) (B : jBT) (D : va_G) (ad : Nat → Nat) (cA : Nat → ClassId) (hI : jI ad TC) (S : Nat → Int32) (V : Nat → Nat → Int32) (L : Nat → Int64) (a1 : Int32) (a2 : Int32) (a3 : Int32) (a4 : Int32) (r0 : Int32) (h : fX6_fartherOfBoth_48 V a1 a2 a3 a4 = some r0) : jM l yX6_fartherOfBoth cX6_fartherOfBoth 7 (some .int) ({ frames := 1, cells := 0, slots := 0, locals := 21 }) B D TC ad cA [.ref (ad 48), .int a1, .int a2, .int a3, .int a4] S V L (some (.int r0)) S V L := by
  refine jM_of (by decide) TC_ok hI (Nat.le_of_ble_eq_true rfl) ?_
  intro p e s m args below meth c C hr hlk
  refine j_lv (lv2 := [(0, .ref (ad 48)), (1, .int a1), (2, .int a2), (3, .int a3), (4, .int a4)]) rfl ?_
  unfold fX6_fartherOfBoth_48 at h
  refine j_iload_n C 3 rfl dX6_fartherOfBoth_0 rfl ?_
  refine j_aload_n C 0 rfl dX6_fartherOfBoth_1 rfl ?_
  refine fg_X6_9_TC_48 C dX6_fartherOfBoth_2 ?_
  refine fg_X6_73_TC_3 C dX6_fartherOfBoth_5 ?_
  refine j_iload_n C 1 rfl dX6_fartherOfBoth_8 rfl ?_
  obtain ⟨g1, h⟩ := gd_elim h
  refine j_iald C tc_4 (ib_in g1) dX6_fartherOfBoth_9 ?_
  refine j_iload C 4 rfl dX6_fartherOfBoth_10 ?_
  refine j_imul C dX6_fartherOfBoth_12 ?_
  refine j_iadd C dX6_fartherOfBoth_13 ?_
  refine lt_elim h (fun x2 e_x2 h => ?_)
  refine j_top e_x2 ?_
  refine j_istore C [(5, .int x2), (0, .ref (ad 48)), (1, .int a1), (2, .int a2), (3, .int a3), (4, .int a4)] dX6_fartherOfBoth_14 (by decide) rfl ?_
  refine j_bipush C dX6_fartherOfBoth_16 cb_24 ?_
  refine j_iconst C dX6_fartherOfBoth_18 ci_2 ?_
  refine j_iload_n C 3 rfl dX6_fartherOfBoth_19 rfl ?_
  refine j_imul C dX6_fartherOfBoth_20 ?_
  refine j_bipush C dX6_fartherOfBoth_21 cb_60 ?_
  refine j_isub C dX6_fartherOfBoth_23 ?_
  refine j_imul C dX6_fartherOfBoth_24 ?_
  refine j_aload_n C 1 rfl dX6_fartherOfBoth_25 rfl ?_
  refine fg_X6_9_TC_48 C dX6_fartherOfBoth_26 ?_
  refine fg_X6_73_TC_3 C dX6_fartherOfBoth_29 ?_
  refine j_iload_n C 2 rfl dX6_fartherOfBoth_32 rfl ?_
  obtain ⟨g3, h⟩ := gd_elim h
  refine j_iald C tc_4 (ib_in g3) dX6_fartherOfBoth_33 ?_
  refine j_aload_n C 1 rfl dX6_fartherOfBoth_34 rfl ?_
  refine fg_X6_9_TC_48 C dX6_fartherOfBoth_35 ?_
  refine fg_X6_66_TC_3 C dX6_fartherOfBoth_38 ?_
  refine j_iload_n C 2 rfl dX6_fartherOfBoth_41 rfl ?_
  obtain ⟨g4, h⟩ := gd_elim h
  refine j_iald C tc_6 (ib_in g4) dX6_fartherOfBoth_42 ?_
  refine j_iload C 5 rfl dX6_fartherOfBoth_43 ?_
  refine j_isub C dX6_fartherOfBoth_45 ?_
  refine j_imul C dX6_fartherOfBoth_46 ?_
  refine j_iadd C dX6_fartherOfBoth_47 ?_
  refine lt_elim h (fun x5 e_x5 h => ?_)
  refine j_top e_x5 ?_
  refine j_istore C [(6, .int x5), (5, .int x2), (0, .ref (ad 48)), (1, .int a1), (2, .int a2), (3, .int a3), (4, .int a4)] dX6_fartherOfBoth_48 (by decide) rfl ?_
  refine j_iload C 1 rfl dX6_fartherOfBoth_50 ?_
  obtain ⟨r6, h7, h⟩ := bd1_elim h
  refine j_callS (As := [.int x2]) (rest := []) C (kJ9_abs_0f7a4 l B D ad cA hI S V L x2 _ h7) mw_J9_abs_0f7a4 wd1225 wd1417 ⟨rfl, rfl, by decide, by decide⟩ ⟨Nat.zero_le _, Nat.zero_le _⟩ rfl rfl (Nat.le_of_ble_eq_true rfl) dX6_fartherOfBoth_52 ?_
  refine j_iload C 0 rfl dX6_fartherOfBoth_55 ?_
  obtain ⟨r8, h9, h⟩ := bd1_elim h
  refine j_callS (As := [.int x5]) (rest := [.int r6]) C (kJ9_abs_0f7a4 l B D ad cA hI S V L x5 _ h9) mw_J9_abs_0f7a4 wd1225 wd1417 ⟨rfl, rfl, by decide, by decide⟩ ⟨Nat.zero_le _, Nat.zero_le _⟩ rfl rfl (Nat.le_of_ble_eq_true rfl) dX6_fartherOfBoth_57 ?_
  obtain ⟨r10, h11, h⟩ := bd1_elim h
  refine j_callS (As := [.int r6, .int r8]) (rest := []) C (kJ9_max_7cf53 l B D ad cA hI S V L r6 r8 _ h11) mw_J9_max_7cf53 wd770 wd1375 ⟨rfl, rfl, by decide, by decide⟩ ⟨Nat.zero_le _, Nat.zero_le _⟩ rfl rfl (Nat.le_of_ble_eq_true rfl) dX6_fartherOfBoth_60 ?_
  cases h
  exact j_iret C hr hlk rfl dX6_fartherOfBoth_63
theorem dJ9_floorMod_7cf53_0 : decode cJ9_floorMod_7cf53 0 = .ok (.iload_n 0, 1) := by decide +kernel
theorem dJ9_floorMod_7cf53_1 : decode cJ9_floorMod_7cf53 1 = .ok (.iload_n 1, 1) := by decide +kernel
theorem dJ9_floorMod_7cf53_2 : decode cJ9_floorMod_7cf53 2 = .ok (.irem, 1) := by decide +kernel
theorem dJ9_floorMod_7cf53_3 : decode cJ9_floorMod_7cf53 3 = .ok (.istore_n 2, 1) := by decide +kernel
theorem dJ9_floorMod_7cf53_4 : decode cJ9_floorMod_7cf53 4 = .ok (.iload_n 0, 1) := by decide +kernel
theorem dJ9_floorMod_7cf53_5 : decode cJ9_floorMod_7cf53 5 = .ok (.iload_n 1, 1) := by decide +kernel
theorem dJ9_floorMod_7cf53_6 : decode cJ9_floorMod_7cf53 6 = .ok (.ixor, 1) := by decide +kernel
theorem dJ9_floorMod_7cf53_7 : decode cJ9_floorMod_7cf53 7 = .ok (.ifCond .ge 11, 3) := by decide +kernel
theorem dJ9_floorMod_7cf53_10 : decode cJ9_floorMod_7cf53 10 = .ok (.iload_n 2, 1) := by decide +kernel
theorem dJ9_floorMod_7cf53_11 : decode cJ9_floorMod_7cf53 11 = .ok (.ifCond .eq 7, 3) := by decide +kernel
theorem dJ9_floorMod_7cf53_14 : decode cJ9_floorMod_7cf53 14 = .ok (.iload_n 2, 1) := by decide +kernel
theorem dJ9_floorMod_7cf53_15 : decode cJ9_floorMod_7cf53 15 = .ok (.iload_n 1, 1) := by decide +kernel
theorem dJ9_floorMod_7cf53_16 : decode cJ9_floorMod_7cf53 16 = .ok (.iadd, 1) := by decide +kernel
theorem dJ9_floorMod_7cf53_17 : decode cJ9_floorMod_7cf53 17 = .ok (.ireturn, 1) := by decide +kernel
theorem dJ9_floorMod_7cf53_18 : decode cJ9_floorMod_7cf53 18 = .ok (.iload_n 2, 1) := by decide +kernel
theorem dJ9_floorMod_7cf53_19 : decode cJ9_floorMod_7cf53 19 = .ok (.ireturn, 1) := by decide +kernel
def fJ9_floorMod_7cf53 (a1 : Int32) (a2 : Int32) : Option (Int32) :=
  gd (nz a2) (
  lt ((a1 - a1 / a2 * a2)) (fun x2 =>
  (if 0 ≤ (a1 ^^^ a2) then
  some x2
  else
  (if x2 = 0 then
  some x2
  else
  some ((x2 + a2))))))
set_option maxHeartbeats 4000000 in
set_option maxRecDepth 100000 in
theorem kJ9_floorMod_7cf53 (l : Launch) (B : jBT) (D : va_G) (ad : Nat → Nat) (cA : Nat → ClassId) (hI : jI ad TC) (S : Nat → Int32) (V : Nat → Nat → Int32) (L : Nat → Int64) (a1 : Int32) (a2 : Int32) (r0 : Int32) (h : fJ9_floorMod_7cf53 a1 a2 = some r0) : jM l yJ9_floorMod_7cf53 cJ9_floorMod_7cf53 3 (some .int) ({ frames := 0, cells := 0, slots := 0, locals := 0 }) B D TC ad cA [.int a1, .int a2] S V L (some (.int r0)) S V L := by
  refine jM_of (by decide) TC_ok hI (Nat.le_of_ble_eq_true rfl) ?_
  intro p e s m args below meth c C hr hlk
  refine j_lv (lv2 := [(0, .int a1), (1, .int a2)]) rfl ?_
  unfold fJ9_floorMod_7cf53 at h
  refine j_iload_n C 0 rfl dJ9_floorMod_7cf53_0 rfl ?_
  refine j_iload_n C 1 rfl dJ9_floorMod_7cf53_1 rfl ?_
  obtain ⟨g1, h⟩ := gd_elim h
  refine j_irem C dJ9_floorMod_7cf53_2 (nz_ne g1) ?_
  refine lt_elim h (fun x2 e_x2 h => ?_)
  refine j_top e_x2 ?_
  refine j_istore_n C [(2, .int x2), (0, .int a1), (1, .int a2)] dJ9_floorMod_7cf53_3 rfl (by decide) rfl ?_
  refine j_iload_n C 1 rfl dJ9_floorMod_7cf53_4 rfl ?_
  refine j_iload_n C 2 rfl dJ9_floorMod_7cf53_5 rfl ?_
  refine j_ixor C dJ9_floorMod_7cf53_6 ?_
  refine j_if_ge (tgt := 18) C dJ9_floorMod_7cf53_7 (by decide) (fun c3 => ?_) (fun c3 => ?_)
  · have h := (if_pos c3).symm.trans h
    refine j_iload_n C 0 rfl dJ9_floorMod_7cf53_18 rfl ?_
    cases h
    exact j_iret C hr hlk rfl dJ9_floorMod_7cf53_19
  · have h := (if_neg c3).symm.trans h
    refine j_iload_n C 0 rfl dJ9_floorMod_7cf53_10 rfl ?_
    refine j_if_eq (tgt := 18) C dJ9_floorMod_7cf53_11 (by decide) (fun c4 => ?_) (fun c4 => ?_)
    · have h := (if_pos c4).symm.trans h
      refine j_iload_n C 0 rfl dJ9_floorMod_7cf53_18 rfl ?_
      cases h
      exact j_iret C hr hlk rfl dJ9_floorMod_7cf53_19
    · have h := (if_neg c4).symm.trans h
      refine j_iload_n C 0 rfl dJ9_floorMod_7cf53_14 rfl ?_
      refine j_iload_n C 2 rfl dJ9_floorMod_7cf53_15 rfl ?_
      refine j_iadd C dJ9_floorMod_7cf53_16 ?_
      cases h
      exact j_iret C hr hlk rfl dJ9_floorMod_7cf53_17
theorem dX6_firstWedding_0 : decode cX6_firstWedding 0 = .ok (.iconst 0, 1) := by decide +kernel
theorem dX6_firstWedding_1 : decode cX6_firstWedding 1 = .ok (.istore_n 2, 1) := by decide +kernel
theorem dX6_firstWedding_2 : decode cX6_firstWedding 2 = .ok (.iconst 0, 1) := by decide +kernel
theorem dX6_firstWedding_3 : decode cX6_firstWedding 3 = .ok (.istore_n 3, 1) := by decide +kernel
theorem dX6_firstWedding_4 : decode cX6_firstWedding 4 = .ok (.iload_n 3, 1) := by decide +kernel
theorem dX6_firstWedding_5 : decode cX6_firstWedding 5 = .ok (.bipush 24, 2) := by decide +kernel
theorem dX6_firstWedding_7 : decode cX6_firstWedding 7 = .ok (.if_icmp .ge 21, 3) := by decide +kernel
theorem dX6_firstWedding_10 : decode cX6_firstWedding 10 = .ok (.iload_n 2, 1) := by decide +kernel
theorem dX6_firstWedding_11 : decode cX6_firstWedding 11 = .ok (.aload_n 0, 1) := by decide +kernel
theorem dX6_firstWedding_12 : decode cX6_firstWedding 12 = .ok (.iload_n 3, 1) := by decide +kernel
theorem dX6_firstWedding_13 : decode cX6_firstWedding 13 = .ok (.iconst 0, 1) := by decide +kernel
theorem dX6_firstWedding_14 : decode cX6_firstWedding 14 = .ok (.iconst (-1), 1) := by decide +kernel
theorem dX6_firstWedding_15 : decode cX6_firstWedding 15 = .ok (.invokevirtual 35, 3) := by decide +kernel
theorem dX6_firstWedding_18 : decode cX6_firstWedding 18 = .ok (.invokestatic 41, 3) := by decide +kernel
theorem dX6_firstWedding_21 : decode cX6_firstWedding 21 = .ok (.istore_n 2, 1) := by decide +kernel
theorem dX6_firstWedding_22 : decode cX6_firstWedding 22 = .ok (.iinc 3 1, 3) := by decide +kernel
theorem dX6_firstWedding_25 : decode cX6_firstWedding 25 = .ok (.goto (-21), 3) := by decide +kernel
theorem dX6_firstWedding_28 : decode cX6_firstWedding 28 = .ok (.iload_n 1, 1) := by decide +kernel
theorem dX6_firstWedding_29 : decode cX6_firstWedding 29 = .ok (.bipush 6, 2) := by decide +kernel
theorem dX6_firstWedding_31 : decode cX6_firstWedding 31 = .ok (.iload_n 1, 1) := by decide +kernel
theorem dX6_firstWedding_32 : decode cX6_firstWedding 32 = .ok (.isub, 1) := by decide +kernel
theorem dX6_firstWedding_33 : decode cX6_firstWedding 33 = .ok (.bipush 7, 2) := by decide +kernel
theorem dX6_firstWedding_35 : decode cX6_firstWedding 35 = .ok (.invokestatic 46, 3) := by decide +kernel
theorem dX6_firstWedding_38 : decode cX6_firstWedding 38 = .ok (.iadd, 1) := by decide +kernel
theorem dX6_firstWedding_39 : decode cX6_firstWedding 39 = .ok (.istore_n 3, 1) := by decide +kernel
theorem dX6_firstWedding_40 : decode cX6_firstWedding 40 = .ok (.iload_n 3, 1) := by decide +kernel
theorem dX6_firstWedding_41 : decode cX6_firstWedding 41 = .ok (.sipush 9999, 3) := by decide +kernel
theorem dX6_firstWedding_44 : decode cX6_firstWedding 44 = .ok (.if_icmp .gt 42, 3) := by decide +kernel
theorem dX6_firstWedding_47 : decode cX6_firstWedding 47 = .ok (.aload_n 0, 1) := by decide +kernel
theorem dX6_firstWedding_48 : decode cX6_firstWedding 48 = .ok (.getfield 9, 3) := by decide +kernel
theorem dX6_firstWedding_51 : decode cX6_firstWedding 51 = .ok (.iload_n 3, 1) := by decide +kernel
theorem dX6_firstWedding_52 : decode cX6_firstWedding 52 = .ok (.invokevirtual 49, 3) := by decide +kernel
theorem dX6_firstWedding_55 : decode cX6_firstWedding 55 = .ok (.istore 4, 2) := by decide +kernel
theorem dX6_firstWedding_57 : decode cX6_firstWedding 57 = .ok (.iload_n 2, 1) := by decide +kernel
theorem dX6_firstWedding_58 : decode cX6_firstWedding 58 = .ok (.iload 4, 2) := by decide +kernel
theorem dX6_firstWedding_60 : decode cX6_firstWedding 60 = .ok (.isub, 1) := by decide +kernel
theorem dX6_firstWedding_61 : decode cX6_firstWedding 61 = .ok (.aload_n 0, 1) := by decide +kernel
theorem dX6_firstWedding_62 : decode cX6_firstWedding 62 = .ok (.getfield 9, 3) := by decide +kernel
theorem dX6_firstWedding_65 : decode cX6_firstWedding 65 = .ok (.getfield 53, 3) := by decide +kernel
theorem dX6_firstWedding_68 : decode cX6_firstWedding 68 = .ok (.if_icmp .le 5, 3) := by decide +kernel
theorem dX6_firstWedding_71 : decode cX6_firstWedding 71 = .ok (.iload_n 3, 1) := by decide +kernel
theorem dX6_firstWedding_72 : decode cX6_firstWedding 72 = .ok (.ireturn, 1) := by decide +kernel
theorem dX6_firstWedding_73 : decode cX6_firstWedding 73 = .ok (.iload 4, 2) := by decide +kernel
theorem dX6_firstWedding_75 : decode cX6_firstWedding 75 = .ok (.ifCond .ne 5, 3) := by decide +kernel
theorem dX6_firstWedding_78 : decode cX6_firstWedding 78 = .ok (.iconst (-1), 1) := by decide +kernel
theorem dX6_firstWedding_79 : decode cX6_firstWedding 79 = .ok (.ireturn, 1) := by decide +kernel
theorem dX6_firstWedding_80 : decode cX6_firstWedding 80 = .ok (.iinc 3 7, 3) := by decide +kernel
theorem dX6_firstWedding_83 : decode cX6_firstWedding 83 = .ok (.goto (-43), 3) := by decide +kernel
theorem dX6_firstWedding_86 : decode cX6_firstWedding 86 = .ok (.iconst (-1), 1) := by decide +kernel
theorem dX6_firstWedding_87 : decode cX6_firstWedding 87 = .ok (.ireturn, 1) := by decide +kernel
def fX6_firstWedding_48_L4 (E28 : Int32 → Int32 → Option (Int32)) (S : Nat → Int32) (V : Nat → Nat → Int32) : Nat → Int32 → Int32 → Int32 → Option (Int32)
  | 0, _, _, _ => none
  | n + 1, x1, x2, x3 =>
    (if (24 : Int32) ≤ x3 then
    E28 x1 x2
    else
    bd1 (fX6_swingIn_48 S V x3 (0 : Int32) (-1 : Int32)) (fun r5 =>
    bd1 (fJ9_max_7cf53 x2 r5) (fun r7 =>
    lt (x3 + (1 : Int32)) (fun x9 =>
    fX6_firstWedding_48_L4 E28 S V n x1 r7 x9))))
def fX6_firstWedding_48_L40 (S : Nat → Int32) (V : Nat → Nat → Int32) : Nat → Int32 → Int32 → Option (Int32)
  | 0, _, _ => none
  | n + 1, x18, x19 =>
    (if (9999 : Int32) < x19 then
    some (-1 : Int32)
    else
    bd1 (fX2_oilLeft_3 S x19) (fun r21 =>
    (if (x18 - r21) ≤ (S 303) then
    (if r21 = 0 then
    some (-1 : Int32)
    else
    lt (x19 + (7 : Int32)) (fun x25 =>
    fX6_firstWedding_48_L40 S V n x18 x25))
    else
    some x19)))
def fX6_firstWedding_48 (S : Nat → Int32) (V : Nat → Nat → Int32) (a1 : Int32) : Option (Int32) :=
  bk (fun (x13 : Int32) (x14 : Int32) =>
  bd1 (fJ9_floorMod_7cf53 (((6 : Int32) - x13)) (7 : Int32)) (fun r15 =>
  lt ((x13 + r15)) (fun x17 =>
  fX6_firstWedding_48_L40 S V FU x14 x17))) (fun X28_12 =>
  fX6_firstWedding_48_L4 X28_12 S V FU a1 (0 : Int32) (0 : Int32))
set_option maxHeartbeats 4000000 in
set_option maxRecDepth 100000 in
theorem kX6_firstWedding_48 (l : Launch) (B : jBT) (D : va_G) (ad : Nat → Nat) (cA : Nat → ClassId) (hI : jI ad TC) (S : Nat → Int32) (V : Nat → Nat → Int32) (L : Nat → Int64) (a1 : Int32) (r0 : Int32) (h : fX6_firstWedding_48 S V a1 = some r0) : jM l yX6_firstWedding cX6_firstWedding 5 (some .int) ({ frames := 3, cells := 0, slots := 0, locals := 71 }) B D TC ad cA [.ref (ad 48), .int a1] S V L (some (.int r0)) S V L := by
  refine jM_of (by decide) TC_ok hI (Nat.le_of_ble_eq_true rfl) ?_
  intro p e s m args below meth c C hr hlk
  refine j_lv (lv2 := [(0, .ref (ad 48)), (1, .int a1)]) rfl ?_
  unfold fX6_firstWedding_48 at h
  have H_fX6_firstWedding_48_L4 : ∀ (E28 : Int32 → Int32 → Option (Int32)) (_ : ∀ (x10 : Int32) (x11 : Int32), E28 x10 x11 = some r0 → jW p l e ({ frames := 3, cells := 0, slots := 0, locals := 71 }) s m args below meth c (MQ below (jQc D TC ad cA (some (.int r0)) s.heap.size S V L) args s 0 0 (jA ad TC s.heap.size)) D TC ad cA (jA ad TC s.heap.size) 5 0 0 28 [(0, .ref (ad 48)), (1, .int x10), (2, .int x11)] [] S V L) (n : Nat) (x1 : Int32) (x2 : Int32) (x3 : Int32), fX6_firstWedding_48_L4 E28 S V n x1 x2 x3 = some r0 → jW p l e ({ frames := 3, cells := 0, slots := 0, locals := 71 }) s m args below meth c (MQ below (jQc D TC ad cA (some (.int r0)) s.heap.size S V L) args s 0 0 (jA ad TC s.heap.size)) D TC ad cA (jA ad TC s.heap.size) 5 0 0 4 [(0, .ref (ad 48)), (1, .int x1), (2, .int x2), (3, .int x3)] [] S V L := by
    intro E28 HE28
    intro n
    induction n with
    | zero =>
      intro x1 x2 x3 h
      cases (show (none : Option (Int32)) = some r0 from h)
    | succ n ih =>
      intro x1 x2 x3 h
      unfold fX6_firstWedding_48_L4 at h
      refine j_iload_n C 3 rfl dX6_firstWedding_4 rfl ?_
      refine j_bipush C dX6_firstWedding_5 cb_24 ?_
      refine j_icmp_ge (tgt := 28) C dX6_firstWedding_7 (by decide) (fun c4 => ?_) (fun c4 => ?_)
      · have h := (if_pos c4).symm.trans h
        exact j_sub [0, 1, 2] rfl (HE28 _ _ h)
      · have h := (if_neg c4).symm.trans h
        refine j_iload_n C 2 rfl dX6_firstWedding_10 rfl ?_
        refine j_aload_n C 0 rfl dX6_firstWedding_11 rfl ?_
        refine j_iload_n C 3 rfl dX6_firstWedding_12 rfl ?_
        refine j_iconst C dX6_firstWedding_13 ci_0 ?_
        refine j_iconst C dX6_firstWedding_14 ci_m1 ?_
        obtain ⟨r5, h6, h⟩ := bd1_elim h
        refine j_callV (As := [.int x3, .int (0 : Int32), .int (-1 : Int32)]) (rest := [.int x2]) C (kX6_swingIn_48 l B D ad cA hI S V L x3 (0 : Int32) (-1 : Int32) _ h6) mw_X6_swingIn wd1133 wd1134 wd1159 tc_48 rfl rfl ⟨rfl, rfl, by decide, by decide⟩ ⟨Nat.zero_le _, Nat.zero_le _⟩ rfl rfl (Nat.le_of_ble_eq_true rfl) dX6_firstWedding_15 ?_
        obtain ⟨r7, h8, h⟩ := bd1_elim h
        refine j_callS (As := [.int x2, .int r5]) (rest := []) C (kJ9_max_7cf53 l B D ad cA hI S V L x2 r5 _ h8) mw_J9_max_7cf53 wd770 wd1375 ⟨rfl, rfl, by decide, by decide⟩ ⟨Nat.zero_le _, Nat.zero_le _⟩ rfl rfl (Nat.le_of_ble_eq_true rfl) dX6_firstWedding_18 ?_
        refine j_istore_n C [(2, .int r7), (0, .ref (ad 48)), (1, .int x1), (3, .int x3)] dX6_firstWedding_21 rfl (by decide) rfl ?_
        refine lt_elim h (fun x9 e_x9 h => ?_)
        refine j_iinc C [(3, .int x9), (2, .int r7), (0, .ref (ad 48)), (1, .int x1)] 3 dX6_firstWedding_22 rfl ((iinc_eq ci_1).trans e_x9.symm) (by decide) rfl ?_
        refine j_goto (tgt := 4) C dX6_firstWedding_25 (by decide) ?_
        exact j_sub [2, 3, 1, 0] rfl (ih _ _ _ h)
  have H_fX6_firstWedding_48_L40 : ∀ (n : Nat) (x18 : Int32) (x19 : Int32), fX6_firstWedding_48_L40 S V n x18 x19 = some r0 → jW p l e ({ frames := 3, cells := 0, slots := 0, locals := 71 }) s m args below meth c (MQ below (jQc D TC ad cA (some (.int r0)) s.heap.size S V L) args s 0 0 (jA ad TC s.heap.size)) D TC ad cA (jA ad TC s.heap.size) 5 0 0 40 [(0, .ref (ad 48)), (2, .int x18), (3, .int x19)] [] S V L := by
    intro n
    induction n with
    | zero =>
      intro x18 x19 h
      cases (show (none : Option (Int32)) = some r0 from h)
    | succ n ih =>
      intro x18 x19 h
      unfold fX6_firstWedding_48_L40 at h
      refine j_iload_n C 2 rfl dX6_firstWedding_40 rfl ?_
      refine j_sipush C dX6_firstWedding_41 cs_9999 ?_
      refine j_icmp_gt (tgt := 86) C dX6_firstWedding_44 (by decide) (fun c20 => ?_) (fun c20 => ?_)
      · have h := (if_pos c20).symm.trans h
        refine j_iconst C dX6_firstWedding_86 ci_m1 ?_
        cases h
        exact j_iret C hr hlk rfl dX6_firstWedding_87
      · have h := (if_neg c20).symm.trans h
        refine j_aload_n C 0 rfl dX6_firstWedding_47 rfl ?_
        refine fg_X6_9_TC_48 C dX6_firstWedding_48 ?_
        refine j_iload_n C 2 rfl dX6_firstWedding_51 rfl ?_
        obtain ⟨r21, h22, h⟩ := bd1_elim h
        refine j_callV (As := [.int x19]) (rest := []) C (kX2_oilLeft_3 l B D ad cA hI S V L x19 _ h22) mw_X2_oilLeft wd1128 wd1129 wd1379 tc_3 rfl rfl ⟨rfl, rfl, by decide, by decide⟩ ⟨Nat.zero_le _, Nat.zero_le _⟩ rfl rfl (Nat.le_of_ble_eq_true rfl) dX6_firstWedding_52 ?_
        refine j_istore C [(4, .int r21), (0, .ref (ad 48)), (2, .int x18), (3, .int x19)] dX6_firstWedding_55 (by decide) rfl ?_
        refine j_iload_n C 2 rfl dX6_firstWedding_57 rfl ?_
        refine j_iload C 0 rfl dX6_firstWedding_58 ?_
        refine j_isub C dX6_firstWedding_60 ?_
        refine j_aload_n C 1 rfl dX6_firstWedding_61 rfl ?_
        refine fg_X6_9_TC_48 C dX6_firstWedding_62 ?_
        refine fg_X6_53_TC_3 C dX6_firstWedding_65 ?_
        refine j_icmp_le (tgt := 73) C dX6_firstWedding_68 (by decide) (fun c23 => ?_) (fun c23 => ?_)
        · have h := (if_pos c23).symm.trans h
          refine j_iload C 0 rfl dX6_firstWedding_73 ?_
          refine j_if_ne (tgt := 80) C dX6_firstWedding_75 (by decide) (fun c24 => ?_) (fun c24 => ?_)
          · have h := (if_neg c24).symm.trans h
            refine lt_elim h (fun x25 e_x25 h => ?_)
            refine j_iinc C [(3, .int x25), (4, .int r21), (0, .ref (ad 48)), (2, .int x18)] 3 dX6_firstWedding_80 rfl ((iinc_eq ci_7).trans e_x25.symm) (by decide) rfl ?_
            refine j_goto (tgt := 40) C dX6_firstWedding_83 (by decide) ?_
            exact j_sub [2, 3, 0] rfl (ih _ _ h)
          · have h := (if_pos c24).symm.trans h
            refine j_iconst C dX6_firstWedding_78 ci_m1 ?_
            cases h
            exact j_iret C hr hlk rfl dX6_firstWedding_79
        · have h := (if_neg c23).symm.trans h
          refine j_iload_n C 3 rfl dX6_firstWedding_71 rfl ?_
          cases h
          exact j_iret C hr hlk rfl dX6_firstWedding_72
  refine j_iconst C dX6_firstWedding_0 ci_0 ?_
  refine j_istore_n C [(2, .int (0 : Int32)), (0, .ref (ad 48)), (1, .int a1)] dX6_firstWedding_1 rfl (by decide) rfl ?_
  refine j_iconst C dX6_firstWedding_2 ci_0 ?_
  refine j_istore_n C [(3, .int (0 : Int32)), (2, .int (0 : Int32)), (0, .ref (ad 48)), (1, .int a1)] dX6_firstWedding_3 rfl (by decide) rfl ?_
  refine bk_elim h (fun X28_12 e_X28_12 h => ?_)
  have HX28_12 : ∀ (x13 : Int32) (x14 : Int32), X28_12 x13 x14 = some r0 → jW p l e ({ frames := 3, cells := 0, slots := 0, locals := 71 }) s m args below meth c (MQ below (jQc D TC ad cA (some (.int r0)) s.heap.size S V L) args s 0 0 (jA ad TC s.heap.size)) D TC ad cA (jA ad TC s.heap.size) 5 0 0 28 [(0, .ref (ad 48)), (1, .int x13), (2, .int x14)] [] S V L := by
    subst e_X28_12
    intro x13 x14 h
    refine j_iload_n C 1 rfl dX6_firstWedding_28 rfl ?_
    refine j_bipush C dX6_firstWedding_29 cb_6 ?_
    refine j_iload_n C 1 rfl dX6_firstWedding_31 rfl ?_
    refine j_isub C dX6_firstWedding_32 ?_
    refine j_bipush C dX6_firstWedding_33 cb_7 ?_
    obtain ⟨r15, h16, h⟩ := bd1_elim h
    refine j_callS (As := [.int ((6 : Int32) - x13), .int (7 : Int32)]) (rest := [.int x13]) C (kJ9_floorMod_7cf53 l B D ad cA hI S V L (((6 : Int32) - x13)) (7 : Int32) _ h16) mw_J9_floorMod_7cf53 wd1377 wd1376 ⟨rfl, rfl, by decide, by decide⟩ ⟨Nat.zero_le _, Nat.zero_le _⟩ rfl rfl (Nat.le_of_ble_eq_true rfl) dX6_firstWedding_35 ?_
    refine j_iadd C dX6_firstWedding_38 ?_
    refine lt_elim h (fun x17 e_x17 h => ?_)
    refine j_top e_x17 ?_
    refine j_istore_n C [(3, .int x17), (0, .ref (ad 48)), (1, .int x13), (2, .int x14)] dX6_firstWedding_39 rfl (by decide) rfl ?_
    exact j_sub [1, 3, 0] rfl (H_fX6_firstWedding_48_L40 FU _ _ h)
  exact j_sub [2, 3, 1, 0] rfl (H_fX6_firstWedding_48_L4 _ HX28_12 FU _ _ _ h)
