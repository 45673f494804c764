theorem dX6_hoursHere_0 : decode cX6_hoursHere 0 = .ok (.iconst 0, 1) := by decide +kernel
theorem dX6_hoursHere_1 : decode cX6_hoursHere 1 = .ok (.istore 4, 2) := by decide +kernel
theorem dX6_hoursHere_3 : decode cX6_hoursHere 3 = .ok (.iconst 1, 1) := by decide +kernel
theorem dX6_hoursHere_4 : decode cX6_hoursHere 4 = .ok (.istore 5, 2) := by decide +kernel
theorem dX6_hoursHere_6 : decode cX6_hoursHere 6 = .ok (.iload 5, 2) := by decide +kernel
theorem dX6_hoursHere_8 : decode cX6_hoursHere 8 = .ok (.aload_n 0, 1) := by decide +kernel
theorem dX6_hoursHere_9 : decode cX6_hoursHere 9 = .ok (.getfield 9, 3) := by decide +kernel
theorem dX6_hoursHere_12 : decode cX6_hoursHere 12 = .ok (.getfield 66, 3) := by decide +kernel
theorem dX6_hoursHere_15 : decode cX6_hoursHere 15 = .ok (.iload_n 1, 1) := by decide +kernel
theorem dX6_hoursHere_16 : decode cX6_hoursHere 16 = .ok (.iaload, 1) := by decide +kernel
theorem dX6_hoursHere_17 : decode cX6_hoursHere 17 = .ok (.if_icmp .gt 34, 3) := by decide +kernel
theorem dX6_hoursHere_20 : decode cX6_hoursHere 20 = .ok (.aload_n 0, 1) := by decide +kernel
theorem dX6_hoursHere_21 : decode cX6_hoursHere 21 = .ok (.iload_n 1, 1) := by decide +kernel
theorem dX6_hoursHere_22 : decode cX6_hoursHere 22 = .ok (.iload_n 2, 1) := by decide +kernel
theorem dX6_hoursHere_23 : decode cX6_hoursHere 23 = .ok (.iload_n 3, 1) := by decide +kernel
theorem dX6_hoursHere_24 : decode cX6_hoursHere 24 = .ok (.iload 5, 2) := by decide +kernel
theorem dX6_hoursHere_26 : decode cX6_hoursHere 26 = .ok (.invokevirtual 70, 3) := by decide +kernel
theorem dX6_hoursHere_29 : decode cX6_hoursHere 29 = .ok (.aload_n 0, 1) := by decide +kernel
theorem dX6_hoursHere_30 : decode cX6_hoursHere 30 = .ok (.iload_n 1, 1) := by decide +kernel
theorem dX6_hoursHere_31 : decode cX6_hoursHere 31 = .ok (.iload_n 2, 1) := by decide +kernel
theorem dX6_hoursHere_32 : decode cX6_hoursHere 32 = .ok (.iload_n 3, 1) := by decide +kernel
theorem dX6_hoursHere_33 : decode cX6_hoursHere 33 = .ok (.iload 4, 2) := by decide +kernel
theorem dX6_hoursHere_35 : decode cX6_hoursHere 35 = .ok (.invokevirtual 70, 3) := by decide +kernel
theorem dX6_hoursHere_38 : decode cX6_hoursHere 38 = .ok (.if_icmp .ge 7, 3) := by decide +kernel
theorem dX6_hoursHere_41 : decode cX6_hoursHere 41 = .ok (.iload 5, 2) := by decide +kernel
theorem dX6_hoursHere_43 : decode cX6_hoursHere 43 = .ok (.istore 4, 2) := by decide +kernel
theorem dX6_hoursHere_45 : decode cX6_hoursHere 45 = .ok (.iinc 5 1, 3) := by decide +kernel
theorem dX6_hoursHere_48 : decode cX6_hoursHere 48 = .ok (.goto (-42), 3) := by decide +kernel
theorem dX6_hoursHere_51 : decode cX6_hoursHere 51 = .ok (.iload 4, 2) := by decide +kernel
theorem dX6_hoursHere_53 : decode cX6_hoursHere 53 = .ok (.ireturn, 1) := by decide +kernel
def fX6_hoursHere_48_L6 (V : Nat → Nat → Int32) : Nat → Int32 → Int32 → Int32 → Int32 → Int32 → Option (Int32)
  | 0, _, _, _, _, _ => none
  | n + 1, x1, x2, x3, x4, x5 =>
    gd (ib x1 6) (
    (if (V 6 (x1).toNatClampNeg) < x5 then
    some x4
    else
    bd1 (fX6_fartherOfBoth_48 V x1 x2 x3 x5) (fun r8 =>
    bd1 (fX6_fartherOfBoth_48 V x1 x2 x3 x4) (fun r10 =>
    bk (fun (x13 : Int32) (x14 : Int32) (x15 : Int32) (x16 : Int32) (x17 : Int32) =>
    lt (x17 + (1 : Int32)) (fun x18 =>
    fX6_hoursHere_48_L6 V n x13 x14 x15 x16 x18)) (fun K45_12 =>
    (if r10 ≤ r8 then
    K45_12 x1 x2 x3 x4 x5
    else
    K45_12 x1 x2 x3 x5 x5))))))
def fX6_hoursHere_48 (V : Nat → Nat → Int32) (a1 : Int32) (a2 : Int32) (a3 : Int32) : Option (Int32) :=
  fX6_hoursHere_48_L6 V FU a1 a2 a3 (0 : Int32) (1 : Int32)
set_option maxHeartbeats 4000000 in
set_option maxRecDepth 100000 in
theorem kX6_hoursHere_48 (l : Launch) (B : jBT) (D : va_G) (ad : Nat → Nat) (cA : Nat → ClassId) (hI : jI ad TC) (S : Nat → Int32) (V : Nat → Nat → Int32) (L : Nat → Int64) (a1 : Int32) (a2 : Int32) (a3 : Int32) (r0 : Int32) (h : fX6_hoursHere_48 V a1 a2 a3 = some r0) : jM l yX6_hoursHere cX6_hoursHere 6 (some .int) ({ frames := 2, cells := 0, slots := 0, locals := 47 }) B D TC ad cA [.ref (ad 48), .int a1, .int a2, .int a3] S V L (some (.int r0)) S V L := by
  refine jM_of (by decide) TC_ok hI (Nat.le_of_ble_eq_true rfl) ?_
  intro p e s m args below meth c C hr hlk
  refine j_lv (lv2 := [(0, .ref (ad 48)), (1, .int a1), (2, .int a2), (3, .int a3)]) rfl ?_
  unfold fX6_hoursHere_48 at h
  have H_fX6_hoursHere_48_L6 : ∀ (n : Nat) (x1 : Int32) (x2 : Int32) (x3 : Int32) (x4 : Int32) (x5 : Int32), fX6_hoursHere_48_L6 V n x1 x2 x3 x4 x5 = some r0 → jW p l e ({ frames := 2, cells := 0, slots := 0, locals := 47 }) s m args below meth c (MQ below (jQc D TC ad cA (some (.int r0)) s.heap.size S V L) args s 0 0 (jA ad TC s.heap.size)) D TC ad cA (jA ad TC s.heap.size) 6 0 0 6 [(0, .ref (ad 48)), (1, .int x1), (2, .int x2), (3, .int x3), (4, .int x4), (5, .int x5)] [] S V L := by
    intro n
    induction n with
    | zero =>
      intro x1 x2 x3 x4 x5 h
      cases (show (none : Option (Int32)) = some r0 from h)
    | succ n ih =>
      intro x1 x2 x3 x4 x5 h
      unfold fX6_hoursHere_48_L6 at h
      refine j_iload C 5 rfl dX6_hoursHere_6 ?_
      refine j_aload_n C 0 rfl dX6_hoursHere_8 rfl ?_
      refine fg_X6_9_TC_48 C dX6_hoursHere_9 ?_
      refine fg_X6_66_TC_3 C dX6_hoursHere_12 ?_
      refine j_iload_n C 1 rfl dX6_hoursHere_15 rfl ?_
      obtain ⟨g6, h⟩ := gd_elim h
      refine j_iald C tc_6 (ib_in g6) dX6_hoursHere_16 ?_
      refine j_icmp_gt (tgt := 51) C dX6_hoursHere_17 (by decide) (fun c7 => ?_) (fun c7 => ?_)
      · have h := (if_pos c7).symm.trans h
        refine j_iload C 4 rfl dX6_hoursHere_51 ?_
        cases h
        exact j_iret C hr hlk rfl dX6_hoursHere_53
      · have h := (if_neg c7).symm.trans h
        refine j_aload_n C 0 rfl dX6_hoursHere_20 rfl ?_
        refine j_iload_n C 1 rfl dX6_hoursHere_21 rfl ?_
        refine j_iload_n C 2 rfl dX6_hoursHere_22 rfl ?_
        refine j_iload_n C 3 rfl dX6_hoursHere_23 rfl ?_
        refine j_iload C 5 rfl dX6_hoursHere_24 ?_
        obtain ⟨r8, h9, h⟩ := bd1_elim h
        refine j_callV (As := [.int x1, .int x2, .int x3, .int x5]) (rest := []) C (kX6_fartherOfBoth_48 l B D ad cA hI S V L x1 x2 x3 x5 _ h9) mw_X6_fartherOfBoth wd1414 wd1415 wd1413 tc_48 rfl rfl ⟨rfl, rfl, by decide, by decide⟩ ⟨Nat.zero_le _, Nat.zero_le _⟩ rfl rfl (Nat.le_of_ble_eq_true rfl) dX6_hoursHere_26 ?_
        refine j_aload_n C 0 rfl dX6_hoursHere_29 rfl ?_
        refine j_iload_n C 1 rfl dX6_hoursHere_30 rfl ?_
        refine j_iload_n C 2 rfl dX6_hoursHere_31 rfl ?_
        refine j_iload_n C 3 rfl dX6_hoursHere_32 rfl ?_
        refine j_iload C 4 rfl dX6_hoursHere_33 ?_
        obtain ⟨r10, h11, h⟩ := bd1_elim h
        refine j_callV (As := [.int x1, .int x2, .int x3, .int x4]) (rest := [.int r8]) C (kX6_fartherOfBoth_48 l B D ad cA hI S V L x1 x2 x3 x4 _ h11) mw_X6_fartherOfBoth wd1414 wd1415 wd1413 tc_48 rfl rfl ⟨rfl, rfl, by decide, by decide⟩ ⟨Nat.zero_le _, Nat.zero_le _⟩ rfl rfl (Nat.le_of_ble_eq_true rfl) dX6_hoursHere_35 ?_
        refine bk_elim h (fun K45_12 e_K45_12 h => ?_)
        have HK45_12 : ∀ (x13 : Int32) (x14 : Int32) (x15 : Int32) (x16 : Int32) (x17 : Int32), K45_12 x13 x14 x15 x16 x17 = some r0 → jW p l e ({ frames := 2, cells := 0, slots := 0, locals := 47 }) s m args below meth c (MQ below (jQc D TC ad cA (some (.int r0)) s.heap.size S V L) args s 0 0 (jA ad TC s.heap.size)) D TC ad cA (jA ad TC s.heap.size) 6 0 0 45 [(0, .ref (ad 48)), (1, .int x13), (2, .int x14), (3, .int x15), (4, .int x16), (5, .int x17)] [] S V L := by
          subst e_K45_12
          intro x13 x14 x15 x16 x17 h
          refine lt_elim h (fun x18 e_x18 h => ?_)
          refine j_iinc C [(5, .int x18), (0, .ref (ad 48)), (1, .int x13), (2, .int x14), (3, .int x15), (4, .int x16)] 5 dX6_hoursHere_45 rfl ((iinc_eq ci_1).trans e_x18.symm) (by decide) rfl ?_
          refine j_goto (tgt := 6) C dX6_hoursHere_48 (by decide) ?_
          exact j_sub [1, 2, 3, 4, 5, 0] rfl (ih _ _ _ _ _ h)
        refine j_icmp_ge (tgt := 45) C dX6_hoursHere_38 (by decide) (fun c19 => ?_) (fun c19 => ?_)
        · have h := (if_pos c19).symm.trans h
          exact j_sub [0, 1, 2, 3, 4, 5] rfl (HK45_12 _ _ _ _ _ h)
        · have h := (if_neg c19).symm.trans h
          refine j_iload C 5 rfl dX6_hoursHere_41 ?_
          refine j_istore C [(4, .int x5), (0, .ref (ad 48)), (1, .int x1), (2, .int x2), (3, .int x3), (5, .int x5)] dX6_hoursHere_43 (by decide) rfl ?_
          exact j_sub [1, 2, 3, 4, 0, 5] rfl (HK45_12 _ _ _ _ _ h)
  refine j_iconst C dX6_hoursHere_0 ci_0 ?_
  refine j_istore C [(4, .int (0 : Int32)), (0, .ref (ad 48)), (1, .int a1), (2, .int a2), (3, .int a3)] dX6_hoursHere_1 (by decide) rfl ?_
  refine j_iconst C dX6_hoursHere_3 ci_1 ?_
  refine j_istore C [(5, .int (1 : Int32)), (4, .int (0 : Int32)), (0, .ref (ad 48)), (1, .int a1), (2, .int a2), (3, .int a3)] dX6_hoursHere_4 (by decide) rfl ?_
  exact j_sub [2, 3, 4, 5, 1, 0] rfl (H_fX6_hoursHere_48_L6 FU _ _ _ _ _ h)
theorem dX6_slowInWind_0 : decode cX6_slowInWind 0 = .ok (.iload_n 1, 1) := by decide +kernel
theorem dX6_slowInWind_1 : decode cX6_slowInWind 1 = .ok (.istore 4, 2) := by decide +kernel
theorem dX6_slowInWind_3 : decode cX6_slowInWind 3 = .ok (.iconst 0, 1) := by decide +kernel
theorem dX6_slowInWind_4 : decode cX6_slowInWind 4 = .ok (.istore 5, 2) := by decide +kernel
theorem dX6_slowInWind_6 : decode cX6_slowInWind 6 = .ok (.iconst 0, 1) := by decide +kernel
theorem dX6_slowInWind_7 : decode cX6_slowInWind 7 = .ok (.istore 6, 2) := by decide +kernel
theorem dX6_slowInWind_9 : decode cX6_slowInWind 9 = .ok (.iload 6, 2) := by decide +kernel
theorem dX6_slowInWind_11 : decode cX6_slowInWind 11 = .ok (.iload_n 2, 1) := by decide +kernel
theorem dX6_slowInWind_12 : decode cX6_slowInWind 12 = .ok (.if_icmp .ge 73, 3) := by decide +kernel
theorem dX6_slowInWind_15 : decode cX6_slowInWind 15 = .ok (.iload 5, 2) := by decide +kernel
theorem dX6_slowInWind_17 : decode cX6_slowInWind 17 = .ok (.aload_n 0, 1) := by decide +kernel
theorem dX6_slowInWind_18 : decode cX6_slowInWind 18 = .ok (.aload_n 0, 1) := by decide +kernel
theorem dX6_slowInWind_19 : decode cX6_slowInWind 19 = .ok (.getfield 9, 3) := by decide +kernel
theorem dX6_slowInWind_22 : decode cX6_slowInWind 22 = .ok (.iload 6, 2) := by decide +kernel
theorem dX6_slowInWind_24 : decode cX6_slowInWind 24 = .ok (.invokevirtual 49, 3) := by decide +kernel
theorem dX6_slowInWind_27 : decode cX6_slowInWind 27 = .ok (.invokevirtual 57, 3) := by decide +kernel
theorem dX6_slowInWind_30 : decode cX6_slowInWind 30 = .ok (.iadd, 1) := by decide +kernel
theorem dX6_slowInWind_31 : decode cX6_slowInWind 31 = .ok (.istore 5, 2) := by decide +kernel
theorem dX6_slowInWind_33 : decode cX6_slowInWind 33 = .ok (.iconst 0, 1) := by decide +kernel
theorem dX6_slowInWind_34 : decode cX6_slowInWind 34 = .ok (.istore 7, 2) := by decide +kernel
theorem dX6_slowInWind_36 : decode cX6_slowInWind 36 = .ok (.iload 7, 2) := by decide +kernel
theorem dX6_slowInWind_38 : decode cX6_slowInWind 38 = .ok (.bipush 24, 2) := by decide +kernel
theorem dX6_slowInWind_40 : decode cX6_slowInWind 40 = .ok (.if_icmp .ge 39, 3) := by decide +kernel
theorem dX6_slowInWind_43 : decode cX6_slowInWind 43 = .ok (.iload 4, 2) := by decide +kernel
theorem dX6_slowInWind_45 : decode cX6_slowInWind 45 = .ok (.ldc 79, 2) := by decide +kernel
theorem dX6_slowInWind_47 : decode cX6_slowInWind 47 = .ok (.imul, 1) := by decide +kernel
theorem dX6_slowInWind_48 : decode cX6_slowInWind 48 = .ok (.sipush 12345, 3) := by decide +kernel
theorem dX6_slowInWind_51 : decode cX6_slowInWind 51 = .ok (.iadd, 1) := by decide +kernel
theorem dX6_slowInWind_52 : decode cX6_slowInWind 52 = .ok (.istore 4, 2) := by decide +kernel
theorem dX6_slowInWind_54 : decode cX6_slowInWind 54 = .ok (.iload 4, 2) := by decide +kernel
theorem dX6_slowInWind_56 : decode cX6_slowInWind 56 = .ok (.bipush 16, 2) := by decide +kernel
theorem dX6_slowInWind_58 : decode cX6_slowInWind 58 = .ok (.iushr, 1) := by decide +kernel
theorem dX6_slowInWind_59 : decode cX6_slowInWind 59 = .ok (.sipush 32767, 3) := by decide +kernel
theorem dX6_slowInWind_62 : decode cX6_slowInWind 62 = .ok (.iand, 1) := by decide +kernel
theorem dX6_slowInWind_63 : decode cX6_slowInWind 63 = .ok (.bipush 100, 2) := by decide +kernel
theorem dX6_slowInWind_65 : decode cX6_slowInWind 65 = .ok (.irem, 1) := by decide +kernel
theorem dX6_slowInWind_66 : decode cX6_slowInWind 66 = .ok (.iload_n 3, 1) := by decide +kernel
theorem dX6_slowInWind_67 : decode cX6_slowInWind 67 = .ok (.if_icmp .ge 6, 3) := by decide +kernel
theorem dX6_slowInWind_70 : decode cX6_slowInWind 70 = .ok (.iinc 5 (-5), 3) := by decide +kernel
theorem dX6_slowInWind_73 : decode cX6_slowInWind 73 = .ok (.iinc 7 1, 3) := by decide +kernel
theorem dX6_slowInWind_76 : decode cX6_slowInWind 76 = .ok (.goto (-40), 3) := by decide +kernel
theorem dX6_slowInWind_79 : decode cX6_slowInWind 79 = .ok (.iinc 6 1, 3) := by decide +kernel
theorem dX6_slowInWind_82 : decode cX6_slowInWind 82 = .ok (.goto (-73), 3) := by decide +kernel
theorem dX6_slowInWind_85 : decode cX6_slowInWind 85 = .ok (.iload 5, 2) := by decide +kernel
theorem dX6_slowInWind_87 : decode cX6_slowInWind 87 = .ok (.ireturn, 1) := by decide +kernel
def fX6_slowInWind_48_L36 (E79 : Int32 → Int32 → Int32 → Int32 → Int32 → Option (Int32)) (S : Nat → Int32) (V : Nat → Nat → Int32) : Nat → Int32 → Int32 → Int32 → Int32 → Int32 → Int32 → Option (Int32)
  | 0, _, _, _, _, _, _ => none
  | n + 1, x12, x13, x14, x15, x16, x17 =>
    (if (24 : Int32) ≤ x17 then
    E79 x12 x13 x14 x15 x16
    else
    lt (((x14 * (1103515245 : Int32)) + (12345 : Int32))) (fun x19 =>
    lt ((((x19).toUInt32 >>> (((16 : Int32)).toUInt32 &&& Int32.toUInt32 31)).toInt32 &&& (32767 : Int32))) (fun x20 =>
    bk (fun (x22 : Int32) (x23 : Int32) (x24 : Int32) (x25 : Int32) (x26 : Int32) (x27 : Int32) =>
    lt (x27 + (1 : Int32)) (fun x28 =>
    fX6_slowInWind_48_L36 E79 S V n x22 x23 x24 x25 x26 x28)) (fun K73_21 =>
    (if x13 ≤ (x20 - x20 / (100 : Int32) * (100 : Int32)) then
    K73_21 x12 x13 x19 x15 x16 x17
    else
    lt (x15 + (-5 : Int32)) (fun x30 =>
    K73_21 x12 x13 x19 x30 x16 x17))))))
def fX6_slowInWind_48_L9 (S : Nat → Int32) (V : Nat → Nat → Int32) : Nat → Int32 → Int32 → Int32 → Int32 → Int32 → Option (Int32)
  | 0, _, _, _, _, _ => none
  | n + 1, x1, x2, x3, x4, x5 =>
    (if x1 ≤ x5 then
    some x4
    else
    bd1 (fX2_oilLeft_3 S x5) (fun r7 =>
    bd1 (fX6_slownessOfDay_48 S V r7) (fun r9 =>
    lt ((x4 + r9)) (fun x11 =>
    bk (fun (x37 : Int32) (x38 : Int32) (x39 : Int32) (x40 : Int32) (x41 : Int32) =>
    lt (x41 + (1 : Int32)) (fun x42 =>
    fX6_slowInWind_48_L9 S V n x37 x38 x39 x40 x42)) (fun X79_36 =>
    fX6_slowInWind_48_L36 X79_36 S V FU x1 x2 x3 x11 x5 (0 : Int32))))))
def fX6_slowInWind_48 (S : Nat → Int32) (V : Nat → Nat → Int32) (a1 : Int32) (a2 : Int32) (a3 : Int32) : Option (Int32) :=
  fX6_slowInWind_48_L9 S V FU a2 a3 a1 (0 : Int32) (0 : Int32)
set_option maxHeartbeats 4000000 in
set_option maxRecDepth 100000 in
theorem kX6_slowInWind_48 (l : Launch) (B : jBT) (D : va_G) (ad : Nat → Nat) (cA : Nat → ClassId) (hI : jI ad TC) (S : Nat → Int32) (V : Nat → Nat → Int32) (L : Nat → Int64) (a1 : Int32) (a2 : Int32) (a3 : Int32) (r0 : Int32) (h : fX6_slowInWind_48 S V a1 a2 a3 = some r0) : jM l yX6_slowInWind cX6_slowInWind 8 (some .int) ({ frames := 5, cells := 0, slots := 0, locals := 118 }) B D TC ad cA [.ref (ad 48), .int a1, .int a2, .int a3] S V L (some (.int r0)) S V L := by
  refine jM_of (by decide) TC_ok hI (Nat.le_of_ble_eq_true rfl) ?_
  intro p e s m args below meth c C hr hlk
  refine j_lv (lv2 := [(0, .ref (ad 48)), (1, .int a1), (2, .int a2), (3, .int a3)]) rfl ?_
  unfold fX6_slowInWind_48 at h
  have H_fX6_slowInWind_48_L36 : ∀ (E79 : Int32 → Int32 → Int32 → Int32 → Int32 → Option (Int32)) (_ : ∀ (x31 : Int32) (x32 : Int32) (x33 : Int32) (x34 : Int32) (x35 : Int32), E79 x31 x32 x33 x34 x35 = some r0 → jW p l e ({ frames := 5, cells := 0, slots := 0, locals := 118 }) s m args below meth c (MQ below (jQc D TC ad cA (some (.int r0)) s.heap.size S V L) args s 0 0 (jA ad TC s.heap.size)) D TC ad cA (jA ad TC s.heap.size) 8 0 0 79 [(0, .ref (ad 48)), (2, .int x31), (3, .int x32), (4, .int x33), (5, .int x34), (6, .int x35)] [] S V L) (n : Nat) (x12 : Int32) (x13 : Int32) (x14 : Int32) (x15 : Int32) (x16 : Int32) (x17 : Int32), fX6_slowInWind_48_L36 E79 S V n x12 x13 x14 x15 x16 x17 = some r0 → jW p l e ({ frames := 5, cells := 0, slots := 0, locals := 118 }) s m args below meth c (MQ below (jQc D TC ad cA (some (.int r0)) s.heap.size S V L) args s 0 0 (jA ad TC s.heap.size)) D TC ad cA (jA ad TC s.heap.size) 8 0 0 36 [(0, .ref (ad 48)), (2, .int x12), (3, .int x13), (4, .int x14), (5, .int x15), (6, .int x16), (7, .int x17)] [] S V L := by
    intro E79 HE79
    intro n
    induction n with
    | zero =>
      intro x12 x13 x14 x15 x16 x17 h
      cases (show (none : Option (Int32)) = some r0 from h)
    | succ n ih =>
      intro x12 x13 x14 x15 x16 x17 h
      unfold fX6_slowInWind_48_L36 at h
      refine j_iload C 6 rfl dX6_slowInWind_36 ?_
      refine j_bipush C dX6_slowInWind_38 cb_24 ?_
      refine j_icmp_ge (tgt := 79) C dX6_slowInWind_40 (by decide) (fun c18 => ?_) (fun c18 => ?_)
      · have h := (if_pos c18).symm.trans h
        exact j_sub [0, 1, 2, 3, 4, 5] rfl (HE79 _ _ _ _ _ h)
      · have h := (if_neg c18).symm.trans h
        refine j_iload C 3 rfl dX6_slowInWind_43 ?_
        refine j_ldc C wd1431 dX6_slowInWind_45 ?_
        refine j_imul C dX6_slowInWind_47 ?_
        refine j_sipush C dX6_slowInWind_48 cs_12345 ?_
        refine j_iadd C dX6_slowInWind_51 ?_
        refine lt_elim h (fun x19 e_x19 h => ?_)
        refine j_top e_x19 ?_
        refine j_istore C [(4, .int x19), (0, .ref (ad 48)), (2, .int x12), (3, .int x13), (5, .int x15), (6, .int x16), (7, .int x17)] dX6_slowInWind_52 (by decide) rfl ?_
        refine j_iload C 0 rfl dX6_slowInWind_54 ?_
        refine j_bipush C dX6_slowInWind_56 cb_16 ?_
        refine j_iushr C dX6_slowInWind_58 ?_
        refine j_sipush C dX6_slowInWind_59 cs_32767 ?_
        refine j_iand C dX6_slowInWind_62 ?_
        refine j_bipush C dX6_slowInWind_63 cb_100 ?_
        refine lt_elim h (fun x20 e_x20 h => ?_)
        refine j_top2 e_x20 ?_
        refine j_irem C dX6_slowInWind_65 (by decide) ?_
        refine j_iload_n C 3 rfl dX6_slowInWind_66 rfl ?_
        refine bk_elim h (fun K73_21 e_K73_21 h => ?_)
        have HK73_21 : ∀ (x22 : Int32) (x23 : Int32) (x24 : Int32) (x25 : Int32) (x26 : Int32) (x27 : Int32), K73_21 x22 x23 x24 x25 x26 x27 = some r0 → jW p l e ({ frames := 5, cells := 0, slots := 0, locals := 118 }) s m args below meth c (MQ below (jQc D TC ad cA (some (.int r0)) s.heap.size S V L) args s 0 0 (jA ad TC s.heap.size)) D TC ad cA (jA ad TC s.heap.size) 8 0 0 73 [(0, .ref (ad 48)), (2, .int x22), (3, .int x23), (4, .int x24), (5, .int x25), (6, .int x26), (7, .int x27)] [] S V L := by
          subst e_K73_21
          intro x22 x23 x24 x25 x26 x27 h
          refine lt_elim h (fun x28 e_x28 h => ?_)
          refine j_iinc C [(7, .int x28), (0, .ref (ad 48)), (2, .int x22), (3, .int x23), (4, .int x24), (5, .int x25), (6, .int x26)] 6 dX6_slowInWind_73 rfl ((iinc_eq ci_1).trans e_x28.symm) (by decide) rfl ?_
          refine j_goto (tgt := 36) C dX6_slowInWind_76 (by decide) ?_
          exact j_sub [1, 2, 3, 4, 5, 6, 0] rfl (ih _ _ _ _ _ _ h)
        refine j_icmp_ge (tgt := 73) C dX6_slowInWind_67 (by decide) (fun c29 => ?_) (fun c29 => ?_)
        · have h := (if_pos c29).symm.trans h
          exact j_sub [1, 2, 3, 0, 4, 5, 6] rfl (HK73_21 _ _ _ _ _ _ h)
        · have h := (if_neg c29).symm.trans h
          refine lt_elim h (fun x30 e_x30 h => ?_)
          refine j_iinc C [(5, .int x30), (4, .int x19), (0, .ref (ad 48)), (2, .int x12), (3, .int x13), (6, .int x16), (7, .int x17)] 4 dX6_slowInWind_70 rfl ((iinc_eq ci_m5).trans e_x30.symm) (by decide) rfl ?_
          exact j_sub [2, 3, 4, 1, 0, 5, 6] rfl (HK73_21 _ _ _ _ _ _ h)
  have H_fX6_slowInWind_48_L9 : ∀ (n : Nat) (x1 : Int32) (x2 : Int32) (x3 : Int32) (x4 : Int32) (x5 : Int32), fX6_slowInWind_48_L9 S V n x1 x2 x3 x4 x5 = some r0 → jW p l e ({ frames := 5, cells := 0, slots := 0, locals := 118 }) s m args below meth c (MQ below (jQc D TC ad cA (some (.int r0)) s.heap.size S V L) args s 0 0 (jA ad TC s.heap.size)) D TC ad cA (jA ad TC s.heap.size) 8 0 0 9 [(0, .ref (ad 48)), (2, .int x1), (3, .int x2), (4, .int x3), (5, .int x4), (6, .int x5)] [] S V L := by
    intro n
    induction n with
    | zero =>
      intro x1 x2 x3 x4 x5 h
      cases (show (none : Option (Int32)) = some r0 from h)
    | succ n ih =>
      intro x1 x2 x3 x4 x5 h
      unfold fX6_slowInWind_48_L9 at h
      refine j_iload C 5 rfl dX6_slowInWind_9 ?_
      refine j_iload_n C 1 rfl dX6_slowInWind_11 rfl ?_
      refine j_icmp_ge (tgt := 85) C dX6_slowInWind_12 (by decide) (fun c6 => ?_) (fun c6 => ?_)
      · have h := (if_pos c6).symm.trans h
        refine j_iload C 4 rfl dX6_slowInWind_85 ?_
        cases h
        exact j_iret C hr hlk rfl dX6_slowInWind_87
      · have h := (if_neg c6).symm.trans h
        refine j_iload C 4 rfl dX6_slowInWind_15 ?_
        refine j_aload_n C 0 rfl dX6_slowInWind_17 rfl ?_
        refine j_aload_n C 0 rfl dX6_slowInWind_18 rfl ?_
        refine fg_X6_9_TC_48 C dX6_slowInWind_19 ?_
        refine j_iload C 5 rfl dX6_slowInWind_22 ?_
        obtain ⟨r7, h8, h⟩ := bd1_elim h
        refine j_callV (As := [.int x5]) (rest := [.ref (ad 48), .int x4]) C (kX2_oilLeft_3 l B D ad cA hI S V L x5 _ h8) mw_X2_oilLeft wd1128 wd1129 wd1379 tc_3 rfl rfl ⟨rfl, rfl, by decide, by decide⟩ ⟨Nat.zero_le _, Nat.zero_le _⟩ rfl rfl (Nat.le_of_ble_eq_true rfl) dX6_slowInWind_24 ?_
        obtain ⟨r9, h10, h⟩ := bd1_elim h
        refine j_callV (As := [.int r7]) (rest := [.int x4]) C (kX6_slownessOfDay_48 l B D ad cA hI S V L r7 _ h10) mw_X6_slownessOfDay wd1168 wd1169 wd1391 tc_48 rfl rfl ⟨rfl, rfl, by decide, by decide⟩ ⟨Nat.zero_le _, Nat.zero_le _⟩ rfl rfl (Nat.le_of_ble_eq_true rfl) dX6_slowInWind_27 ?_
        refine j_iadd C dX6_slowInWind_30 ?_
        refine lt_elim h (fun x11 e_x11 h => ?_)
        refine j_top e_x11 ?_
        refine j_istore C [(5, .int x11), (0, .ref (ad 48)), (2, .int x1), (3, .int x2), (4, .int x3), (6, .int x5)] dX6_slowInWind_31 (by decide) rfl ?_
        refine j_iconst C dX6_slowInWind_33 ci_0 ?_
        refine j_istore C [(7, .int (0 : Int32)), (5, .int x11), (0, .ref (ad 48)), (2, .int x1), (3, .int x2), (4, .int x3), (6, .int x5)] dX6_slowInWind_34 (by decide) rfl ?_
        refine bk_elim h (fun X79_36 e_X79_36 h => ?_)
        have HX79_36 : ∀ (x37 : Int32) (x38 : Int32) (x39 : Int32) (x40 : Int32) (x41 : Int32), X79_36 x37 x38 x39 x40 x41 = some r0 → jW p l e ({ frames := 5, cells := 0, slots := 0, locals := 118 }) s m args below meth c (MQ below (jQc D TC ad cA (some (.int r0)) s.heap.size S V L) args s 0 0 (jA ad TC s.heap.size)) D TC ad cA (jA ad TC s.heap.size) 8 0 0 79 [(0, .ref (ad 48)), (2, .int x37), (3, .int x38), (4, .int x39), (5, .int x40), (6, .int x41)] [] S V L := by
          subst e_X79_36
          intro x37 x38 x39 x40 x41 h
          refine lt_elim h (fun x42 e_x42 h => ?_)
          refine j_iinc C [(6, .int x42), (0, .ref (ad 48)), (2, .int x37), (3, .int x38), (4, .int x39), (5, .int x40)] 5 dX6_slowInWind_79 rfl ((iinc_eq ci_1).trans e_x42.symm) (by decide) rfl ?_
          refine j_goto (tgt := 9) C dX6_slowInWind_82 (by decide) ?_
          exact j_sub [1, 2, 3, 4, 5, 0] rfl (ih _ _ _ _ _ h)
        exact j_sub [2, 3, 4, 5, 1, 6, 0] rfl (H_fX6_slowInWind_48_L36 _ HX79_36 FU _ _ _ _ _ _ h)
  refine j_iload_n C 1 rfl dX6_slowInWind_0 rfl ?_
  refine j_istore C [(4, .int a1), (0, .ref (ad 48)), (1, .int a1), (2, .int a2), (3, .int a3)] dX6_slowInWind_1 (by decide) rfl ?_
  refine j_iconst C dX6_slowInWind_3 ci_0 ?_
  refine j_istore C [(5, .int (0 : Int32)), (4, .int a1), (0, .ref (ad 48)), (1, .int a1), (2, .int a2), (3, .int a3)] dX6_slowInWind_4 (by decide) rfl ?_
  refine j_iconst C dX6_slowInWind_6 ci_0 ?_
  refine j_istore C [(6, .int (0 : Int32)), (5, .int (0 : Int32)), (4, .int a1), (0, .ref (ad 48)), (1, .int a1), (2, .int a2), (3, .int a3)] dX6_slowInWind_7 (by decide) rfl ?_
  exact j_sub [3, 5, 6, 2, 1, 0] rfl (H_fX6_slowInWind_48_L9 FU _ _ _ _ _ h)
theorem dX7_canVisit_0 : decode cX7_canVisit 0 = .ok (.iconst 1, 1) := by decide +kernel
theorem dX7_canVisit_1 : decode cX7_canVisit 1 = .ok (.istore_n 3, 1) := by decide +kernel
theorem dX7_canVisit_2 : decode cX7_canVisit 2 = .ok (.iload_n 3, 1) := by decide +kernel
theorem dX7_canVisit_3 : decode cX7_canVisit 3 = .ok (.iload_n 1, 1) := by decide +kernel
theorem dX7_canVisit_4 : decode cX7_canVisit 4 = .ok (.if_icmp .gt 37, 3) := by decide +kernel
theorem dX7_canVisit_7 : decode cX7_canVisit 7 = .ok (.iload_n 3, 1) := by decide +kernel
theorem dX7_canVisit_8 : decode cX7_canVisit 8 = .ok (.iload_n 1, 1) := by decide +kernel
theorem dX7_canVisit_9 : decode cX7_canVisit 9 = .ok (.iconst (-1), 1) := by decide +kernel
theorem dX7_canVisit_10 : decode cX7_canVisit 10 = .ok (.ixor, 1) := by decide +kernel
theorem dX7_canVisit_11 : decode cX7_canVisit 11 = .ok (.iand, 1) := by decide +kernel
theorem dX7_canVisit_12 : decode cX7_canVisit 12 = .ok (.ifCond .ne 23, 3) := by decide +kernel
theorem dX7_canVisit_15 : decode cX7_canVisit 15 = .ok (.aload_n 0, 1) := by decide +kernel
theorem dX7_canVisit_16 : decode cX7_canVisit 16 = .ok (.getfield 9, 3) := by decide +kernel
theorem dX7_canVisit_19 : decode cX7_canVisit 19 = .ok (.iload_n 3, 1) := by decide +kernel
theorem dX7_canVisit_20 : decode cX7_canVisit 20 = .ok (.iaload, 1) := by decide +kernel
theorem dX7_canVisit_21 : decode cX7_canVisit 21 = .ok (.iload_n 2, 1) := by decide +kernel
theorem dX7_canVisit_22 : decode cX7_canVisit 22 = .ok (.iand, 1) := by decide +kernel
theorem dX7_canVisit_23 : decode cX7_canVisit 23 = .ok (.invokestatic 56, 3) := by decide +kernel
theorem dX7_canVisit_26 : decode cX7_canVisit 26 = .ok (.iload_n 3, 1) := by decide +kernel
theorem dX7_canVisit_27 : decode cX7_canVisit 27 = .ok (.invokestatic 56, 3) := by decide +kernel
theorem dX7_canVisit_30 : decode cX7_canVisit 30 = .ok (.if_icmp .ge 5, 3) := by decide +kernel
theorem dX7_canVisit_33 : decode cX7_canVisit 33 = .ok (.iconst 0, 1) := by decide +kernel
theorem dX7_canVisit_34 : decode cX7_canVisit 34 = .ok (.ireturn, 1) := by decide +kernel
theorem dX7_canVisit_35 : decode cX7_canVisit 35 = .ok (.iinc 3 1, 3) := by decide +kernel
theorem dX7_canVisit_38 : decode cX7_canVisit 38 = .ok (.goto (-36), 3) := by decide +kernel
theorem dX7_canVisit_41 : decode cX7_canVisit 41 = .ok (.iconst 1, 1) := by decide +kernel
theorem dX7_canVisit_42 : decode cX7_canVisit 42 = .ok (.ireturn, 1) := by decide +kernel
def fX7_canVisit_59_L2 (V : Nat → Nat → Int32) : Nat → Int32 → Int32 → Int32 → Option (Int32)
  | 0, _, _, _ => none
  | n + 1, x1, x2, x3 =>
    (if x1 < x3 then
    some (1 : Int32)
    else
    bk (fun (x6 : Int32) (x7 : Int32) (x8 : Int32) =>
    lt (x8 + (1 : Int32)) (fun x9 =>
    fX7_canVisit_59_L2 V n x6 x7 x9)) (fun K35_5 =>
    (if (x3 &&& (x1 ^^^ (-1 : Int32))) = 0 then
    gd (ib x3 64) (
    bd1 (fJ6_bitCount_0f7a4 (((V 60 (x3).toNatClampNeg) &&& x2))) (fun r12 =>
    bd1 (fJ6_bitCount_0f7a4 x3) (fun r14 =>
    (if r14 ≤ r12 then
    K35_5 x1 x2 x3
    else
    some (0 : Int32)))))
    else
    K35_5 x1 x2 x3)))
def fX7_canVisit_59 (V : Nat → Nat → Int32) (a1 : Int32) (a2 : Int32) : Option (Int32) :=
  fX7_canVisit_59_L2 V FU a1 a2 (1 : Int32)
set_option maxHeartbeats 4000000 in
set_option maxRecDepth 100000 in
theorem kX7_canVisit_59 (l : Launch) (B : jBT) (D : va_G) (ad : Nat → Nat) (cA : Nat → ClassId) (hI : jI ad TC) (S : Nat → Int32) (V : Nat → Nat → Int32) (L : Nat → Int64) (a1 : Int32) (a2 : Int32) (r0 : Int32) (h : fX7_canVisit_59 V a1 a2 = some r0) : jM l yX7_canVisit cX7_canVisit 4 (some .boolean) ({ frames := 1, cells := 0, slots := 0, locals := 20 }) B D TC ad cA [.ref (ad 59), .int a1, .int a2] S V L (some (.int r0)) S V L := by
  refine jM_of (by decide) TC_ok hI (Nat.le_of_ble_eq_true rfl) ?_
  intro p e s m args below meth c C hr hlk
  refine j_lv (lv2 := [(0, .ref (ad 59)), (1, .int a1), (2, .int a2)]) rfl ?_
  unfold fX7_canVisit_59 at h
  have H_fX7_canVisit_59_L2 : ∀ (n : Nat) (x1 : Int32) (x2 : Int32) (x3 : Int32), fX7_canVisit_59_L2 V n x1 x2 x3 = some r0 → jW p l e ({ frames := 1, cells := 0, slots := 0, locals := 20 }) s m args below meth c (MQ below (jQc D TC ad cA (some (.int r0)) s.heap.size S V L) args s 0 0 (jA ad TC s.heap.size)) D TC ad cA (jA ad TC s.heap.size) 4 0 0 2 [(0, .ref (ad 59)), (1, .int x1), (2, .int x2), (3, .int x3)] [] S V L := by
    intro n
    induction n with
    | zero =>
      intro x1 x2 x3 h
      cases (show (none : Option (Int32)) = some r0 from h)
    | succ n ih =>
      intro x1 x2 x3 h
      unfold fX7_canVisit_59_L2 at h
      refine j_iload_n C 3 rfl dX7_canVisit_2 rfl ?_
      refine j_iload_n C 1 rfl dX7_canVisit_3 rfl ?_
      refine j_icmp_gt (tgt := 41) C dX7_canVisit_4 (by decide) (fun c4 => ?_) (fun c4 => ?_)
      · have h := (if_pos c4).symm.trans h
        refine j_iconst C dX7_canVisit_41 ci_1 ?_
        cases h
        exact j_zret C hr hlk rfl rfl dX7_canVisit_42
      · have h := (if_neg c4).symm.trans h
        refine j_iload_n C 3 rfl dX7_canVisit_7 rfl ?_
        refine j_iload_n C 1 rfl dX7_canVisit_8 rfl ?_
        refine j_iconst C dX7_canVisit_9 ci_m1 ?_
        refine j_ixor C dX7_canVisit_10 ?_
        refine j_iand C dX7_canVisit_11 ?_
        refine bk_elim h (fun K35_5 e_K35_5 h => ?_)
        have HK35_5 : ∀ (x6 : Int32) (x7 : Int32) (x8 : Int32), K35_5 x6 x7 x8 = some r0 → jW p l e ({ frames := 1, cells := 0, slots := 0, locals := 20 }) s m args below meth c (MQ below (jQc D TC ad cA (some (.int r0)) s.heap.size S V L) args s 0 0 (jA ad TC s.heap.size)) D TC ad cA (jA ad TC s.heap.size) 4 0 0 35 [(0, .ref (ad 59)), (1, .int x6), (2, .int x7), (3, .int x8)] [] S V L := by
          subst e_K35_5
          intro x6 x7 x8 h
          refine lt_elim h (fun x9 e_x9 h => ?_)
          refine j_iinc C [(3, .int x9), (0, .ref (ad 59)), (1, .int x6), (2, .int x7)] 3 dX7_canVisit_35 rfl ((iinc_eq ci_1).trans e_x9.symm) (by decide) rfl ?_
          refine j_goto (tgt := 2) C dX7_canVisit_38 (by decide) ?_
          exact j_sub [1, 2, 3, 0] rfl (ih _ _ _ h)
        refine j_if_ne (tgt := 35) C dX7_canVisit_12 (by decide) (fun c10 => ?_) (fun c10 => ?_)
        · have h := (if_neg c10).symm.trans h
          exact j_sub [0, 1, 2, 3] rfl (HK35_5 _ _ _ h)
        · have h := (if_pos c10).symm.trans h
          refine j_aload_n C 0 rfl dX7_canVisit_15 rfl ?_
          refine fg_X7_9_TC_59 C dX7_canVisit_16 ?_
          refine j_iload_n C 3 rfl dX7_canVisit_19 rfl ?_
          obtain ⟨g11, h⟩ := gd_elim h
          refine j_iald C tc_60 (ib_in g11) dX7_canVisit_20 ?_
          refine j_iload_n C 2 rfl dX7_canVisit_21 rfl ?_
          refine j_iand C dX7_canVisit_22 ?_
          obtain ⟨r12, h13, h⟩ := bd1_elim h
          refine j_callS (As := [.int ((V 60 (x3).toNatClampNeg) &&& x2)]) (rest := []) C (kJ6_bitCount_0f7a4 l B D ad cA hI S V L (((V 60 (x3).toNatClampNeg) &&& x2)) _ h13) mw_J6_bitCount_0f7a4 wd1092 wd1301 ⟨rfl, rfl, by decide, by decide⟩ ⟨Nat.zero_le _, Nat.zero_le _⟩ rfl rfl (Nat.le_of_ble_eq_true rfl) dX7_canVisit_23 ?_
          refine j_iload_n C 3 rfl dX7_canVisit_26 rfl ?_
          obtain ⟨r14, h15, h⟩ := bd1_elim h
          refine j_callS (As := [.int x3]) (rest := [.int r12]) C (kJ6_bitCount_0f7a4 l B D ad cA hI S V L x3 _ h15) mw_J6_bitCount_0f7a4 wd1092 wd1301 ⟨rfl, rfl, by decide, by decide⟩ ⟨Nat.zero_le _, Nat.zero_le _⟩ rfl rfl (Nat.le_of_ble_eq_true rfl) dX7_canVisit_27 ?_
          refine j_icmp_ge (tgt := 35) C dX7_canVisit_30 (by decide) (fun c16 => ?_) (fun c16 => ?_)
          · have h := (if_pos c16).symm.trans h
            exact j_sub [0, 1, 2, 3] rfl (HK35_5 _ _ _ h)
          · have h := (if_neg c16).symm.trans h
            refine j_iconst C dX7_canVisit_33 ci_0 ?_
            cases h
            exact j_zret C hr hlk rfl rfl dX7_canVisit_34
  refine j_iconst C dX7_canVisit_0 ci_1 ?_
  refine j_istore_n C [(3, .int (1 : Int32)), (0, .ref (ad 59)), (1, .int a1), (2, .int a2)] dX7_canVisit_1 rfl (by decide) rfl ?_
  exact j_sub [1, 2, 3, 0] rfl (H_fX7_canVisit_59_L2 FU _ _ _ h)
theorem dX7_firstHour_0 : decode cX7_firstHour 0 = .ok (.iconst 0, 1) := by decide +kernel
theorem dX7_firstHour_1 : decode cX7_firstHour 1 = .ok (.istore 4, 2) := by decide +kernel
theorem dX7_firstHour_3 : decode cX7_firstHour 3 = .ok (.iload 4, 2) := by decide +kernel
theorem dX7_firstHour_5 : decode cX7_firstHour 5 = .ok (.bipush 24, 2) := by decide +kernel
theorem dX7_firstHour_7 : decode cX7_firstHour 7 = .ok (.if_icmp .ge 37, 3) := by decide +kernel
theorem dX7_firstHour_10 : decode cX7_firstHour 10 = .ok (.iload_n 1, 1) := by decide +kernel
theorem dX7_firstHour_11 : decode cX7_firstHour 11 = .ok (.iload 4, 2) := by decide +kernel
theorem dX7_firstHour_13 : decode cX7_firstHour 13 = .ok (.ishr, 1) := by decide +kernel
theorem dX7_firstHour_14 : decode cX7_firstHour 14 = .ok (.iconst 1, 1) := by decide +kernel
theorem dX7_firstHour_15 : decode cX7_firstHour 15 = .ok (.iand, 1) := by decide +kernel
theorem dX7_firstHour_16 : decode cX7_firstHour 16 = .ok (.ifCond .eq 22, 3) := by decide +kernel
theorem dX7_firstHour_19 : decode cX7_firstHour 19 = .ok (.aload_n 0, 1) := by decide +kernel
theorem dX7_firstHour_20 : decode cX7_firstHour 20 = .ok (.iload_n 2, 1) := by decide +kernel
theorem dX7_firstHour_21 : decode cX7_firstHour 21 = .ok (.iload_n 3, 1) := by decide +kernel
theorem dX7_firstHour_22 : decode cX7_firstHour 22 = .ok (.iconst 1, 1) := by decide +kernel
theorem dX7_firstHour_23 : decode cX7_firstHour 23 = .ok (.iload 4, 2) := by decide +kernel
theorem dX7_firstHour_25 : decode cX7_firstHour 25 = .ok (.ishl, 1) := by decide +kernel
theorem dX7_firstHour_26 : decode cX7_firstHour 26 = .ok (.iconst (-1), 1) := by decide +kernel
theorem dX7_firstHour_27 : decode cX7_firstHour 27 = .ok (.ixor, 1) := by decide +kernel
theorem dX7_firstHour_28 : decode cX7_firstHour 28 = .ok (.iand, 1) := by decide +kernel
theorem dX7_firstHour_29 : decode cX7_firstHour 29 = .ok (.invokevirtual 36, 3) := by decide +kernel
theorem dX7_firstHour_32 : decode cX7_firstHour 32 = .ok (.ifCond .eq 6, 3) := by decide +kernel
theorem dX7_firstHour_35 : decode cX7_firstHour 35 = .ok (.iload 4, 2) := by decide +kernel
theorem dX7_firstHour_37 : decode cX7_firstHour 37 = .ok (.ireturn, 1) := by decide +kernel
theorem dX7_firstHour_38 : decode cX7_firstHour 38 = .ok (.iinc 4 1, 3) := by decide +kernel
theorem dX7_firstHour_41 : decode cX7_firstHour 41 = .ok (.goto (-38), 3) := by decide +kernel
theorem dX7_firstHour_44 : decode cX7_firstHour 44 = .ok (.iconst (-1), 1) := by decide +kernel
theorem dX7_firstHour_45 : decode cX7_firstHour 45 = .ok (.ireturn, 1) := by decide +kernel
def fX7_firstHour_59_L3 (V : Nat → Nat → Int32) : Nat → Int32 → Int32 → Int32 → Int32 → Option (Int32)
  | 0, _, _, _, _ => none
  | n + 1, x1, x2, x3, x4 =>
    (if (24 : Int32) ≤ x4 then
    some (-1 : Int32)
    else
    bk (fun (x7 : Int32) (x8 : Int32) (x9 : Int32) (x10 : Int32) =>
    lt (x10 + (1 : Int32)) (fun x11 =>
    fX7_firstHour_59_L3 V n x7 x8 x9 x11)) (fun K38_6 =>
    (if ((x1 >>> (x4 &&& 31)) &&& (1 : Int32)) = 0 then
    K38_6 x1 x2 x3 x4
    else
    bd1 (fX7_canVisit_59 V x2 ((x3 &&& (((1 : Int32) <<< (x4 &&& 31)) ^^^ (-1 : Int32))))) (fun r13 =>
    (if r13 = 0 then
    K38_6 x1 x2 x3 x4
    else
    some x4)))))
def fX7_firstHour_59 (V : Nat → Nat → Int32) (a1 : Int32) (a2 : Int32) (a3 : Int32) : Option (Int32) :=
  fX7_firstHour_59_L3 V FU a1 a2 a3 (0 : Int32)
set_option maxHeartbeats 4000000 in
set_option maxRecDepth 100000 in
theorem kX7_firstHour_59 (l : Launch) (B : jBT) (D : va_G) (ad : Nat → Nat) (cA : Nat → ClassId) (hI : jI ad TC) (S : Nat → Int32) (V : Nat → Nat → Int32) (L : Nat → Int64) (a1 : Int32) (a2 : Int32) (a3 : Int32) (r0 : Int32) (h : fX7_firstHour_59 V a1 a2 a3 = some r0) : jM l yX7_firstHour cX7_firstHour 5 (some .int) ({ frames := 2, cells := 0, slots := 0, locals := 43 }) B D TC ad cA [.ref (ad 59), .int a1, .int a2, .int a3] S V L (some (.int r0)) S V L := by
  refine jM_of (by decide) TC_ok hI (Nat.le_of_ble_eq_true rfl) ?_
  intro p e s m args below meth c C hr hlk
  refine j_lv (lv2 := [(0, .ref (ad 59)), (1, .int a1), (2, .int a2), (3, .int a3)]) rfl ?_
  unfold fX7_firstHour_59 at h
  have H_fX7_firstHour_59_L3 : ∀ (n : Nat) (x1 : Int32) (x2 : Int32) (x3 : Int32) (x4 : Int32), fX7_firstHour_59_L3 V n x1 x2 x3 x4 = some r0 → jW p l e ({ frames := 2, cells := 0, slots := 0, locals := 43 }) s m args below meth c (MQ below (jQc D TC ad cA (some (.int r0)) s.heap.size S V L) args s 0 0 (jA ad TC s.heap.size)) D TC ad cA (jA ad TC s.heap.size) 5 0 0 3 [(0, .ref (ad 59)), (1, .int x1), (2, .int x2), (3, .int x3), (4, .int x4)] [] S V L := by
    intro n
    induction n with
    | zero =>
      intro x1 x2 x3 x4 h
      cases (show (none : Option (Int32)) = some r0 from h)
    | succ n ih =>
      intro x1 x2 x3 x4 h
      unfold fX7_firstHour_59_L3 at h
      refine j_iload C 4 rfl dX7_firstHour_3 ?_
      refine j_bipush C dX7_firstHour_5 cb_24 ?_
      refine j_icmp_ge (tgt := 44) C dX7_firstHour_7 (by decide) (fun c5 => ?_) (fun c5 => ?_)
      · have h := (if_pos c5).symm.trans h
        refine j_iconst C dX7_firstHour_44 ci_m1 ?_
        cases h
        exact j_iret C hr hlk rfl dX7_firstHour_45
      · have h := (if_neg c5).symm.trans h
        refine j_iload_n C 1 rfl dX7_firstHour_10 rfl ?_
        refine j_iload C 4 rfl dX7_firstHour_11 ?_
        refine j_ishr C dX7_firstHour_13 ?_
        refine j_iconst C dX7_firstHour_14 ci_1 ?_
        refine j_iand C dX7_firstHour_15 ?_
        refine bk_elim h (fun K38_6 e_K38_6 h => ?_)
        have HK38_6 : ∀ (x7 : Int32) (x8 : Int32) (x9 : Int32) (x10 : Int32), K38_6 x7 x8 x9 x10 = some r0 → jW p l e ({ frames := 2, cells := 0, slots := 0, locals := 43 }) s m args below meth c (MQ below (jQc D TC ad cA (some (.int r0)) s.heap.size S V L) args s 0 0 (jA ad TC s.heap.size)) D TC ad cA (jA ad TC s.heap.size) 5 0 0 38 [(0, .ref (ad 59)), (1, .int x7), (2, .int x8), (3, .int x9), (4, .int x10)] [] S V L := by
          subst e_K38_6
          intro x7 x8 x9 x10 h
          refine lt_elim h (fun x11 e_x11 h => ?_)
          refine j_iinc C [(4, .int x11), (0, .ref (ad 59)), (1, .int x7), (2, .int x8), (3, .int x9)] 4 dX7_firstHour_38 rfl ((iinc_eq ci_1).trans e_x11.symm) (by decide) rfl ?_
          refine j_goto (tgt := 3) C dX7_firstHour_41 (by decide) ?_
          exact j_sub [1, 2, 3, 4, 0] rfl (ih _ _ _ _ h)
        refine j_if_eq (tgt := 38) C dX7_firstHour_16 (by decide) (fun c12 => ?_) (fun c12 => ?_)
        · have h := (if_pos c12).symm.trans h
          exact j_sub [0, 1, 2, 3, 4] rfl (HK38_6 _ _ _ _ h)
        · have h := (if_neg c12).symm.trans h
          refine j_aload_n C 0 rfl dX7_firstHour_19 rfl ?_
          refine j_iload_n C 2 rfl dX7_firstHour_20 rfl ?_
          refine j_iload_n C 3 rfl dX7_firstHour_21 rfl ?_
          refine j_iconst C dX7_firstHour_22 ci_1 ?_
          refine j_iload C 4 rfl dX7_firstHour_23 ?_
          refine j_ishl C dX7_firstHour_25 ?_
          refine j_iconst C dX7_firstHour_26 ci_m1 ?_
          refine j_ixor C dX7_firstHour_27 ?_
          refine j_iand C dX7_firstHour_28 ?_
          obtain ⟨r13, h14, h⟩ := bd1_elim h
          refine j_callV (As := [.int x2, .int (x3 &&& (((1 : Int32) <<< (x4 &&& 31)) ^^^ (-1 : Int32)))]) (rest := []) C (kX7_canVisit_59 l B D ad cA hI S V L x2 ((x3 &&& (((1 : Int32) <<< (x4 &&& 31)) ^^^ (-1 : Int32)))) _ h14) mw_X7_canVisit wd1299 wd51 wd1297 tc_59 rfl rfl ⟨rfl, rfl, by decide, by decide⟩ ⟨Nat.zero_le _, Nat.zero_le _⟩ rfl rfl (Nat.le_of_ble_eq_true rfl) dX7_firstHour_29 ?_
          refine j_if_eq (tgt := 38) C dX7_firstHour_32 (by decide) (fun c15 => ?_) (fun c15 => ?_)
          · have h := (if_pos c15).symm.trans h
            exact j_sub [0, 1, 2, 3, 4] rfl (HK38_6 _ _ _ _ h)
          · have h := (if_neg c15).symm.trans h
            refine j_iload C 4 rfl dX7_firstHour_35 ?_
            cases h
            exact j_iret C hr hlk rfl dX7_firstHour_37
  refine j_iconst C dX7_firstHour_0 ci_0 ?_
  refine j_istore C [(4, .int (0 : Int32)), (0, .ref (ad 59)), (1, .int a1), (2, .int a2), (3, .int a3)] dX7_firstHour_1 (by decide) rfl ?_
  exact j_sub [1, 2, 3, 4, 0] rfl (H_fX7_firstHour_59_L3 FU _ _ _ _ h)
theorem dX7_choose_0 : decode cX7_choose 0 = .ok (.iload_n 1, 1) := by decide +kernel
theorem dX7_choose_1 : decode cX7_choose 1 = .ok (.istore_n 3, 1) := by decide +kernel
theorem dX7_choose_2 : decode cX7_choose 2 = .ok (.iload_n 2, 1) := by decide +kernel
theorem dX7_choose_3 : decode cX7_choose 3 = .ok (.istore 4, 2) := by decide +kernel
theorem dX7_choose_5 : decode cX7_choose 5 = .ok (.iconst 0, 1) := by decide +kernel
theorem dX7_choose_6 : decode cX7_choose 6 = .ok (.istore 5, 2) := by decide +kernel
theorem dX7_choose_8 : decode cX7_choose 8 = .ok (.iload 5, 2) := by decide +kernel
theorem dX7_choose_10 : decode cX7_choose 10 = .ok (.bipush 6, 2) := by decide +kernel
theorem dX7_choose_12 : decode cX7_choose 12 = .ok (.if_icmp .ge 77, 3) := by decide +kernel
theorem dX7_choose_15 : decode cX7_choose 15 = .ok (.aload_n 0, 1) := by decide +kernel
theorem dX7_choose_16 : decode cX7_choose 16 = .ok (.getfield 15, 3) := by decide +kernel
theorem dX7_choose_19 : decode cX7_choose 19 = .ok (.iload 5, 2) := by decide +kernel
theorem dX7_choose_21 : decode cX7_choose 21 = .ok (.iconst (-1), 1) := by decide +kernel
theorem dX7_choose_22 : decode cX7_choose 22 = .ok (.iastore, 1) := by decide +kernel
theorem dX7_choose_23 : decode cX7_choose 23 = .ok (.iload_n 1, 1) := by decide +kernel
theorem dX7_choose_24 : decode cX7_choose 24 = .ok (.iload 5, 2) := by decide +kernel
theorem dX7_choose_26 : decode cX7_choose 26 = .ok (.ishr, 1) := by decide +kernel
theorem dX7_choose_27 : decode cX7_choose 27 = .ok (.iconst 1, 1) := by decide +kernel
theorem dX7_choose_28 : decode cX7_choose 28 = .ok (.iand, 1) := by decide +kernel
theorem dX7_choose_29 : decode cX7_choose 29 = .ok (.ifCond .eq 54, 3) := by decide +kernel
theorem dX7_choose_32 : decode cX7_choose 32 = .ok (.iload_n 3, 1) := by decide +kernel
theorem dX7_choose_33 : decode cX7_choose 33 = .ok (.iconst 1, 1) := by decide +kernel
theorem dX7_choose_34 : decode cX7_choose 34 = .ok (.iload 5, 2) := by decide +kernel
theorem dX7_choose_36 : decode cX7_choose 36 = .ok (.ishl, 1) := by decide +kernel
theorem dX7_choose_37 : decode cX7_choose 37 = .ok (.iconst (-1), 1) := by decide +kernel
theorem dX7_choose_38 : decode cX7_choose 38 = .ok (.ixor, 1) := by decide +kernel
theorem dX7_choose_39 : decode cX7_choose 39 = .ok (.iand, 1) := by decide +kernel
theorem dX7_choose_40 : decode cX7_choose 40 = .ok (.istore_n 3, 1) := by decide +kernel
theorem dX7_choose_41 : decode cX7_choose 41 = .ok (.aload_n 0, 1) := by decide +kernel
theorem dX7_choose_42 : decode cX7_choose 42 = .ok (.getfield 15, 3) := by decide +kernel
theorem dX7_choose_45 : decode cX7_choose 45 = .ok (.iload 5, 2) := by decide +kernel
theorem dX7_choose_47 : decode cX7_choose 47 = .ok (.aload_n 0, 1) := by decide +kernel
theorem dX7_choose_48 : decode cX7_choose 48 = .ok (.aload_n 0, 1) := by decide +kernel
theorem dX7_choose_49 : decode cX7_choose 49 = .ok (.getfield 9, 3) := by decide +kernel
theorem dX7_choose_52 : decode cX7_choose 52 = .ok (.iconst 1, 1) := by decide +kernel
theorem dX7_choose_53 : decode cX7_choose 53 = .ok (.iload 5, 2) := by decide +kernel
theorem dX7_choose_55 : decode cX7_choose 55 = .ok (.ishl, 1) := by decide +kernel
theorem dX7_choose_56 : decode cX7_choose 56 = .ok (.iaload, 1) := by decide +kernel
theorem dX7_choose_57 : decode cX7_choose 57 = .ok (.iload 4, 2) := by decide +kernel
theorem dX7_choose_59 : decode cX7_choose 59 = .ok (.iand, 1) := by decide +kernel
theorem dX7_choose_60 : decode cX7_choose 60 = .ok (.iload_n 3, 1) := by decide +kernel
theorem dX7_choose_61 : decode cX7_choose 61 = .ok (.iload 4, 2) := by decide +kernel
theorem dX7_choose_63 : decode cX7_choose 63 = .ok (.invokevirtual 61, 3) := by decide +kernel
theorem dX7_choose_66 : decode cX7_choose 66 = .ok (.iastore, 1) := by decide +kernel
theorem dX7_choose_67 : decode cX7_choose 67 = .ok (.iload 4, 2) := by decide +kernel
theorem dX7_choose_69 : decode cX7_choose 69 = .ok (.iconst 1, 1) := by decide +kernel
theorem dX7_choose_70 : decode cX7_choose 70 = .ok (.aload_n 0, 1) := by decide +kernel
theorem dX7_choose_71 : decode cX7_choose 71 = .ok (.getfield 15, 3) := by decide +kernel
theorem dX7_choose_74 : decode cX7_choose 74 = .ok (.iload 5, 2) := by decide +kernel
theorem dX7_choose_76 : decode cX7_choose 76 = .ok (.iaload, 1) := by decide +kernel
theorem dX7_choose_77 : decode cX7_choose 77 = .ok (.ishl, 1) := by decide +kernel
theorem dX7_choose_78 : decode cX7_choose 78 = .ok (.iconst (-1), 1) := by decide +kernel
theorem dX7_choose_79 : decode cX7_choose 79 = .ok (.ixor, 1) := by decide +kernel
theorem dX7_choose_80 : decode cX7_choose 80 = .ok (.iand, 1) := by decide +kernel
theorem dX7_choose_81 : decode cX7_choose 81 = .ok (.istore 4, 2) := by decide +kernel
theorem dX7_choose_83 : decode cX7_choose 83 = .ok (.iinc 5 1, 3) := by decide +kernel
theorem dX7_choose_86 : decode cX7_choose 86 = .ok (.goto (-78), 3) := by decide +kernel
theorem dX7_choose_89 : decode cX7_choose 89 = .ok (.return_, 1) := by decide +kernel
def fX7_choose_59_L8 : Nat → Int32 → Int32 → Int32 → Int32 → (Nat → Nat → Int32) → Option ((Nat → Nat → Int32))
  | 0, _, _, _, _, _ => none
  | n + 1, x1, x2, x3, x4, V5 =>
    (if (6 : Int32) ≤ x4 then
    some V5
    else
    gd (ib x4 6) (
    lt (va_up V5 61 (upd (V5 61) (x4).toNatClampNeg (-1 : Int32))) (fun V8 =>
    bk (fun (x10 : Int32) (x11 : Int32) (x12 : Int32) (x13 : Int32) (V14 : Nat → Nat → Int32) =>
    lt (x13 + (1 : Int32)) (fun x15 =>
    fX7_choose_59_L8 n x10 x11 x12 x15 V14)) (fun K83_9 =>
    (if ((x1 >>> (x4 &&& 31)) &&& (1 : Int32)) = 0 then
    K83_9 x1 x2 x3 x4 V8
    else
    lt ((x2 &&& (((1 : Int32) <<< (x4 &&& 31)) ^^^ (-1 : Int32)))) (fun x17 =>
    lt (((1 : Int32) <<< (x4 &&& 31))) (fun x18 =>
    gd (ib x18 64) (
    bd1 (fX7_firstHour_59 V8 (((V8 60 (x18).toNatClampNeg) &&& x3)) x17 x3) (fun r20 =>
    gd (ib x4 6) (
    lt (va_up V8 61 (upd (V8 61) (x4).toNatClampNeg r20)) (fun V23 =>
    gd (ib x4 6) (
    lt ((x3 &&& (((1 : Int32) <<< ((V23 61 (x4).toNatClampNeg) &&& 31)) ^^^ (-1 : Int32)))) (fun x25 =>
    K83_9 x1 x17 x25 x4 V23)))))))))))))
def fX7_choose_59 (V : Nat → Nat → Int32) (a1 : Int32) (a2 : Int32) : Option ((Nat → Nat → Int32)) :=
  fX7_choose_59_L8 FU a1 a1 a2 (0 : Int32) V
set_option maxHeartbeats 4000000 in
set_option maxRecDepth 100000 in
theorem kX7_choose_59 (l : Launch) (B : jBT) (D : va_G) (ad : Nat → Nat) (cA : Nat → ClassId) (hI : jI ad TC) (S : Nat → Int32) (V : Nat → Nat → Int32) (L : Nat → Int64) (a1 : Int32) (a2 : Int32) (V0 : Nat → Nat → Int32) (h : fX7_choose_59 V a1 a2 = some V0) : jM l yX7_choose cX7_choose 6 none ({ frames := 3, cells := 0, slots := 0, locals := 67 }) B D TC ad cA [.ref (ad 59), .int a1, .int a2] S V L none S V0 L := by
  refine jM_of (by decide) TC_ok hI (Nat.le_of_ble_eq_true rfl) ?_
  intro p e s m args below meth c C hr hlk
  refine j_lv (lv2 := [(0, .ref (ad 59)), (1, .int a1), (2, .int a2)]) rfl ?_
  unfold fX7_choose_59 at h
  have H_fX7_choose_59_L8 : ∀ (n : Nat) (x1 : Int32) (x2 : Int32) (x3 : Int32) (x4 : Int32) (V5 : Nat → Nat → Int32), fX7_choose_59_L8 n x1 x2 x3 x4 V5 = some V0 → jW p l e ({ frames := 3, cells := 0, slots := 0, locals := 67 }) s m args below meth c (MQ below (jQc D TC ad cA none s.heap.size S V0 L) args s 0 0 (jA ad TC s.heap.size)) D TC ad cA (jA ad TC s.heap.size) 6 0 0 8 [(0, .ref (ad 59)), (1, .int x1), (3, .int x2), (4, .int x3), (5, .int x4)] [] S V5 L := by
    intro n
    induction n with
    | zero =>
      intro x1 x2 x3 x4 V5 h
      cases (show (none : Option ((Nat → Nat → Int32))) = some V0 from h)
    | succ n ih =>
      intro x1 x2 x3 x4 V5 h
      unfold fX7_choose_59_L8 at h
      refine j_iload C 4 rfl dX7_choose_8 ?_
      refine j_bipush C dX7_choose_10 cb_6 ?_
      refine j_icmp_ge (tgt := 89) C dX7_choose_12 (by decide) (fun c6 => ?_) (fun c6 => ?_)
      · have h := (if_pos c6).symm.trans h
        cases h
        exact j_vret C hr hlk rfl dX7_choose_89
      · have h := (if_neg c6).symm.trans h
        refine j_aload_n C 0 rfl dX7_choose_15 rfl ?_
        refine fg_X7_15_TC_59 C dX7_choose_16 ?_
        refine j_iload C 4 rfl dX7_choose_19 ?_
        refine j_iconst C dX7_choose_21 ci_m1 ?_
        obtain ⟨g7, h⟩ := gd_elim h
        refine j_iast C tc_61 (ib_in g7) dX7_choose_22 ?_
        refine lt_elim h (fun V8 e_V8 h => ?_)
        refine j_V e_V8 ?_
        refine j_iload_n C 1 rfl dX7_choose_23 rfl ?_
        refine j_iload C 4 rfl dX7_choose_24 ?_
        refine j_ishr C dX7_choose_26 ?_
        refine j_iconst C dX7_choose_27 ci_1 ?_
        refine j_iand C dX7_choose_28 ?_
        refine bk_elim h (fun K83_9 e_K83_9 h => ?_)
        have HK83_9 : ∀ (x10 : Int32) (x11 : Int32) (x12 : Int32) (x13 : Int32) (V14 : Nat → Nat → Int32), K83_9 x10 x11 x12 x13 V14 = some V0 → jW p l e ({ frames := 3, cells := 0, slots := 0, locals := 67 }) s m args below meth c (MQ below (jQc D TC ad cA none s.heap.size S V0 L) args s 0 0 (jA ad TC s.heap.size)) D TC ad cA (jA ad TC s.heap.size) 6 0 0 83 [(0, .ref (ad 59)), (1, .int x10), (3, .int x11), (4, .int x12), (5, .int x13)] [] S V14 L := by
          subst e_K83_9
          intro x10 x11 x12 x13 V14 h
          refine lt_elim h (fun x15 e_x15 h => ?_)
          refine j_iinc C [(5, .int x15), (0, .ref (ad 59)), (1, .int x10), (3, .int x11), (4, .int x12)] 4 dX7_choose_83 rfl ((iinc_eq ci_1).trans e_x15.symm) (by decide) rfl ?_
          refine j_goto (tgt := 8) C dX7_choose_86 (by decide) ?_
          exact j_sub [1, 2, 3, 4, 0] rfl (ih _ _ _ _ _ h)
        refine j_if_eq (tgt := 83) C dX7_choose_29 (by decide) (fun c16 => ?_) (fun c16 => ?_)
        · have h := (if_pos c16).symm.trans h
          exact j_sub [0, 1, 2, 3, 4] rfl (HK83_9 _ _ _ _ _ h)
        · have h := (if_neg c16).symm.trans h
          refine j_iload_n C 2 rfl dX7_choose_32 rfl ?_
          refine j_iconst C dX7_choose_33 ci_1 ?_
          refine j_iload C 4 rfl dX7_choose_34 ?_
          refine j_ishl C dX7_choose_36 ?_
          refine j_iconst C dX7_choose_37 ci_m1 ?_
          refine j_ixor C dX7_choose_38 ?_
          refine j_iand C dX7_choose_39 ?_
          refine lt_elim h (fun x17 e_x17 h => ?_)
          refine j_top e_x17 ?_
          refine j_istore_n C [(3, .int x17), (0, .ref (ad 59)), (1, .int x1), (4, .int x3), (5, .int x4)] dX7_choose_40 rfl (by decide) rfl ?_
          refine j_aload_n C 1 rfl dX7_choose_41 rfl ?_
          refine fg_X7_15_TC_59 C dX7_choose_42 ?_
          refine j_iload C 4 rfl dX7_choose_45 ?_
          refine j_aload_n C 1 rfl dX7_choose_47 rfl ?_
          refine j_aload_n C 1 rfl dX7_choose_48 rfl ?_
          refine fg_X7_9_TC_59 C dX7_choose_49 ?_
          refine j_iconst C dX7_choose_52 ci_1 ?_
          refine j_iload C 4 rfl dX7_choose_53 ?_
          refine j_ishl C dX7_choose_55 ?_
          refine lt_elim h (fun x18 e_x18 h => ?_)
          refine j_top e_x18 ?_
          obtain ⟨g19, h⟩ := gd_elim h
          refine j_iald C tc_60 (ib_in g19) dX7_choose_56 ?_
          refine j_iload C 3 rfl dX7_choose_57 ?_
          refine j_iand C dX7_choose_59 ?_
          refine j_iload_n C 0 rfl dX7_choose_60 rfl ?_
          refine j_iload C 3 rfl dX7_choose_61 ?_
          obtain ⟨r20, h21, h⟩ := bd1_elim h
          refine j_callV (As := [.int ((V8 60 (x18).toNatClampNeg) &&& x3), .int x17, .int x3]) (rest := [.int x4, .ref (ad 61)]) C (kX7_firstHour_59 l B D ad cA hI S V8 L (((V8 60 (x18).toNatClampNeg) &&& x3)) x17 x3 _ h21) mw_X7_firstHour wd1308 wd53 wd1306 tc_59 rfl rfl ⟨rfl, rfl, by decide, by decide⟩ ⟨Nat.zero_le _, Nat.zero_le _⟩ rfl rfl (Nat.le_of_ble_eq_true rfl) dX7_choose_63 ?_
          obtain ⟨g22, h⟩ := gd_elim h
          refine j_iast C tc_61 (ib_in g22) dX7_choose_66 ?_
          refine lt_elim h (fun V23 e_V23 h => ?_)
          refine j_V e_V23 ?_
          refine j_iload C 3 rfl dX7_choose_67 ?_
          refine j_iconst C dX7_choose_69 ci_1 ?_
          refine j_aload_n C 1 rfl dX7_choose_70 rfl ?_
          refine fg_X7_15_TC_59 C dX7_choose_71 ?_
          refine j_iload C 4 rfl dX7_choose_74 ?_
          obtain ⟨g24, h⟩ := gd_elim h
          refine j_iald C tc_61 (ib_in g24) dX7_choose_76 ?_
          refine j_ishl C dX7_choose_77 ?_
          refine j_iconst C dX7_choose_78 ci_m1 ?_
          refine j_ixor C dX7_choose_79 ?_
          refine j_iand C dX7_choose_80 ?_
          refine lt_elim h (fun x25 e_x25 h => ?_)
          refine j_top e_x25 ?_
          refine j_istore C [(4, .int x25), (3, .int x17), (0, .ref (ad 59)), (1, .int x1), (5, .int x4)] dX7_choose_81 (by decide) rfl ?_
          exact j_sub [2, 3, 1, 0, 4] rfl (HK83_9 _ _ _ _ _ h)
  refine j_iload_n C 1 rfl dX7_choose_0 rfl ?_
  refine j_istore_n C [(3, .int a1), (0, .ref (ad 59)), (1, .int a1), (2, .int a2)] dX7_choose_1 rfl (by decide) rfl ?_
  refine j_iload_n C 3 rfl dX7_choose_2 rfl ?_
  refine j_istore C [(4, .int a2), (3, .int a1), (0, .ref (ad 59)), (1, .int a1), (2, .int a2)] dX7_choose_3 (by decide) rfl ?_
  refine j_iconst C dX7_choose_5 ci_0 ?_
  refine j_istore C [(5, .int (0 : Int32)), (4, .int a2), (3, .int a1), (0, .ref (ad 59)), (1, .int a1), (2, .int a2)] dX7_choose_6 (by decide) rfl ?_
  exact j_sub [3, 4, 2, 1, 0] rfl (H_fX7_choose_59_L8 FU _ _ _ _ _ h)
