theorem dX4_grant_0 : decode cX4_grant 0 = .ok (.aload_n 0, 1) := by decide +kernel
theorem dX4_grant_1 : decode cX4_grant 1 = .ok (.getfield 41, 3) := by decide +kernel
theorem dX4_grant_4 : decode cX4_grant 4 = .ok (.bipush 12, 2) := by decide +kernel
theorem dX4_grant_6 : decode cX4_grant 6 = .ok (.if_icmp .ge 22, 3) := by decide +kernel
theorem dX4_grant_9 : decode cX4_grant 9 = .ok (.aload_n 0, 1) := by decide +kernel
theorem dX4_grant_10 : decode cX4_grant 10 = .ok (.iload_n 1, 1) := by decide +kernel
theorem dX4_grant_11 : decode cX4_grant 11 = .ok (.iload_n 2, 1) := by decide +kernel
theorem dX4_grant_12 : decode cX4_grant 12 = .ok (.iload_n 3, 1) := by decide +kernel
theorem dX4_grant_13 : decode cX4_grant 13 = .ok (.iload 4, 2) := by decide +kernel
theorem dX4_grant_15 : decode cX4_grant 15 = .ok (.invokevirtual 76, 3) := by decide +kernel
theorem dX4_grant_18 : decode cX4_grant 18 = .ok (.aload_n 0, 1) := by decide +kernel
theorem dX4_grant_19 : decode cX4_grant 19 = .ok (.dup, 1) := by decide +kernel
theorem dX4_grant_20 : decode cX4_grant 20 = .ok (.getfield 41, 3) := by decide +kernel
theorem dX4_grant_23 : decode cX4_grant 23 = .ok (.iconst 1, 1) := by decide +kernel
theorem dX4_grant_24 : decode cX4_grant 24 = .ok (.iadd, 1) := by decide +kernel
theorem dX4_grant_25 : decode cX4_grant 25 = .ok (.putfield 41, 3) := by decide +kernel
theorem dX4_grant_28 : decode cX4_grant 28 = .ok (.return_, 1) := by decide +kernel
def fX4_grant_30 (S : Nat → Int32) (V : Nat → Nat → Int32) (a1 : Int32) (a2 : Int32) (a3 : Int32) (a4 : Int32) : Option ((Nat → Int32) × (Nat → Nat → Int32)) :=
  (if (12 : Int32) ≤ (S 3002) then
  some (S, V)
  else
  bd1 (fX4_moveIn_30 S V a1 a2 a3 a4) (fun V2 =>
  lt (((S 3002) + (1 : Int32))) (fun x4 =>
  lt (va_up S 3002 x4) (fun S5 =>
  some (S5, V2)))))
set_option maxHeartbeats 4000000 in
set_option maxRecDepth 100000 in
theorem kX4_grant_30 (l : Launch) (B : jBT) (D : va_G) (ad : Nat → Nat) (cA : Nat → ClassId) (hI : jI ad TC) (S : Nat → Int32) (V : Nat → Nat → Int32) (L : Nat → Int64) (a1 : Int32) (a2 : Int32) (a3 : Int32) (a4 : Int32) (S0 : Nat → Int32) (V0 : Nat → Nat → Int32) (h : fX4_grant_30 S V a1 a2 a3 a4 = some (S0, V0)) : jM l yX4_grant cX4_grant 5 none ({ frames := 2, cells := 0, slots := 0, locals := 46 }) B D TC ad cA [.ref (ad 30), .int a1, .int a2, .int a3, .int a4] S V L none S0 V0 L := by
  refine jM_of (plainFor_of_name (by decide)) TC_ok hI (Nat.le_of_ble_eq_true rfl) ?_
  intro p e s m args below meth c C hr hlk
  refine j_lv (lv2 := [(0, .ref (ad 30)), (1, .int a1), (2, .int a2), (3, .int a3), (4, .int a4)]) rfl ?_
  unfold fX4_grant_30 at h
  refine j_aload_n C 0 rfl dX4_grant_0 rfl ?_
  refine fg_X4_41_TC_30 C dX4_grant_1 ?_
  refine j_bipush C dX4_grant_4 cb_12 ?_
  refine j_icmp_ge (tgt := 28) C dX4_grant_6 (by decide) (fun c1 => ?_) (fun c1 => ?_)
  · have h := (if_pos c1).symm.trans h
    cases h
    exact j_vret C hr hlk rfl dX4_grant_28
  · have h := (if_neg c1).symm.trans h
    refine j_aload_n C 0 rfl dX4_grant_9 rfl ?_
    refine j_iload_n C 1 rfl dX4_grant_10 rfl ?_
    refine j_iload_n C 2 rfl dX4_grant_11 rfl ?_
    refine j_iload_n C 3 rfl dX4_grant_12 rfl ?_
    refine j_iload C 4 rfl dX4_grant_13 ?_
    obtain ⟨V2, h3, h⟩ := bd1_elim h
    refine j_callV (As := [.int a1, .int a2, .int a3, .int a4]) (rest := []) C (kX4_moveIn_30 l B D ad cA hI S V L a1 a2 a3 a4 _ h3) mw_X4_moveIn wd601 wd3 wd599 tc_30 rfl rfl ⟨rfl, rfl, by decide, by decide⟩ ⟨Nat.zero_le _, Nat.zero_le _⟩ rfl rfl (Nat.le_of_ble_eq_true rfl) dX4_grant_15 ?_
    refine j_aload_n C 0 rfl dX4_grant_18 rfl ?_
    refine j_dup C dX4_grant_19 rfl ?_
    refine fg_X4_41_TC_30 C dX4_grant_20 ?_
    refine j_iconst C dX4_grant_23 ci_1 ?_
    refine j_iadd C dX4_grant_24 ?_
    refine lt_elim h (fun x4 e_x4 h => ?_)
    refine j_top e_x4 ?_
    refine fp_X4_41_TC_30 C dX4_grant_25 ?_
    refine lt_elim h (fun S5 e_S5 h => ?_)
    refine j_S e_S5 ?_
    cases h
    exact j_vret C hr hlk rfl dX4_grant_28
theorem dX11_lease_0 : decode cX11_lease 0 = .ok (.aload_n 0, 1) := by decide +kernel
theorem dX11_lease_1 : decode cX11_lease 1 = .ok (.getfield 49, 3) := by decide +kernel
theorem dX11_lease_4 : decode cX11_lease 4 = .ok (.iload_n 1, 1) := by decide +kernel
theorem dX11_lease_5 : decode cX11_lease 5 = .ok (.iload_n 2, 1) := by decide +kernel
theorem dX11_lease_6 : decode cX11_lease 6 = .ok (.iload_n 3, 1) := by decide +kernel
theorem dX11_lease_7 : decode cX11_lease 7 = .ok (.iload 4, 2) := by decide +kernel
theorem dX11_lease_9 : decode cX11_lease 9 = .ok (.invokevirtual 195, 3) := by decide +kernel
theorem dX11_lease_12 : decode cX11_lease 12 = .ok (.istore 5, 2) := by decide +kernel
theorem dX11_lease_14 : decode cX11_lease 14 = .ok (.iload 5, 2) := by decide +kernel
theorem dX11_lease_16 : decode cX11_lease 16 = .ok (.ifCond .eq 16, 3) := by decide +kernel
theorem dX11_lease_19 : decode cX11_lease 19 = .ok (.aload_n 0, 1) := by decide +kernel
theorem dX11_lease_20 : decode cX11_lease 20 = .ok (.getfield 17, 3) := by decide +kernel
theorem dX11_lease_23 : decode cX11_lease 23 = .ok (.iconst 1, 1) := by decide +kernel
theorem dX11_lease_24 : decode cX11_lease 24 = .ok (.dup2, 1) := by decide +kernel
theorem dX11_lease_25 : decode cX11_lease 25 = .ok (.iaload, 1) := by decide +kernel
theorem dX11_lease_26 : decode cX11_lease 26 = .ok (.iconst 1, 1) := by decide +kernel
theorem dX11_lease_27 : decode cX11_lease 27 = .ok (.iadd, 1) := by decide +kernel
theorem dX11_lease_28 : decode cX11_lease 28 = .ok (.iastore, 1) := by decide +kernel
theorem dX11_lease_29 : decode cX11_lease 29 = .ok (.iload 5, 2) := by decide +kernel
theorem dX11_lease_31 : decode cX11_lease 31 = .ok (.ireturn, 1) := by decide +kernel
theorem dX11_lease_32 : decode cX11_lease 32 = .ok (.aload_n 0, 1) := by decide +kernel
theorem dX11_lease_33 : decode cX11_lease 33 = .ok (.getfield 49, 3) := by decide +kernel
theorem dX11_lease_36 : decode cX11_lease 36 = .ok (.iload_n 1, 1) := by decide +kernel
theorem dX11_lease_37 : decode cX11_lease 37 = .ok (.iload_n 2, 1) := by decide +kernel
theorem dX11_lease_38 : decode cX11_lease 38 = .ok (.iload_n 3, 1) := by decide +kernel
theorem dX11_lease_39 : decode cX11_lease 39 = .ok (.iload 4, 2) := by decide +kernel
theorem dX11_lease_41 : decode cX11_lease 41 = .ok (.invokevirtual 199, 3) := by decide +kernel
theorem dX11_lease_44 : decode cX11_lease 44 = .ok (.iconst 0, 1) := by decide +kernel
theorem dX11_lease_45 : decode cX11_lease 45 = .ok (.ireturn, 1) := by decide +kernel
def fX11_lease_0 (S : Nat → Int32) (V : Nat → Nat → Int32) (a1 : Int32) (a2 : Int32) (a3 : Int32) (a4 : Int32) : Option (Int32 × (Nat → Int32) × (Nat → Nat → Int32)) :=
  bd2 (fX4_troubleOf_30 S V a1 a2 a3 a4) (fun r1 V2 =>
  (if r1 = 0 then
  bd2 (fX4_grant_30 S V2 a1 a2 a3 a4) (fun S5 V6 =>
  some ((0 : Int32), S5, V6))
  else
  gd (ib (1 : Int32) 3) (
  lt (((V2 2 ((1 : Int32)).toNatClampNeg) + (1 : Int32))) (fun x9 =>
  gd (ib (1 : Int32) 3) (
  lt (va_up V2 2 (upd (V2 2) ((1 : Int32)).toNatClampNeg x9)) (fun V11 =>
  some (r1, S, V11)))))))
set_option maxHeartbeats 4000000 in
set_option maxRecDepth 100000 in
theorem kX11_lease_0 (l : Launch) (B : jBT) (D : va_G) (ad : Nat → Nat) (cA : Nat → ClassId) (hI : jI ad TC) (S : Nat → Int32) (V : Nat → Nat → Int32) (L : Nat → Int64) (a1 : Int32) (a2 : Int32) (a3 : Int32) (a4 : Int32) (r0 : Int32) (S0 : Nat → Int32) (V0 : Nat → Nat → Int32) (h : fX11_lease_0 S V a1 a2 a3 a4 = some (r0, S0, V0)) : jM l yX11_lease cX11_lease 6 (some .int) ({ frames := 6, cells := 0, slots := 0, locals := 155 }) B D TC ad cA [.ref (ad 0), .int a1, .int a2, .int a3, .int a4] S V L (some (.int r0)) S0 V0 L := by
  refine jM_of (plainFor_of_name (by decide)) TC_ok hI (Nat.le_of_ble_eq_true rfl) ?_
  intro p e s m args below meth c C hr hlk
  refine j_lv (lv2 := [(0, .ref (ad 0)), (1, .int a1), (2, .int a2), (3, .int a3), (4, .int a4)]) rfl ?_
  unfold fX11_lease_0 at h
  refine j_aload_n C 0 rfl dX11_lease_0 rfl ?_
  refine fg_X11_49_TC_0 C dX11_lease_1 ?_
  refine j_iload_n C 1 rfl dX11_lease_4 rfl ?_
  refine j_iload_n C 2 rfl dX11_lease_5 rfl ?_
  refine j_iload_n C 3 rfl dX11_lease_6 rfl ?_
  refine j_iload C 4 rfl dX11_lease_7 ?_
  obtain ⟨r1, V2, h3, h⟩ := bd2_elim h
  refine j_callV (As := [.int a1, .int a2, .int a3, .int a4]) (rest := []) C (kX4_troubleOf_30 l B D ad cA hI S V L a1 a2 a3 a4 _ _ h3) mw_X4_troubleOf wd573 wd574 wd572 tc_30 rfl rfl ⟨rfl, rfl, by decide, by decide⟩ ⟨Nat.zero_le _, Nat.zero_le _⟩ rfl rfl (Nat.le_of_ble_eq_true rfl) dX11_lease_9 ?_
  refine j_istore C [(5, .int r1), (0, .ref (ad 0)), (1, .int a1), (2, .int a2), (3, .int a3), (4, .int a4)] dX11_lease_12 (by decide) rfl ?_
  refine j_iload C 0 rfl dX11_lease_14 ?_
  refine j_if_eq (tgt := 32) C dX11_lease_16 (by decide) (fun c4 => ?_) (fun c4 => ?_)
  · have h := (if_pos c4).symm.trans h
    refine j_aload_n C 1 rfl dX11_lease_32 rfl ?_
    refine fg_X11_49_TC_0 C dX11_lease_33 ?_
    refine j_iload_n C 2 rfl dX11_lease_36 rfl ?_
    refine j_iload_n C 3 rfl dX11_lease_37 rfl ?_
    refine j_iload_n C 4 rfl dX11_lease_38 rfl ?_
    refine j_iload C 5 rfl dX11_lease_39 ?_
    obtain ⟨S5, V6, h7, h⟩ := bd2_elim h
    refine j_callV (As := [.int a1, .int a2, .int a3, .int a4]) (rest := []) C (kX4_grant_30 l B D ad cA hI S V2 L a1 a2 a3 a4 _ _ h7) mw_X4_grant wd640 wd641 wd639 tc_30 rfl rfl ⟨rfl, rfl, by decide, by decide⟩ ⟨Nat.zero_le _, Nat.zero_le _⟩ rfl rfl (Nat.le_of_ble_eq_true rfl) dX11_lease_41 ?_
    refine j_iconst C dX11_lease_44 ci_0 ?_
    cases h
    exact j_iret C hr hlk rfl dX11_lease_45
  · have h := (if_neg c4).symm.trans h
    refine j_aload_n C 1 rfl dX11_lease_19 rfl ?_
    refine fg_X11_17_TC_0 C dX11_lease_20 ?_
    refine j_iconst C dX11_lease_23 ci_1 ?_
    refine j_dup2_11 C dX11_lease_24 rfl rfl ?_
    obtain ⟨g8, h⟩ := gd_elim h
    refine j_iald C tc_2 (ib_in g8) dX11_lease_25 ?_
    refine j_iconst C dX11_lease_26 ci_1 ?_
    refine j_iadd C dX11_lease_27 ?_
    refine lt_elim h (fun x9 e_x9 h => ?_)
    refine j_top e_x9 ?_
    obtain ⟨g10, h⟩ := gd_elim h
    refine j_iast C tc_2 (ib_in g10) dX11_lease_28 ?_
    refine lt_elim h (fun V11 e_V11 h => ?_)
    refine j_V e_V11 ?_
    refine j_iload C 0 rfl dX11_lease_29 ?_
    cases h
    exact j_iret C hr hlk rfl dX11_lease_31
theorem dX5_add_0 : decode cX5_add 0 = .ok (.aload_n 0, 1) := by decide +kernel
theorem dX5_add_1 : decode cX5_add 1 = .ok (.getfield 18, 3) := by decide +kernel
theorem dX5_add_4 : decode cX5_add 4 = .ok (.bipush 8, 2) := by decide +kernel
theorem dX5_add_6 : decode cX5_add 6 = .ok (.if_icmp .ge 37, 3) := by decide +kernel
theorem dX5_add_9 : decode cX5_add 9 = .ok (.aload_n 0, 1) := by decide +kernel
theorem dX5_add_10 : decode cX5_add 10 = .ok (.getfield 9, 3) := by decide +kernel
theorem dX5_add_13 : decode cX5_add 13 = .ok (.aload_n 0, 1) := by decide +kernel
theorem dX5_add_14 : decode cX5_add 14 = .ok (.getfield 18, 3) := by decide +kernel
theorem dX5_add_17 : decode cX5_add 17 = .ok (.iload_n 1, 1) := by decide +kernel
theorem dX5_add_18 : decode cX5_add 18 = .ok (.iload_n 2, 1) := by decide +kernel
theorem dX5_add_19 : decode cX5_add 19 = .ok (.invokestatic 28, 3) := by decide +kernel
theorem dX5_add_22 : decode cX5_add 22 = .ok (.iastore, 1) := by decide +kernel
theorem dX5_add_23 : decode cX5_add 23 = .ok (.aload_n 0, 1) := by decide +kernel
theorem dX5_add_24 : decode cX5_add 24 = .ok (.getfield 15, 3) := by decide +kernel
theorem dX5_add_27 : decode cX5_add 27 = .ok (.aload_n 0, 1) := by decide +kernel
theorem dX5_add_28 : decode cX5_add 28 = .ok (.getfield 18, 3) := by decide +kernel
theorem dX5_add_31 : decode cX5_add 31 = .ok (.iload_n 3, 1) := by decide +kernel
theorem dX5_add_32 : decode cX5_add 32 = .ok (.iastore, 1) := by decide +kernel
theorem dX5_add_33 : decode cX5_add 33 = .ok (.aload_n 0, 1) := by decide +kernel
theorem dX5_add_34 : decode cX5_add 34 = .ok (.dup, 1) := by decide +kernel
theorem dX5_add_35 : decode cX5_add 35 = .ok (.getfield 18, 3) := by decide +kernel
theorem dX5_add_38 : decode cX5_add 38 = .ok (.iconst 1, 1) := by decide +kernel
theorem dX5_add_39 : decode cX5_add 39 = .ok (.iadd, 1) := by decide +kernel
theorem dX5_add_40 : decode cX5_add 40 = .ok (.putfield 18, 3) := by decide +kernel
theorem dX5_add_43 : decode cX5_add 43 = .ok (.aload_n 0, 1) := by decide +kernel
theorem dX5_add_44 : decode cX5_add 44 = .ok (.getfield 18, 3) := by decide +kernel
theorem dX5_add_47 : decode cX5_add 47 = .ok (.ireturn, 1) := by decide +kernel
def fX5_add_42 (S : Nat → Int32) (V : Nat → Nat → Int32) (a1 : Int32) (a2 : Int32) (a3 : Int32) : Option (Int32 × (Nat → Int32) × (Nat → Nat → Int32)) :=
  (if (8 : Int32) ≤ (S 4200) then
  some ((S 4200), S, V)
  else
  bd1 (fX11_hourBits a1 a2) (fun r2 =>
  lt ((S 4200)) (fun x4 =>
  gd (ib x4 8) (
  lt (va_up V 43 (upd (V 43) (x4).toNatClampNeg r2)) (fun V6 =>
  lt ((S 4200)) (fun x7 =>
  gd (ib x7 8) (
  lt (va_up V6 44 (upd (V6 44) (x7).toNatClampNeg a3)) (fun V9 =>
  lt (((S 4200) + (1 : Int32))) (fun x10 =>
  lt (va_up S 4200 x10) (fun S11 =>
  some ((S11 4200), S11, V9)))))))))))
set_option maxHeartbeats 4000000 in
set_option maxRecDepth 100000 in
theorem kX5_add_42 (l : Launch) (B : jBT) (D : va_G) (ad : Nat → Nat) (cA : Nat → ClassId) (hI : jI ad TC) (S : Nat → Int32) (V : Nat → Nat → Int32) (L : Nat → Int64) (a1 : Int32) (a2 : Int32) (a3 : Int32) (r0 : Int32) (S0 : Nat → Int32) (V0 : Nat → Nat → Int32) (h : fX5_add_42 S V a1 a2 a3 = some (r0, S0, V0)) : jM l yX5_add cX5_add 4 (some .int) ({ frames := 1, cells := 0, slots := 0, locals := 21 }) B D TC ad cA [.ref (ad 42), .int a1, .int a2, .int a3] S V L (some (.int r0)) S0 V0 L := by
  refine jM_of (plainFor_of_name (by decide)) TC_ok hI (Nat.le_of_ble_eq_true rfl) ?_
  intro p e s m args below meth c C hr hlk
  refine j_lv (lv2 := [(0, .ref (ad 42)), (1, .int a1), (2, .int a2), (3, .int a3)]) rfl ?_
  unfold fX5_add_42 at h
  refine j_aload_n C 0 rfl dX5_add_0 rfl ?_
  refine fg_X5_18_TC_42 C dX5_add_1 ?_
  refine j_bipush C dX5_add_4 cb_8 ?_
  refine j_icmp_ge (tgt := 43) C dX5_add_6 (by decide) (fun c1 => ?_) (fun c1 => ?_)
  · have h := (if_pos c1).symm.trans h
    refine j_aload_n C 0 rfl dX5_add_43 rfl ?_
    refine fg_X5_18_TC_42 C dX5_add_44 ?_
    cases h
    exact j_iret C hr hlk rfl dX5_add_47
  · have h := (if_neg c1).symm.trans h
    refine j_aload_n C 0 rfl dX5_add_9 rfl ?_
    refine fg_X5_9_TC_42 C dX5_add_10 ?_
    refine j_aload_n C 0 rfl dX5_add_13 rfl ?_
    refine fg_X5_18_TC_42 C dX5_add_14 ?_
    refine j_iload_n C 1 rfl dX5_add_17 rfl ?_
    refine j_iload_n C 2 rfl dX5_add_18 rfl ?_
    obtain ⟨r2, h3, h⟩ := bd1_elim h
    refine j_callN (As := [.int a1, .int a2]) (rest := [.int (S 4200), .ref (ad 43)]) (host := "ClockLodgers") C (kX11_hourBits l B D ad cA hI S V L a1 a2 _ h3) mw_X11_hourBits wd585 (by decide +kernel) ⟨rfl, rfl, by decide, by decide⟩ ⟨Nat.zero_le _, Nat.zero_le _⟩ rfl rfl (Nat.le_of_ble_eq_true rfl) dX5_add_19 ?_
    refine lt_elim h (fun x4 e_x4 h => ?_)
    refine j_top2 e_x4 ?_
    obtain ⟨g5, h⟩ := gd_elim h
    refine j_iast C tc_43 (ib_in g5) dX5_add_22 ?_
    refine lt_elim h (fun V6 e_V6 h => ?_)
    refine j_V e_V6 ?_
    refine j_aload_n C 0 rfl dX5_add_23 rfl ?_
    refine fg_X5_15_TC_42 C dX5_add_24 ?_
    refine j_aload_n C 0 rfl dX5_add_27 rfl ?_
    refine fg_X5_18_TC_42 C dX5_add_28 ?_
    refine j_iload_n C 3 rfl dX5_add_31 rfl ?_
    refine lt_elim h (fun x7 e_x7 h => ?_)
    refine j_top2 e_x7 ?_
    obtain ⟨g8, h⟩ := gd_elim h
    refine j_iast C tc_44 (ib_in g8) dX5_add_32 ?_
    refine lt_elim h (fun V9 e_V9 h => ?_)
    refine j_V e_V9 ?_
    refine j_aload_n C 0 rfl dX5_add_33 rfl ?_
    refine j_dup C dX5_add_34 rfl ?_
    refine fg_X5_18_TC_42 C dX5_add_35 ?_
    refine j_iconst C dX5_add_38 ci_1 ?_
    refine j_iadd C dX5_add_39 ?_
    refine lt_elim h (fun x10 e_x10 h => ?_)
    refine j_top e_x10 ?_
    refine fp_X5_18_TC_42 C dX5_add_40 ?_
    refine lt_elim h (fun S11 e_S11 h => ?_)
    refine j_S e_S11 ?_
    refine j_aload_n C 0 rfl dX5_add_43 rfl ?_
    refine fg_X5_18_TC_42 C dX5_add_44 ?_
    cases h
    exact j_iret C hr hlk rfl dX5_add_47
theorem dX11_offer_0 : decode cX11_offer 0 = .ok (.aload_n 0, 1) := by decide +kernel
theorem dX11_offer_1 : decode cX11_offer 1 = .ok (.getfield 59, 3) := by decide +kernel
theorem dX11_offer_4 : decode cX11_offer 4 = .ok (.getfield 162, 3) := by decide +kernel
theorem dX11_offer_7 : decode cX11_offer 7 = .ok (.bipush 8, 2) := by decide +kernel
theorem dX11_offer_9 : decode cX11_offer 9 = .ok (.if_icmp .ge 28, 3) := by decide +kernel
theorem dX11_offer_12 : decode cX11_offer 12 = .ok (.iload_n 1, 1) := by decide +kernel
theorem dX11_offer_13 : decode cX11_offer 13 = .ok (.ifCond .lt 24, 3) := by decide +kernel
theorem dX11_offer_16 : decode cX11_offer 16 = .ok (.iload_n 2, 1) := by decide +kernel
theorem dX11_offer_17 : decode cX11_offer 17 = .ok (.iload_n 1, 1) := by decide +kernel
theorem dX11_offer_18 : decode cX11_offer 18 = .ok (.if_icmp .lt 19, 3) := by decide +kernel
theorem dX11_offer_21 : decode cX11_offer 21 = .ok (.iload_n 2, 1) := by decide +kernel
theorem dX11_offer_22 : decode cX11_offer 22 = .ok (.bipush 23, 2) := by decide +kernel
theorem dX11_offer_24 : decode cX11_offer 24 = .ok (.if_icmp .gt 13, 3) := by decide +kernel
theorem dX11_offer_27 : decode cX11_offer 27 = .ok (.iload_n 3, 1) := by decide +kernel
theorem dX11_offer_28 : decode cX11_offer 28 = .ok (.ifCond .lt 9, 3) := by decide +kernel
theorem dX11_offer_31 : decode cX11_offer 31 = .ok (.iload_n 3, 1) := by decide +kernel
theorem dX11_offer_32 : decode cX11_offer 32 = .ok (.bipush 99, 2) := by decide +kernel
theorem dX11_offer_34 : decode cX11_offer 34 = .ok (.if_icmp .le 15, 3) := by decide +kernel
theorem dX11_offer_37 : decode cX11_offer 37 = .ok (.aload_n 0, 1) := by decide +kernel
theorem dX11_offer_38 : decode cX11_offer 38 = .ok (.getfield 17, 3) := by decide +kernel
theorem dX11_offer_41 : decode cX11_offer 41 = .ok (.iconst 2, 1) := by decide +kernel
theorem dX11_offer_42 : decode cX11_offer 42 = .ok (.dup2, 1) := by decide +kernel
theorem dX11_offer_43 : decode cX11_offer 43 = .ok (.iaload, 1) := by decide +kernel
theorem dX11_offer_44 : decode cX11_offer 44 = .ok (.iconst 1, 1) := by decide +kernel
theorem dX11_offer_45 : decode cX11_offer 45 = .ok (.iadd, 1) := by decide +kernel
theorem dX11_offer_46 : decode cX11_offer 46 = .ok (.iastore, 1) := by decide +kernel
theorem dX11_offer_47 : decode cX11_offer 47 = .ok (.iconst (-1), 1) := by decide +kernel
theorem dX11_offer_48 : decode cX11_offer 48 = .ok (.ireturn, 1) := by decide +kernel
theorem dX11_offer_49 : decode cX11_offer 49 = .ok (.aload_n 0, 1) := by decide +kernel
theorem dX11_offer_50 : decode cX11_offer 50 = .ok (.getfield 59, 3) := by decide +kernel
theorem dX11_offer_53 : decode cX11_offer 53 = .ok (.iload_n 1, 1) := by decide +kernel
theorem dX11_offer_54 : decode cX11_offer 54 = .ok (.iload_n 2, 1) := by decide +kernel
theorem dX11_offer_55 : decode cX11_offer 55 = .ok (.iload_n 3, 1) := by decide +kernel
theorem dX11_offer_56 : decode cX11_offer 56 = .ok (.invokevirtual 286, 3) := by decide +kernel
theorem dX11_offer_59 : decode cX11_offer 59 = .ok (.ireturn, 1) := by decide +kernel
def fX11_offer_0 (S : Nat → Int32) (V : Nat → Nat → Int32) (a1 : Int32) (a2 : Int32) (a3 : Int32) : Option (Int32 × (Nat → Int32) × (Nat → Nat → Int32)) :=
  bk (fun (S2 : Nat → Int32) (V3 : Nat → Nat → Int32) =>
  gd (ib (2 : Int32) 3) (
  lt (((V3 2 ((2 : Int32)).toNatClampNeg) + (1 : Int32))) (fun x5 =>
  gd (ib (2 : Int32) 3) (
  lt (va_up V3 2 (upd (V3 2) ((2 : Int32)).toNatClampNeg x5)) (fun V7 =>
  some ((-1 : Int32), S2, V7)))))) (fun K37_1 =>
  (if (8 : Int32) ≤ (S 4200) then
  K37_1 S V
  else
  (if a1 < 0 then
  K37_1 S V
  else
  (if a2 < a1 then
  K37_1 S V
  else
  (if (23 : Int32) < a2 then
  K37_1 S V
  else
  (if a3 < 0 then
  K37_1 S V
  else
  (if a3 ≤ (99 : Int32) then
  bd3 (fX5_add_42 S V a1 a2 a3) (fun r14 S15 V16 =>
  some (r14, S15, V16))
  else
  K37_1 S V)))))))
set_option maxHeartbeats 4000000 in
set_option maxRecDepth 100000 in
theorem kX11_offer_0 (l : Launch) (B : jBT) (D : va_G) (ad : Nat → Nat) (cA : Nat → ClassId) (hI : jI ad TC) (S : Nat → Int32) (V : Nat → Nat → Int32) (L : Nat → Int64) (a1 : Int32) (a2 : Int32) (a3 : Int32) (r0 : Int32) (S0 : Nat → Int32) (V0 : Nat → Nat → Int32) (h : fX11_offer_0 S V a1 a2 a3 = some (r0, S0, V0)) : jM l yX11_offer cX11_offer 4 (some .int) ({ frames := 2, cells := 0, slots := 0, locals := 44 }) B D TC ad cA [.ref (ad 0), .int a1, .int a2, .int a3] S V L (some (.int r0)) S0 V0 L := by
  refine jM_of (plainFor_of_name (by decide)) TC_ok hI (Nat.le_of_ble_eq_true rfl) ?_
  intro p e s m args below meth c C hr hlk
  refine j_lv (lv2 := [(0, .ref (ad 0)), (1, .int a1), (2, .int a2), (3, .int a3)]) rfl ?_
  unfold fX11_offer_0 at h
  refine j_aload_n C 0 rfl dX11_offer_0 rfl ?_
  refine fg_X11_59_TC_0 C dX11_offer_1 ?_
  refine fg_X11_162_TC_42 C dX11_offer_4 ?_
  refine j_bipush C dX11_offer_7 cb_8 ?_
  refine bk_elim h (fun K37_1 e_K37_1 h => ?_)
  have HK37_1 : ∀ (S2 : Nat → Int32) (V3 : Nat → Nat → Int32), K37_1 S2 V3 = some (r0, S0, V0) → jW p l e ({ frames := 2, cells := 0, slots := 0, locals := 44 }) s m args below meth c (MQ below (jQc D TC ad cA (some (.int r0)) s.heap.size S0 V0 L) args s 0 0 (jA ad TC s.heap.size)) D TC ad cA (jA ad TC s.heap.size) 4 0 0 37 [(0, .ref (ad 0))] [] S2 V3 L := by
    subst e_K37_1
    intro S2 V3 h
    refine j_aload_n C 0 rfl dX11_offer_37 rfl ?_
    refine fg_X11_17_TC_0 C dX11_offer_38 ?_
    refine j_iconst C dX11_offer_41 ci_2 ?_
    refine j_dup2_11 C dX11_offer_42 rfl rfl ?_
    obtain ⟨g4, h⟩ := gd_elim h
    refine j_iald C tc_2 (ib_in g4) dX11_offer_43 ?_
    refine j_iconst C dX11_offer_44 ci_1 ?_
    refine j_iadd C dX11_offer_45 ?_
    refine lt_elim h (fun x5 e_x5 h => ?_)
    refine j_top e_x5 ?_
    obtain ⟨g6, h⟩ := gd_elim h
    refine j_iast C tc_2 (ib_in g6) dX11_offer_46 ?_
    refine lt_elim h (fun V7 e_V7 h => ?_)
    refine j_V e_V7 ?_
    refine j_iconst C dX11_offer_47 ci_m1 ?_
    cases h
    exact j_iret C hr hlk rfl dX11_offer_48
  refine j_icmp_ge (tgt := 37) C dX11_offer_9 (by decide) (fun c8 => ?_) (fun c8 => ?_)
  · have h := (if_pos c8).symm.trans h
    exact j_sub [0] rfl (HK37_1 _ _ h)
  · have h := (if_neg c8).symm.trans h
    refine j_iload_n C 1 rfl dX11_offer_12 rfl ?_
    refine j_if_lt (tgt := 37) C dX11_offer_13 (by decide) (fun c9 => ?_) (fun c9 => ?_)
    · have h := (if_pos c9).symm.trans h
      exact j_sub [0] rfl (HK37_1 _ _ h)
    · have h := (if_neg c9).symm.trans h
      refine j_iload_n C 2 rfl dX11_offer_16 rfl ?_
      refine j_iload_n C 1 rfl dX11_offer_17 rfl ?_
      refine j_icmp_lt (tgt := 37) C dX11_offer_18 (by decide) (fun c10 => ?_) (fun c10 => ?_)
      · have h := (if_pos c10).symm.trans h
        exact j_sub [0] rfl (HK37_1 _ _ h)
      · have h := (if_neg c10).symm.trans h
        refine j_iload_n C 2 rfl dX11_offer_21 rfl ?_
        refine j_bipush C dX11_offer_22 cb_23 ?_
        refine j_icmp_gt (tgt := 37) C dX11_offer_24 (by decide) (fun c11 => ?_) (fun c11 => ?_)
        · have h := (if_pos c11).symm.trans h
          exact j_sub [0] rfl (HK37_1 _ _ h)
        · have h := (if_neg c11).symm.trans h
          refine j_iload_n C 3 rfl dX11_offer_27 rfl ?_
          refine j_if_lt (tgt := 37) C dX11_offer_28 (by decide) (fun c12 => ?_) (fun c12 => ?_)
          · have h := (if_pos c12).symm.trans h
            exact j_sub [0] rfl (HK37_1 _ _ h)
          · have h := (if_neg c12).symm.trans h
            refine j_iload_n C 3 rfl dX11_offer_31 rfl ?_
            refine j_bipush C dX11_offer_32 cb_99 ?_
            refine j_icmp_le (tgt := 49) C dX11_offer_34 (by decide) (fun c13 => ?_) (fun c13 => ?_)
            · have h := (if_pos c13).symm.trans h
              refine j_aload_n C 0 rfl dX11_offer_49 rfl ?_
              refine fg_X11_59_TC_0 C dX11_offer_50 ?_
              refine j_iload_n C 1 rfl dX11_offer_53 rfl ?_
              refine j_iload_n C 2 rfl dX11_offer_54 rfl ?_
              refine j_iload_n C 3 rfl dX11_offer_55 rfl ?_
              obtain ⟨r14, S15, V16, h17, h⟩ := bd3_elim h
              refine j_callV (As := [.int a1, .int a2, .int a3]) (rest := []) C (kX5_add_42 l B D ad cA hI S V L a1 a2 a3 _ _ _ h17) mw_X5_add wd660 wd661 wd659 tc_42 rfl rfl ⟨rfl, rfl, by decide, by decide⟩ ⟨Nat.zero_le _, Nat.zero_le _⟩ rfl rfl (Nat.le_of_ble_eq_true rfl) dX11_offer_56 ?_
              cases h
              exact j_iret C hr hlk rfl dX11_offer_59
            · have h := (if_neg c13).symm.trans h
              exact j_sub [0] rfl (HK37_1 _ _ h)
def fX4_copyFrom_30_36 (S : Nat → Int32) (V : Nat → Nat → Int32) : Option ((Nat → Int32) × (Nat → Nat → Int32)) :=
  lt ((S 3602)) (fun x1 =>
  lt (va_up S 3002 x1) (fun S2 =>
  lt ((S2 3002)) (fun x3 =>
  gd (cpr (0 : Int32) (0 : Int32) x3 13 13) (
  lt (va_up V 31 (va_cpy (V 37) (V 31) ((0 : Int32)).toNatClampNeg ((0 : Int32)).toNatClampNeg (x3).toNatClampNeg)) (fun V5 =>
  lt ((S2 3002)) (fun x6 =>
  gd (cpr (0 : Int32) (0 : Int32) x6 13 13) (
  lt (va_up V5 32 (va_cpy (V5 38) (V5 32) ((0 : Int32)).toNatClampNeg ((0 : Int32)).toNatClampNeg (x6).toNatClampNeg)) (fun V8 =>
  lt ((S2 3002)) (fun x9 =>
  gd (cpr (0 : Int32) (0 : Int32) x9 13 13) (
  lt (va_up V8 33 (va_cpy (V8 39) (V8 33) ((0 : Int32)).toNatClampNeg ((0 : Int32)).toNatClampNeg (x9).toNatClampNeg)) (fun V11 =>
  lt ((S2 3002)) (fun x12 =>
  gd (cpr (0 : Int32) (0 : Int32) x12 13 13) (
  lt (va_up V11 34 (va_cpy (V11 40) (V11 34) ((0 : Int32)).toNatClampNeg ((0 : Int32)).toNatClampNeg (x12).toNatClampNeg)) (fun V14 =>
  gd (cpr (0 : Int32) (0 : Int32) (72 : Int32) 72 72) (
  lt (va_up V14 35 (va_cpy (V14 41) (V14 35) ((0 : Int32)).toNatClampNeg ((0 : Int32)).toNatClampNeg ((72 : Int32)).toNatClampNeg)) (fun V16 =>
  some (S2, V16)))))))))))))))))
set_option maxHeartbeats 4000000 in
set_option maxRecDepth 100000 in
theorem kX4_copyFrom_30_36 (l : Launch) (B : jBT) (D : va_G) (ad : Nat → Nat) (cA : Nat → ClassId) (hI : jI ad TC) (S : Nat → Int32) (V : Nat → Nat → Int32) (L : Nat → Int64) (S0 : Nat → Int32) (V0 : Nat → Nat → Int32) (h : fX4_copyFrom_30_36 S V = some (S0, V0)) : jM l yX4_copyFrom cX4_copyFrom 2 none ({ frames := 1, cells := 0, slots := 0, locals := 60 }) B D TC ad cA [.ref (ad 30), .ref (ad 36)] S V L none S0 V0 L := by
  refine jM_of (plainFor_of_name (by decide)) TC_ok hI (Nat.le_of_ble_eq_true rfl) ?_
  intro p e s m args below meth c C hr hlk
  refine j_lv (lv2 := [(0, .ref (ad 30)), (1, .ref (ad 36))]) rfl ?_
  unfold fX4_copyFrom_30_36 at h
  refine j_aload_n C 0 rfl dX4_copyFrom_0 rfl ?_
  refine j_aload_n C 1 rfl dX4_copyFrom_1 rfl ?_
  refine fg_X4_41_TC_36 C dX4_copyFrom_2 ?_
  refine lt_elim h (fun x1 e_x1 h => ?_)
  refine j_top e_x1 ?_
  refine fp_X4_41_TC_30 C dX4_copyFrom_5 ?_
  refine lt_elim h (fun S2 e_S2 h => ?_)
  refine j_S e_S2 ?_
  refine j_aload_n C 1 rfl dX4_copyFrom_8 rfl ?_
  refine fg_X4_9_TC_36 C dX4_copyFrom_9 ?_
  refine j_iconst C dX4_copyFrom_12 ci_0 ?_
  refine j_aload_n C 0 rfl dX4_copyFrom_13 rfl ?_
  refine fg_X4_9_TC_30 C dX4_copyFrom_14 ?_
  refine j_iconst C dX4_copyFrom_17 ci_0 ?_
  refine j_aload_n C 0 rfl dX4_copyFrom_18 rfl ?_
  refine fg_X4_41_TC_30 C dX4_copyFrom_19 ?_
  refine lt_elim h (fun x3 e_x3 h => ?_)
  refine j_top e_x3 ?_
  obtain ⟨g4, h⟩ := gd_elim h
  refine j_copy C tc_37 tc_31 wd672 wd674 wd673 wd122 rfl g4 (fun _ _ => rfl) (by decide) (Nat.le_of_ble_eq_true rfl) dX4_copyFrom_22 ?_
  refine lt_elim h (fun V5 e_V5 h => ?_)
  refine j_V e_V5 ?_
  refine j_aload_n C 1 rfl dX4_copyFrom_25 rfl ?_
  refine fg_X4_15_TC_36 C dX4_copyFrom_26 ?_
  refine j_iconst C dX4_copyFrom_29 ci_0 ?_
  refine j_aload_n C 0 rfl dX4_copyFrom_30 rfl ?_
  refine fg_X4_15_TC_30 C dX4_copyFrom_31 ?_
  refine j_iconst C dX4_copyFrom_34 ci_0 ?_
  refine j_aload_n C 0 rfl dX4_copyFrom_35 rfl ?_
  refine fg_X4_41_TC_30 C dX4_copyFrom_36 ?_
  refine lt_elim h (fun x6 e_x6 h => ?_)
  refine j_top e_x6 ?_
  obtain ⟨g7, h⟩ := gd_elim h
  refine j_copy C tc_38 tc_32 wd672 wd674 wd673 wd122 rfl g7 (fun _ _ => rfl) (by decide) (Nat.le_of_ble_eq_true rfl) dX4_copyFrom_39 ?_
  refine lt_elim h (fun V8 e_V8 h => ?_)
  refine j_V e_V8 ?_
  refine j_aload_n C 1 rfl dX4_copyFrom_42 rfl ?_
  refine fg_X4_18_TC_36 C dX4_copyFrom_43 ?_
  refine j_iconst C dX4_copyFrom_46 ci_0 ?_
  refine j_aload_n C 0 rfl dX4_copyFrom_47 rfl ?_
  refine fg_X4_18_TC_30 C dX4_copyFrom_48 ?_
  refine j_iconst C dX4_copyFrom_51 ci_0 ?_
  refine j_aload_n C 0 rfl dX4_copyFrom_52 rfl ?_
  refine fg_X4_41_TC_30 C dX4_copyFrom_53 ?_
  refine lt_elim h (fun x9 e_x9 h => ?_)
  refine j_top e_x9 ?_
  obtain ⟨g10, h⟩ := gd_elim h
  refine j_copy C tc_39 tc_33 wd672 wd674 wd673 wd122 rfl g10 (fun _ _ => rfl) (by decide) (Nat.le_of_ble_eq_true rfl) dX4_copyFrom_56 ?_
  refine lt_elim h (fun V11 e_V11 h => ?_)
  refine j_V e_V11 ?_
  refine j_aload_n C 1 rfl dX4_copyFrom_59 rfl ?_
  refine fg_X4_21_TC_36 C dX4_copyFrom_60 ?_
  refine j_iconst C dX4_copyFrom_63 ci_0 ?_
  refine j_aload_n C 0 rfl dX4_copyFrom_64 rfl ?_
  refine fg_X4_21_TC_30 C dX4_copyFrom_65 ?_
  refine j_iconst C dX4_copyFrom_68 ci_0 ?_
  refine j_aload_n C 0 rfl dX4_copyFrom_69 rfl ?_
  refine fg_X4_41_TC_30 C dX4_copyFrom_70 ?_
  refine lt_elim h (fun x12 e_x12 h => ?_)
  refine j_top e_x12 ?_
  obtain ⟨g13, h⟩ := gd_elim h
  refine j_copy C tc_40 tc_34 wd672 wd674 wd673 wd122 rfl g13 (fun _ _ => rfl) (by decide) (Nat.le_of_ble_eq_true rfl) dX4_copyFrom_73 ?_
  refine lt_elim h (fun V14 e_V14 h => ?_)
  refine j_V e_V14 ?_
  refine j_aload_n C 1 rfl dX4_copyFrom_76 rfl ?_
  refine fg_X4_24_TC_36 C dX4_copyFrom_77 ?_
  refine j_iconst C dX4_copyFrom_80 ci_0 ?_
  refine j_aload_n C 0 rfl dX4_copyFrom_81 rfl ?_
  refine fg_X4_24_TC_30 C dX4_copyFrom_82 ?_
  refine j_iconst C dX4_copyFrom_85 ci_0 ?_
  refine j_bipush C dX4_copyFrom_86 cb_72 ?_
  obtain ⟨g15, h⟩ := gd_elim h
  refine j_copy C tc_41 tc_35 wd672 wd674 wd673 wd122 rfl g15 (fun _ _ => rfl) (by decide) (Nat.le_of_ble_eq_true rfl) dX4_copyFrom_88 ?_
  refine lt_elim h (fun V16 e_V16 h => ?_)
  refine j_V e_V16 ?_
  cases h
  exact j_vret C hr hlk rfl dX4_copyFrom_91
def fX5_copyFrom_42_45 (S : Nat → Int32) (V : Nat → Nat → Int32) : Option ((Nat → Int32) × (Nat → Nat → Int32)) :=
  lt ((S 4500)) (fun x1 =>
  lt (va_up S 4200 x1) (fun S2 =>
  lt ((S2 4200)) (fun x3 =>
  gd (cpr (0 : Int32) (0 : Int32) x3 8 8) (
  lt (va_up V 43 (va_cpy (V 46) (V 43) ((0 : Int32)).toNatClampNeg ((0 : Int32)).toNatClampNeg (x3).toNatClampNeg)) (fun V5 =>
  lt ((S2 4200)) (fun x6 =>
  gd (cpr (0 : Int32) (0 : Int32) x6 8 8) (
  lt (va_up V5 44 (va_cpy (V5 47) (V5 44) ((0 : Int32)).toNatClampNeg ((0 : Int32)).toNatClampNeg (x6).toNatClampNeg)) (fun V8 =>
  some (S2, V8)))))))))
set_option maxHeartbeats 4000000 in
set_option maxRecDepth 100000 in
theorem kX5_copyFrom_42_45 (l : Launch) (B : jBT) (D : va_G) (ad : Nat → Nat) (cA : Nat → ClassId) (hI : jI ad TC) (S : Nat → Int32) (V : Nat → Nat → Int32) (L : Nat → Int64) (S0 : Nat → Int32) (V0 : Nat → Nat → Int32) (h : fX5_copyFrom_42_45 S V = some (S0, V0)) : jM l yX5_copyFrom cX5_copyFrom 2 none ({ frames := 1, cells := 0, slots := 0, locals := 60 }) B D TC ad cA [.ref (ad 42), .ref (ad 45)] S V L none S0 V0 L := by
  refine jM_of (plainFor_of_name (by decide)) TC_ok hI (Nat.le_of_ble_eq_true rfl) ?_
  intro p e s m args below meth c C hr hlk
  refine j_lv (lv2 := [(0, .ref (ad 42)), (1, .ref (ad 45))]) rfl ?_
  unfold fX5_copyFrom_42_45 at h
  refine j_aload_n C 0 rfl dX5_copyFrom_0 rfl ?_
  refine j_aload_n C 1 rfl dX5_copyFrom_1 rfl ?_
  refine fg_X5_18_TC_45 C dX5_copyFrom_2 ?_
  refine lt_elim h (fun x1 e_x1 h => ?_)
  refine j_top e_x1 ?_
  refine fp_X5_18_TC_42 C dX5_copyFrom_5 ?_
  refine lt_elim h (fun S2 e_S2 h => ?_)
  refine j_S e_S2 ?_
  refine j_aload_n C 1 rfl dX5_copyFrom_8 rfl ?_
  refine fg_X5_9_TC_45 C dX5_copyFrom_9 ?_
  refine j_iconst C dX5_copyFrom_12 ci_0 ?_
  refine j_aload_n C 0 rfl dX5_copyFrom_13 rfl ?_
  refine fg_X5_9_TC_42 C dX5_copyFrom_14 ?_
  refine j_iconst C dX5_copyFrom_17 ci_0 ?_
  refine j_aload_n C 0 rfl dX5_copyFrom_18 rfl ?_
  refine fg_X5_18_TC_42 C dX5_copyFrom_19 ?_
  refine lt_elim h (fun x3 e_x3 h => ?_)
  refine j_top e_x3 ?_
  obtain ⟨g4, h⟩ := gd_elim h
  refine j_copy C tc_46 tc_43 wd679 wd674 wd673 wd122 rfl g4 (fun _ _ => rfl) (by decide) (Nat.le_of_ble_eq_true rfl) dX5_copyFrom_22 ?_
  refine lt_elim h (fun V5 e_V5 h => ?_)
  refine j_V e_V5 ?_
  refine j_aload_n C 1 rfl dX5_copyFrom_25 rfl ?_
  refine fg_X5_15_TC_45 C dX5_copyFrom_26 ?_
  refine j_iconst C dX5_copyFrom_29 ci_0 ?_
  refine j_aload_n C 0 rfl dX5_copyFrom_30 rfl ?_
  refine fg_X5_15_TC_42 C dX5_copyFrom_31 ?_
  refine j_iconst C dX5_copyFrom_34 ci_0 ?_
  refine j_aload_n C 0 rfl dX5_copyFrom_35 rfl ?_
  refine fg_X5_18_TC_42 C dX5_copyFrom_36 ?_
  refine lt_elim h (fun x6 e_x6 h => ?_)
  refine j_top e_x6 ?_
  obtain ⟨g7, h⟩ := gd_elim h
  refine j_copy C tc_47 tc_44 wd679 wd674 wd673 wd122 rfl g7 (fun _ _ => rfl) (by decide) (Nat.le_of_ble_eq_true rfl) dX5_copyFrom_39 ?_
  refine lt_elim h (fun V8 e_V8 h => ?_)
  refine j_V e_V8 ?_
  cases h
  exact j_vret C hr hlk rfl dX5_copyFrom_42
theorem dX11_restore_0 : decode cX11_restore 0 = .ok (.aload_n 0, 1) := by decide +kernel
theorem dX11_restore_1 : decode cX11_restore 1 = .ok (.getfield 134, 3) := by decide +kernel
theorem dX11_restore_4 : decode cX11_restore 4 = .ok (.ifCond .ne 5, 3) := by decide +kernel
theorem dX11_restore_7 : decode cX11_restore 7 = .ok (.iconst 0, 1) := by decide +kernel
theorem dX11_restore_8 : decode cX11_restore 8 = .ok (.ireturn, 1) := by decide +kernel
theorem dX11_restore_9 : decode cX11_restore 9 = .ok (.aload_n 0, 1) := by decide +kernel
theorem dX11_restore_10 : decode cX11_restore 10 = .ok (.getfield 49, 3) := by decide +kernel
theorem dX11_restore_13 : decode cX11_restore 13 = .ok (.aload_n 0, 1) := by decide +kernel
theorem dX11_restore_14 : decode cX11_restore 14 = .ok (.getfield 53, 3) := by decide +kernel
theorem dX11_restore_17 : decode cX11_restore 17 = .ok (.invokevirtual 324, 3) := by decide +kernel
theorem dX11_restore_20 : decode cX11_restore 20 = .ok (.aload_n 0, 1) := by decide +kernel
theorem dX11_restore_21 : decode cX11_restore 21 = .ok (.getfield 59, 3) := by decide +kernel
theorem dX11_restore_24 : decode cX11_restore 24 = .ok (.aload_n 0, 1) := by decide +kernel
theorem dX11_restore_25 : decode cX11_restore 25 = .ok (.getfield 63, 3) := by decide +kernel
theorem dX11_restore_28 : decode cX11_restore 28 = .ok (.invokevirtual 326, 3) := by decide +kernel
theorem dX11_restore_31 : decode cX11_restore 31 = .ok (.iconst 1, 1) := by decide +kernel
theorem dX11_restore_32 : decode cX11_restore 32 = .ok (.ireturn, 1) := by decide +kernel
def fX11_restore_0 (S : Nat → Int32) (V : Nat → Nat → Int32) : Option (Int32 × (Nat → Int32) × (Nat → Nat → Int32)) :=
  (if (S 11) = 0 then
  some ((0 : Int32), S, V)
  else
  bd2 (fX4_copyFrom_30_36 S V) (fun S2 V3 =>
  bd2 (fX5_copyFrom_42_45 S2 V3) (fun S5 V6 =>
  some ((1 : Int32), S5, V6))))
set_option maxHeartbeats 4000000 in
set_option maxRecDepth 100000 in
theorem kX11_restore_0 (l : Launch) (B : jBT) (D : va_G) (ad : Nat → Nat) (cA : Nat → ClassId) (hI : jI ad TC) (S : Nat → Int32) (V : Nat → Nat → Int32) (L : Nat → Int64) (r0 : Int32) (S0 : Nat → Int32) (V0 : Nat → Nat → Int32) (h : fX11_restore_0 S V = some (r0, S0, V0)) : jM l yX11_restore cX11_restore 1 (some .boolean) ({ frames := 2, cells := 0, slots := 0, locals := 81 }) B D TC ad cA [.ref (ad 0)] S V L (some (.int r0)) S0 V0 L := by
  refine jM_of (plainFor_of_name (by decide)) TC_ok hI (Nat.le_of_ble_eq_true rfl) ?_
  intro p e s m args below meth c C hr hlk
  refine j_lv (lv2 := [(0, .ref (ad 0))]) rfl ?_
  unfold fX11_restore_0 at h
  refine j_aload_n C 0 rfl dX11_restore_0 rfl ?_
  refine fg_X11_134_TC_0 C dX11_restore_1 ?_
  refine j_if_ne (tgt := 9) C dX11_restore_4 (by decide) (fun c1 => ?_) (fun c1 => ?_)
  · have h := (if_neg c1).symm.trans h
    refine j_aload_n C 0 rfl dX11_restore_9 rfl ?_
    refine fg_X11_49_TC_0 C dX11_restore_10 ?_
    refine j_aload_n C 0 rfl dX11_restore_13 rfl ?_
    refine fg_X11_53_TC_0 C dX11_restore_14 ?_
    obtain ⟨S2, V3, h4, h⟩ := bd2_elim h
    refine j_callV (As := [.ref (ad 36)]) (rest := []) C (kX4_copyFrom_30_36 l B D ad cA hI S V L _ _ h4) mw_X4_copyFrom wd669 wd670 wd668 tc_30 rfl rfl ⟨rfl, rfl, by decide, by decide⟩ ⟨Nat.zero_le _, Nat.zero_le _⟩ rfl rfl (Nat.le_of_ble_eq_true rfl) dX11_restore_17 ?_
    refine j_aload_n C 0 rfl dX11_restore_20 rfl ?_
    refine fg_X11_59_TC_0 C dX11_restore_21 ?_
    refine j_aload_n C 0 rfl dX11_restore_24 rfl ?_
    refine fg_X11_63_TC_0 C dX11_restore_25 ?_
    obtain ⟨S5, V6, h7, h⟩ := bd2_elim h
    refine j_callV (As := [.ref (ad 45)]) (rest := []) C (kX5_copyFrom_42_45 l B D ad cA hI S2 V3 L _ _ h7) mw_X5_copyFrom wd676 wd677 wd675 tc_42 rfl rfl ⟨rfl, rfl, by decide, by decide⟩ ⟨Nat.zero_le _, Nat.zero_le _⟩ rfl rfl (Nat.le_of_ble_eq_true rfl) dX11_restore_28 ?_
    refine j_iconst C dX11_restore_31 ci_1 ?_
    cases h
    exact j_zret C hr hlk rfl rfl dX11_restore_32
  · have h := (if_pos c1).symm.trans h
    refine j_iconst C dX11_restore_7 ci_0 ?_
    cases h
    exact j_zret C hr hlk rfl rfl dX11_restore_8
theorem dX4_takeBack_0 : decode cX4_takeBack 0 = .ok (.aload_n 0, 1) := by decide +kernel
theorem dX4_takeBack_1 : decode cX4_takeBack 1 = .ok (.getfield 41, 3) := by decide +kernel
theorem dX4_takeBack_4 : decode cX4_takeBack 4 = .ok (.ifCond .ne 5, 3) := by decide +kernel
theorem dX4_takeBack_7 : decode cX4_takeBack 7 = .ok (.iconst (-1), 1) := by decide +kernel
theorem dX4_takeBack_8 : decode cX4_takeBack 8 = .ok (.ireturn, 1) := by decide +kernel
theorem dX4_takeBack_9 : decode cX4_takeBack 9 = .ok (.aload_n 0, 1) := by decide +kernel
theorem dX4_takeBack_10 : decode cX4_takeBack 10 = .ok (.dup, 1) := by decide +kernel
theorem dX4_takeBack_11 : decode cX4_takeBack 11 = .ok (.getfield 41, 3) := by decide +kernel
theorem dX4_takeBack_14 : decode cX4_takeBack 14 = .ok (.iconst 1, 1) := by decide +kernel
theorem dX4_takeBack_15 : decode cX4_takeBack 15 = .ok (.isub, 1) := by decide +kernel
theorem dX4_takeBack_16 : decode cX4_takeBack 16 = .ok (.putfield 41, 3) := by decide +kernel
theorem dX4_takeBack_19 : decode cX4_takeBack 19 = .ok (.aload_n 0, 1) := by decide +kernel
theorem dX4_takeBack_20 : decode cX4_takeBack 20 = .ok (.invokevirtual 80, 3) := by decide +kernel
theorem dX4_takeBack_23 : decode cX4_takeBack 23 = .ok (.aload_n 0, 1) := by decide +kernel
theorem dX4_takeBack_24 : decode cX4_takeBack 24 = .ok (.getfield 41, 3) := by decide +kernel
theorem dX4_takeBack_27 : decode cX4_takeBack 27 = .ok (.ireturn, 1) := by decide +kernel
def fX4_takeBack_30 (S : Nat → Int32) (V : Nat → Nat → Int32) : Option (Int32 × (Nat → Int32) × (Nat → Nat → Int32)) :=
  (if (S 3002) = 0 then
  some ((-1 : Int32), S, V)
  else
  lt (((S 3002) - (1 : Int32))) (fun x2 =>
  lt (va_up S 3002 x2) (fun S3 =>
  bd1 (fX4_moveOut_30 S3 V) (fun V4 =>
  some ((S3 3002), S3, V4)))))
set_option maxHeartbeats 4000000 in
set_option maxRecDepth 100000 in
theorem kX4_takeBack_30 (l : Launch) (B : jBT) (D : va_G) (ad : Nat → Nat) (cA : Nat → ClassId) (hI : jI ad TC) (S : Nat → Int32) (V : Nat → Nat → Int32) (L : Nat → Int64) (r0 : Int32) (S0 : Nat → Int32) (V0 : Nat → Nat → Int32) (h : fX4_takeBack_30 S V = some (r0, S0, V0)) : jM l yX4_takeBack cX4_takeBack 1 (some .int) ({ frames := 2, cells := 0, slots := 0, locals := 42 }) B D TC ad cA [.ref (ad 30)] S V L (some (.int r0)) S0 V0 L := by
  refine jM_of (plainFor_of_name (by decide)) TC_ok hI (Nat.le_of_ble_eq_true rfl) ?_
  intro p e s m args below meth c C hr hlk
  refine j_lv (lv2 := [(0, .ref (ad 30))]) rfl ?_
  unfold fX4_takeBack_30 at h
  refine j_aload_n C 0 rfl dX4_takeBack_0 rfl ?_
  refine fg_X4_41_TC_30 C dX4_takeBack_1 ?_
  refine j_if_ne (tgt := 9) C dX4_takeBack_4 (by decide) (fun c1 => ?_) (fun c1 => ?_)
  · have h := (if_neg c1).symm.trans h
    refine j_aload_n C 0 rfl dX4_takeBack_9 rfl ?_
    refine j_dup C dX4_takeBack_10 rfl ?_
    refine fg_X4_41_TC_30 C dX4_takeBack_11 ?_
    refine j_iconst C dX4_takeBack_14 ci_1 ?_
    refine j_isub C dX4_takeBack_15 ?_
    refine lt_elim h (fun x2 e_x2 h => ?_)
    refine j_top e_x2 ?_
    refine fp_X4_41_TC_30 C dX4_takeBack_16 ?_
    refine lt_elim h (fun S3 e_S3 h => ?_)
    refine j_S e_S3 ?_
    refine j_aload_n C 0 rfl dX4_takeBack_19 rfl ?_
    obtain ⟨V4, h5, h⟩ := bd1_elim h
    refine j_callV (As := []) (rest := []) C (kX4_moveOut_30 l B D ad cA hI S3 V L _ h5) mw_X4_moveOut wd637 wd7 wd635 tc_30 rfl rfl ⟨rfl, rfl, by decide, by decide⟩ ⟨Nat.zero_le _, Nat.zero_le _⟩ rfl rfl (Nat.le_of_ble_eq_true rfl) dX4_takeBack_20 ?_
    refine j_aload_n C 0 rfl dX4_takeBack_23 rfl ?_
    refine fg_X4_41_TC_30 C dX4_takeBack_24 ?_
    cases h
    exact j_iret C hr hlk rfl dX4_takeBack_27
  · have h := (if_pos c1).symm.trans h
    refine j_iconst C dX4_takeBack_7 ci_m1 ?_
    cases h
    exact j_iret C hr hlk rfl dX4_takeBack_8
theorem dX11_undo_0 : decode cX11_undo 0 = .ok (.aload_n 0, 1) := by decide +kernel
theorem dX11_undo_1 : decode cX11_undo 1 = .ok (.getfield 49, 3) := by decide +kernel
theorem dX11_undo_4 : decode cX11_undo 4 = .ok (.invokevirtual 203, 3) := by decide +kernel
theorem dX11_undo_7 : decode cX11_undo 7 = .ok (.ireturn, 1) := by decide +kernel
def fX11_undo_0 (S : Nat → Int32) (V : Nat → Nat → Int32) : Option (Int32 × (Nat → Int32) × (Nat → Nat → Int32)) :=
  bd3 (fX4_takeBack_30 S V) (fun r1 S2 V3 =>
  some (r1, S2, V3))
set_option maxHeartbeats 4000000 in
set_option maxRecDepth 100000 in
theorem kX11_undo_0 (l : Launch) (B : jBT) (D : va_G) (ad : Nat → Nat) (cA : Nat → ClassId) (hI : jI ad TC) (S : Nat → Int32) (V : Nat → Nat → Int32) (L : Nat → Int64) (r0 : Int32) (S0 : Nat → Int32) (V0 : Nat → Nat → Int32) (h : fX11_undo_0 S V = some (r0, S0, V0)) : jM l yX11_undo cX11_undo 1 (some .int) ({ frames := 3, cells := 0, slots := 0, locals := 62 }) B D TC ad cA [.ref (ad 0)] S V L (some (.int r0)) S0 V0 L := by
  refine jM_of (plainFor_of_name (by decide)) TC_ok hI (Nat.le_of_ble_eq_true rfl) ?_
  intro p e s m args below meth c C hr hlk
  refine j_lv (lv2 := [(0, .ref (ad 0))]) rfl ?_
  unfold fX11_undo_0 at h
  refine j_aload_n C 0 rfl dX11_undo_0 rfl ?_
  refine fg_X11_49_TC_0 C dX11_undo_1 ?_
  obtain ⟨r1, S2, V3, h4, h⟩ := bd3_elim h
  refine j_callV (As := []) (rest := []) C (kX4_takeBack_30 l B D ad cA hI S V L _ _ _ h4) mw_X4_takeBack wd652 wd653 wd651 tc_30 rfl rfl ⟨rfl, rfl, by decide, by decide⟩ ⟨Nat.zero_le _, Nat.zero_le _⟩ rfl rfl (Nat.le_of_ble_eq_true rfl) dX11_undo_4 ?_
  cases h
  exact j_iret C hr hlk rfl dX11_undo_7
theorem dX1_bitOf_0 : decode cX1_bitOf 0 = .ok (.iload_n 0, 1) := by decide +kernel
theorem dX1_bitOf_1 : decode cX1_bitOf 1 = .ok (.iconst (-1), 1) := by decide +kernel
theorem dX1_bitOf_2 : decode cX1_bitOf 2 = .ok (.if_icmp .ne 7, 3) := by decide +kernel
theorem dX1_bitOf_5 : decode cX1_bitOf 5 = .ok (.iconst 0, 1) := by decide +kernel
theorem dX1_bitOf_6 : decode cX1_bitOf 6 = .ok (.goto 6, 3) := by decide +kernel
theorem dX1_bitOf_9 : decode cX1_bitOf 9 = .ok (.iconst 1, 1) := by decide +kernel
theorem dX1_bitOf_10 : decode cX1_bitOf 10 = .ok (.iload_n 0, 1) := by decide +kernel
theorem dX1_bitOf_11 : decode cX1_bitOf 11 = .ok (.ishl, 1) := by decide +kernel
theorem dX1_bitOf_12 : decode cX1_bitOf 12 = .ok (.ireturn, 1) := by decide +kernel
def fX1_bitOf (a1 : Int32) : Option (Int32) :=
  (if a1 = (-1 : Int32) then
  some (0 : Int32)
  else
  some (((1 : Int32) <<< (a1 &&& 31))))
set_option maxHeartbeats 4000000 in
set_option maxRecDepth 100000 in
theorem kX1_bitOf (l : Launch) (B : jBT) (D : va_G) (ad : Nat → Nat) (cA : Nat → ClassId) (hI : jI ad TC) (S : Nat → Int32) (V : Nat → Nat → Int32) (L : Nat → Int64) (a1 : Int32) (r0 : Int32) (h : fX1_bitOf a1 = some r0) : jM l yX1_bitOf cX1_bitOf 1 (some .int) ({ frames := 0, cells := 0, slots := 0, locals := 0 }) B D TC ad cA [.int a1] S V L (some (.int r0)) S V L := by
  refine jM_of (plainFor_of_name (by decide)) TC_ok hI (Nat.le_of_ble_eq_true rfl) ?_
  intro p e s m args below meth c C hr hlk
  refine j_lv (lv2 := [(0, .int a1)]) rfl ?_
  unfold fX1_bitOf at h
  refine j_iload_n C 0 rfl dX1_bitOf_0 rfl ?_
  refine j_iconst C dX1_bitOf_1 ci_m1 ?_
  refine j_icmp_ne (tgt := 9) C dX1_bitOf_2 (by decide) (fun c1 => ?_) (fun c1 => ?_)
  · have h := (if_neg c1).symm.trans h
    refine j_iconst C dX1_bitOf_9 ci_1 ?_
    refine j_iload_n C 0 rfl dX1_bitOf_10 rfl ?_
    refine j_ishl C dX1_bitOf_11 ?_
    cases h
    exact j_iret C hr hlk rfl dX1_bitOf_12
  · have h := (if_pos c1).symm.trans h
    refine j_iconst C dX1_bitOf_5 ci_0 ?_
    refine j_goto (tgt := 12) C dX1_bitOf_6 (by decide) ?_
    cases h
    exact j_iret C hr hlk rfl dX1_bitOf_12
