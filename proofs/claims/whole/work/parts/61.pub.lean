theorem dX11_housed_0 : decode cX11_housed 0 = .ok (.aload_n 0, 1) := by decide +kernel
theorem dX11_housed_1 : decode cX11_housed 1 = .ok (.iload_n 1, 1) := by decide +kernel
theorem dX11_housed_2 : decode cX11_housed 2 = .ok (.invokevirtual 168, 3) := by decide +kernel
theorem dX11_housed_5 : decode cX11_housed 5 = .ok (.aload_n 0, 1) := by decide +kernel
theorem dX11_housed_6 : decode cX11_housed 6 = .ok (.getfield 78, 3) := by decide +kernel
theorem dX11_housed_9 : decode cX11_housed 9 = .ok (.getfield 246, 3) := by decide +kernel
theorem dX11_housed_12 : decode cX11_housed 12 = .ok (.ifCond .ne 13, 3) := by decide +kernel
theorem dX11_housed_15 : decode cX11_housed 15 = .ok (.new 163, 3) := by decide +kernel
theorem dX11_housed_18 : decode cX11_housed 18 = .ok (.dup, 1) := by decide +kernel
theorem dX11_housed_19 : decode cX11_housed 19 = .ok (.ldc 249, 2) := by decide +kernel
theorem dX11_housed_21 : decode cX11_housed 21 = .ok (.invokespecial 167, 3) := by decide +kernel
theorem dX11_housed_24 : decode cX11_housed 24 = .ok (.athrow, 1) := by decide +kernel
theorem dX11_housed_25 : decode cX11_housed 25 = .ok (.aload_n 0, 1) := by decide +kernel
theorem dX11_housed_26 : decode cX11_housed 26 = .ok (.getfield 78, 3) := by decide +kernel
theorem dX11_housed_29 : decode cX11_housed 29 = .ok (.getfield 251, 3) := by decide +kernel
theorem dX11_housed_32 : decode cX11_housed 32 = .ok (.iload_n 1, 1) := by decide +kernel
theorem dX11_housed_33 : decode cX11_housed 33 = .ok (.iaload, 1) := by decide +kernel
theorem dX11_housed_34 : decode cX11_housed 34 = .ok (.ireturn, 1) := by decide +kernel
def fX11_housed_0 (S : Nat → Int32) (V : Nat → Nat → Int32) (a1 : Int32) : Option ((Int32) ⊕ Nat) :=
  bdx (fX11_needTenant_0 S a1) (
  (if (S 4911) = 0 then
  some (.inr 1)
  else
  gd (ib a1 6) (
  some (.inl ((V 57 (a1).toNatClampNeg))))))
set_option maxHeartbeats 4000000 in
set_option maxRecDepth 100000 in
theorem kX11_housed_0 (l : Launch) (B : jBT) (D : va_G) (ad : Nat → Nat) (cA : Nat → ClassId) (hI : jI ad TC) (hl0 : l.stackTraces = false) (S : Nat → Int32) (V : Nat → Nat → Int32) (L : Nat → Int64) (a1 : Int32) (rr : (Int32) ⊕ Nat) (h : fX11_housed_0 S V a1 = some rr) : jMx l yX11_housed cX11_housed 2 (some .int) ({ frames := 7, cells := 2, slots := 12, locals := 141 }) B D TC ad cA [.ref (ad 0), .int a1] S V L (Sum.map (fun (z : Int32) => ((some (.int z) : Option Value), S, V, L)) (fun (x : Nat) => x) rr : jR) 2 12 := by
  refine jMx_of (by decide) TC_ok hI (Nat.le_of_ble_eq_true rfl) ?_
  intro p e s m args below meth c C hr hlk hxt
  refine j_lv (lv2 := [(0, .ref (ad 0)), (1, .int a1)]) rfl ?_
  unfold fX11_housed_0 at h
  refine j_aload_n C 0 rfl dX11_housed_0 rfl ?_
  refine j_iload_n C 1 rfl dX11_housed_1 rfl ?_
  rcases bdx_elim h with ⟨h1, h⟩ | ⟨x2, h1, rfl⟩
  · refine fun H locs ls hP hS hl => jx_ok C hS hl (jx_callV (As := [.int a1]) (rest := []) C (kX11_needTenant_0 l B D ad cA hI hl0 S V L a1 (.inl ()) h1) mw_X11_needTenant wd1083 wd36 wd1081 tc_0 rfl rfl ⟨rfl, rfl, by decide, by decide⟩ ⟨by decide, by decide⟩ rfl rfl (Nat.le_of_ble_eq_true rfl) dX11_housed_2 hP hS hl) ?_
    refine j_aload_n C 0 rfl dX11_housed_5 rfl ?_
    refine fg_X11_78_TC_0 C dX11_housed_6 ?_
    refine fg_X11_246_TC_49 C dX11_housed_9 ?_
    refine j_if_ne (tgt := 25) C dX11_housed_12 (by decide) (fun c3 => ?_) (fun c3 => ?_)
    · have h := (if_neg c3).symm.trans h
      refine j_aload_n C 0 rfl dX11_housed_25 rfl ?_
      refine fg_X11_78_TC_0 C dX11_housed_26 ?_
      refine fg_X11_251_TC_49 C dX11_housed_29 ?_
      refine j_iload_n C 1 rfl dX11_housed_32 rfl ?_
      obtain ⟨g4, h⟩ := gd_elim h
      refine j_iald C tc_57 (ib_in g4) dX11_housed_33 ?_
      cases h
      exact jx_iret C hr hlk rfl rfl (by decide) (by decide) dX11_housed_34
    · have h := (if_pos c3).symm.trans h
      cases h
      exact jx_throw (x := 1) (i := 12) C hl0 hlk rfl hxt rfl rfl xw_1 dX11_housed_15 dX11_housed_18 dX11_housed_19 dX11_housed_21 dX11_housed_24 (by decide) (Nat.le_of_ble_eq_true rfl) (by decide) (by decide) (by decide) (by decide)
  · exact fun H locs ls hP hS hl => jx_ex C hlk rfl hxt rfl hS (jx_callV (As := [.int a1]) (rest := []) C (kX11_needTenant_0 l B D ad cA hI hl0 S V L a1 (.inr x2) h1) mw_X11_needTenant wd1083 wd36 wd1081 tc_0 rfl rfl ⟨rfl, rfl, by decide, by decide⟩ ⟨by decide, by decide⟩ rfl rfl (Nat.le_of_ble_eq_true rfl) dX11_housed_2 hP hS hl) (by decide) (by decide)
theorem dX11_needHour_0 : decode cX11_needHour 0 = .ok (.iload_n 0, 1) := by decide +kernel
theorem dX11_needHour_1 : decode cX11_needHour 1 = .ok (.ifCond .lt 9, 3) := by decide +kernel
theorem dX11_needHour_4 : decode cX11_needHour 4 = .ok (.iload_n 0, 1) := by decide +kernel
theorem dX11_needHour_5 : decode cX11_needHour 5 = .ok (.bipush 23, 2) := by decide +kernel
theorem dX11_needHour_7 : decode cX11_needHour 7 = .ok (.if_icmp .le 14, 3) := by decide +kernel
theorem dX11_needHour_10 : decode cX11_needHour 10 = .ok (.new 163, 3) := by decide +kernel
theorem dX11_needHour_13 : decode cX11_needHour 13 = .ok (.dup, 1) := by decide +kernel
theorem dX11_needHour_14 : decode cX11_needHour 14 = .ok (.ldc_w 337, 3) := by decide +kernel
theorem dX11_needHour_17 : decode cX11_needHour 17 = .ok (.invokespecial 167, 3) := by decide +kernel
theorem dX11_needHour_20 : decode cX11_needHour 20 = .ok (.athrow, 1) := by decide +kernel
theorem dX11_needHour_21 : decode cX11_needHour 21 = .ok (.return_, 1) := by decide +kernel
def fX11_needHour (a1 : Int32) : Option ((Unit) ⊕ Nat) :=
  (if a1 < 0 then
  some (.inr 1)
  else
  (if a1 ≤ (23 : Int32) then
  some (.inl ())
  else
  some (.inr 1)))
set_option maxHeartbeats 4000000 in
set_option maxRecDepth 100000 in
theorem kX11_needHour (l : Launch) (B : jBT) (D : va_G) (ad : Nat → Nat) (cA : Nat → ClassId) (hI : jI ad TC) (hl0 : l.stackTraces = false) (S : Nat → Int32) (V : Nat → Nat → Int32) (L : Nat → Int64) (a1 : Int32) (rr : (Unit) ⊕ Nat) (h : fX11_needHour a1 = some rr) : jMx l yX11_needHour cX11_needHour 1 none ({ frames := 6, cells := 1, slots := 6, locals := 120 }) B D TC ad cA [.int a1] S V L (Sum.map (fun (z : Unit) => ((none : Option Value), S, V, L)) (fun (x : Nat) => x) rr : jR) 1 6 := by
  refine jMx_of (by decide) TC_ok hI (Nat.le_of_ble_eq_true rfl) ?_
  intro p e s m args below meth c C hr hlk hxt
  refine j_lv (lv2 := [(0, .int a1)]) rfl ?_
  unfold fX11_needHour at h
  refine j_iload_n C 0 rfl dX11_needHour_0 rfl ?_
  refine j_if_lt (tgt := 10) C dX11_needHour_1 (by decide) (fun c1 => ?_) (fun c1 => ?_)
  · have h := (if_pos c1).symm.trans h
    cases h
    exact jx_throwW (x := 1) (i := 7) C hl0 hlk rfl hxt rfl rfl xw_1 dX11_needHour_10 dX11_needHour_13 dX11_needHour_14 dX11_needHour_17 dX11_needHour_20 (by decide) (Nat.le_of_ble_eq_true rfl) (by decide) (by decide) (by decide) (by decide)
  · have h := (if_neg c1).symm.trans h
    refine j_iload_n C 0 rfl dX11_needHour_4 rfl ?_
    refine j_bipush C dX11_needHour_5 cb_23 ?_
    refine j_icmp_le (tgt := 21) C dX11_needHour_7 (by decide) (fun c2 => ?_) (fun c2 => ?_)
    · have h := (if_pos c2).symm.trans h
      cases h
      exact jx_vret C hr hlk rfl rfl (by decide) (by decide) dX11_needHour_21
    · have h := (if_neg c2).symm.trans h
      cases h
      exact jx_throwW (x := 1) (i := 7) C hl0 hlk rfl hxt rfl rfl xw_1 dX11_needHour_10 dX11_needHour_13 dX11_needHour_14 dX11_needHour_17 dX11_needHour_20 (by decide) (Nat.le_of_ble_eq_true rfl) (by decide) (by decide) (by decide) (by decide)
theorem dX11_in_0 : decode cX11_in 0 = .ok (.iload_n 1, 1) := by decide +kernel
theorem dX11_in_1 : decode cX11_in 1 = .ok (.ifCond .lt 8, 3) := by decide +kernel
theorem dX11_in_4 : decode cX11_in 4 = .ok (.iload_n 1, 1) := by decide +kernel
theorem dX11_in_5 : decode cX11_in 5 = .ok (.iconst 3, 1) := by decide +kernel
theorem dX11_in_6 : decode cX11_in 6 = .ok (.if_icmp .lt 13, 3) := by decide +kernel
theorem dX11_in_9 : decode cX11_in 9 = .ok (.new 163, 3) := by decide +kernel
theorem dX11_in_12 : decode cX11_in 12 = .ok (.dup, 1) := by decide +kernel
theorem dX11_in_13 : decode cX11_in 13 = .ok (.ldc 206, 2) := by decide +kernel
theorem dX11_in_15 : decode cX11_in 15 = .ok (.invokespecial 167, 3) := by decide +kernel
theorem dX11_in_18 : decode cX11_in 18 = .ok (.athrow, 1) := by decide +kernel
theorem dX11_in_19 : decode cX11_in 19 = .ok (.iload_n 2, 1) := by decide +kernel
theorem dX11_in_20 : decode cX11_in 20 = .ok (.invokestatic 208, 3) := by decide +kernel
theorem dX11_in_23 : decode cX11_in 23 = .ok (.aload_n 0, 1) := by decide +kernel
theorem dX11_in_24 : decode cX11_in 24 = .ok (.getfield 49, 3) := by decide +kernel
theorem dX11_in_27 : decode cX11_in 27 = .ok (.iload_n 1, 1) := by decide +kernel
theorem dX11_in_28 : decode cX11_in 28 = .ok (.iload_n 2, 1) := by decide +kernel
theorem dX11_in_29 : decode cX11_in 29 = .ok (.invokevirtual 211, 3) := by decide +kernel
theorem dX11_in_32 : decode cX11_in 32 = .ok (.ireturn, 1) := by decide +kernel
def fX11_in_0 (V : Nat → Nat → Int32) (a1 : Int32) (a2 : Int32) : Option ((Int32) ⊕ Nat) :=
  (if a1 < 0 then
  some (.inr 1)
  else
  (if a1 < (3 : Int32) then
  bdx (fX11_needHour a2) (
  bd1 (fX4_who_30 V a1 a2) (fun r5 =>
  some (.inl r5)))
  else
  some (.inr 1)))
set_option maxHeartbeats 4000000 in
set_option maxRecDepth 100000 in
theorem kX11_in_0 (l : Launch) (B : jBT) (D : va_G) (ad : Nat → Nat) (cA : Nat → ClassId) (hI : jI ad TC) (hl0 : l.stackTraces = false) (S : Nat → Int32) (V : Nat → Nat → Int32) (L : Nat → Int64) (a1 : Int32) (a2 : Int32) (rr : (Int32) ⊕ Nat) (h : fX11_in_0 V a1 a2 = some rr) : jMx l yX11_in cX11_in 3 (some .int) ({ frames := 7, cells := 2, slots := 12, locals := 140 }) B D TC ad cA [.ref (ad 0), .int a1, .int a2] S V L (Sum.map (fun (z : Int32) => ((some (.int z) : Option Value), S, V, L)) (fun (x : Nat) => x) rr : jR) 2 12 := by
  refine jMx_of (by decide) TC_ok hI (Nat.le_of_ble_eq_true rfl) ?_
  intro p e s m args below meth c C hr hlk hxt
  refine j_lv (lv2 := [(0, .ref (ad 0)), (1, .int a1), (2, .int a2)]) rfl ?_
  unfold fX11_in_0 at h
  refine j_iload_n C 1 rfl dX11_in_0 rfl ?_
  refine j_if_lt (tgt := 9) C dX11_in_1 (by decide) (fun c1 => ?_) (fun c1 => ?_)
  · have h := (if_pos c1).symm.trans h
    cases h
    exact jx_throw (x := 1) (i := 6) C hl0 hlk rfl hxt rfl rfl xw_1 dX11_in_9 dX11_in_12 dX11_in_13 dX11_in_15 dX11_in_18 (by decide) (Nat.le_of_ble_eq_true rfl) (by decide) (by decide) (by decide) (by decide)
  · have h := (if_neg c1).symm.trans h
    refine j_iload_n C 1 rfl dX11_in_4 rfl ?_
    refine j_iconst C dX11_in_5 ci_3 ?_
    refine j_icmp_lt (tgt := 19) C dX11_in_6 (by decide) (fun c2 => ?_) (fun c2 => ?_)
    · have h := (if_pos c2).symm.trans h
      refine j_iload_n C 2 rfl dX11_in_19 rfl ?_
      rcases bdx_elim h with ⟨h3, h⟩ | ⟨x4, h3, rfl⟩
      · refine fun H locs ls hP hS hl => jx_ok C hS hl (jx_callS (As := [.int a2]) (rest := []) C (kX11_needHour l B D ad cA hI hl0 S V L a2 (.inl ()) h3) mw_X11_needHour wd1112 wd1111 ⟨rfl, rfl, by decide, by decide⟩ ⟨by decide, by decide⟩ rfl rfl (Nat.le_of_ble_eq_true rfl) dX11_in_20 hP hS hl) ?_
        refine j_aload_n C 0 rfl dX11_in_23 rfl ?_
        refine fg_X11_49_TC_0 C dX11_in_24 ?_
        refine j_iload_n C 1 rfl dX11_in_27 rfl ?_
        refine j_iload_n C 2 rfl dX11_in_28 rfl ?_
        obtain ⟨r5, h6, h⟩ := bd1_elim h
        refine j_callV (As := [.int a1, .int a2]) (rest := []) C (kX4_who_30 l B D ad cA hI S V L a1 a2 _ h6) mw_X4_who wd612 wd613 wd1115 tc_30 rfl rfl ⟨rfl, rfl, by decide, by decide⟩ ⟨by decide, by decide⟩ rfl rfl (Nat.le_of_ble_eq_true rfl) dX11_in_29 ?_
        cases h
        exact jx_iret C hr hlk rfl rfl (by decide) (by decide) dX11_in_32
      · exact fun H locs ls hP hS hl => jx_ex C hlk rfl hxt rfl hS (jx_callS (As := [.int a2]) (rest := []) C (kX11_needHour l B D ad cA hI hl0 S V L a2 (.inr x4) h3) mw_X11_needHour wd1112 wd1111 ⟨rfl, rfl, by decide, by decide⟩ ⟨by decide, by decide⟩ rfl rfl (Nat.le_of_ble_eq_true rfl) dX11_in_20 hP hS hl) (by decide) (by decide)
    · have h := (if_neg c2).symm.trans h
      cases h
      exact jx_throw (x := 1) (i := 6) C hl0 hlk rfl hxt rfl rfl xw_1 dX11_in_9 dX11_in_12 dX11_in_13 dX11_in_15 dX11_in_18 (by decide) (Nat.le_of_ble_eq_true rfl) (by decide) (by decide) (by decide) (by decide)
theorem dX11_rent_0 : decode cX11_rent 0 = .ok (.aload_n 0, 1) := by decide +kernel
theorem dX11_rent_1 : decode cX11_rent 1 = .ok (.iload_n 1, 1) := by decide +kernel
theorem dX11_rent_2 : decode cX11_rent 2 = .ok (.invokevirtual 168, 3) := by decide +kernel
theorem dX11_rent_5 : decode cX11_rent 5 = .ok (.aload_n 0, 1) := by decide +kernel
theorem dX11_rent_6 : decode cX11_rent 6 = .ok (.getfield 49, 3) := by decide +kernel
theorem dX11_rent_9 : decode cX11_rent 9 = .ok (.iload_n 1, 1) := by decide +kernel
theorem dX11_rent_10 : decode cX11_rent 10 = .ok (.invokevirtual 278, 3) := by decide +kernel
theorem dX11_rent_13 : decode cX11_rent 13 = .ok (.ireturn, 1) := by decide +kernel
def fX11_rent_0 (S : Nat → Int32) (V : Nat → Nat → Int32) (a1 : Int32) : Option ((Int32) ⊕ Nat) :=
  bdx (fX11_needTenant_0 S a1) (
  bd1 (fX4_rentOf_30 S V a1) (fun r3 =>
  some (.inl r3)))
set_option maxHeartbeats 4000000 in
set_option maxRecDepth 100000 in
theorem kX11_rent_0 (l : Launch) (B : jBT) (D : va_G) (ad : Nat → Nat) (cA : Nat → ClassId) (hI : jI ad TC) (hl0 : l.stackTraces = false) (S : Nat → Int32) (V : Nat → Nat → Int32) (L : Nat → Int64) (a1 : Int32) (rr : (Int32) ⊕ Nat) (h : fX11_rent_0 S V a1 = some rr) : jMx l yX11_rent cX11_rent 2 (some .int) ({ frames := 7, cells := 2, slots := 12, locals := 141 }) B D TC ad cA [.ref (ad 0), .int a1] S V L (Sum.map (fun (z : Int32) => ((some (.int z) : Option Value), S, V, L)) (fun (x : Nat) => x) rr : jR) 2 12 := by
  refine jMx_of (by decide) TC_ok hI (Nat.le_of_ble_eq_true rfl) ?_
  intro p e s m args below meth c C hr hlk hxt
  refine j_lv (lv2 := [(0, .ref (ad 0)), (1, .int a1)]) rfl ?_
  unfold fX11_rent_0 at h
  refine j_aload_n C 0 rfl dX11_rent_0 rfl ?_
  refine j_iload_n C 1 rfl dX11_rent_1 rfl ?_
  rcases bdx_elim h with ⟨h1, h⟩ | ⟨x2, h1, rfl⟩
  · refine fun H locs ls hP hS hl => jx_ok C hS hl (jx_callV (As := [.int a1]) (rest := []) C (kX11_needTenant_0 l B D ad cA hI hl0 S V L a1 (.inl ()) h1) mw_X11_needTenant wd1083 wd36 wd1081 tc_0 rfl rfl ⟨rfl, rfl, by decide, by decide⟩ ⟨by decide, by decide⟩ rfl rfl (Nat.le_of_ble_eq_true rfl) dX11_rent_2 hP hS hl) ?_
    refine j_aload_n C 0 rfl dX11_rent_5 rfl ?_
    refine fg_X11_49_TC_0 C dX11_rent_6 ?_
    refine j_iload_n C 1 rfl dX11_rent_9 rfl ?_
    obtain ⟨r3, h4, h⟩ := bd1_elim h
    refine j_callV (As := [.int a1]) (rest := []) C (kX4_rentOf_30 l B D ad cA hI S V L a1 _ h4) mw_X4_rentOf wd1327 wd1328 wd1326 tc_30 rfl rfl ⟨rfl, rfl, by decide, by decide⟩ ⟨by decide, by decide⟩ rfl rfl (Nat.le_of_ble_eq_true rfl) dX11_rent_10 ?_
    cases h
    exact jx_iret C hr hlk rfl rfl (by decide) (by decide) dX11_rent_13
  · exact fun H locs ls hP hS hl => jx_ex C hlk rfl hxt rfl hS (jx_callV (As := [.int a1]) (rest := []) C (kX11_needTenant_0 l B D ad cA hI hl0 S V L a1 (.inr x2) h1) mw_X11_needTenant wd1083 wd36 wd1081 tc_0 rfl rfl ⟨rfl, rfl, by decide, by decide⟩ ⟨by decide, by decide⟩ rfl rfl (Nat.le_of_ble_eq_true rfl) dX11_rent_2 hP hS hl) (by decide) (by decide)
theorem dX11_shared_0 : decode cX11_shared 0 = .ok (.aload_n 0, 1) := by decide +kernel
theorem dX11_shared_1 : decode cX11_shared 1 = .ok (.iload_n 1, 1) := by decide +kernel
theorem dX11_shared_2 : decode cX11_shared 2 = .ok (.invokevirtual 168, 3) := by decide +kernel
theorem dX11_shared_5 : decode cX11_shared 5 = .ok (.iload_n 2, 1) := by decide +kernel
theorem dX11_shared_6 : decode cX11_shared 6 = .ok (.ifCond .lt 10, 3) := by decide +kernel
theorem dX11_shared_9 : decode cX11_shared 9 = .ok (.iload_n 2, 1) := by decide +kernel
theorem dX11_shared_10 : decode cX11_shared 10 = .ok (.sipush 9999, 3) := by decide +kernel
theorem dX11_shared_13 : decode cX11_shared 13 = .ok (.if_icmp .le 14, 3) := by decide +kernel
theorem dX11_shared_16 : decode cX11_shared 16 = .ok (.new 105, 3) := by decide +kernel
theorem dX11_shared_19 : decode cX11_shared 19 = .ok (.dup, 1) := by decide +kernel
theorem dX11_shared_20 : decode cX11_shared 20 = .ok (.ldc_w 281, 3) := by decide +kernel
theorem dX11_shared_23 : decode cX11_shared 23 = .ok (.invokespecial 109, 3) := by decide +kernel
theorem dX11_shared_26 : decode cX11_shared 26 = .ok (.athrow, 1) := by decide +kernel
theorem dX11_shared_27 : decode cX11_shared 27 = .ok (.aload_n 0, 1) := by decide +kernel
theorem dX11_shared_28 : decode cX11_shared 28 = .ok (.getfield 49, 3) := by decide +kernel
theorem dX11_shared_31 : decode cX11_shared 31 = .ok (.iload_n 1, 1) := by decide +kernel
theorem dX11_shared_32 : decode cX11_shared 32 = .ok (.iload_n 2, 1) := by decide +kernel
theorem dX11_shared_33 : decode cX11_shared 33 = .ok (.invokevirtual 283, 3) := by decide +kernel
theorem dX11_shared_36 : decode cX11_shared 36 = .ok (.ireturn, 1) := by decide +kernel
def fX11_shared_0 (S : Nat → Int32) (V : Nat → Nat → Int32) (a1 : Int32) (a2 : Int32) : Option ((Int32) ⊕ Nat) :=
  bdx (fX11_needTenant_0 S a1) (
  (if a2 < 0 then
  some (.inr 0)
  else
  (if a2 ≤ (9999 : Int32) then
  bd1 (fX4_shareOf_30 S V a1 a2) (fun r5 =>
  some (.inl r5))
  else
  some (.inr 0))))
set_option maxHeartbeats 4000000 in
set_option maxRecDepth 100000 in
theorem kX11_shared_0 (l : Launch) (B : jBT) (D : va_G) (ad : Nat → Nat) (cA : Nat → ClassId) (hI : jI ad TC) (hl0 : l.stackTraces = false) (S : Nat → Int32) (V : Nat → Nat → Int32) (L : Nat → Int64) (a1 : Int32) (a2 : Int32) (rr : (Int32) ⊕ Nat) (h : fX11_shared_0 S V a1 a2 = some rr) : jMx l yX11_shared cX11_shared 3 (some .int) ({ frames := 7, cells := 2, slots := 12, locals := 141 }) B D TC ad cA [.ref (ad 0), .int a1, .int a2] S V L (Sum.map (fun (z : Int32) => ((some (.int z) : Option Value), S, V, L)) (fun (x : Nat) => x) rr : jR) 2 12 := by
  refine jMx_of (by decide) TC_ok hI (Nat.le_of_ble_eq_true rfl) ?_
  intro p e s m args below meth c C hr hlk hxt
  refine j_lv (lv2 := [(0, .ref (ad 0)), (1, .int a1), (2, .int a2)]) rfl ?_
  unfold fX11_shared_0 at h
  refine j_aload_n C 0 rfl dX11_shared_0 rfl ?_
  refine j_iload_n C 1 rfl dX11_shared_1 rfl ?_
  rcases bdx_elim h with ⟨h1, h⟩ | ⟨x2, h1, rfl⟩
  · refine fun H locs ls hP hS hl => jx_ok C hS hl (jx_callV (As := [.int a1]) (rest := []) C (kX11_needTenant_0 l B D ad cA hI hl0 S V L a1 (.inl ()) h1) mw_X11_needTenant wd1083 wd36 wd1081 tc_0 rfl rfl ⟨rfl, rfl, by decide, by decide⟩ ⟨by decide, by decide⟩ rfl rfl (Nat.le_of_ble_eq_true rfl) dX11_shared_2 hP hS hl) ?_
    refine j_iload_n C 2 rfl dX11_shared_5 rfl ?_
    refine j_if_lt (tgt := 16) C dX11_shared_6 (by decide) (fun c3 => ?_) (fun c3 => ?_)
    · have h := (if_pos c3).symm.trans h
      cases h
      exact jx_throwW (x := 0) (i := 15) C hl0 hlk rfl hxt rfl rfl xw_0 dX11_shared_16 dX11_shared_19 dX11_shared_20 dX11_shared_23 dX11_shared_26 (by decide) (Nat.le_of_ble_eq_true rfl) (by decide) (by decide) (by decide) (by decide)
    · have h := (if_neg c3).symm.trans h
      refine j_iload_n C 2 rfl dX11_shared_9 rfl ?_
      refine j_sipush C dX11_shared_10 cs_9999 ?_
      refine j_icmp_le (tgt := 27) C dX11_shared_13 (by decide) (fun c4 => ?_) (fun c4 => ?_)
      · have h := (if_pos c4).symm.trans h
        refine j_aload_n C 0 rfl dX11_shared_27 rfl ?_
        refine fg_X11_49_TC_0 C dX11_shared_28 ?_
        refine j_iload_n C 1 rfl dX11_shared_31 rfl ?_
        refine j_iload_n C 2 rfl dX11_shared_32 rfl ?_
        obtain ⟨r5, h6, h⟩ := bd1_elim h
        refine j_callV (As := [.int a1, .int a2]) (rest := []) C (kX4_shareOf_30 l B D ad cA hI S V L a1 a2 _ h6) mw_X4_shareOf wd1340 wd1341 wd1339 tc_30 rfl rfl ⟨rfl, rfl, by decide, by decide⟩ ⟨by decide, by decide⟩ rfl rfl (Nat.le_of_ble_eq_true rfl) dX11_shared_33 ?_
        cases h
        exact jx_iret C hr hlk rfl rfl (by decide) (by decide) dX11_shared_36
      · have h := (if_neg c4).symm.trans h
        cases h
        exact jx_throwW (x := 0) (i := 15) C hl0 hlk rfl hxt rfl rfl xw_0 dX11_shared_16 dX11_shared_19 dX11_shared_20 dX11_shared_23 dX11_shared_26 (by decide) (Nat.le_of_ble_eq_true rfl) (by decide) (by decide) (by decide) (by decide)
  · exact fun H locs ls hP hS hl => jx_ex C hlk rfl hxt rfl hS (jx_callV (As := [.int a1]) (rest := []) C (kX11_needTenant_0 l B D ad cA hI hl0 S V L a1 (.inr x2) h1) mw_X11_needTenant wd1083 wd36 wd1081 tc_0 rfl rfl ⟨rfl, rfl, by decide, by decide⟩ ⟨by decide, by decide⟩ rfl rfl (Nat.le_of_ble_eq_true rfl) dX11_shared_2 hP hS hl) (by decide) (by decide)
theorem dX11_slow_0 : decode cX11_slow 0 = .ok (.iload_n 1, 1) := by decide +kernel
theorem dX11_slow_1 : decode cX11_slow 1 = .ok (.invokestatic 208, 3) := by decide +kernel
theorem dX11_slow_4 : decode cX11_slow 4 = .ok (.iload_n 2, 1) := by decide +kernel
theorem dX11_slow_5 : decode cX11_slow 5 = .ok (.invokestatic 208, 3) := by decide +kernel
theorem dX11_slow_8 : decode cX11_slow 8 = .ok (.iload_n 3, 1) := by decide +kernel
theorem dX11_slow_9 : decode cX11_slow 9 = .ok (.invokestatic 215, 3) := by decide +kernel
theorem dX11_slow_12 : decode cX11_slow 12 = .ok (.iload_n 2, 1) := by decide +kernel
theorem dX11_slow_13 : decode cX11_slow 13 = .ok (.iload_n 1, 1) := by decide +kernel
theorem dX11_slow_14 : decode cX11_slow 14 = .ok (.if_icmp .ge 13, 3) := by decide +kernel
theorem dX11_slow_17 : decode cX11_slow 17 = .ok (.new 105, 3) := by decide +kernel
theorem dX11_slow_20 : decode cX11_slow 20 = .ok (.dup, 1) := by decide +kernel
theorem dX11_slow_21 : decode cX11_slow 21 = .ok (.ldc 225, 2) := by decide +kernel
theorem dX11_slow_23 : decode cX11_slow 23 = .ok (.invokespecial 109, 3) := by decide +kernel
theorem dX11_slow_26 : decode cX11_slow 26 = .ok (.athrow, 1) := by decide +kernel
theorem dX11_slow_27 : decode cX11_slow 27 = .ok (.aload_n 0, 1) := by decide +kernel
theorem dX11_slow_28 : decode cX11_slow 28 = .ok (.getfield 71, 3) := by decide +kernel
theorem dX11_slow_31 : decode cX11_slow 31 = .ok (.iload_n 1, 1) := by decide +kernel
theorem dX11_slow_32 : decode cX11_slow 32 = .ok (.iload_n 2, 1) := by decide +kernel
theorem dX11_slow_33 : decode cX11_slow 33 = .ok (.aload_n 0, 1) := by decide +kernel
theorem dX11_slow_34 : decode cX11_slow 34 = .ok (.getfield 24, 3) := by decide +kernel
theorem dX11_slow_37 : decode cX11_slow 37 = .ok (.iload_n 3, 1) := by decide +kernel
theorem dX11_slow_38 : decode cX11_slow 38 = .ok (.invokevirtual 218, 3) := by decide +kernel
theorem dX11_slow_41 : decode cX11_slow 41 = .ok (.iconst (-1), 1) := by decide +kernel
theorem dX11_slow_42 : decode cX11_slow 42 = .ok (.invokevirtual 227, 3) := by decide +kernel
theorem dX11_slow_45 : decode cX11_slow 45 = .ok (.ireturn, 1) := by decide +kernel
def fX11_slow_0 (S : Nat → Int32) (V : Nat → Nat → Int32) (a1 : Int32) (a2 : Int32) (a3 : Int32) : Option ((Int32) ⊕ Nat) :=
  bdx (fX11_needHour a1) (
  bdx (fX11_needHour a2) (
  bdx (fX11_needDay a3) (
  (if a1 ≤ a2 then
  bd1 (fX2_oilLeft_3 S a3) (fun r8 =>
  bd1 (fX6_slowness_48 S V a1 a2 r8 (-1 : Int32)) (fun r10 =>
  some (.inl r10)))
  else
  some (.inr 0)))))
set_option maxHeartbeats 4000000 in
set_option maxRecDepth 100000 in
theorem kX11_slow_0 (l : Launch) (B : jBT) (D : va_G) (ad : Nat → Nat) (cA : Nat → ClassId) (hI : jI ad TC) (hl0 : l.stackTraces = false) (S : Nat → Int32) (V : Nat → Nat → Int32) (L : Nat → Int64) (a1 : Int32) (a2 : Int32) (a3 : Int32) (rr : (Int32) ⊕ Nat) (h : fX11_slow_0 S V a1 a2 a3 = some rr) : jMx l yX11_slow cX11_slow 4 (some .int) ({ frames := 7, cells := 4, slots := 24, locals := 140 }) B D TC ad cA [.ref (ad 0), .int a1, .int a2, .int a3] S V L (Sum.map (fun (z : Int32) => ((some (.int z) : Option Value), S, V, L)) (fun (x : Nat) => x) rr : jR) 4 24 := by
  refine jMx_of (by decide) TC_ok hI (Nat.le_of_ble_eq_true rfl) ?_
  intro p e s m args below meth c C hr hlk hxt
  refine j_lv (lv2 := [(0, .ref (ad 0)), (1, .int a1), (2, .int a2), (3, .int a3)]) rfl ?_
  unfold fX11_slow_0 at h
  refine j_iload_n C 1 rfl dX11_slow_0 rfl ?_
  rcases bdx_elim h with ⟨h1, h⟩ | ⟨x2, h1, rfl⟩
  · refine fun H locs ls hP hS hl => jx_ok C hS hl (jx_callS (As := [.int a1]) (rest := []) C (kX11_needHour l B D ad cA hI hl0 S V L a1 (.inl ()) h1) mw_X11_needHour wd1112 wd1111 ⟨rfl, rfl, by decide, by decide⟩ ⟨by decide, by decide⟩ rfl rfl (Nat.le_of_ble_eq_true rfl) dX11_slow_1 hP hS hl) ?_
    refine j_iload_n C 2 rfl dX11_slow_4 rfl ?_
    rcases bdx_elim h with ⟨h3, h⟩ | ⟨x4, h3, rfl⟩
    · refine fun H locs ls hP hS hl => jx_ok C hS hl (jx_callS (As := [.int a2]) (rest := []) C (kX11_needHour l B D ad cA hI hl0 S V L a2 (.inl ()) h3) mw_X11_needHour wd1112 wd1111 ⟨rfl, rfl, by decide, by decide⟩ ⟨by decide, by decide⟩ rfl rfl (Nat.le_of_ble_eq_true rfl) dX11_slow_5 hP hS hl) ?_
      refine j_iload_n C 3 rfl dX11_slow_8 rfl ?_
      rcases bdx_elim h with ⟨h5, h⟩ | ⟨x6, h5, rfl⟩
      · refine fun H locs ls hP hS hl => jx_ok C hS hl (jx_callS (As := [.int a3]) (rest := []) C (kX11_needDay l B D ad cA hI hl0 S V L a3 (.inl ()) h5) mw_X11_needDay wd1124 wd1123 ⟨rfl, rfl, by decide, by decide⟩ ⟨by decide, by decide⟩ rfl rfl (Nat.le_of_ble_eq_true rfl) dX11_slow_9 hP hS hl) ?_
        refine j_iload_n C 2 rfl dX11_slow_12 rfl ?_
        refine j_iload_n C 1 rfl dX11_slow_13 rfl ?_
        refine j_icmp_ge (tgt := 27) C dX11_slow_14 (by decide) (fun c7 => ?_) (fun c7 => ?_)
        · have h := (if_pos c7).symm.trans h
          refine j_aload_n C 0 rfl dX11_slow_27 rfl ?_
          refine fg_X11_71_TC_0 C dX11_slow_28 ?_
          refine j_iload_n C 1 rfl dX11_slow_31 rfl ?_
          refine j_iload_n C 2 rfl dX11_slow_32 rfl ?_
          refine j_aload_n C 0 rfl dX11_slow_33 rfl ?_
          refine fg_X11_24_TC_0 C dX11_slow_34 ?_
          refine j_iload_n C 3 rfl dX11_slow_37 rfl ?_
          obtain ⟨r8, h9, h⟩ := bd1_elim h
          refine j_callV (As := [.int a3]) (rest := [.int a2, .int a1, .ref (ad 48)]) C (kX2_oilLeft_3 l B D ad cA hI S V L a3 _ h9) mw_X2_oilLeft wd1128 wd1129 wd1127 tc_3 rfl rfl ⟨rfl, rfl, by decide, by decide⟩ ⟨by decide, by decide⟩ rfl rfl (Nat.le_of_ble_eq_true rfl) dX11_slow_38 ?_
          refine j_iconst C dX11_slow_41 ci_m1 ?_
          obtain ⟨r10, h11, h⟩ := bd1_elim h
          refine j_callV (As := [.int a1, .int a2, .int r8, .int (-1 : Int32)]) (rest := []) C (kX6_slowness_48 l B D ad cA hI S V L a1 a2 r8 (-1 : Int32) _ h11) mw_X6_slowness wd1156 wd1157 wd1155 tc_48 rfl rfl ⟨rfl, rfl, by decide, by decide⟩ ⟨by decide, by decide⟩ rfl rfl (Nat.le_of_ble_eq_true rfl) dX11_slow_42 ?_
          cases h
          exact jx_iret C hr hlk rfl rfl (by decide) (by decide) dX11_slow_45
        · have h := (if_neg c7).symm.trans h
          cases h
          exact jx_throw (x := 0) (i := 9) C hl0 hlk rfl hxt rfl rfl xw_0 dX11_slow_17 dX11_slow_20 dX11_slow_21 dX11_slow_23 dX11_slow_26 (by decide) (Nat.le_of_ble_eq_true rfl) (by decide) (by decide) (by decide) (by decide)
      · exact fun H locs ls hP hS hl => jx_ex C hlk rfl hxt rfl hS (jx_callS (As := [.int a3]) (rest := []) C (kX11_needDay l B D ad cA hI hl0 S V L a3 (.inr x6) h5) mw_X11_needDay wd1124 wd1123 ⟨rfl, rfl, by decide, by decide⟩ ⟨by decide, by decide⟩ rfl rfl (Nat.le_of_ble_eq_true rfl) dX11_slow_9 hP hS hl) (by decide) (by decide)
    · exact fun H locs ls hP hS hl => jx_ex C hlk rfl hxt rfl hS (jx_callS (As := [.int a2]) (rest := []) C (kX11_needHour l B D ad cA hI hl0 S V L a2 (.inr x4) h3) mw_X11_needHour wd1112 wd1111 ⟨rfl, rfl, by decide, by decide⟩ ⟨by decide, by decide⟩ rfl rfl (Nat.le_of_ble_eq_true rfl) dX11_slow_5 hP hS hl) (by decide) (by decide)
  · exact fun H locs ls hP hS hl => jx_ex C hlk rfl hxt rfl hS (jx_callS (As := [.int a1]) (rest := []) C (kX11_needHour l B D ad cA hI hl0 S V L a1 (.inr x2) h1) mw_X11_needHour wd1112 wd1111 ⟨rfl, rfl, by decide, by decide⟩ ⟨by decide, by decide⟩ rfl rfl (Nat.le_of_ble_eq_true rfl) dX11_slow_1 hP hS hl) (by decide) (by decide)
theorem dX11_slowBy_0 : decode cX11_slowBy 0 = .ok (.aload_n 0, 1) := by decide +kernel
theorem dX11_slowBy_1 : decode cX11_slowBy 1 = .ok (.iload_n 1, 1) := by decide +kernel
theorem dX11_slowBy_2 : decode cX11_slowBy 2 = .ok (.invokevirtual 168, 3) := by decide +kernel
theorem dX11_slowBy_5 : decode cX11_slowBy 5 = .ok (.iload_n 2, 1) := by decide +kernel
theorem dX11_slowBy_6 : decode cX11_slowBy 6 = .ok (.invokestatic 215, 3) := by decide +kernel
theorem dX11_slowBy_9 : decode cX11_slowBy 9 = .ok (.aload_n 0, 1) := by decide +kernel
theorem dX11_slowBy_10 : decode cX11_slowBy 10 = .ok (.getfield 24, 3) := by decide +kernel
theorem dX11_slowBy_13 : decode cX11_slowBy 13 = .ok (.iload_n 2, 1) := by decide +kernel
theorem dX11_slowBy_14 : decode cX11_slowBy 14 = .ok (.invokevirtual 218, 3) := by decide +kernel
theorem dX11_slowBy_17 : decode cX11_slowBy 17 = .ok (.istore_n 3, 1) := by decide +kernel
theorem dX11_slowBy_18 : decode cX11_slowBy 18 = .ok (.aload_n 0, 1) := by decide +kernel
theorem dX11_slowBy_19 : decode cX11_slowBy 19 = .ok (.getfield 71, 3) := by decide +kernel
theorem dX11_slowBy_22 : decode cX11_slowBy 22 = .ok (.iload_n 3, 1) := by decide +kernel
theorem dX11_slowBy_23 : decode cX11_slowBy 23 = .ok (.invokevirtual 230, 3) := by decide +kernel
theorem dX11_slowBy_26 : decode cX11_slowBy 26 = .ok (.aload_n 0, 1) := by decide +kernel
theorem dX11_slowBy_27 : decode cX11_slowBy 27 = .ok (.getfield 71, 3) := by decide +kernel
theorem dX11_slowBy_30 : decode cX11_slowBy 30 = .ok (.iconst 0, 1) := by decide +kernel
theorem dX11_slowBy_31 : decode cX11_slowBy 31 = .ok (.bipush 23, 2) := by decide +kernel
theorem dX11_slowBy_33 : decode cX11_slowBy 33 = .ok (.iload_n 3, 1) := by decide +kernel
theorem dX11_slowBy_34 : decode cX11_slowBy 34 = .ok (.iload_n 1, 1) := by decide +kernel
theorem dX11_slowBy_35 : decode cX11_slowBy 35 = .ok (.invokevirtual 227, 3) := by decide +kernel
theorem dX11_slowBy_38 : decode cX11_slowBy 38 = .ok (.isub, 1) := by decide +kernel
theorem dX11_slowBy_39 : decode cX11_slowBy 39 = .ok (.ireturn, 1) := by decide +kernel
def fX11_slowBy_0 (S : Nat → Int32) (V : Nat → Nat → Int32) (a1 : Int32) (a2 : Int32) : Option ((Int32) ⊕ Nat) :=
  bdx (fX11_needTenant_0 S a1) (
  bdx (fX11_needDay a2) (
  bd1 (fX2_oilLeft_3 S a2) (fun r5 =>
  bd1 (fX6_slownessOfDay_48 S V r5) (fun r7 =>
  bd1 (fX6_slowness_48 S V (0 : Int32) (23 : Int32) r5 a1) (fun r9 =>
  some (.inl ((r7 - r9))))))))
set_option maxHeartbeats 4000000 in
set_option maxRecDepth 100000 in
theorem kX11_slowBy_0 (l : Launch) (B : jBT) (D : va_G) (ad : Nat → Nat) (cA : Nat → ClassId) (hI : jI ad TC) (hl0 : l.stackTraces = false) (S : Nat → Int32) (V : Nat → Nat → Int32) (L : Nat → Int64) (a1 : Int32) (a2 : Int32) (rr : (Int32) ⊕ Nat) (h : fX11_slowBy_0 S V a1 a2 = some rr) : jMx l yX11_slowBy cX11_slowBy 4 (some .int) ({ frames := 7, cells := 3, slots := 18, locals := 141 }) B D TC ad cA [.ref (ad 0), .int a1, .int a2] S V L (Sum.map (fun (z : Int32) => ((some (.int z) : Option Value), S, V, L)) (fun (x : Nat) => x) rr : jR) 3 18 := by
  refine jMx_of (by decide) TC_ok hI (Nat.le_of_ble_eq_true rfl) ?_
  intro p e s m args below meth c C hr hlk hxt
  refine j_lv (lv2 := [(0, .ref (ad 0)), (1, .int a1), (2, .int a2)]) rfl ?_
  unfold fX11_slowBy_0 at h
  refine j_aload_n C 0 rfl dX11_slowBy_0 rfl ?_
  refine j_iload_n C 1 rfl dX11_slowBy_1 rfl ?_
  rcases bdx_elim h with ⟨h1, h⟩ | ⟨x2, h1, rfl⟩
  · refine fun H locs ls hP hS hl => jx_ok C hS hl (jx_callV (As := [.int a1]) (rest := []) C (kX11_needTenant_0 l B D ad cA hI hl0 S V L a1 (.inl ()) h1) mw_X11_needTenant wd1083 wd36 wd1081 tc_0 rfl rfl ⟨rfl, rfl, by decide, by decide⟩ ⟨by decide, by decide⟩ rfl rfl (Nat.le_of_ble_eq_true rfl) dX11_slowBy_2 hP hS hl) ?_
    refine j_iload_n C 2 rfl dX11_slowBy_5 rfl ?_
    rcases bdx_elim h with ⟨h3, h⟩ | ⟨x4, h3, rfl⟩
    · refine fun H locs ls hP hS hl => jx_ok C hS hl (jx_callS (As := [.int a2]) (rest := []) C (kX11_needDay l B D ad cA hI hl0 S V L a2 (.inl ()) h3) mw_X11_needDay wd1124 wd1123 ⟨rfl, rfl, by decide, by decide⟩ ⟨by decide, by decide⟩ rfl rfl (Nat.le_of_ble_eq_true rfl) dX11_slowBy_6 hP hS hl) ?_
      refine j_aload_n C 0 rfl dX11_slowBy_9 rfl ?_
      refine fg_X11_24_TC_0 C dX11_slowBy_10 ?_
      refine j_iload_n C 2 rfl dX11_slowBy_13 rfl ?_
      obtain ⟨r5, h6, h⟩ := bd1_elim h
      refine j_callV (As := [.int a2]) (rest := []) C (kX2_oilLeft_3 l B D ad cA hI S V L a2 _ h6) mw_X2_oilLeft wd1128 wd1129 wd1127 tc_3 rfl rfl ⟨rfl, rfl, by decide, by decide⟩ ⟨by decide, by decide⟩ rfl rfl (Nat.le_of_ble_eq_true rfl) dX11_slowBy_14 ?_
      refine j_istore_n C [(3, .int r5), (0, .ref (ad 0)), (1, .int a1), (2, .int a2)] dX11_slowBy_17 rfl (by decide) rfl ?_
      refine j_aload_n C 1 rfl dX11_slowBy_18 rfl ?_
      refine fg_X11_71_TC_0 C dX11_slowBy_19 ?_
      refine j_iload_n C 0 rfl dX11_slowBy_22 rfl ?_
      obtain ⟨r7, h8, h⟩ := bd1_elim h
      refine j_callV (As := [.int r5]) (rest := []) C (kX6_slownessOfDay_48 l B D ad cA hI S V L r5 _ h8) mw_X6_slownessOfDay wd1168 wd1169 wd1167 tc_48 rfl rfl ⟨rfl, rfl, by decide, by decide⟩ ⟨by decide, by decide⟩ rfl rfl (Nat.le_of_ble_eq_true rfl) dX11_slowBy_23 ?_
      refine j_aload_n C 1 rfl dX11_slowBy_26 rfl ?_
      refine fg_X11_71_TC_0 C dX11_slowBy_27 ?_
      refine j_iconst C dX11_slowBy_30 ci_0 ?_
      refine j_bipush C dX11_slowBy_31 cb_23 ?_
      refine j_iload_n C 0 rfl dX11_slowBy_33 rfl ?_
      refine j_iload_n C 2 rfl dX11_slowBy_34 rfl ?_
      obtain ⟨r9, h10, h⟩ := bd1_elim h
      refine j_callV (As := [.int (0 : Int32), .int (23 : Int32), .int r5, .int a1]) (rest := [.int r7]) C (kX6_slowness_48 l B D ad cA hI S V L (0 : Int32) (23 : Int32) r5 a1 _ h10) mw_X6_slowness wd1156 wd1157 wd1155 tc_48 rfl rfl ⟨rfl, rfl, by decide, by decide⟩ ⟨by decide, by decide⟩ rfl rfl (Nat.le_of_ble_eq_true rfl) dX11_slowBy_35 ?_
      refine j_isub C dX11_slowBy_38 ?_
      cases h
      exact jx_iret C hr hlk rfl rfl (by decide) (by decide) dX11_slowBy_39
    · exact fun H locs ls hP hS hl => jx_ex C hlk rfl hxt rfl hS (jx_callS (As := [.int a2]) (rest := []) C (kX11_needDay l B D ad cA hI hl0 S V L a2 (.inr x4) h3) mw_X11_needDay wd1124 wd1123 ⟨rfl, rfl, by decide, by decide⟩ ⟨by decide, by decide⟩ rfl rfl (Nat.le_of_ble_eq_true rfl) dX11_slowBy_6 hP hS hl) (by decide) (by decide)
  · exact fun H locs ls hP hS hl => jx_ex C hlk rfl hxt rfl hS (jx_callV (As := [.int a1]) (rest := []) C (kX11_needTenant_0 l B D ad cA hI hl0 S V L a1 (.inr x2) h1) mw_X11_needTenant wd1083 wd36 wd1081 tc_0 rfl rfl ⟨rfl, rfl, by decide, by decide⟩ ⟨by decide, by decide⟩ rfl rfl (Nat.le_of_ble_eq_true rfl) dX11_slowBy_2 hP hS hl) (by decide) (by decide)
theorem dX11_sublet_0 : decode cX11_sublet 0 = .ok (.iload_n 1, 1) := by decide +kernel
theorem dX11_sublet_1 : decode cX11_sublet 1 = .ok (.ifCond .lt 8, 3) := by decide +kernel
theorem dX11_sublet_4 : decode cX11_sublet 4 = .ok (.iload_n 1, 1) := by decide +kernel
theorem dX11_sublet_5 : decode cX11_sublet 5 = .ok (.iconst 1, 1) := by decide +kernel
theorem dX11_sublet_6 : decode cX11_sublet 6 = .ok (.if_icmp .le 14, 3) := by decide +kernel
theorem dX11_sublet_9 : decode cX11_sublet 9 = .ok (.new 163, 3) := by decide +kernel
theorem dX11_sublet_12 : decode cX11_sublet 12 = .ok (.dup, 1) := by decide +kernel
theorem dX11_sublet_13 : decode cX11_sublet 13 = .ok (.ldc_w 289, 3) := by decide +kernel
theorem dX11_sublet_16 : decode cX11_sublet 16 = .ok (.invokespecial 167, 3) := by decide +kernel
theorem dX11_sublet_19 : decode cX11_sublet 19 = .ok (.athrow, 1) := by decide +kernel
theorem dX11_sublet_20 : decode cX11_sublet 20 = .ok (.aload_n 0, 1) := by decide +kernel
theorem dX11_sublet_21 : decode cX11_sublet 21 = .ok (.getfield 59, 3) := by decide +kernel
theorem dX11_sublet_24 : decode cX11_sublet 24 = .ok (.aload_n 0, 1) := by decide +kernel
theorem dX11_sublet_25 : decode cX11_sublet 25 = .ok (.getfield 49, 3) := by decide +kernel
theorem dX11_sublet_28 : decode cX11_sublet 28 = .ok (.invokevirtual 291, 3) := by decide +kernel
theorem dX11_sublet_31 : decode cX11_sublet 31 = .ok (.invokevirtual 294, 3) := by decide +kernel
theorem dX11_sublet_34 : decode cX11_sublet 34 = .ok (.iload_n 1, 1) := by decide +kernel
theorem dX11_sublet_35 : decode cX11_sublet 35 = .ok (.ifCond .ne 13, 3) := by decide +kernel
theorem dX11_sublet_38 : decode cX11_sublet 38 = .ok (.aload_n 0, 1) := by decide +kernel
theorem dX11_sublet_39 : decode cX11_sublet 39 = .ok (.getfield 59, 3) := by decide +kernel
theorem dX11_sublet_42 : decode cX11_sublet 42 = .ok (.getfield 297, 3) := by decide +kernel
theorem dX11_sublet_45 : decode cX11_sublet 45 = .ok (.goto 10, 3) := by decide +kernel
theorem dX11_sublet_48 : decode cX11_sublet 48 = .ok (.aload_n 0, 1) := by decide +kernel
theorem dX11_sublet_49 : decode cX11_sublet 49 = .ok (.getfield 59, 3) := by decide +kernel
theorem dX11_sublet_52 : decode cX11_sublet 52 = .ok (.getfield 300, 3) := by decide +kernel
theorem dX11_sublet_55 : decode cX11_sublet 55 = .ok (.ireturn, 1) := by decide +kernel
def fX11_sublet_0 (S : Nat → Int32) (V : Nat → Nat → Int32) (a1 : Int32) : Option ((Int32 × (Nat → Int32)) ⊕ Nat) :=
  (if a1 < 0 then
  some (.inr 1)
  else
  (if a1 ≤ (1 : Int32) then
  bd1 (fX4_openPauses_30 S V) (fun r3 =>
  bd1 (fX5_choose_42 S V r3) (fun S5 =>
  (if a1 = 0 then
  some (.inl ((S5 4203), S5))
  else
  some (.inl ((S5 4204), S5)))))
  else
  some (.inr 1)))
set_option maxHeartbeats 4000000 in
set_option maxRecDepth 100000 in
theorem kX11_sublet_0 (l : Launch) (B : jBT) (D : va_G) (ad : Nat → Nat) (cA : Nat → ClassId) (hI : jI ad TC) (hl0 : l.stackTraces = false) (S : Nat → Int32) (V : Nat → Nat → Int32) (L : Nat → Int64) (a1 : Int32) (rr : (Int32 × (Nat → Int32)) ⊕ Nat) (h : fX11_sublet_0 S V a1 = some rr) : jMx l yX11_sublet cX11_sublet 2 (some .int) ({ frames := 6, cells := 1, slots := 6, locals := 120 }) B D TC ad cA [.ref (ad 0), .int a1] S V L (Sum.map (fun (z : Int32 × (Nat → Int32)) => ((some (.int z.1) : Option Value), z.2, V, L)) (fun (x : Nat) => x) rr : jR) 1 6 := by
  refine jMx_of (by decide) TC_ok hI (Nat.le_of_ble_eq_true rfl) ?_
  intro p e s m args below meth c C hr hlk hxt
  refine j_lv (lv2 := [(0, .ref (ad 0)), (1, .int a1)]) rfl ?_
  unfold fX11_sublet_0 at h
  refine j_iload_n C 1 rfl dX11_sublet_0 rfl ?_
  refine j_if_lt (tgt := 9) C dX11_sublet_1 (by decide) (fun c1 => ?_) (fun c1 => ?_)
  · have h := (if_pos c1).symm.trans h
    cases h
    exact jx_throwW (x := 1) (i := 16) C hl0 hlk rfl hxt rfl rfl xw_1 dX11_sublet_9 dX11_sublet_12 dX11_sublet_13 dX11_sublet_16 dX11_sublet_19 (by decide) (Nat.le_of_ble_eq_true rfl) (by decide) (by decide) (by decide) (by decide)
  · have h := (if_neg c1).symm.trans h
    refine j_iload_n C 1 rfl dX11_sublet_4 rfl ?_
    refine j_iconst C dX11_sublet_5 ci_1 ?_
    refine j_icmp_le (tgt := 20) C dX11_sublet_6 (by decide) (fun c2 => ?_) (fun c2 => ?_)
    · have h := (if_pos c2).symm.trans h
      refine j_aload_n C 0 rfl dX11_sublet_20 rfl ?_
      refine fg_X11_59_TC_0 C dX11_sublet_21 ?_
      refine j_aload_n C 0 rfl dX11_sublet_24 rfl ?_
      refine fg_X11_49_TC_0 C dX11_sublet_25 ?_
      obtain ⟨r3, h4, h⟩ := bd1_elim h
      refine j_callV (As := []) (rest := [.ref (ad 42)]) C (kX4_openPauses_30 l B D ad cA hI S V L _ h4) mw_X4_openPauses wd1353 wd1354 wd1352 tc_30 rfl rfl ⟨rfl, rfl, by decide, by decide⟩ ⟨by decide, by decide⟩ rfl rfl (Nat.le_of_ble_eq_true rfl) dX11_sublet_28 ?_
      obtain ⟨S5, h6, h⟩ := bd1_elim h
      refine j_callV (As := [.int r3]) (rest := []) C (kX5_choose_42 l B D ad cA hI S V L r3 _ h6) mw_X5_choose wd1357 wd1358 wd1356 tc_42 rfl rfl ⟨rfl, rfl, by decide, by decide⟩ ⟨by decide, by decide⟩ rfl rfl (Nat.le_of_ble_eq_true rfl) dX11_sublet_31 ?_
      refine j_iload_n C 1 rfl dX11_sublet_34 rfl ?_
      refine j_if_ne (tgt := 48) C dX11_sublet_35 (by decide) (fun c7 => ?_) (fun c7 => ?_)
      · have h := (if_neg c7).symm.trans h
        refine j_aload_n C 0 rfl dX11_sublet_48 rfl ?_
        refine fg_X11_59_TC_0 C dX11_sublet_49 ?_
        refine fg_X11_300_TC_42 C dX11_sublet_52 ?_
        cases h
        exact jx_iret C hr hlk rfl rfl (by decide) (by decide) dX11_sublet_55
      · have h := (if_pos c7).symm.trans h
        refine j_aload_n C 0 rfl dX11_sublet_38 rfl ?_
        refine fg_X11_59_TC_0 C dX11_sublet_39 ?_
        refine fg_X11_297_TC_42 C dX11_sublet_42 ?_
        refine j_goto (tgt := 55) C dX11_sublet_45 (by decide) ?_
        cases h
        exact jx_iret C hr hlk rfl rfl (by decide) (by decide) dX11_sublet_55
    · have h := (if_neg c2).symm.trans h
      cases h
      exact jx_throwW (x := 1) (i := 16) C hl0 hlk rfl hxt rfl rfl xw_1 dX11_sublet_9 dX11_sublet_12 dX11_sublet_13 dX11_sublet_16 dX11_sublet_19 (by decide) (Nat.le_of_ble_eq_true rfl) (by decide) (by decide) (by decide) (by decide)
theorem dX11_swing_0 : decode cX11_swing 0 = .ok (.iload_n 1, 1) := by decide +kernel
theorem dX11_swing_1 : decode cX11_swing 1 = .ok (.invokestatic 208, 3) := by decide +kernel
theorem dX11_swing_4 : decode cX11_swing 4 = .ok (.iload_n 2, 1) := by decide +kernel
theorem dX11_swing_5 : decode cX11_swing 5 = .ok (.invokestatic 215, 3) := by decide +kernel
theorem dX11_swing_8 : decode cX11_swing 8 = .ok (.aload_n 0, 1) := by decide +kernel
theorem dX11_swing_9 : decode cX11_swing 9 = .ok (.getfield 71, 3) := by decide +kernel
theorem dX11_swing_12 : decode cX11_swing 12 = .ok (.iload_n 1, 1) := by decide +kernel
theorem dX11_swing_13 : decode cX11_swing 13 = .ok (.aload_n 0, 1) := by decide +kernel
theorem dX11_swing_14 : decode cX11_swing 14 = .ok (.getfield 24, 3) := by decide +kernel
theorem dX11_swing_17 : decode cX11_swing 17 = .ok (.iload_n 2, 1) := by decide +kernel
theorem dX11_swing_18 : decode cX11_swing 18 = .ok (.invokevirtual 218, 3) := by decide +kernel
theorem dX11_swing_21 : decode cX11_swing 21 = .ok (.iconst (-1), 1) := by decide +kernel
theorem dX11_swing_22 : decode cX11_swing 22 = .ok (.invokevirtual 221, 3) := by decide +kernel
theorem dX11_swing_25 : decode cX11_swing 25 = .ok (.ireturn, 1) := by decide +kernel
def fX11_swing_0 (S : Nat → Int32) (V : Nat → Nat → Int32) (a1 : Int32) (a2 : Int32) : Option ((Int32) ⊕ Nat) :=
  bdx (fX11_needHour a1) (
  bdx (fX11_needDay a2) (
  bd1 (fX2_oilLeft_3 S a2) (fun r5 =>
  bd1 (fX6_swingIn_48 S V a1 r5 (-1 : Int32)) (fun r7 =>
  some (.inl r7)))))
set_option maxHeartbeats 4000000 in
set_option maxRecDepth 100000 in
theorem kX11_swing_0 (l : Launch) (B : jBT) (D : va_G) (ad : Nat → Nat) (cA : Nat → ClassId) (hI : jI ad TC) (hl0 : l.stackTraces = false) (S : Nat → Int32) (V : Nat → Nat → Int32) (L : Nat → Int64) (a1 : Int32) (a2 : Int32) (rr : (Int32) ⊕ Nat) (h : fX11_swing_0 S V a1 a2 = some rr) : jMx l yX11_swing cX11_swing 3 (some .int) ({ frames := 7, cells := 3, slots := 18, locals := 140 }) B D TC ad cA [.ref (ad 0), .int a1, .int a2] S V L (Sum.map (fun (z : Int32) => ((some (.int z) : Option Value), S, V, L)) (fun (x : Nat) => x) rr : jR) 3 18 := by
  refine jMx_of (by decide) TC_ok hI (Nat.le_of_ble_eq_true rfl) ?_
  intro p e s m args below meth c C hr hlk hxt
  refine j_lv (lv2 := [(0, .ref (ad 0)), (1, .int a1), (2, .int a2)]) rfl ?_
  unfold fX11_swing_0 at h
  refine j_iload_n C 1 rfl dX11_swing_0 rfl ?_
  rcases bdx_elim h with ⟨h1, h⟩ | ⟨x2, h1, rfl⟩
  · refine fun H locs ls hP hS hl => jx_ok C hS hl (jx_callS (As := [.int a1]) (rest := []) C (kX11_needHour l B D ad cA hI hl0 S V L a1 (.inl ()) h1) mw_X11_needHour wd1112 wd1111 ⟨rfl, rfl, by decide, by decide⟩ ⟨by decide, by decide⟩ rfl rfl (Nat.le_of_ble_eq_true rfl) dX11_swing_1 hP hS hl) ?_
    refine j_iload_n C 2 rfl dX11_swing_4 rfl ?_
    rcases bdx_elim h with ⟨h3, h⟩ | ⟨x4, h3, rfl⟩
    · refine fun H locs ls hP hS hl => jx_ok C hS hl (jx_callS (As := [.int a2]) (rest := []) C (kX11_needDay l B D ad cA hI hl0 S V L a2 (.inl ()) h3) mw_X11_needDay wd1124 wd1123 ⟨rfl, rfl, by decide, by decide⟩ ⟨by decide, by decide⟩ rfl rfl (Nat.le_of_ble_eq_true rfl) dX11_swing_5 hP hS hl) ?_
      refine j_aload_n C 0 rfl dX11_swing_8 rfl ?_
      refine fg_X11_71_TC_0 C dX11_swing_9 ?_
      refine j_iload_n C 1 rfl dX11_swing_12 rfl ?_
      refine j_aload_n C 0 rfl dX11_swing_13 rfl ?_
      refine fg_X11_24_TC_0 C dX11_swing_14 ?_
      refine j_iload_n C 2 rfl dX11_swing_17 rfl ?_
      obtain ⟨r5, h6, h⟩ := bd1_elim h
      refine j_callV (As := [.int a2]) (rest := [.int a1, .ref (ad 48)]) C (kX2_oilLeft_3 l B D ad cA hI S V L a2 _ h6) mw_X2_oilLeft wd1128 wd1129 wd1127 tc_3 rfl rfl ⟨rfl, rfl, by decide, by decide⟩ ⟨by decide, by decide⟩ rfl rfl (Nat.le_of_ble_eq_true rfl) dX11_swing_18 ?_
      refine j_iconst C dX11_swing_21 ci_m1 ?_
      obtain ⟨r7, h8, h⟩ := bd1_elim h
      refine j_callV (As := [.int a1, .int r5, .int (-1 : Int32)]) (rest := []) C (kX6_swingIn_48 l B D ad cA hI S V L a1 r5 (-1 : Int32) _ h8) mw_X6_swingIn wd1133 wd1134 wd1132 tc_48 rfl rfl ⟨rfl, rfl, by decide, by decide⟩ ⟨by decide, by decide⟩ rfl rfl (Nat.le_of_ble_eq_true rfl) dX11_swing_22 ?_
      cases h
      exact jx_iret C hr hlk rfl rfl (by decide) (by decide) dX11_swing_25
    · exact fun H locs ls hP hS hl => jx_ex C hlk rfl hxt rfl hS (jx_callS (As := [.int a2]) (rest := []) C (kX11_needDay l B D ad cA hI hl0 S V L a2 (.inr x4) h3) mw_X11_needDay wd1124 wd1123 ⟨rfl, rfl, by decide, by decide⟩ ⟨by decide, by decide⟩ rfl rfl (Nat.le_of_ble_eq_true rfl) dX11_swing_5 hP hS hl) (by decide) (by decide)
  · exact fun H locs ls hP hS hl => jx_ex C hlk rfl hxt rfl hS (jx_callS (As := [.int a1]) (rest := []) C (kX11_needHour l B D ad cA hI hl0 S V L a1 (.inr x2) h1) mw_X11_needHour wd1112 wd1111 ⟨rfl, rfl, by decide, by decide⟩ ⟨by decide, by decide⟩ rfl rfl (Nat.le_of_ble_eq_true rfl) dX11_swing_1 hP hS hl) (by decide) (by decide)
theorem dX11_tenant_0 : decode cX11_tenant 0 = .ok (.aload_n 0, 1) := by decide +kernel
theorem dX11_tenant_1 : decode cX11_tenant 1 = .ok (.iload_n 1, 1) := by decide +kernel
theorem dX11_tenant_2 : decode cX11_tenant 2 = .ok (.invokevirtual 168, 3) := by decide +kernel
theorem dX11_tenant_5 : decode cX11_tenant 5 = .ok (.iload_n 2, 1) := by decide +kernel
theorem dX11_tenant_6 : decode cX11_tenant 6 = .ok (.tableswitch 110 0 6 #[42, 52, 62, 72, 82, 91, 100], 42) := by decide +kernel
theorem dX11_tenant_48 : decode cX11_tenant 48 = .ok (.aload_n 0, 1) := by decide +kernel
theorem dX11_tenant_49 : decode cX11_tenant 49 = .ok (.getfield 24, 3) := by decide +kernel
theorem dX11_tenant_52 : decode cX11_tenant 52 = .ok (.getfield 171, 3) := by decide +kernel
theorem dX11_tenant_55 : decode cX11_tenant 55 = .ok (.iload_n 1, 1) := by decide +kernel
theorem dX11_tenant_56 : decode cX11_tenant 56 = .ok (.iaload, 1) := by decide +kernel
theorem dX11_tenant_57 : decode cX11_tenant 57 = .ok (.ireturn, 1) := by decide +kernel
theorem dX11_tenant_58 : decode cX11_tenant 58 = .ok (.aload_n 0, 1) := by decide +kernel
theorem dX11_tenant_59 : decode cX11_tenant 59 = .ok (.getfield 24, 3) := by decide +kernel
theorem dX11_tenant_62 : decode cX11_tenant 62 = .ok (.getfield 174, 3) := by decide +kernel
theorem dX11_tenant_65 : decode cX11_tenant 65 = .ok (.iload_n 1, 1) := by decide +kernel
theorem dX11_tenant_66 : decode cX11_tenant 66 = .ok (.iaload, 1) := by decide +kernel
theorem dX11_tenant_67 : decode cX11_tenant 67 = .ok (.ireturn, 1) := by decide +kernel
theorem dX11_tenant_68 : decode cX11_tenant 68 = .ok (.aload_n 0, 1) := by decide +kernel
theorem dX11_tenant_69 : decode cX11_tenant 69 = .ok (.getfield 24, 3) := by decide +kernel
theorem dX11_tenant_72 : decode cX11_tenant 72 = .ok (.getfield 177, 3) := by decide +kernel
theorem dX11_tenant_75 : decode cX11_tenant 75 = .ok (.iload_n 1, 1) := by decide +kernel
theorem dX11_tenant_76 : decode cX11_tenant 76 = .ok (.iaload, 1) := by decide +kernel
theorem dX11_tenant_77 : decode cX11_tenant 77 = .ok (.ireturn, 1) := by decide +kernel
theorem dX11_tenant_78 : decode cX11_tenant 78 = .ok (.aload_n 0, 1) := by decide +kernel
theorem dX11_tenant_79 : decode cX11_tenant 79 = .ok (.getfield 24, 3) := by decide +kernel
theorem dX11_tenant_82 : decode cX11_tenant 82 = .ok (.getfield 180, 3) := by decide +kernel
theorem dX11_tenant_85 : decode cX11_tenant 85 = .ok (.iload_n 1, 1) := by decide +kernel
theorem dX11_tenant_86 : decode cX11_tenant 86 = .ok (.iaload, 1) := by decide +kernel
theorem dX11_tenant_87 : decode cX11_tenant 87 = .ok (.ireturn, 1) := by decide +kernel
theorem dX11_tenant_88 : decode cX11_tenant 88 = .ok (.aload_n 0, 1) := by decide +kernel
theorem dX11_tenant_89 : decode cX11_tenant 89 = .ok (.getfield 49, 3) := by decide +kernel
theorem dX11_tenant_92 : decode cX11_tenant 92 = .ok (.iload_n 1, 1) := by decide +kernel
theorem dX11_tenant_93 : decode cX11_tenant 93 = .ok (.invokevirtual 183, 3) := by decide +kernel
theorem dX11_tenant_96 : decode cX11_tenant 96 = .ok (.ireturn, 1) := by decide +kernel
theorem dX11_tenant_97 : decode cX11_tenant 97 = .ok (.aload_n 0, 1) := by decide +kernel
theorem dX11_tenant_98 : decode cX11_tenant 98 = .ok (.getfield 49, 3) := by decide +kernel
theorem dX11_tenant_101 : decode cX11_tenant 101 = .ok (.iload_n 1, 1) := by decide +kernel
theorem dX11_tenant_102 : decode cX11_tenant 102 = .ok (.invokevirtual 187, 3) := by decide +kernel
theorem dX11_tenant_105 : decode cX11_tenant 105 = .ok (.ireturn, 1) := by decide +kernel
theorem dX11_tenant_106 : decode cX11_tenant 106 = .ok (.aload_n 0, 1) := by decide +kernel
theorem dX11_tenant_107 : decode cX11_tenant 107 = .ok (.getfield 24, 3) := by decide +kernel
theorem dX11_tenant_110 : decode cX11_tenant 110 = .ok (.getfield 190, 3) := by decide +kernel
theorem dX11_tenant_113 : decode cX11_tenant 113 = .ok (.iload_n 1, 1) := by decide +kernel
theorem dX11_tenant_114 : decode cX11_tenant 114 = .ok (.iaload, 1) := by decide +kernel
theorem dX11_tenant_115 : decode cX11_tenant 115 = .ok (.ireturn, 1) := by decide +kernel
theorem dX11_tenant_116 : decode cX11_tenant 116 = .ok (.new 163, 3) := by decide +kernel
theorem dX11_tenant_119 : decode cX11_tenant 119 = .ok (.dup, 1) := by decide +kernel
theorem dX11_tenant_120 : decode cX11_tenant 120 = .ok (.ldc 193, 2) := by decide +kernel
theorem dX11_tenant_122 : decode cX11_tenant 122 = .ok (.invokespecial 167, 3) := by decide +kernel
theorem dX11_tenant_125 : decode cX11_tenant 125 = .ok (.athrow, 1) := by decide +kernel
def fX11_tenant_0 (S : Nat → Int32) (V : Nat → Nat → Int32) (a1 : Int32) (a2 : Int32) : Option ((Int32) ⊕ Nat) :=
  bdx (fX11_needTenant_0 S a1) (
  (if a2 = (0 : Int32) then
  gd (ib a1 6) (
  some (.inl ((V 4 (a1).toNatClampNeg))))
  else
  (if a2 = (1 : Int32) then
  gd (ib a1 6) (
  some (.inl ((V 5 (a1).toNatClampNeg))))
  else
  (if a2 = (2 : Int32) then
  gd (ib a1 6) (
  some (.inl ((V 6 (a1).toNatClampNeg))))
  else
  (if a2 = (3 : Int32) then
  gd (ib a1 6) (
  some (.inl ((V 7 (a1).toNatClampNeg))))
  else
  (if a2 = (4 : Int32) then
  bd1 (fX4_hoursInHalves_30 S V a1) (fun r12 =>
  some (.inl r12))
  else
  (if a2 = (5 : Int32) then
  bd1 (fX4_hoursInPauses_30 S V a1) (fun r15 =>
  some (.inl r15))
  else
  (if a2 = (6 : Int32) then
  gd (ib a1 6) (
  some (.inl ((V 8 (a1).toNatClampNeg))))
  else
  some (.inr 1)))))))))
set_option maxHeartbeats 4000000 in
set_option maxRecDepth 100000 in
theorem kX11_tenant_0 (l : Launch) (B : jBT) (D : va_G) (ad : Nat → Nat) (cA : Nat → ClassId) (hI : jI ad TC) (hl0 : l.stackTraces = false) (S : Nat → Int32) (V : Nat → Nat → Int32) (L : Nat → Int64) (a1 : Int32) (a2 : Int32) (rr : (Int32) ⊕ Nat) (h : fX11_tenant_0 S V a1 a2 = some rr) : jMx l yX11_tenant cX11_tenant 3 (some .int) ({ frames := 7, cells := 2, slots := 12, locals := 141 }) B D TC ad cA [.ref (ad 0), .int a1, .int a2] S V L (Sum.map (fun (z : Int32) => ((some (.int z) : Option Value), S, V, L)) (fun (x : Nat) => x) rr : jR) 2 12 := by
  refine jMx_of (by decide) TC_ok hI (Nat.le_of_ble_eq_true rfl) ?_
  intro p e s m args below meth c C hr hlk hxt
  refine j_lv (lv2 := [(0, .ref (ad 0)), (1, .int a1), (2, .int a2)]) rfl ?_
  unfold fX11_tenant_0 at h
  refine j_aload_n C 0 rfl dX11_tenant_0 rfl ?_
  refine j_iload_n C 1 rfl dX11_tenant_1 rfl ?_
  rcases bdx_elim h with ⟨h1, h⟩ | ⟨x2, h1, rfl⟩
  · refine fun H locs ls hP hS hl => jx_ok C hS hl (jx_callV (As := [.int a1]) (rest := []) C (kX11_needTenant_0 l B D ad cA hI hl0 S V L a1 (.inl ()) h1) mw_X11_needTenant wd1083 wd36 wd1081 tc_0 rfl rfl ⟨rfl, rfl, by decide, by decide⟩ ⟨by decide, by decide⟩ rfl rfl (Nat.le_of_ble_eq_true rfl) dX11_tenant_2 hP hS hl) ?_
    refine j_iload_n C 2 rfl dX11_tenant_5 rfl ?_
    by_cases c3 : a2 = (0 : Int32)
    · have h := (if_pos c3).symm.trans h
      refine j_tableIn (tgt := 48) C dX11_tenant_6 (by rw [c3]; decide) (by rw [c3]; decide) (by rw [c3]; rfl) (by decide) ?_
      refine j_aload_n C 0 rfl dX11_tenant_48 rfl ?_
      refine fg_X11_24_TC_0 C dX11_tenant_49 ?_
      refine fg_X11_171_TC_3 C dX11_tenant_52 ?_
      refine j_iload_n C 1 rfl dX11_tenant_55 rfl ?_
      obtain ⟨g4, h⟩ := gd_elim h
      refine j_iald C tc_4 (ib_in g4) dX11_tenant_56 ?_
      cases h
      exact jx_iret C hr hlk rfl rfl (by decide) (by decide) dX11_tenant_57
    have h := (if_neg c3).symm.trans h
    have n_c3 := ne_toInt (z := 0) (by decide) c3
    by_cases c5 : a2 = (1 : Int32)
    · have h := (if_pos c5).symm.trans h
      refine j_tableIn (tgt := 58) C dX11_tenant_6 (by rw [c5]; decide) (by rw [c5]; decide) (by rw [c5]; rfl) (by decide) ?_
      refine j_aload_n C 0 rfl dX11_tenant_58 rfl ?_
      refine fg_X11_24_TC_0 C dX11_tenant_59 ?_
      refine fg_X11_174_TC_3 C dX11_tenant_62 ?_
      refine j_iload_n C 1 rfl dX11_tenant_65 rfl ?_
      obtain ⟨g6, h⟩ := gd_elim h
      refine j_iald C tc_5 (ib_in g6) dX11_tenant_66 ?_
      cases h
      exact jx_iret C hr hlk rfl rfl (by decide) (by decide) dX11_tenant_67
    have h := (if_neg c5).symm.trans h
    have n_c5 := ne_toInt (z := 1) (by decide) c5
    by_cases c7 : a2 = (2 : Int32)
    · have h := (if_pos c7).symm.trans h
      refine j_tableIn (tgt := 68) C dX11_tenant_6 (by rw [c7]; decide) (by rw [c7]; decide) (by rw [c7]; rfl) (by decide) ?_
      refine j_aload_n C 0 rfl dX11_tenant_68 rfl ?_
      refine fg_X11_24_TC_0 C dX11_tenant_69 ?_
      refine fg_X11_177_TC_3 C dX11_tenant_72 ?_
      refine j_iload_n C 1 rfl dX11_tenant_75 rfl ?_
      obtain ⟨g8, h⟩ := gd_elim h
      refine j_iald C tc_6 (ib_in g8) dX11_tenant_76 ?_
      cases h
      exact jx_iret C hr hlk rfl rfl (by decide) (by decide) dX11_tenant_77
    have h := (if_neg c7).symm.trans h
    have n_c7 := ne_toInt (z := 2) (by decide) c7
    by_cases c9 : a2 = (3 : Int32)
    · have h := (if_pos c9).symm.trans h
      refine j_tableIn (tgt := 78) C dX11_tenant_6 (by rw [c9]; decide) (by rw [c9]; decide) (by rw [c9]; rfl) (by decide) ?_
      refine j_aload_n C 0 rfl dX11_tenant_78 rfl ?_
      refine fg_X11_24_TC_0 C dX11_tenant_79 ?_
      refine fg_X11_180_TC_3 C dX11_tenant_82 ?_
      refine j_iload_n C 1 rfl dX11_tenant_85 rfl ?_
      obtain ⟨g10, h⟩ := gd_elim h
      refine j_iald C tc_7 (ib_in g10) dX11_tenant_86 ?_
      cases h
      exact jx_iret C hr hlk rfl rfl (by decide) (by decide) dX11_tenant_87
    have h := (if_neg c9).symm.trans h
    have n_c9 := ne_toInt (z := 3) (by decide) c9
    by_cases c11 : a2 = (4 : Int32)
    · have h := (if_pos c11).symm.trans h
      refine j_tableIn (tgt := 88) C dX11_tenant_6 (by rw [c11]; decide) (by rw [c11]; decide) (by rw [c11]; rfl) (by decide) ?_
      refine j_aload_n C 0 rfl dX11_tenant_88 rfl ?_
      refine fg_X11_49_TC_0 C dX11_tenant_89 ?_
      refine j_iload_n C 1 rfl dX11_tenant_92 rfl ?_
      obtain ⟨r12, h13, h⟩ := bd1_elim h
      refine j_callV (As := [.int a1]) (rest := []) C (kX4_hoursInHalves_30 l B D ad cA hI S V L a1 _ h13) mw_X4_hoursInHalves wd1088 wd1089 wd1087 tc_30 rfl rfl ⟨rfl, rfl, by decide, by decide⟩ ⟨by decide, by decide⟩ rfl rfl (Nat.le_of_ble_eq_true rfl) dX11_tenant_93 ?_
      cases h
      exact jx_iret C hr hlk rfl rfl (by decide) (by decide) dX11_tenant_96
    have h := (if_neg c11).symm.trans h
    have n_c11 := ne_toInt (z := 4) (by decide) c11
    by_cases c14 : a2 = (5 : Int32)
    · have h := (if_pos c14).symm.trans h
      refine j_tableIn (tgt := 97) C dX11_tenant_6 (by rw [c14]; decide) (by rw [c14]; decide) (by rw [c14]; rfl) (by decide) ?_
      refine j_aload_n C 0 rfl dX11_tenant_97 rfl ?_
      refine fg_X11_49_TC_0 C dX11_tenant_98 ?_
      refine j_iload_n C 1 rfl dX11_tenant_101 rfl ?_
      obtain ⟨r15, h16, h⟩ := bd1_elim h
      refine j_callV (As := [.int a1]) (rest := []) C (kX4_hoursInPauses_30 l B D ad cA hI S V L a1 _ h16) mw_X4_hoursInPauses wd1098 wd1099 wd1101 tc_30 rfl rfl ⟨rfl, rfl, by decide, by decide⟩ ⟨by decide, by decide⟩ rfl rfl (Nat.le_of_ble_eq_true rfl) dX11_tenant_102 ?_
      cases h
      exact jx_iret C hr hlk rfl rfl (by decide) (by decide) dX11_tenant_105
    have h := (if_neg c14).symm.trans h
    have n_c14 := ne_toInt (z := 5) (by decide) c14
    by_cases c17 : a2 = (6 : Int32)
    · have h := (if_pos c17).symm.trans h
      refine j_tableIn (tgt := 106) C dX11_tenant_6 (by rw [c17]; decide) (by rw [c17]; decide) (by rw [c17]; rfl) (by decide) ?_
      refine j_aload_n C 0 rfl dX11_tenant_106 rfl ?_
      refine fg_X11_24_TC_0 C dX11_tenant_107 ?_
      refine fg_X11_190_TC_3 C dX11_tenant_110 ?_
      refine j_iload_n C 1 rfl dX11_tenant_113 rfl ?_
      obtain ⟨g18, h⟩ := gd_elim h
      refine j_iald C tc_8 (ib_in g18) dX11_tenant_114 ?_
      cases h
      exact jx_iret C hr hlk rfl rfl (by decide) (by decide) dX11_tenant_115
    have h := (if_neg c17).symm.trans h
    have n_c17 := ne_toInt (z := 6) (by decide) c17
    refine j_tableOut (tgt := 116) C dX11_tenant_6 (by omega) (by decide) ?_
    cases h
    exact jx_throw (x := 1) (i := 5) C hl0 hlk rfl hxt rfl rfl xw_1 dX11_tenant_116 dX11_tenant_119 dX11_tenant_120 dX11_tenant_122 dX11_tenant_125 (by decide) (Nat.le_of_ble_eq_true rfl) (by decide) (by decide) (by decide) (by decide)
  · exact fun H locs ls hP hS hl => jx_ex C hlk rfl hxt rfl hS (jx_callV (As := [.int a1]) (rest := []) C (kX11_needTenant_0 l B D ad cA hI hl0 S V L a1 (.inr x2) h1) mw_X11_needTenant wd1083 wd36 wd1081 tc_0 rfl rfl ⟨rfl, rfl, by decide, by decide⟩ ⟨by decide, by decide⟩ rfl rfl (Nat.le_of_ble_eq_true rfl) dX11_tenant_2 hP hS hl) (by decide) (by decide)
theorem dX11_visit_0 : decode cX11_visit 0 = .ok (.aload_n 0, 1) := by decide +kernel
theorem dX11_visit_1 : decode cX11_visit 1 = .ok (.iload_n 1, 1) := by decide +kernel
theorem dX11_visit_2 : decode cX11_visit 2 = .ok (.invokevirtual 168, 3) := by decide +kernel
theorem dX11_visit_5 : decode cX11_visit 5 = .ok (.aload_n 0, 1) := by decide +kernel
theorem dX11_visit_6 : decode cX11_visit 6 = .ok (.getfield 94, 3) := by decide +kernel
theorem dX11_visit_9 : decode cX11_visit 9 = .ok (.getfield 272, 3) := by decide +kernel
theorem dX11_visit_12 : decode cX11_visit 12 = .ok (.ifCond .ne 14, 3) := by decide +kernel
theorem dX11_visit_15 : decode cX11_visit 15 = .ok (.new 163, 3) := by decide +kernel
theorem dX11_visit_18 : decode cX11_visit 18 = .ok (.dup, 1) := by decide +kernel
theorem dX11_visit_19 : decode cX11_visit 19 = .ok (.ldc_w 273, 3) := by decide +kernel
theorem dX11_visit_22 : decode cX11_visit 22 = .ok (.invokespecial 167, 3) := by decide +kernel
theorem dX11_visit_25 : decode cX11_visit 25 = .ok (.athrow, 1) := by decide +kernel
theorem dX11_visit_26 : decode cX11_visit 26 = .ok (.aload_n 0, 1) := by decide +kernel
theorem dX11_visit_27 : decode cX11_visit 27 = .ok (.getfield 94, 3) := by decide +kernel
theorem dX11_visit_30 : decode cX11_visit 30 = .ok (.getfield 275, 3) := by decide +kernel
theorem dX11_visit_33 : decode cX11_visit 33 = .ok (.iload_n 1, 1) := by decide +kernel
theorem dX11_visit_34 : decode cX11_visit 34 = .ok (.iaload, 1) := by decide +kernel
theorem dX11_visit_35 : decode cX11_visit 35 = .ok (.ireturn, 1) := by decide +kernel
def fX11_visit_0 (S : Nat → Int32) (V : Nat → Nat → Int32) (a1 : Int32) : Option ((Int32) ⊕ Nat) :=
  bdx (fX11_needTenant_0 S a1) (
  (if (S 5903) = 0 then
  some (.inr 1)
  else
  gd (ib a1 6) (
  some (.inl ((V 62 (a1).toNatClampNeg))))))
set_option maxHeartbeats 4000000 in
set_option maxRecDepth 100000 in
theorem kX11_visit_0 (l : Launch) (B : jBT) (D : va_G) (ad : Nat → Nat) (cA : Nat → ClassId) (hI : jI ad TC) (hl0 : l.stackTraces = false) (S : Nat → Int32) (V : Nat → Nat → Int32) (L : Nat → Int64) (a1 : Int32) (rr : (Int32) ⊕ Nat) (h : fX11_visit_0 S V a1 = some rr) : jMx l yX11_visit cX11_visit 2 (some .int) ({ frames := 7, cells := 2, slots := 12, locals := 141 }) B D TC ad cA [.ref (ad 0), .int a1] S V L (Sum.map (fun (z : Int32) => ((some (.int z) : Option Value), S, V, L)) (fun (x : Nat) => x) rr : jR) 2 12 := by
  refine jMx_of (by decide) TC_ok hI (Nat.le_of_ble_eq_true rfl) ?_
  intro p e s m args below meth c C hr hlk hxt
  refine j_lv (lv2 := [(0, .ref (ad 0)), (1, .int a1)]) rfl ?_
  unfold fX11_visit_0 at h
  refine j_aload_n C 0 rfl dX11_visit_0 rfl ?_
  refine j_iload_n C 1 rfl dX11_visit_1 rfl ?_
  rcases bdx_elim h with ⟨h1, h⟩ | ⟨x2, h1, rfl⟩
  · refine fun H locs ls hP hS hl => jx_ok C hS hl (jx_callV (As := [.int a1]) (rest := []) C (kX11_needTenant_0 l B D ad cA hI hl0 S V L a1 (.inl ()) h1) mw_X11_needTenant wd1083 wd36 wd1081 tc_0 rfl rfl ⟨rfl, rfl, by decide, by decide⟩ ⟨by decide, by decide⟩ rfl rfl (Nat.le_of_ble_eq_true rfl) dX11_visit_2 hP hS hl) ?_
    refine j_aload_n C 0 rfl dX11_visit_5 rfl ?_
    refine fg_X11_94_TC_0 C dX11_visit_6 ?_
    refine fg_X11_272_TC_59 C dX11_visit_9 ?_
    refine j_if_ne (tgt := 26) C dX11_visit_12 (by decide) (fun c3 => ?_) (fun c3 => ?_)
    · have h := (if_neg c3).symm.trans h
      refine j_aload_n C 0 rfl dX11_visit_26 rfl ?_
      refine fg_X11_94_TC_0 C dX11_visit_27 ?_
      refine fg_X11_275_TC_59 C dX11_visit_30 ?_
      refine j_iload_n C 1 rfl dX11_visit_33 rfl ?_
      obtain ⟨g4, h⟩ := gd_elim h
      refine j_iald C tc_62 (ib_in g4) dX11_visit_34 ?_
      cases h
      exact jx_iret C hr hlk rfl rfl (by decide) (by decide) dX11_visit_35
    · have h := (if_pos c3).symm.trans h
      cases h
      exact jx_throwW (x := 1) (i := 14) C hl0 hlk rfl hxt rfl rfl xw_1 dX11_visit_15 dX11_visit_18 dX11_visit_19 dX11_visit_22 dX11_visit_25 (by decide) (Nat.le_of_ble_eq_true rfl) (by decide) (by decide) (by decide) (by decide)
  · exact fun H locs ls hP hS hl => jx_ex C hlk rfl hxt rfl hS (jx_callV (As := [.int a1]) (rest := []) C (kX11_needTenant_0 l B D ad cA hI hl0 S V L a1 (.inr x2) h1) mw_X11_needTenant wd1083 wd36 wd1081 tc_0 rfl rfl ⟨rfl, rfl, by decide, by decide⟩ ⟨by decide, by decide⟩ rfl rfl (Nat.le_of_ble_eq_true rfl) dX11_visit_2 hP hS hl) (by decide) (by decide)
theorem dX11_visits_0 : decode cX11_visits 0 = .ok (.iload_n 2, 1) := by decide +kernel
theorem dX11_visits_1 : decode cX11_visits 1 = .ok (.invokestatic 208, 3) := by decide +kernel
theorem dX11_visits_4 : decode cX11_visits 4 = .ok (.aload_n 0, 1) := by decide +kernel
theorem dX11_visits_5 : decode cX11_visits 5 = .ok (.iload_n 1, 1) := by decide +kernel
theorem dX11_visits_6 : decode cX11_visits 6 = .ok (.invokevirtual 233, 3) := by decide +kernel
theorem dX11_visits_9 : decode cX11_visits 9 = .ok (.aload_n 0, 1) := by decide +kernel
theorem dX11_visits_10 : decode cX11_visits 10 = .ok (.getfield 94, 3) := by decide +kernel
theorem dX11_visits_13 : decode cX11_visits 13 = .ok (.iload_n 1, 1) := by decide +kernel
theorem dX11_visits_14 : decode cX11_visits 14 = .ok (.iload_n 2, 1) := by decide +kernel
theorem dX11_visits_15 : decode cX11_visits 15 = .ok (.invokevirtual 271, 3) := by decide +kernel
theorem dX11_visits_18 : decode cX11_visits 18 = .ok (.ireturn, 1) := by decide +kernel
def fX11_visits_0 (S : Nat → Int32) (V : Nat → Nat → Int32) (a1 : Int32) (a2 : Int32) : Option ((Int32 × (Nat → Int32) × (Nat → Nat → Int32)) ⊕ Nat) :=
  bdx (fX11_needHour a2) (
  bdx (fX11_needTenantBits_0 S a1) (
  bd3 (fX7_find_59 S V a1 a2) (fun r5 S6 V7 =>
  some (.inl (r5, S6, V7)))))
set_option maxHeartbeats 4000000 in
set_option maxRecDepth 100000 in
theorem kX11_visits_0 (l : Launch) (B : jBT) (D : va_G) (ad : Nat → Nat) (cA : Nat → ClassId) (hI : jI ad TC) (hl0 : l.stackTraces = false) (S : Nat → Int32) (V : Nat → Nat → Int32) (L : Nat → Int64) (a1 : Int32) (a2 : Int32) (rr : (Int32 × (Nat → Int32) × (Nat → Nat → Int32)) ⊕ Nat) (h : fX11_visits_0 S V a1 a2 = some rr) : jMx l yX11_visits cX11_visits 3 (some .int) ({ frames := 7, cells := 3, slots := 18, locals := 141 }) B D TC ad cA [.ref (ad 0), .int a1, .int a2] S V L (Sum.map (fun (z : Int32 × (Nat → Int32) × (Nat → Nat → Int32)) => ((some (.int z.1) : Option Value), z.2.1, z.2.2, L)) (fun (x : Nat) => x) rr : jR) 3 18 := by
  refine jMx_of (by decide) TC_ok hI (Nat.le_of_ble_eq_true rfl) ?_
  intro p e s m args below meth c C hr hlk hxt
  refine j_lv (lv2 := [(0, .ref (ad 0)), (1, .int a1), (2, .int a2)]) rfl ?_
  unfold fX11_visits_0 at h
  refine j_iload_n C 2 rfl dX11_visits_0 rfl ?_
  rcases bdx_elim h with ⟨h1, h⟩ | ⟨x2, h1, rfl⟩
  · refine fun H locs ls hP hS hl => jx_ok C hS hl (jx_callS (As := [.int a2]) (rest := []) C (kX11_needHour l B D ad cA hI hl0 S V L a2 (.inl ()) h1) mw_X11_needHour wd1112 wd1111 ⟨rfl, rfl, by decide, by decide⟩ ⟨by decide, by decide⟩ rfl rfl (Nat.le_of_ble_eq_true rfl) dX11_visits_1 hP hS hl) ?_
    refine j_aload_n C 0 rfl dX11_visits_4 rfl ?_
    refine j_iload_n C 1 rfl dX11_visits_5 rfl ?_
    rcases bdx_elim h with ⟨h3, h⟩ | ⟨x4, h3, rfl⟩
    · refine fun H locs ls hP hS hl => jx_ok C hS hl (jx_callV (As := [.int a1]) (rest := []) C (kX11_needTenantBits_0 l B D ad cA hI hl0 S V L a1 (.inl ()) h3) mw_X11_needTenantBits wd1181 wd38 wd1179 tc_0 rfl rfl ⟨rfl, rfl, by decide, by decide⟩ ⟨by decide, by decide⟩ rfl rfl (Nat.le_of_ble_eq_true rfl) dX11_visits_6 hP hS hl) ?_
      refine j_aload_n C 0 rfl dX11_visits_9 rfl ?_
      refine fg_X11_94_TC_0 C dX11_visits_10 ?_
      refine j_iload_n C 1 rfl dX11_visits_13 rfl ?_
      refine j_iload_n C 2 rfl dX11_visits_14 rfl ?_
      obtain ⟨r5, S6, V7, h8, h⟩ := bd3_elim h
      refine j_callV (As := [.int a1, .int a2]) (rest := []) C (kX7_find_59 l B D ad cA hI S V L a1 a2 _ _ _ h8) mw_X7_find wd1288 wd1289 wd1287 tc_59 rfl rfl ⟨rfl, rfl, by decide, by decide⟩ ⟨by decide, by decide⟩ rfl rfl (Nat.le_of_ble_eq_true rfl) dX11_visits_15 ?_
      cases h
      exact jx_iret C hr hlk rfl rfl (by decide) (by decide) dX11_visits_18
    · exact fun H locs ls hP hS hl => jx_ex C hlk rfl hxt rfl hS (jx_callV (As := [.int a1]) (rest := []) C (kX11_needTenantBits_0 l B D ad cA hI hl0 S V L a1 (.inr x4) h3) mw_X11_needTenantBits wd1181 wd38 wd1179 tc_0 rfl rfl ⟨rfl, rfl, by decide, by decide⟩ ⟨by decide, by decide⟩ rfl rfl (Nat.le_of_ble_eq_true rfl) dX11_visits_6 hP hS hl) (by decide) (by decide)
  · exact fun H locs ls hP hS hl => jx_ex C hlk rfl hxt rfl hS (jx_callS (As := [.int a2]) (rest := []) C (kX11_needHour l B D ad cA hI hl0 S V L a2 (.inr x2) h1) mw_X11_needHour wd1112 wd1111 ⟨rfl, rfl, by decide, by decide⟩ ⟨by decide, by decide⟩ rfl rfl (Nat.le_of_ble_eq_true rfl) dX11_visits_1 hP hS hl) (by decide) (by decide)
