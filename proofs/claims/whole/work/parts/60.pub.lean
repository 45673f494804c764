theorem dX11_needDay_0 : decode cX11_needDay 0 = .ok (.iload_n 0, 1) := by decide +kernel
theorem dX11_needDay_1 : decode cX11_needDay 1 = .ok (.ifCond .lt 10, 3) := by decide +kernel
theorem dX11_needDay_4 : decode cX11_needDay 4 = .ok (.iload_n 0, 1) := by decide +kernel
theorem dX11_needDay_5 : decode cX11_needDay 5 = .ok (.sipush 9999, 3) := by decide +kernel
theorem dX11_needDay_8 : decode cX11_needDay 8 = .ok (.if_icmp .le 14, 3) := by decide +kernel
theorem dX11_needDay_11 : decode cX11_needDay 11 = .ok (.new 105, 3) := by decide +kernel
theorem dX11_needDay_14 : decode cX11_needDay 14 = .ok (.dup, 1) := by decide +kernel
theorem dX11_needDay_15 : decode cX11_needDay 15 = .ok (.ldc_w 339, 3) := by decide +kernel
theorem dX11_needDay_18 : decode cX11_needDay 18 = .ok (.invokespecial 109, 3) := by decide +kernel
theorem dX11_needDay_21 : decode cX11_needDay 21 = .ok (.athrow, 1) := by decide +kernel
theorem dX11_needDay_22 : decode cX11_needDay 22 = .ok (.return_, 1) := by decide +kernel
def fX11_needDay (a1 : Int32) : Option ((Unit) ⊕ Nat) :=
  (if a1 < 0 then
  some (.inr 0)
  else
  (if a1 ≤ (9999 : Int32) then
  some (.inl ())
  else
  some (.inr 0)))
set_option maxHeartbeats 4000000 in
set_option maxRecDepth 100000 in
theorem kX11_needDay (l : Launch) (B : jBT) (D : va_G) (ad : Nat → Nat) (cA : Nat → ClassId) (hI : jI ad TC) (hl0 : l.stackTraces = false) (S : Nat → Int32) (V : Nat → Nat → Int32) (L : Nat → Int64) (a1 : Int32) (rr : (Unit) ⊕ Nat) (h : fX11_needDay a1 = some rr) : jMx l yX11_needDay cX11_needDay 1 none ({ frames := 6, cells := 1, slots := 6, locals := 120 }) B D TC ad cA [.int a1] S V L (Sum.map (fun (z : Unit) => ((none : Option Value), S, V, L)) (fun (x : Nat) => x) rr : jR) 1 6 := by
  refine jMx_of (by decide) TC_ok hI (Nat.le_of_ble_eq_true rfl) ?_
  intro p e s m args below meth c C hr hlk hxt
  refine j_lv (lv2 := [(0, .int a1)]) rfl ?_
  unfold fX11_needDay at h
  refine j_iload_n C 0 rfl dX11_needDay_0 rfl ?_
  refine j_if_lt (tgt := 11) C dX11_needDay_1 (by decide) (fun c1 => ?_) (fun c1 => ?_)
  · have h := (if_pos c1).symm.trans h
    cases h
    exact jx_throwW (x := 0) (i := 8) C hl0 hlk rfl hxt rfl rfl xw_0 dX11_needDay_11 dX11_needDay_14 dX11_needDay_15 dX11_needDay_18 dX11_needDay_21 (by decide) (Nat.le_of_ble_eq_true rfl) (by decide) (by decide) (by decide) (by decide)
  · have h := (if_neg c1).symm.trans h
    refine j_iload_n C 0 rfl dX11_needDay_4 rfl ?_
    refine j_sipush C dX11_needDay_5 cs_9999 ?_
    refine j_icmp_le (tgt := 22) C dX11_needDay_8 (by decide) (fun c2 => ?_) (fun c2 => ?_)
    · have h := (if_pos c2).symm.trans h
      cases h
      exact jx_vret C hr hlk rfl rfl (by decide) (by decide) dX11_needDay_22
    · have h := (if_neg c2).symm.trans h
      cases h
      exact jx_throwW (x := 0) (i := 8) C hl0 hlk rfl hxt rfl rfl xw_0 dX11_needDay_11 dX11_needDay_14 dX11_needDay_15 dX11_needDay_18 dX11_needDay_21 (by decide) (Nat.le_of_ble_eq_true rfl) (by decide) (by decide) (by decide) (by decide)
theorem dX11_birthday_0 : decode cX11_birthday 0 = .ok (.iload_n 1, 1) := by decide +kernel
theorem dX11_birthday_1 : decode cX11_birthday 1 = .ok (.invokestatic 215, 3) := by decide +kernel
theorem dX11_birthday_4 : decode cX11_birthday 4 = .ok (.aload_n 0, 1) := by decide +kernel
theorem dX11_birthday_5 : decode cX11_birthday 5 = .ok (.getfield 71, 3) := by decide +kernel
theorem dX11_birthday_8 : decode cX11_birthday 8 = .ok (.iload_n 1, 1) := by decide +kernel
theorem dX11_birthday_9 : decode cX11_birthday 9 = .ok (.invokevirtual 306, 3) := by decide +kernel
theorem dX11_birthday_12 : decode cX11_birthday 12 = .ok (.ireturn, 1) := by decide +kernel
def fX11_birthday_0 (S : Nat → Int32) (V : Nat → Nat → Int32) (a1 : Int32) : Option ((Int32) ⊕ Nat) :=
  bdx (fX11_needDay a1) (
  bd1 (fX6_daysToBirthday_48 S V a1) (fun r3 =>
  some (.inl r3)))
set_option maxHeartbeats 4000000 in
set_option maxRecDepth 100000 in
theorem kX11_birthday_0 (l : Launch) (B : jBT) (D : va_G) (ad : Nat → Nat) (cA : Nat → ClassId) (hI : jI ad TC) (hl0 : l.stackTraces = false) (S : Nat → Int32) (V : Nat → Nat → Int32) (L : Nat → Int64) (a1 : Int32) (rr : (Int32) ⊕ Nat) (h : fX11_birthday_0 S V a1 = some rr) : jMx l yX11_birthday cX11_birthday 2 (some .int) ({ frames := 7, cells := 2, slots := 12, locals := 146 }) B D TC ad cA [.ref (ad 0), .int a1] S V L (Sum.map (fun (z : Int32) => ((some (.int z) : Option Value), S, V, L)) (fun (x : Nat) => x) rr : jR) 2 12 := by
  refine jMx_of (by decide) TC_ok hI (Nat.le_of_ble_eq_true rfl) ?_
  intro p e s m args below meth c C hr hlk hxt
  refine j_lv (lv2 := [(0, .ref (ad 0)), (1, .int a1)]) rfl ?_
  unfold fX11_birthday_0 at h
  refine j_iload_n C 1 rfl dX11_birthday_0 rfl ?_
  rcases bdx_elim h with ⟨h1, h⟩ | ⟨x2, h1, rfl⟩
  · refine fun H locs ls hP hS hl => jx_ok C hS hl (jx_callS (As := [.int a1]) (rest := []) C (kX11_needDay l B D ad cA hI hl0 S V L a1 (.inl ()) h1) mw_X11_needDay wd1124 wd1123 ⟨rfl, rfl, by decide, by decide⟩ ⟨by decide, by decide⟩ rfl rfl (Nat.le_of_ble_eq_true rfl) dX11_birthday_1 hP hS hl) ?_
    refine j_aload_n C 0 rfl dX11_birthday_4 rfl ?_
    refine fg_X11_71_TC_0 C dX11_birthday_5 ?_
    refine j_iload_n C 1 rfl dX11_birthday_8 rfl ?_
    obtain ⟨r3, h4, h⟩ := bd1_elim h
    refine j_callV (As := [.int a1]) (rest := []) C (kX6_daysToBirthday_48 l B D ad cA hI S V L a1 _ h4) mw_X6_daysToBirthday wd1388 wd1389 wd1387 tc_48 rfl rfl ⟨rfl, rfl, by decide, by decide⟩ ⟨by decide, by decide⟩ rfl rfl (Nat.le_of_ble_eq_true rfl) dX11_birthday_9 ?_
    cases h
    exact jx_iret C hr hlk rfl rfl (by decide) (by decide) dX11_birthday_12
  · exact fun H locs ls hP hS hl => jx_ex C hlk rfl hxt rfl hS (jx_callS (As := [.int a1]) (rest := []) C (kX11_needDay l B D ad cA hI hl0 S V L a1 (.inr x2) h1) mw_X11_needDay wd1124 wd1123 ⟨rfl, rfl, by decide, by decide⟩ ⟨by decide, by decide⟩ rfl rfl (Nat.le_of_ble_eq_true rfl) dX11_birthday_1 hP hS hl) (by decide) (by decide)
theorem dX11_needTenant_0 : decode cX11_needTenant 0 = .ok (.aload_n 0, 1) := by decide +kernel
theorem dX11_needTenant_1 : decode cX11_needTenant 1 = .ok (.getfield 24, 3) := by decide +kernel
theorem dX11_needTenant_4 : decode cX11_needTenant 4 = .ok (.iload_n 1, 1) := by decide +kernel
theorem dX11_needTenant_5 : decode cX11_needTenant 5 = .ok (.invokevirtual 329, 3) := by decide +kernel
theorem dX11_needTenant_8 : decode cX11_needTenant 8 = .ok (.ifCond .ne 14, 3) := by decide +kernel
theorem dX11_needTenant_11 : decode cX11_needTenant 11 = .ok (.new 163, 3) := by decide +kernel
theorem dX11_needTenant_14 : decode cX11_needTenant 14 = .ok (.dup, 1) := by decide +kernel
theorem dX11_needTenant_15 : decode cX11_needTenant 15 = .ok (.ldc_w 333, 3) := by decide +kernel
theorem dX11_needTenant_18 : decode cX11_needTenant 18 = .ok (.invokespecial 167, 3) := by decide +kernel
theorem dX11_needTenant_21 : decode cX11_needTenant 21 = .ok (.athrow, 1) := by decide +kernel
theorem dX11_needTenant_22 : decode cX11_needTenant 22 = .ok (.return_, 1) := by decide +kernel
def fX11_needTenant_0 (S : Nat → Int32) (a1 : Int32) : Option ((Unit) ⊕ Nat) :=
  bd1 (fX2_hasTenant_3 S a1) (fun r1 =>
  (if r1 = 0 then
  some (.inr 1)
  else
  some (.inl ())))
set_option maxHeartbeats 4000000 in
set_option maxRecDepth 100000 in
theorem kX11_needTenant_0 (l : Launch) (B : jBT) (D : va_G) (ad : Nat → Nat) (cA : Nat → ClassId) (hI : jI ad TC) (hl0 : l.stackTraces = false) (S : Nat → Int32) (V : Nat → Nat → Int32) (L : Nat → Int64) (a1 : Int32) (rr : (Unit) ⊕ Nat) (h : fX11_needTenant_0 S a1 = some rr) : jMx l yX11_needTenant cX11_needTenant 2 none ({ frames := 6, cells := 1, slots := 6, locals := 120 }) B D TC ad cA [.ref (ad 0), .int a1] S V L (Sum.map (fun (z : Unit) => ((none : Option Value), S, V, L)) (fun (x : Nat) => x) rr : jR) 1 6 := by
  refine jMx_of (by decide) TC_ok hI (Nat.le_of_ble_eq_true rfl) ?_
  intro p e s m args below meth c C hr hlk hxt
  refine j_lv (lv2 := [(0, .ref (ad 0)), (1, .int a1)]) rfl ?_
  unfold fX11_needTenant_0 at h
  refine j_aload_n C 0 rfl dX11_needTenant_0 rfl ?_
  refine fg_X11_24_TC_0 C dX11_needTenant_1 ?_
  refine j_iload_n C 1 rfl dX11_needTenant_4 rfl ?_
  obtain ⟨r1, h2, h⟩ := bd1_elim h
  refine j_callV (As := [.int a1]) (rest := []) C (kX2_hasTenant_3 l B D ad cA hI S V L a1 _ h2) mw_X2_hasTenant wd577 wd578 wd1085 tc_3 rfl rfl ⟨rfl, rfl, by decide, by decide⟩ ⟨by decide, by decide⟩ rfl rfl (Nat.le_of_ble_eq_true rfl) dX11_needTenant_5 ?_
  refine j_if_ne (tgt := 22) C dX11_needTenant_8 (by decide) (fun c3 => ?_) (fun c3 => ?_)
  · have h := (if_neg c3).symm.trans h
    cases h
    exact jx_vret C hr hlk rfl rfl (by decide) (by decide) dX11_needTenant_22
  · have h := (if_pos c3).symm.trans h
    cases h
    exact jx_throwW (x := 1) (i := 4) C hl0 hlk rfl hxt rfl rfl xw_1 dX11_needTenant_11 dX11_needTenant_14 dX11_needTenant_15 dX11_needTenant_18 dX11_needTenant_21 (by decide) (Nat.le_of_ble_eq_true rfl) (by decide) (by decide) (by decide) (by decide)
theorem dX11_both_0 : decode cX11_both 0 = .ok (.aload_n 0, 1) := by decide +kernel
theorem dX11_both_1 : decode cX11_both 1 = .ok (.iload_n 1, 1) := by decide +kernel
theorem dX11_both_2 : decode cX11_both 2 = .ok (.invokevirtual 168, 3) := by decide +kernel
theorem dX11_both_5 : decode cX11_both 5 = .ok (.iload 4, 2) := by decide +kernel
theorem dX11_both_7 : decode cX11_both 7 = .ok (.ifCond .lt 9, 3) := by decide +kernel
theorem dX11_both_10 : decode cX11_both 10 = .ok (.iload 4, 2) := by decide +kernel
theorem dX11_both_12 : decode cX11_both 12 = .ok (.iconst 1, 1) := by decide +kernel
theorem dX11_both_13 : decode cX11_both 13 = .ok (.if_icmp .le 14, 3) := by decide +kernel
theorem dX11_both_16 : decode cX11_both 16 = .ok (.new 163, 3) := by decide +kernel
theorem dX11_both_19 : decode cX11_both 19 = .ok (.dup, 1) := by decide +kernel
theorem dX11_both_20 : decode cX11_both 20 = .ok (.ldc_w 309, 3) := by decide +kernel
theorem dX11_both_23 : decode cX11_both 23 = .ok (.invokespecial 167, 3) := by decide +kernel
theorem dX11_both_26 : decode cX11_both 26 = .ok (.athrow, 1) := by decide +kernel
theorem dX11_both_27 : decode cX11_both 27 = .ok (.iload_n 3, 1) := by decide +kernel
theorem dX11_both_28 : decode cX11_both 28 = .ok (.invokestatic 215, 3) := by decide +kernel
theorem dX11_both_31 : decode cX11_both 31 = .ok (.iload_n 2, 1) := by decide +kernel
theorem dX11_both_32 : decode cX11_both 32 = .ok (.bipush 20, 2) := by decide +kernel
theorem dX11_both_34 : decode cX11_both 34 = .ok (.if_icmp .lt 9, 3) := by decide +kernel
theorem dX11_both_37 : decode cX11_both 37 = .ok (.iload_n 2, 1) := by decide +kernel
theorem dX11_both_38 : decode cX11_both 38 = .ok (.bipush 60, 2) := by decide +kernel
theorem dX11_both_40 : decode cX11_both 40 = .ok (.if_icmp .le 14, 3) := by decide +kernel
theorem dX11_both_43 : decode cX11_both 43 = .ok (.new 105, 3) := by decide +kernel
theorem dX11_both_46 : decode cX11_both 46 = .ok (.dup, 1) := by decide +kernel
theorem dX11_both_47 : decode cX11_both 47 = .ok (.ldc_w 311, 3) := by decide +kernel
theorem dX11_both_50 : decode cX11_both 50 = .ok (.invokespecial 109, 3) := by decide +kernel
theorem dX11_both_53 : decode cX11_both 53 = .ok (.athrow, 1) := by decide +kernel
theorem dX11_both_54 : decode cX11_both 54 = .ok (.aload_n 0, 1) := by decide +kernel
theorem dX11_both_55 : decode cX11_both 55 = .ok (.getfield 71, 3) := by decide +kernel
theorem dX11_both_58 : decode cX11_both 58 = .ok (.aload_n 0, 1) := by decide +kernel
theorem dX11_both_59 : decode cX11_both 59 = .ok (.getfield 24, 3) := by decide +kernel
theorem dX11_both_62 : decode cX11_both 62 = .ok (.iload_n 3, 1) := by decide +kernel
theorem dX11_both_63 : decode cX11_both 63 = .ok (.invokevirtual 218, 3) := by decide +kernel
theorem dX11_both_66 : decode cX11_both 66 = .ok (.invokevirtual 230, 3) := by decide +kernel
theorem dX11_both_69 : decode cX11_both 69 = .ok (.istore 5, 2) := by decide +kernel
theorem dX11_both_71 : decode cX11_both 71 = .ok (.aload_n 0, 1) := by decide +kernel
theorem dX11_both_72 : decode cX11_both 72 = .ok (.getfield 71, 3) := by decide +kernel
theorem dX11_both_75 : decode cX11_both 75 = .ok (.iload_n 1, 1) := by decide +kernel
theorem dX11_both_76 : decode cX11_both 76 = .ok (.iload_n 2, 1) := by decide +kernel
theorem dX11_both_77 : decode cX11_both 77 = .ok (.iload 5, 2) := by decide +kernel
theorem dX11_both_79 : decode cX11_both 79 = .ok (.invokevirtual 313, 3) := by decide +kernel
theorem dX11_both_82 : decode cX11_both 82 = .ok (.istore 6, 2) := by decide +kernel
theorem dX11_both_84 : decode cX11_both 84 = .ok (.iload 4, 2) := by decide +kernel
theorem dX11_both_86 : decode cX11_both 86 = .ok (.ifCond .ne 8, 3) := by decide +kernel
theorem dX11_both_89 : decode cX11_both 89 = .ok (.iload 6, 2) := by decide +kernel
theorem dX11_both_91 : decode cX11_both 91 = .ok (.goto 16, 3) := by decide +kernel
theorem dX11_both_94 : decode cX11_both 94 = .ok (.aload_n 0, 1) := by decide +kernel
theorem dX11_both_95 : decode cX11_both 95 = .ok (.getfield 71, 3) := by decide +kernel
theorem dX11_both_98 : decode cX11_both 98 = .ok (.iload_n 1, 1) := by decide +kernel
theorem dX11_both_99 : decode cX11_both 99 = .ok (.iload_n 2, 1) := by decide +kernel
theorem dX11_both_100 : decode cX11_both 100 = .ok (.iload 5, 2) := by decide +kernel
theorem dX11_both_102 : decode cX11_both 102 = .ok (.iload 6, 2) := by decide +kernel
theorem dX11_both_104 : decode cX11_both 104 = .ok (.invokevirtual 316, 3) := by decide +kernel
theorem dX11_both_107 : decode cX11_both 107 = .ok (.ireturn, 1) := by decide +kernel
def fX11_both_0 (S : Nat → Int32) (V : Nat → Nat → Int32) (a1 : Int32) (a2 : Int32) (a3 : Int32) (a4 : Int32) : Option ((Int32) ⊕ Nat) :=
  bdx (fX11_needTenant_0 S a1) (
  (if a4 < 0 then
  some (.inr 1)
  else
  (if a4 ≤ (1 : Int32) then
  bdx (fX11_needDay a3) (
  (if a2 < (20 : Int32) then
  some (.inr 0)
  else
  (if a2 ≤ (60 : Int32) then
  bd1 (fX2_oilLeft_3 S a3) (fun r9 =>
  bd1 (fX6_slownessOfDay_48 S V r9) (fun r11 =>
  bd1 (fX6_hoursHere_48 V a1 a2 r11) (fun r13 =>
  (if a4 = 0 then
  some (.inl r13)
  else
  bd1 (fX6_fartherOfBoth_48 V a1 a2 r11 r13) (fun r16 =>
  some (.inl r16))))))
  else
  some (.inr 0))))
  else
  some (.inr 1))))
set_option maxHeartbeats 4000000 in
set_option maxRecDepth 100000 in
theorem kX11_both_0 (l : Launch) (B : jBT) (D : va_G) (ad : Nat → Nat) (cA : Nat → ClassId) (hI : jI ad TC) (hl0 : l.stackTraces = false) (S : Nat → Int32) (V : Nat → Nat → Int32) (L : Nat → Int64) (a1 : Int32) (a2 : Int32) (a3 : Int32) (a4 : Int32) (rr : (Int32) ⊕ Nat) (h : fX11_both_0 S V a1 a2 a3 a4 = some rr) : jMx l yX11_both cX11_both 7 (some .int) ({ frames := 7, cells := 3, slots := 18, locals := 141 }) B D TC ad cA [.ref (ad 0), .int a1, .int a2, .int a3, .int a4] S V L (Sum.map (fun (z : Int32) => ((some (.int z) : Option Value), S, V, L)) (fun (x : Nat) => x) rr : jR) 3 18 := by
  refine jMx_of (by decide) TC_ok hI (Nat.le_of_ble_eq_true rfl) ?_
  intro p e s m args below meth c C hr hlk hxt
  refine j_lv (lv2 := [(0, .ref (ad 0)), (1, .int a1), (2, .int a2), (3, .int a3), (4, .int a4)]) rfl ?_
  unfold fX11_both_0 at h
  refine j_aload_n C 0 rfl dX11_both_0 rfl ?_
  refine j_iload_n C 1 rfl dX11_both_1 rfl ?_
  rcases bdx_elim h with ⟨h1, h⟩ | ⟨x2, h1, rfl⟩
  · refine fun H locs ls hP hS hl => jx_ok C hS hl (jx_callV (As := [.int a1]) (rest := []) C (kX11_needTenant_0 l B D ad cA hI hl0 S V L a1 (.inl ()) h1) mw_X11_needTenant wd1083 wd36 wd1081 tc_0 rfl rfl ⟨rfl, rfl, by decide, by decide⟩ ⟨by decide, by decide⟩ rfl rfl (Nat.le_of_ble_eq_true rfl) dX11_both_2 hP hS hl) ?_
    refine j_iload C 4 rfl dX11_both_5 ?_
    refine j_if_lt (tgt := 16) C dX11_both_7 (by decide) (fun c3 => ?_) (fun c3 => ?_)
    · have h := (if_pos c3).symm.trans h
      cases h
      exact jx_throwW (x := 1) (i := 17) C hl0 hlk rfl hxt rfl rfl xw_1 dX11_both_16 dX11_both_19 dX11_both_20 dX11_both_23 dX11_both_26 (by decide) (Nat.le_of_ble_eq_true rfl) (by decide) (by decide) (by decide) (by decide)
    · have h := (if_neg c3).symm.trans h
      refine j_iload C 4 rfl dX11_both_10 ?_
      refine j_iconst C dX11_both_12 ci_1 ?_
      refine j_icmp_le (tgt := 27) C dX11_both_13 (by decide) (fun c4 => ?_) (fun c4 => ?_)
      · have h := (if_pos c4).symm.trans h
        refine j_iload_n C 3 rfl dX11_both_27 rfl ?_
        rcases bdx_elim h with ⟨h5, h⟩ | ⟨x6, h5, rfl⟩
        · refine fun H locs ls hP hS hl => jx_ok C hS hl (jx_callS (As := [.int a3]) (rest := []) C (kX11_needDay l B D ad cA hI hl0 S V L a3 (.inl ()) h5) mw_X11_needDay wd1124 wd1123 ⟨rfl, rfl, by decide, by decide⟩ ⟨by decide, by decide⟩ rfl rfl (Nat.le_of_ble_eq_true rfl) dX11_both_28 hP hS hl) ?_
          refine j_iload_n C 2 rfl dX11_both_31 rfl ?_
          refine j_bipush C dX11_both_32 cb_20 ?_
          refine j_icmp_lt (tgt := 43) C dX11_both_34 (by decide) (fun c7 => ?_) (fun c7 => ?_)
          · have h := (if_pos c7).symm.trans h
            cases h
            exact jx_throwW (x := 0) (i := 18) C hl0 hlk rfl hxt rfl rfl xw_0 dX11_both_43 dX11_both_46 dX11_both_47 dX11_both_50 dX11_both_53 (by decide) (Nat.le_of_ble_eq_true rfl) (by decide) (by decide) (by decide) (by decide)
          · have h := (if_neg c7).symm.trans h
            refine j_iload_n C 2 rfl dX11_both_37 rfl ?_
            refine j_bipush C dX11_both_38 cb_60 ?_
            refine j_icmp_le (tgt := 54) C dX11_both_40 (by decide) (fun c8 => ?_) (fun c8 => ?_)
            · have h := (if_pos c8).symm.trans h
              refine j_aload_n C 0 rfl dX11_both_54 rfl ?_
              refine fg_X11_71_TC_0 C dX11_both_55 ?_
              refine j_aload_n C 0 rfl dX11_both_58 rfl ?_
              refine fg_X11_24_TC_0 C dX11_both_59 ?_
              refine j_iload_n C 3 rfl dX11_both_62 rfl ?_
              obtain ⟨r9, h10, h⟩ := bd1_elim h
              refine j_callV (As := [.int a3]) (rest := [.ref (ad 48)]) C (kX2_oilLeft_3 l B D ad cA hI S V L a3 _ h10) mw_X2_oilLeft wd1128 wd1129 wd1127 tc_3 rfl rfl ⟨rfl, rfl, by decide, by decide⟩ ⟨by decide, by decide⟩ rfl rfl (Nat.le_of_ble_eq_true rfl) dX11_both_63 ?_
              obtain ⟨r11, h12, h⟩ := bd1_elim h
              refine j_callV (As := [.int r9]) (rest := []) C (kX6_slownessOfDay_48 l B D ad cA hI S V L r9 _ h12) mw_X6_slownessOfDay wd1168 wd1169 wd1167 tc_48 rfl rfl ⟨rfl, rfl, by decide, by decide⟩ ⟨by decide, by decide⟩ rfl rfl (Nat.le_of_ble_eq_true rfl) dX11_both_66 ?_
              refine j_istore C [(5, .int r11), (0, .ref (ad 0)), (1, .int a1), (2, .int a2), (3, .int a3), (4, .int a4)] dX11_both_69 (by decide) rfl ?_
              refine j_aload_n C 1 rfl dX11_both_71 rfl ?_
              refine fg_X11_71_TC_0 C dX11_both_72 ?_
              refine j_iload_n C 2 rfl dX11_both_75 rfl ?_
              refine j_iload_n C 3 rfl dX11_both_76 rfl ?_
              refine j_iload C 0 rfl dX11_both_77 ?_
              obtain ⟨r13, h14, h⟩ := bd1_elim h
              refine j_callV (As := [.int a1, .int a2, .int r11]) (rest := []) C (kX6_hoursHere_48 l B D ad cA hI S V L a1 a2 r11 _ h14) mw_X6_hoursHere wd1410 wd1411 wd1409 tc_48 rfl rfl ⟨rfl, rfl, by decide, by decide⟩ ⟨by decide, by decide⟩ rfl rfl (Nat.le_of_ble_eq_true rfl) dX11_both_79 ?_
              refine j_istore C [(6, .int r13), (5, .int r11), (0, .ref (ad 0)), (1, .int a1), (2, .int a2), (3, .int a3), (4, .int a4)] dX11_both_82 (by decide) rfl ?_
              refine j_iload C 6 rfl dX11_both_84 ?_
              refine j_if_ne (tgt := 94) C dX11_both_86 (by decide) (fun c15 => ?_) (fun c15 => ?_)
              · have h := (if_neg c15).symm.trans h
                refine j_aload_n C 2 rfl dX11_both_94 rfl ?_
                refine fg_X11_71_TC_0 C dX11_both_95 ?_
                refine j_iload_n C 3 rfl dX11_both_98 rfl ?_
                refine j_iload_n C 4 rfl dX11_both_99 rfl ?_
                refine j_iload C 1 rfl dX11_both_100 ?_
                refine j_iload C 0 rfl dX11_both_102 ?_
                obtain ⟨r16, h17, h⟩ := bd1_elim h
                refine j_callV (As := [.int a1, .int a2, .int r11, .int r13]) (rest := []) C (kX6_fartherOfBoth_48 l B D ad cA hI S V L a1 a2 r11 r13 _ h17) mw_X6_fartherOfBoth wd1414 wd1415 wd1418 tc_48 rfl rfl ⟨rfl, rfl, by decide, by decide⟩ ⟨by decide, by decide⟩ rfl rfl (Nat.le_of_ble_eq_true rfl) dX11_both_104 ?_
                cases h
                exact jx_iret C hr hlk rfl rfl (by decide) (by decide) dX11_both_107
              · have h := (if_pos c15).symm.trans h
                refine j_iload C 0 rfl dX11_both_89 ?_
                refine j_goto (tgt := 107) C dX11_both_91 (by decide) ?_
                cases h
                exact jx_iret C hr hlk rfl rfl (by decide) (by decide) dX11_both_107
            · have h := (if_neg c8).symm.trans h
              cases h
              exact jx_throwW (x := 0) (i := 18) C hl0 hlk rfl hxt rfl rfl xw_0 dX11_both_43 dX11_both_46 dX11_both_47 dX11_both_50 dX11_both_53 (by decide) (Nat.le_of_ble_eq_true rfl) (by decide) (by decide) (by decide) (by decide)
        · exact fun H locs ls hP hS hl => jx_ex C hlk rfl hxt rfl hS (jx_callS (As := [.int a3]) (rest := []) C (kX11_needDay l B D ad cA hI hl0 S V L a3 (.inr x6) h5) mw_X11_needDay wd1124 wd1123 ⟨rfl, rfl, by decide, by decide⟩ ⟨by decide, by decide⟩ rfl rfl (Nat.le_of_ble_eq_true rfl) dX11_both_28 hP hS hl) (by decide) (by decide)
      · have h := (if_neg c4).symm.trans h
        cases h
        exact jx_throwW (x := 1) (i := 17) C hl0 hlk rfl hxt rfl rfl xw_1 dX11_both_16 dX11_both_19 dX11_both_20 dX11_both_23 dX11_both_26 (by decide) (Nat.le_of_ble_eq_true rfl) (by decide) (by decide) (by decide) (by decide)
  · exact fun H locs ls hP hS hl => jx_ex C hlk rfl hxt rfl hS (jx_callV (As := [.int a1]) (rest := []) C (kX11_needTenant_0 l B D ad cA hI hl0 S V L a1 (.inr x2) h1) mw_X11_needTenant wd1083 wd36 wd1081 tc_0 rfl rfl ⟨rfl, rfl, by decide, by decide⟩ ⟨by decide, by decide⟩ rfl rfl (Nat.le_of_ble_eq_true rfl) dX11_both_2 hP hS hl) (by decide) (by decide)
theorem dX11_count_0 : decode cX11_count 0 = .ok (.iload_n 1, 1) := by decide +kernel
theorem dX11_count_1 : decode cX11_count 1 = .ok (.tableswitch 165 0 12 #[67, 75, 83, 91, 99, 107, 115, 123, 131, 139, 144, 151, 158], 67) := by decide +kernel
theorem dX11_count_68 : decode cX11_count 68 = .ok (.aload_n 0, 1) := by decide +kernel
theorem dX11_count_69 : decode cX11_count 69 = .ok (.getfield 24, 3) := by decide +kernel
theorem dX11_count_72 : decode cX11_count 72 = .ok (.getfield 138, 3) := by decide +kernel
theorem dX11_count_75 : decode cX11_count 75 = .ok (.ireturn, 1) := by decide +kernel
theorem dX11_count_76 : decode cX11_count 76 = .ok (.aload_n 0, 1) := by decide +kernel
theorem dX11_count_77 : decode cX11_count 77 = .ok (.getfield 24, 3) := by decide +kernel
theorem dX11_count_80 : decode cX11_count 80 = .ok (.getfield 141, 3) := by decide +kernel
theorem dX11_count_83 : decode cX11_count 83 = .ok (.ireturn, 1) := by decide +kernel
theorem dX11_count_84 : decode cX11_count 84 = .ok (.aload_n 0, 1) := by decide +kernel
theorem dX11_count_85 : decode cX11_count 85 = .ok (.getfield 24, 3) := by decide +kernel
theorem dX11_count_88 : decode cX11_count 88 = .ok (.getfield 144, 3) := by decide +kernel
theorem dX11_count_91 : decode cX11_count 91 = .ok (.ireturn, 1) := by decide +kernel
theorem dX11_count_92 : decode cX11_count 92 = .ok (.aload_n 0, 1) := by decide +kernel
theorem dX11_count_93 : decode cX11_count 93 = .ok (.getfield 24, 3) := by decide +kernel
theorem dX11_count_96 : decode cX11_count 96 = .ok (.getfield 147, 3) := by decide +kernel
theorem dX11_count_99 : decode cX11_count 99 = .ok (.ireturn, 1) := by decide +kernel
theorem dX11_count_100 : decode cX11_count 100 = .ok (.aload_n 0, 1) := by decide +kernel
theorem dX11_count_101 : decode cX11_count 101 = .ok (.getfield 24, 3) := by decide +kernel
theorem dX11_count_104 : decode cX11_count 104 = .ok (.getfield 150, 3) := by decide +kernel
theorem dX11_count_107 : decode cX11_count 107 = .ok (.ireturn, 1) := by decide +kernel
theorem dX11_count_108 : decode cX11_count 108 = .ok (.aload_n 0, 1) := by decide +kernel
theorem dX11_count_109 : decode cX11_count 109 = .ok (.getfield 24, 3) := by decide +kernel
theorem dX11_count_112 : decode cX11_count 112 = .ok (.getfield 153, 3) := by decide +kernel
theorem dX11_count_115 : decode cX11_count 115 = .ok (.ireturn, 1) := by decide +kernel
theorem dX11_count_116 : decode cX11_count 116 = .ok (.aload_n 0, 1) := by decide +kernel
theorem dX11_count_117 : decode cX11_count 117 = .ok (.getfield 24, 3) := by decide +kernel
theorem dX11_count_120 : decode cX11_count 120 = .ok (.getfield 156, 3) := by decide +kernel
theorem dX11_count_123 : decode cX11_count 123 = .ok (.ireturn, 1) := by decide +kernel
theorem dX11_count_124 : decode cX11_count 124 = .ok (.aload_n 0, 1) := by decide +kernel
theorem dX11_count_125 : decode cX11_count 125 = .ok (.getfield 49, 3) := by decide +kernel
theorem dX11_count_128 : decode cX11_count 128 = .ok (.getfield 159, 3) := by decide +kernel
theorem dX11_count_131 : decode cX11_count 131 = .ok (.ireturn, 1) := by decide +kernel
theorem dX11_count_132 : decode cX11_count 132 = .ok (.aload_n 0, 1) := by decide +kernel
theorem dX11_count_133 : decode cX11_count 133 = .ok (.getfield 59, 3) := by decide +kernel
theorem dX11_count_136 : decode cX11_count 136 = .ok (.getfield 162, 3) := by decide +kernel
theorem dX11_count_139 : decode cX11_count 139 = .ok (.ireturn, 1) := by decide +kernel
theorem dX11_count_140 : decode cX11_count 140 = .ok (.aload_n 0, 1) := by decide +kernel
theorem dX11_count_141 : decode cX11_count 141 = .ok (.getfield 98, 3) := by decide +kernel
theorem dX11_count_144 : decode cX11_count 144 = .ok (.ireturn, 1) := by decide +kernel
theorem dX11_count_145 : decode cX11_count 145 = .ok (.aload_n 0, 1) := by decide +kernel
theorem dX11_count_146 : decode cX11_count 146 = .ok (.getfield 17, 3) := by decide +kernel
theorem dX11_count_149 : decode cX11_count 149 = .ok (.iconst 0, 1) := by decide +kernel
theorem dX11_count_150 : decode cX11_count 150 = .ok (.iaload, 1) := by decide +kernel
theorem dX11_count_151 : decode cX11_count 151 = .ok (.ireturn, 1) := by decide +kernel
theorem dX11_count_152 : decode cX11_count 152 = .ok (.aload_n 0, 1) := by decide +kernel
theorem dX11_count_153 : decode cX11_count 153 = .ok (.getfield 17, 3) := by decide +kernel
theorem dX11_count_156 : decode cX11_count 156 = .ok (.iconst 1, 1) := by decide +kernel
theorem dX11_count_157 : decode cX11_count 157 = .ok (.iaload, 1) := by decide +kernel
theorem dX11_count_158 : decode cX11_count 158 = .ok (.ireturn, 1) := by decide +kernel
theorem dX11_count_159 : decode cX11_count 159 = .ok (.aload_n 0, 1) := by decide +kernel
theorem dX11_count_160 : decode cX11_count 160 = .ok (.getfield 17, 3) := by decide +kernel
theorem dX11_count_163 : decode cX11_count 163 = .ok (.iconst 2, 1) := by decide +kernel
theorem dX11_count_164 : decode cX11_count 164 = .ok (.iaload, 1) := by decide +kernel
theorem dX11_count_165 : decode cX11_count 165 = .ok (.ireturn, 1) := by decide +kernel
theorem dX11_count_166 : decode cX11_count 166 = .ok (.new 163, 3) := by decide +kernel
theorem dX11_count_169 : decode cX11_count 169 = .ok (.dup, 1) := by decide +kernel
theorem dX11_count_170 : decode cX11_count 170 = .ok (.ldc 165, 2) := by decide +kernel
theorem dX11_count_172 : decode cX11_count 172 = .ok (.invokespecial 167, 3) := by decide +kernel
theorem dX11_count_175 : decode cX11_count 175 = .ok (.athrow, 1) := by decide +kernel
def fX11_count_0 (S : Nat → Int32) (V : Nat → Nat → Int32) (a1 : Int32) : Option ((Int32) ⊕ Nat) :=
  (if a1 = (0 : Int32) then
  some (.inl ((S 300)))
  else
  (if a1 = (1 : Int32) then
  some (.inl ((S 301)))
  else
  (if a1 = (2 : Int32) then
  some (.inl ((S 302)))
  else
  (if a1 = (3 : Int32) then
  some (.inl ((S 303)))
  else
  (if a1 = (4 : Int32) then
  some (.inl ((S 304)))
  else
  (if a1 = (5 : Int32) then
  some (.inl ((S 305)))
  else
  (if a1 = (6 : Int32) then
  some (.inl ((S 306)))
  else
  (if a1 = (7 : Int32) then
  some (.inl ((S 3002)))
  else
  (if a1 = (8 : Int32) then
  some (.inl ((S 4200)))
  else
  (if a1 = (9 : Int32) then
  some (.inl ((S 1)))
  else
  (if a1 = (10 : Int32) then
  gd (ib (0 : Int32) 3) (
  some (.inl ((V 2 ((0 : Int32)).toNatClampNeg))))
  else
  (if a1 = (11 : Int32) then
  gd (ib (1 : Int32) 3) (
  some (.inl ((V 2 ((1 : Int32)).toNatClampNeg))))
  else
  (if a1 = (12 : Int32) then
  gd (ib (2 : Int32) 3) (
  some (.inl ((V 2 ((2 : Int32)).toNatClampNeg))))
  else
  some (.inr 1))))))))))))))
set_option maxHeartbeats 4000000 in
set_option maxRecDepth 100000 in
theorem kX11_count_0 (l : Launch) (B : jBT) (D : va_G) (ad : Nat → Nat) (cA : Nat → ClassId) (hI : jI ad TC) (hl0 : l.stackTraces = false) (S : Nat → Int32) (V : Nat → Nat → Int32) (L : Nat → Int64) (a1 : Int32) (rr : (Int32) ⊕ Nat) (h : fX11_count_0 S V a1 = some rr) : jMx l yX11_count cX11_count 2 (some .int) ({ frames := 6, cells := 1, slots := 6, locals := 120 }) B D TC ad cA [.ref (ad 0), .int a1] S V L (Sum.map (fun (z : Int32) => ((some (.int z) : Option Value), S, V, L)) (fun (x : Nat) => x) rr : jR) 1 6 := by
  refine jMx_of (by decide) TC_ok hI (Nat.le_of_ble_eq_true rfl) ?_
  intro p e s m args below meth c C hr hlk hxt
  refine j_lv (lv2 := [(0, .ref (ad 0)), (1, .int a1)]) rfl ?_
  unfold fX11_count_0 at h
  refine j_iload_n C 1 rfl dX11_count_0 rfl ?_
  by_cases c1 : a1 = (0 : Int32)
  · have h := (if_pos c1).symm.trans h
    refine j_tableIn (tgt := 68) C dX11_count_1 (by rw [c1]; decide) (by rw [c1]; decide) (by rw [c1]; rfl) (by decide) ?_
    refine j_aload_n C 0 rfl dX11_count_68 rfl ?_
    refine fg_X11_24_TC_0 C dX11_count_69 ?_
    refine fg_X11_138_TC_3 C dX11_count_72 ?_
    cases h
    exact jx_iret C hr hlk rfl rfl (by decide) (by decide) dX11_count_75
  have h := (if_neg c1).symm.trans h
  have n_c1 := ne_toInt (z := 0) (by decide) c1
  by_cases c2 : a1 = (1 : Int32)
  · have h := (if_pos c2).symm.trans h
    refine j_tableIn (tgt := 76) C dX11_count_1 (by rw [c2]; decide) (by rw [c2]; decide) (by rw [c2]; rfl) (by decide) ?_
    refine j_aload_n C 0 rfl dX11_count_76 rfl ?_
    refine fg_X11_24_TC_0 C dX11_count_77 ?_
    refine fg_X11_141_TC_3 C dX11_count_80 ?_
    cases h
    exact jx_iret C hr hlk rfl rfl (by decide) (by decide) dX11_count_83
  have h := (if_neg c2).symm.trans h
  have n_c2 := ne_toInt (z := 1) (by decide) c2
  by_cases c3 : a1 = (2 : Int32)
  · have h := (if_pos c3).symm.trans h
    refine j_tableIn (tgt := 84) C dX11_count_1 (by rw [c3]; decide) (by rw [c3]; decide) (by rw [c3]; rfl) (by decide) ?_
    refine j_aload_n C 0 rfl dX11_count_84 rfl ?_
    refine fg_X11_24_TC_0 C dX11_count_85 ?_
    refine fg_X11_144_TC_3 C dX11_count_88 ?_
    cases h
    exact jx_iret C hr hlk rfl rfl (by decide) (by decide) dX11_count_91
  have h := (if_neg c3).symm.trans h
  have n_c3 := ne_toInt (z := 2) (by decide) c3
  by_cases c4 : a1 = (3 : Int32)
  · have h := (if_pos c4).symm.trans h
    refine j_tableIn (tgt := 92) C dX11_count_1 (by rw [c4]; decide) (by rw [c4]; decide) (by rw [c4]; rfl) (by decide) ?_
    refine j_aload_n C 0 rfl dX11_count_92 rfl ?_
    refine fg_X11_24_TC_0 C dX11_count_93 ?_
    refine fg_X11_147_TC_3 C dX11_count_96 ?_
    cases h
    exact jx_iret C hr hlk rfl rfl (by decide) (by decide) dX11_count_99
  have h := (if_neg c4).symm.trans h
  have n_c4 := ne_toInt (z := 3) (by decide) c4
  by_cases c5 : a1 = (4 : Int32)
  · have h := (if_pos c5).symm.trans h
    refine j_tableIn (tgt := 100) C dX11_count_1 (by rw [c5]; decide) (by rw [c5]; decide) (by rw [c5]; rfl) (by decide) ?_
    refine j_aload_n C 0 rfl dX11_count_100 rfl ?_
    refine fg_X11_24_TC_0 C dX11_count_101 ?_
    refine fg_X11_150_TC_3 C dX11_count_104 ?_
    cases h
    exact jx_iret C hr hlk rfl rfl (by decide) (by decide) dX11_count_107
  have h := (if_neg c5).symm.trans h
  have n_c5 := ne_toInt (z := 4) (by decide) c5
  by_cases c6 : a1 = (5 : Int32)
  · have h := (if_pos c6).symm.trans h
    refine j_tableIn (tgt := 108) C dX11_count_1 (by rw [c6]; decide) (by rw [c6]; decide) (by rw [c6]; rfl) (by decide) ?_
    refine j_aload_n C 0 rfl dX11_count_108 rfl ?_
    refine fg_X11_24_TC_0 C dX11_count_109 ?_
    refine fg_X11_153_TC_3 C dX11_count_112 ?_
    cases h
    exact jx_iret C hr hlk rfl rfl (by decide) (by decide) dX11_count_115
  have h := (if_neg c6).symm.trans h
  have n_c6 := ne_toInt (z := 5) (by decide) c6
  by_cases c7 : a1 = (6 : Int32)
  · have h := (if_pos c7).symm.trans h
    refine j_tableIn (tgt := 116) C dX11_count_1 (by rw [c7]; decide) (by rw [c7]; decide) (by rw [c7]; rfl) (by decide) ?_
    refine j_aload_n C 0 rfl dX11_count_116 rfl ?_
    refine fg_X11_24_TC_0 C dX11_count_117 ?_
    refine fg_X11_156_TC_3 C dX11_count_120 ?_
    cases h
    exact jx_iret C hr hlk rfl rfl (by decide) (by decide) dX11_count_123
  have h := (if_neg c7).symm.trans h
  have n_c7 := ne_toInt (z := 6) (by decide) c7
  by_cases c8 : a1 = (7 : Int32)
  · have h := (if_pos c8).symm.trans h
    refine j_tableIn (tgt := 124) C dX11_count_1 (by rw [c8]; decide) (by rw [c8]; decide) (by rw [c8]; rfl) (by decide) ?_
    refine j_aload_n C 0 rfl dX11_count_124 rfl ?_
    refine fg_X11_49_TC_0 C dX11_count_125 ?_
    refine fg_X11_159_TC_30 C dX11_count_128 ?_
    cases h
    exact jx_iret C hr hlk rfl rfl (by decide) (by decide) dX11_count_131
  have h := (if_neg c8).symm.trans h
  have n_c8 := ne_toInt (z := 7) (by decide) c8
  by_cases c9 : a1 = (8 : Int32)
  · have h := (if_pos c9).symm.trans h
    refine j_tableIn (tgt := 132) C dX11_count_1 (by rw [c9]; decide) (by rw [c9]; decide) (by rw [c9]; rfl) (by decide) ?_
    refine j_aload_n C 0 rfl dX11_count_132 rfl ?_
    refine fg_X11_59_TC_0 C dX11_count_133 ?_
    refine fg_X11_162_TC_42 C dX11_count_136 ?_
    cases h
    exact jx_iret C hr hlk rfl rfl (by decide) (by decide) dX11_count_139
  have h := (if_neg c9).symm.trans h
  have n_c9 := ne_toInt (z := 8) (by decide) c9
  by_cases c10 : a1 = (9 : Int32)
  · have h := (if_pos c10).symm.trans h
    refine j_tableIn (tgt := 140) C dX11_count_1 (by rw [c10]; decide) (by rw [c10]; decide) (by rw [c10]; rfl) (by decide) ?_
    refine j_aload_n C 0 rfl dX11_count_140 rfl ?_
    refine fg_X11_98_TC_0 C dX11_count_141 ?_
    cases h
    exact jx_iret C hr hlk rfl rfl (by decide) (by decide) dX11_count_144
  have h := (if_neg c10).symm.trans h
  have n_c10 := ne_toInt (z := 9) (by decide) c10
  by_cases c11 : a1 = (10 : Int32)
  · have h := (if_pos c11).symm.trans h
    refine j_tableIn (tgt := 145) C dX11_count_1 (by rw [c11]; decide) (by rw [c11]; decide) (by rw [c11]; rfl) (by decide) ?_
    refine j_aload_n C 0 rfl dX11_count_145 rfl ?_
    refine fg_X11_17_TC_0 C dX11_count_146 ?_
    refine j_iconst C dX11_count_149 ci_0 ?_
    obtain ⟨g12, h⟩ := gd_elim h
    refine j_iald C tc_2 (ib_in g12) dX11_count_150 ?_
    cases h
    exact jx_iret C hr hlk rfl rfl (by decide) (by decide) dX11_count_151
  have h := (if_neg c11).symm.trans h
  have n_c11 := ne_toInt (z := 10) (by decide) c11
  by_cases c13 : a1 = (11 : Int32)
  · have h := (if_pos c13).symm.trans h
    refine j_tableIn (tgt := 152) C dX11_count_1 (by rw [c13]; decide) (by rw [c13]; decide) (by rw [c13]; rfl) (by decide) ?_
    refine j_aload_n C 0 rfl dX11_count_152 rfl ?_
    refine fg_X11_17_TC_0 C dX11_count_153 ?_
    refine j_iconst C dX11_count_156 ci_1 ?_
    obtain ⟨g14, h⟩ := gd_elim h
    refine j_iald C tc_2 (ib_in g14) dX11_count_157 ?_
    cases h
    exact jx_iret C hr hlk rfl rfl (by decide) (by decide) dX11_count_158
  have h := (if_neg c13).symm.trans h
  have n_c13 := ne_toInt (z := 11) (by decide) c13
  by_cases c15 : a1 = (12 : Int32)
  · have h := (if_pos c15).symm.trans h
    refine j_tableIn (tgt := 159) C dX11_count_1 (by rw [c15]; decide) (by rw [c15]; decide) (by rw [c15]; rfl) (by decide) ?_
    refine j_aload_n C 0 rfl dX11_count_159 rfl ?_
    refine fg_X11_17_TC_0 C dX11_count_160 ?_
    refine j_iconst C dX11_count_163 ci_2 ?_
    obtain ⟨g16, h⟩ := gd_elim h
    refine j_iald C tc_2 (ib_in g16) dX11_count_164 ?_
    cases h
    exact jx_iret C hr hlk rfl rfl (by decide) (by decide) dX11_count_165
  have h := (if_neg c15).symm.trans h
  have n_c15 := ne_toInt (z := 12) (by decide) c15
  refine j_tableOut (tgt := 166) C dX11_count_1 (by omega) (by decide) ?_
  cases h
  exact jx_throw (x := 1) (i := 3) C hl0 hlk rfl hxt rfl rfl xw_1 dX11_count_166 dX11_count_169 dX11_count_170 dX11_count_172 dX11_count_175 (by decide) (Nat.le_of_ble_eq_true rfl) (by decide) (by decide) (by decide) (by decide)
theorem dX11_cuckoo_0 : decode cX11_cuckoo 0 = .ok (.iload_n 2, 1) := by decide +kernel
theorem dX11_cuckoo_1 : decode cX11_cuckoo 1 = .ok (.ifCond .lt 8, 3) := by decide +kernel
theorem dX11_cuckoo_4 : decode cX11_cuckoo 4 = .ok (.iload_n 2, 1) := by decide +kernel
theorem dX11_cuckoo_5 : decode cX11_cuckoo 5 = .ok (.iconst 3, 1) := by decide +kernel
theorem dX11_cuckoo_6 : decode cX11_cuckoo 6 = .ok (.if_icmp .le 13, 3) := by decide +kernel
theorem dX11_cuckoo_9 : decode cX11_cuckoo 9 = .ok (.new 163, 3) := by decide +kernel
theorem dX11_cuckoo_12 : decode cX11_cuckoo 12 = .ok (.dup, 1) := by decide +kernel
theorem dX11_cuckoo_13 : decode cX11_cuckoo 13 = .ok (.ldc 254, 2) := by decide +kernel
theorem dX11_cuckoo_15 : decode cX11_cuckoo 15 = .ok (.invokespecial 167, 3) := by decide +kernel
theorem dX11_cuckoo_18 : decode cX11_cuckoo 18 = .ok (.athrow, 1) := by decide +kernel
theorem dX11_cuckoo_19 : decode cX11_cuckoo 19 = .ok (.aload_n 0, 1) := by decide +kernel
theorem dX11_cuckoo_20 : decode cX11_cuckoo 20 = .ok (.getfield 85, 3) := by decide +kernel
theorem dX11_cuckoo_23 : decode cX11_cuckoo 23 = .ok (.iload_n 1, 1) := by decide +kernel
theorem dX11_cuckoo_24 : decode cX11_cuckoo 24 = .ok (.invokevirtual 256, 3) := by decide +kernel
theorem dX11_cuckoo_27 : decode cX11_cuckoo 27 = .ok (.iload_n 2, 1) := by decide +kernel
theorem dX11_cuckoo_28 : decode cX11_cuckoo 28 = .ok (.tableswitch 52 0 2 #[28, 36, 44], 28) := by decide +kernel
theorem dX11_cuckoo_56 : decode cX11_cuckoo 56 = .ok (.aload_n 0, 1) := by decide +kernel
theorem dX11_cuckoo_57 : decode cX11_cuckoo 57 = .ok (.getfield 85, 3) := by decide +kernel
theorem dX11_cuckoo_60 : decode cX11_cuckoo 60 = .ok (.getfield 259, 3) := by decide +kernel
theorem dX11_cuckoo_63 : decode cX11_cuckoo 63 = .ok (.ireturn, 1) := by decide +kernel
theorem dX11_cuckoo_64 : decode cX11_cuckoo 64 = .ok (.aload_n 0, 1) := by decide +kernel
theorem dX11_cuckoo_65 : decode cX11_cuckoo 65 = .ok (.getfield 85, 3) := by decide +kernel
theorem dX11_cuckoo_68 : decode cX11_cuckoo 68 = .ok (.getfield 262, 3) := by decide +kernel
theorem dX11_cuckoo_71 : decode cX11_cuckoo 71 = .ok (.ireturn, 1) := by decide +kernel
theorem dX11_cuckoo_72 : decode cX11_cuckoo 72 = .ok (.aload_n 0, 1) := by decide +kernel
theorem dX11_cuckoo_73 : decode cX11_cuckoo 73 = .ok (.getfield 85, 3) := by decide +kernel
theorem dX11_cuckoo_76 : decode cX11_cuckoo 76 = .ok (.getfield 265, 3) := by decide +kernel
theorem dX11_cuckoo_79 : decode cX11_cuckoo 79 = .ok (.ireturn, 1) := by decide +kernel
theorem dX11_cuckoo_80 : decode cX11_cuckoo 80 = .ok (.aload_n 0, 1) := by decide +kernel
theorem dX11_cuckoo_81 : decode cX11_cuckoo 81 = .ok (.getfield 85, 3) := by decide +kernel
theorem dX11_cuckoo_84 : decode cX11_cuckoo 84 = .ok (.getfield 268, 3) := by decide +kernel
theorem dX11_cuckoo_87 : decode cX11_cuckoo 87 = .ok (.ireturn, 1) := by decide +kernel
def fX11_cuckoo_0 (S : Nat → Int32) (V : Nat → Nat → Int32) (a1 : Int32) (a2 : Int32) : Option ((Int32 × (Nat → Int32)) ⊕ Nat) :=
  (if a2 < 0 then
  some (.inr 1)
  else
  (if a2 ≤ (3 : Int32) then
  bd1 (fX1_gather_58 S V a1) (fun S3 =>
  (if a2 = (0 : Int32) then
  some (.inl ((S3 5802), S3))
  else
  (if a2 = (1 : Int32) then
  some (.inl ((S3 5803), S3))
  else
  (if a2 = (2 : Int32) then
  some (.inl ((S3 5804), S3))
  else
  some (.inl ((S3 5805), S3))))))
  else
  some (.inr 1)))
set_option maxHeartbeats 4000000 in
set_option maxRecDepth 100000 in
theorem kX11_cuckoo_0 (l : Launch) (B : jBT) (D : va_G) (ad : Nat → Nat) (cA : Nat → ClassId) (hI : jI ad TC) (hl0 : l.stackTraces = false) (S : Nat → Int32) (V : Nat → Nat → Int32) (L : Nat → Int64) (a1 : Int32) (a2 : Int32) (rr : (Int32 × (Nat → Int32)) ⊕ Nat) (h : fX11_cuckoo_0 S V a1 a2 = some rr) : jMx l yX11_cuckoo cX11_cuckoo 3 (some .int) ({ frames := 6, cells := 1, slots := 6, locals := 139 }) B D TC ad cA [.ref (ad 0), .int a1, .int a2] S V L (Sum.map (fun (z : Int32 × (Nat → Int32)) => ((some (.int z.1) : Option Value), z.2, V, L)) (fun (x : Nat) => x) rr : jR) 1 6 := by
  refine jMx_of (by decide) TC_ok hI (Nat.le_of_ble_eq_true rfl) ?_
  intro p e s m args below meth c C hr hlk hxt
  refine j_lv (lv2 := [(0, .ref (ad 0)), (1, .int a1), (2, .int a2)]) rfl ?_
  unfold fX11_cuckoo_0 at h
  refine j_iload_n C 2 rfl dX11_cuckoo_0 rfl ?_
  refine j_if_lt (tgt := 9) C dX11_cuckoo_1 (by decide) (fun c1 => ?_) (fun c1 => ?_)
  · have h := (if_pos c1).symm.trans h
    cases h
    exact jx_throw (x := 1) (i := 13) C hl0 hlk rfl hxt rfl rfl xw_1 dX11_cuckoo_9 dX11_cuckoo_12 dX11_cuckoo_13 dX11_cuckoo_15 dX11_cuckoo_18 (by decide) (Nat.le_of_ble_eq_true rfl) (by decide) (by decide) (by decide) (by decide)
  · have h := (if_neg c1).symm.trans h
    refine j_iload_n C 2 rfl dX11_cuckoo_4 rfl ?_
    refine j_iconst C dX11_cuckoo_5 ci_3 ?_
    refine j_icmp_le (tgt := 19) C dX11_cuckoo_6 (by decide) (fun c2 => ?_) (fun c2 => ?_)
    · have h := (if_pos c2).symm.trans h
      refine j_aload_n C 0 rfl dX11_cuckoo_19 rfl ?_
      refine fg_X11_85_TC_0 C dX11_cuckoo_20 ?_
      refine j_iload_n C 1 rfl dX11_cuckoo_23 rfl ?_
      obtain ⟨S3, h4, h⟩ := bd1_elim h
      refine j_callV (As := [.int a1]) (rest := []) C (kX1_gather_58 l B D ad cA hI S V L a1 _ h4) mw_X1_gather wd1259 wd1260 wd1258 tc_58 rfl rfl ⟨rfl, rfl, by decide, by decide⟩ ⟨by decide, by decide⟩ rfl rfl (Nat.le_of_ble_eq_true rfl) dX11_cuckoo_24 ?_
      refine j_iload_n C 2 rfl dX11_cuckoo_27 rfl ?_
      by_cases c5 : a2 = (0 : Int32)
      · have h := (if_pos c5).symm.trans h
        refine j_tableIn (tgt := 56) C dX11_cuckoo_28 (by rw [c5]; decide) (by rw [c5]; decide) (by rw [c5]; rfl) (by decide) ?_
        refine j_aload_n C 0 rfl dX11_cuckoo_56 rfl ?_
        refine fg_X11_85_TC_0 C dX11_cuckoo_57 ?_
        refine fg_X11_259_TC_58 C dX11_cuckoo_60 ?_
        cases h
        exact jx_iret C hr hlk rfl rfl (by decide) (by decide) dX11_cuckoo_63
      have h := (if_neg c5).symm.trans h
      have n_c5 := ne_toInt (z := 0) (by decide) c5
      by_cases c6 : a2 = (1 : Int32)
      · have h := (if_pos c6).symm.trans h
        refine j_tableIn (tgt := 64) C dX11_cuckoo_28 (by rw [c6]; decide) (by rw [c6]; decide) (by rw [c6]; rfl) (by decide) ?_
        refine j_aload_n C 0 rfl dX11_cuckoo_64 rfl ?_
        refine fg_X11_85_TC_0 C dX11_cuckoo_65 ?_
        refine fg_X11_262_TC_58 C dX11_cuckoo_68 ?_
        cases h
        exact jx_iret C hr hlk rfl rfl (by decide) (by decide) dX11_cuckoo_71
      have h := (if_neg c6).symm.trans h
      have n_c6 := ne_toInt (z := 1) (by decide) c6
      by_cases c7 : a2 = (2 : Int32)
      · have h := (if_pos c7).symm.trans h
        refine j_tableIn (tgt := 72) C dX11_cuckoo_28 (by rw [c7]; decide) (by rw [c7]; decide) (by rw [c7]; rfl) (by decide) ?_
        refine j_aload_n C 0 rfl dX11_cuckoo_72 rfl ?_
        refine fg_X11_85_TC_0 C dX11_cuckoo_73 ?_
        refine fg_X11_265_TC_58 C dX11_cuckoo_76 ?_
        cases h
        exact jx_iret C hr hlk rfl rfl (by decide) (by decide) dX11_cuckoo_79
      have h := (if_neg c7).symm.trans h
      have n_c7 := ne_toInt (z := 2) (by decide) c7
      refine j_tableOut (tgt := 80) C dX11_cuckoo_28 (by omega) (by decide) ?_
      refine j_aload_n C 0 rfl dX11_cuckoo_80 rfl ?_
      refine fg_X11_85_TC_0 C dX11_cuckoo_81 ?_
      refine fg_X11_268_TC_58 C dX11_cuckoo_84 ?_
      cases h
      exact jx_iret C hr hlk rfl rfl (by decide) (by decide) dX11_cuckoo_87
    · have h := (if_neg c2).symm.trans h
      cases h
      exact jx_throw (x := 1) (i := 13) C hl0 hlk rfl hxt rfl rfl xw_1 dX11_cuckoo_9 dX11_cuckoo_12 dX11_cuckoo_13 dX11_cuckoo_15 dX11_cuckoo_18 (by decide) (Nat.le_of_ble_eq_true rfl) (by decide) (by decide) (by decide) (by decide)
theorem dX11_house_0 : decode cX11_house 0 = .ok (.iload_n 1, 1) := by decide +kernel
theorem dX11_house_1 : decode cX11_house 1 = .ok (.ifCond .lt 11, 3) := by decide +kernel
theorem dX11_house_4 : decode cX11_house 4 = .ok (.iload_n 1, 1) := by decide +kernel
theorem dX11_house_5 : decode cX11_house 5 = .ok (.aload_n 0, 1) := by decide +kernel
theorem dX11_house_6 : decode cX11_house 6 = .ok (.getfield 98, 3) := by decide +kernel
theorem dX11_house_9 : decode cX11_house 9 = .ok (.if_icmp .le 13, 3) := by decide +kernel
theorem dX11_house_12 : decode cX11_house 12 = .ok (.new 105, 3) := by decide +kernel
theorem dX11_house_15 : decode cX11_house 15 = .ok (.dup, 1) := by decide +kernel
theorem dX11_house_16 : decode cX11_house 16 = .ok (.ldc 107, 2) := by decide +kernel
theorem dX11_house_18 : decode cX11_house 18 = .ok (.invokespecial 109, 3) := by decide +kernel
theorem dX11_house_21 : decode cX11_house 21 = .ok (.athrow, 1) := by decide +kernel
theorem dX11_house_22 : decode cX11_house 22 = .ok (.aload_n 0, 1) := by decide +kernel
theorem dX11_house_23 : decode cX11_house 23 = .ok (.iconst 0, 1) := by decide +kernel
theorem dX11_house_24 : decode cX11_house 24 = .ok (.putfield 98, 3) := by decide +kernel
theorem dX11_house_27 : decode cX11_house 27 = .ok (.aload_n 0, 1) := by decide +kernel
theorem dX11_house_28 : decode cX11_house 28 = .ok (.getfield 31, 3) := by decide +kernel
theorem dX11_house_31 : decode cX11_house 31 = .ok (.aload_n 0, 1) := by decide +kernel
theorem dX11_house_32 : decode cX11_house 32 = .ok (.getfield 9, 3) := by decide +kernel
theorem dX11_house_35 : decode cX11_house 35 = .ok (.iload_n 1, 1) := by decide +kernel
theorem dX11_house_36 : decode cX11_house 36 = .ok (.invokevirtual 112, 3) := by decide +kernel
theorem dX11_house_39 : decode cX11_house 39 = .ok (.istore_n 2, 1) := by decide +kernel
theorem dX11_house_40 : decode cX11_house 40 = .ok (.iload_n 2, 1) := by decide +kernel
theorem dX11_house_41 : decode cX11_house 41 = .ok (.ifCond .eq 26, 3) := by decide +kernel
theorem dX11_house_44 : decode cX11_house 44 = .ok (.aload_n 0, 1) := by decide +kernel
theorem dX11_house_45 : decode cX11_house 45 = .ok (.aload_n 0, 1) := by decide +kernel
theorem dX11_house_46 : decode cX11_house 46 = .ok (.getfield 31, 3) := by decide +kernel
theorem dX11_house_49 : decode cX11_house 49 = .ok (.invokevirtual 116, 3) := by decide +kernel
theorem dX11_house_52 : decode cX11_house 52 = .ok (.putfield 13, 3) := by decide +kernel
theorem dX11_house_55 : decode cX11_house 55 = .ok (.aload_n 0, 1) := by decide +kernel
theorem dX11_house_56 : decode cX11_house 56 = .ok (.getfield 17, 3) := by decide +kernel
theorem dX11_house_59 : decode cX11_house 59 = .ok (.iconst 0, 1) := by decide +kernel
theorem dX11_house_60 : decode cX11_house 60 = .ok (.dup2, 1) := by decide +kernel
theorem dX11_house_61 : decode cX11_house 61 = .ok (.iaload, 1) := by decide +kernel
theorem dX11_house_62 : decode cX11_house 62 = .ok (.iconst 1, 1) := by decide +kernel
theorem dX11_house_63 : decode cX11_house 63 = .ok (.iadd, 1) := by decide +kernel
theorem dX11_house_64 : decode cX11_house 64 = .ok (.iastore, 1) := by decide +kernel
theorem dX11_house_65 : decode cX11_house 65 = .ok (.iload_n 2, 1) := by decide +kernel
theorem dX11_house_66 : decode cX11_house 66 = .ok (.ireturn, 1) := by decide +kernel
theorem dX11_house_67 : decode cX11_house 67 = .ok (.aload_n 0, 1) := by decide +kernel
theorem dX11_house_68 : decode cX11_house 68 = .ok (.iconst (-1), 1) := by decide +kernel
theorem dX11_house_69 : decode cX11_house 69 = .ok (.putfield 13, 3) := by decide +kernel
theorem dX11_house_72 : decode cX11_house 72 = .ok (.aload_n 0, 1) := by decide +kernel
theorem dX11_house_73 : decode cX11_house 73 = .ok (.getfield 24, 3) := by decide +kernel
theorem dX11_house_76 : decode cX11_house 76 = .ok (.aload_n 0, 1) := by decide +kernel
theorem dX11_house_77 : decode cX11_house 77 = .ok (.getfield 31, 3) := by decide +kernel
theorem dX11_house_80 : decode cX11_house 80 = .ok (.getfield 120, 3) := by decide +kernel
theorem dX11_house_83 : decode cX11_house 83 = .ok (.invokevirtual 123, 3) := by decide +kernel
theorem dX11_house_86 : decode cX11_house 86 = .ok (.aload_n 0, 1) := by decide +kernel
theorem dX11_house_87 : decode cX11_house 87 = .ok (.getfield 49, 3) := by decide +kernel
theorem dX11_house_90 : decode cX11_house 90 = .ok (.invokevirtual 126, 3) := by decide +kernel
theorem dX11_house_93 : decode cX11_house 93 = .ok (.aload_n 0, 1) := by decide +kernel
theorem dX11_house_94 : decode cX11_house 94 = .ok (.getfield 59, 3) := by decide +kernel
theorem dX11_house_97 : decode cX11_house 97 = .ok (.invokevirtual 129, 3) := by decide +kernel
theorem dX11_house_100 : decode cX11_house 100 = .ok (.aload_n 0, 1) := by decide +kernel
theorem dX11_house_101 : decode cX11_house 101 = .ok (.getfield 78, 3) := by decide +kernel
theorem dX11_house_104 : decode cX11_house 104 = .ok (.invokevirtual 130, 3) := by decide +kernel
theorem dX11_house_107 : decode cX11_house 107 = .ok (.aload_n 0, 1) := by decide +kernel
theorem dX11_house_108 : decode cX11_house 108 = .ok (.getfield 94, 3) := by decide +kernel
theorem dX11_house_111 : decode cX11_house 111 = .ok (.invokevirtual 133, 3) := by decide +kernel
theorem dX11_house_114 : decode cX11_house 114 = .ok (.aload_n 0, 1) := by decide +kernel
theorem dX11_house_115 : decode cX11_house 115 = .ok (.iconst 0, 1) := by decide +kernel
theorem dX11_house_116 : decode cX11_house 116 = .ok (.putfield 134, 3) := by decide +kernel
theorem dX11_house_119 : decode cX11_house 119 = .ok (.iconst 0, 1) := by decide +kernel
theorem dX11_house_120 : decode cX11_house 120 = .ok (.ireturn, 1) := by decide +kernel
def fX11_house_0 (S : Nat → Int32) (V : Nat → Nat → Int32) (a1 : Int32) : Option ((Int32 × (Nat → Int32) × (Nat → Nat → Int32)) ⊕ Nat) :=
  (if a1 < 0 then
  some (.inr 0)
  else
  (if a1 ≤ (S 1) then
  lt (va_up S 1 (0 : Int32)) (fun S3 =>
  bd3 (fX3_read_11_1 S3 V a1) (fun r4 S5 V6 =>
  (if r4 = 0 then
  lt (va_up S5 2 (-1 : Int32)) (fun S9 =>
  bd2 (fX2_copyFrom_3_12 S9 V6) (fun S10 V11 =>
  bd2 (fX4_clear_30 S10 V11) (fun S13 V14 =>
  bd1 (fX5_clear_42 S13) (fun S16 =>
  bd1 (fX0_forget_49 S16) (fun S18 =>
  bd1 (fX7_forget_59 S18) (fun S20 =>
  lt (va_up S20 11 (0 : Int32)) (fun S22 =>
  some (.inl ((0 : Int32), S22, V14)))))))))
  else
  bd1 (fX3_place_11 S5 V6) (fun r23 =>
  lt (va_up S5 2 r23) (fun S25 =>
  gd (ib (0 : Int32) 3) (
  lt (((V6 2 ((0 : Int32)).toNatClampNeg) + (1 : Int32))) (fun x27 =>
  gd (ib (0 : Int32) 3) (
  lt (va_up V6 2 (upd (V6 2) ((0 : Int32)).toNatClampNeg x27)) (fun V29 =>
  some (.inl (r4, S25, V29)))))))))))
  else
  some (.inr 0)))
set_option maxHeartbeats 4000000 in
set_option maxRecDepth 100000 in
theorem kX11_house_0 (l : Launch) (B : jBT) (D : va_G) (ad : Nat → Nat) (cA : Nat → ClassId) (hI : jI ad TC) (hl0 : l.stackTraces = false) (S : Nat → Int32) (V : Nat → Nat → Int32) (L : Nat → Int64) (a1 : Int32) (rr : (Int32 × (Nat → Int32) × (Nat → Nat → Int32)) ⊕ Nat) (h : fX11_house_0 S V a1 = some rr) : jMx l yX11_house cX11_house 3 (some .int) ({ frames := 9, cells := 1, slots := 6, locals := 206 }) B D TC ad cA [.ref (ad 0), .int a1] S V L (Sum.map (fun (z : Int32 × (Nat → Int32) × (Nat → Nat → Int32)) => ((some (.int z.1) : Option Value), z.2.1, z.2.2, L)) (fun (x : Nat) => x) rr : jR) 1 6 := by
  refine jMx_of (by decide) TC_ok hI (Nat.le_of_ble_eq_true rfl) ?_
  intro p e s m args below meth c C hr hlk hxt
  refine j_lv (lv2 := [(0, .ref (ad 0)), (1, .int a1)]) rfl ?_
  unfold fX11_house_0 at h
  refine j_iload_n C 1 rfl dX11_house_0 rfl ?_
  refine j_if_lt (tgt := 12) C dX11_house_1 (by decide) (fun c1 => ?_) (fun c1 => ?_)
  · have h := (if_pos c1).symm.trans h
    cases h
    exact jx_throw (x := 0) (i := 0) C hl0 hlk rfl hxt rfl rfl xw_0 dX11_house_12 dX11_house_15 dX11_house_16 dX11_house_18 dX11_house_21 (by decide) (Nat.le_of_ble_eq_true rfl) (by decide) (by decide) (by decide) (by decide)
  · have h := (if_neg c1).symm.trans h
    refine j_iload_n C 1 rfl dX11_house_4 rfl ?_
    refine j_aload_n C 0 rfl dX11_house_5 rfl ?_
    refine fg_X11_98_TC_0 C dX11_house_6 ?_
    refine j_icmp_le (tgt := 22) C dX11_house_9 (by decide) (fun c2 => ?_) (fun c2 => ?_)
    · have h := (if_pos c2).symm.trans h
      refine j_aload_n C 0 rfl dX11_house_22 rfl ?_
      refine j_iconst C dX11_house_23 ci_0 ?_
      refine fp_X11_98_TC_0 C dX11_house_24 ?_
      refine lt_elim h (fun S3 e_S3 h => ?_)
      refine j_S e_S3 ?_
      refine j_aload_n C 0 rfl dX11_house_27 rfl ?_
      refine fg_X11_31_TC_0 C dX11_house_28 ?_
      refine j_aload_n C 0 rfl dX11_house_31 rfl ?_
      refine fg_X11_9_TC_0 C dX11_house_32 ?_
      refine j_iload_n C 1 rfl dX11_house_35 rfl ?_
      obtain ⟨r4, S5, V6, h7, h⟩ := bd3_elim h
      refine j_callV (As := [.ref (ad 1), .int a1]) (rest := []) C (kX3_read_11_1 l B D ad cA hI S3 V L a1 _ _ _ h7) mw_X3_read wd759 wd760 wd758 tc_11 rfl rfl ⟨rfl, rfl, by decide, by decide⟩ ⟨by decide, by decide⟩ rfl rfl (Nat.le_of_ble_eq_true rfl) dX11_house_36 ?_
      refine j_istore_n C [(2, .int r4), (0, .ref (ad 0)), (1, .int a1)] dX11_house_39 rfl (by decide) rfl ?_
      refine j_iload_n C 0 rfl dX11_house_40 rfl ?_
      refine j_if_eq (tgt := 67) C dX11_house_41 (by decide) (fun c8 => ?_) (fun c8 => ?_)
      · have h := (if_pos c8).symm.trans h
        refine j_aload_n C 1 rfl dX11_house_67 rfl ?_
        refine j_iconst C dX11_house_68 ci_m1 ?_
        refine fp_X11_13_TC_0 C dX11_house_69 ?_
        refine lt_elim h (fun S9 e_S9 h => ?_)
        refine j_S e_S9 ?_
        refine j_aload_n C 1 rfl dX11_house_72 rfl ?_
        refine fg_X11_24_TC_0 C dX11_house_73 ?_
        refine j_aload_n C 1 rfl dX11_house_76 rfl ?_
        refine fg_X11_31_TC_0 C dX11_house_77 ?_
        refine fg_X11_120_TC_11 C dX11_house_80 ?_
        obtain ⟨S10, V11, h12, h⟩ := bd2_elim h
        refine j_callV (As := [.ref (ad 12)]) (rest := []) C (kX2_copyFrom_3_12 l B D ad cA hI S9 V6 L _ _ h12) mw_X2_copyFrom wd1030 wd1031 wd1029 tc_3 rfl rfl ⟨rfl, rfl, by decide, by decide⟩ ⟨by decide, by decide⟩ rfl rfl (Nat.le_of_ble_eq_true rfl) dX11_house_83 ?_
        refine j_aload_n C 1 rfl dX11_house_86 rfl ?_
        refine fg_X11_49_TC_0 C dX11_house_87 ?_
        obtain ⟨S13, V14, h15, h⟩ := bd2_elim h
        refine j_callV (As := []) (rest := []) C (kX4_clear_30 l B D ad cA hI S10 V11 L _ _ h15) mw_X4_clear wd1035 wd1036 wd1034 tc_30 rfl rfl ⟨rfl, rfl, by decide, by decide⟩ ⟨by decide, by decide⟩ rfl rfl (Nat.le_of_ble_eq_true rfl) dX11_house_90 ?_
        refine j_aload_n C 1 rfl dX11_house_93 rfl ?_
        refine fg_X11_59_TC_0 C dX11_house_94 ?_
        obtain ⟨S16, h17, h⟩ := bd1_elim h
        refine j_callV (As := []) (rest := []) C (kX5_clear_42 l B D ad cA hI S13 V14 L _ h17) mw_X5_clear wd1039 wd1040 wd1038 tc_42 rfl rfl ⟨rfl, rfl, by decide, by decide⟩ ⟨by decide, by decide⟩ rfl rfl (Nat.le_of_ble_eq_true rfl) dX11_house_97 ?_
        refine j_aload_n C 1 rfl dX11_house_100 rfl ?_
        refine fg_X11_78_TC_0 C dX11_house_101 ?_
        obtain ⟨S18, h19, h⟩ := bd1_elim h
        refine j_callV (As := []) (rest := []) C (kX0_forget_49 l B D ad cA hI S16 V14 L _ h19) mw_X0_forget wd1043 wd1044 wd1042 tc_49 rfl rfl ⟨rfl, rfl, by decide, by decide⟩ ⟨by decide, by decide⟩ rfl rfl (Nat.le_of_ble_eq_true rfl) dX11_house_104 ?_
        refine j_aload_n C 1 rfl dX11_house_107 rfl ?_
        refine fg_X11_94_TC_0 C dX11_house_108 ?_
        obtain ⟨S20, h21, h⟩ := bd1_elim h
        refine j_callV (As := []) (rest := []) C (kX7_forget_59 l B D ad cA hI S18 V14 L _ h21) mw_X7_forget wd1047 wd1048 wd1046 tc_59 rfl rfl ⟨rfl, rfl, by decide, by decide⟩ ⟨by decide, by decide⟩ rfl rfl (Nat.le_of_ble_eq_true rfl) dX11_house_111 ?_
        refine j_aload_n C 1 rfl dX11_house_114 rfl ?_
        refine j_iconst C dX11_house_115 ci_0 ?_
        refine fp_X11_134_TC_0 C rfl rfl dX11_house_116 ?_
        refine lt_elim h (fun S22 e_S22 h => ?_)
        refine j_S e_S22 ?_
        refine j_iconst C dX11_house_119 ci_0 ?_
        cases h
        exact jx_iret C hr hlk rfl rfl (by decide) (by decide) dX11_house_120
      · have h := (if_neg c8).symm.trans h
        refine j_aload_n C 1 rfl dX11_house_44 rfl ?_
        refine j_aload_n C 1 rfl dX11_house_45 rfl ?_
        refine fg_X11_31_TC_0 C dX11_house_46 ?_
        obtain ⟨r23, h24, h⟩ := bd1_elim h
        refine j_callV (As := []) (rest := [.ref (ad 0)]) C (kX3_place_11 l B D ad cA hI S5 V6 L _ h24) mw_X3_place wd1022 wd1023 wd1021 tc_11 rfl rfl ⟨rfl, rfl, by decide, by decide⟩ ⟨by decide, by decide⟩ rfl rfl (Nat.le_of_ble_eq_true rfl) dX11_house_49 ?_
        refine fp_X11_13_TC_0 C dX11_house_52 ?_
        refine lt_elim h (fun S25 e_S25 h => ?_)
        refine j_S e_S25 ?_
        refine j_aload_n C 1 rfl dX11_house_55 rfl ?_
        refine fg_X11_17_TC_0 C dX11_house_56 ?_
        refine j_iconst C dX11_house_59 ci_0 ?_
        refine j_dup2_11 C dX11_house_60 rfl rfl ?_
        obtain ⟨g26, h⟩ := gd_elim h
        refine j_iald C tc_2 (ib_in g26) dX11_house_61 ?_
        refine j_iconst C dX11_house_62 ci_1 ?_
        refine j_iadd C dX11_house_63 ?_
        refine lt_elim h (fun x27 e_x27 h => ?_)
        refine j_top e_x27 ?_
        obtain ⟨g28, h⟩ := gd_elim h
        refine j_iast C tc_2 (ib_in g28) dX11_house_64 ?_
        refine lt_elim h (fun V29 e_V29 h => ?_)
        refine j_V e_V29 ?_
        refine j_iload_n C 0 rfl dX11_house_65 rfl ?_
        cases h
        exact jx_iret C hr hlk rfl rfl (by decide) (by decide) dX11_house_66
    · have h := (if_neg c2).symm.trans h
      cases h
      exact jx_throw (x := 0) (i := 0) C hl0 hlk rfl hxt rfl rfl xw_0 dX11_house_12 dX11_house_15 dX11_house_16 dX11_house_18 dX11_house_21 (by decide) (Nat.le_of_ble_eq_true rfl) (by decide) (by decide) (by decide) (by decide)
theorem dX11_needTenantBits_0 : decode cX11_needTenantBits 0 = .ok (.iload_n 1, 1) := by decide +kernel
theorem dX11_needTenantBits_1 : decode cX11_needTenantBits 1 = .ok (.ifCond .le 16, 3) := by decide +kernel
theorem dX11_needTenantBits_4 : decode cX11_needTenantBits 4 = .ok (.iload_n 1, 1) := by decide +kernel
theorem dX11_needTenantBits_5 : decode cX11_needTenantBits 5 = .ok (.iconst 1, 1) := by decide +kernel
theorem dX11_needTenantBits_6 : decode cX11_needTenantBits 6 = .ok (.aload_n 0, 1) := by decide +kernel
theorem dX11_needTenantBits_7 : decode cX11_needTenantBits 7 = .ok (.getfield 24, 3) := by decide +kernel
theorem dX11_needTenantBits_10 : decode cX11_needTenantBits 10 = .ok (.getfield 150, 3) := by decide +kernel
theorem dX11_needTenantBits_13 : decode cX11_needTenantBits 13 = .ok (.ishl, 1) := by decide +kernel
theorem dX11_needTenantBits_14 : decode cX11_needTenantBits 14 = .ok (.if_icmp .lt 14, 3) := by decide +kernel
theorem dX11_needTenantBits_17 : decode cX11_needTenantBits 17 = .ok (.new 105, 3) := by decide +kernel
theorem dX11_needTenantBits_20 : decode cX11_needTenantBits 20 = .ok (.dup, 1) := by decide +kernel
theorem dX11_needTenantBits_21 : decode cX11_needTenantBits 21 = .ok (.ldc_w 335, 3) := by decide +kernel
theorem dX11_needTenantBits_24 : decode cX11_needTenantBits 24 = .ok (.invokespecial 109, 3) := by decide +kernel
theorem dX11_needTenantBits_27 : decode cX11_needTenantBits 27 = .ok (.athrow, 1) := by decide +kernel
theorem dX11_needTenantBits_28 : decode cX11_needTenantBits 28 = .ok (.return_, 1) := by decide +kernel
def fX11_needTenantBits_0 (S : Nat → Int32) (a1 : Int32) : Option ((Unit) ⊕ Nat) :=
  (if a1 ≤ 0 then
  some (.inr 0)
  else
  (if a1 < ((1 : Int32) <<< ((S 304) &&& 31)) then
  some (.inl ())
  else
  some (.inr 0)))
set_option maxHeartbeats 4000000 in
set_option maxRecDepth 100000 in
theorem kX11_needTenantBits_0 (l : Launch) (B : jBT) (D : va_G) (ad : Nat → Nat) (cA : Nat → ClassId) (hI : jI ad TC) (hl0 : l.stackTraces = false) (S : Nat → Int32) (V : Nat → Nat → Int32) (L : Nat → Int64) (a1 : Int32) (rr : (Unit) ⊕ Nat) (h : fX11_needTenantBits_0 S a1 = some rr) : jMx l yX11_needTenantBits cX11_needTenantBits 2 none ({ frames := 6, cells := 1, slots := 6, locals := 120 }) B D TC ad cA [.ref (ad 0), .int a1] S V L (Sum.map (fun (z : Unit) => ((none : Option Value), S, V, L)) (fun (x : Nat) => x) rr : jR) 1 6 := by
  refine jMx_of (by decide) TC_ok hI (Nat.le_of_ble_eq_true rfl) ?_
  intro p e s m args below meth c C hr hlk hxt
  refine j_lv (lv2 := [(0, .ref (ad 0)), (1, .int a1)]) rfl ?_
  unfold fX11_needTenantBits_0 at h
  refine j_iload_n C 1 rfl dX11_needTenantBits_0 rfl ?_
  refine j_if_le (tgt := 17) C dX11_needTenantBits_1 (by decide) (fun c1 => ?_) (fun c1 => ?_)
  · have h := (if_pos c1).symm.trans h
    cases h
    exact jx_throwW (x := 0) (i := 10) C hl0 hlk rfl hxt rfl rfl xw_0 dX11_needTenantBits_17 dX11_needTenantBits_20 dX11_needTenantBits_21 dX11_needTenantBits_24 dX11_needTenantBits_27 (by decide) (Nat.le_of_ble_eq_true rfl) (by decide) (by decide) (by decide) (by decide)
  · have h := (if_neg c1).symm.trans h
    refine j_iload_n C 1 rfl dX11_needTenantBits_4 rfl ?_
    refine j_iconst C dX11_needTenantBits_5 ci_1 ?_
    refine j_aload_n C 0 rfl dX11_needTenantBits_6 rfl ?_
    refine fg_X11_24_TC_0 C dX11_needTenantBits_7 ?_
    refine fg_X11_150_TC_3 C dX11_needTenantBits_10 ?_
    refine j_ishl C dX11_needTenantBits_13 ?_
    refine j_icmp_lt (tgt := 28) C dX11_needTenantBits_14 (by decide) (fun c2 => ?_) (fun c2 => ?_)
    · have h := (if_pos c2).symm.trans h
      cases h
      exact jx_vret C hr hlk rfl rfl (by decide) (by decide) dX11_needTenantBits_28
    · have h := (if_neg c2).symm.trans h
      cases h
      exact jx_throwW (x := 0) (i := 10) C hl0 hlk rfl hxt rfl rfl xw_0 dX11_needTenantBits_17 dX11_needTenantBits_20 dX11_needTenantBits_21 dX11_needTenantBits_24 dX11_needTenantBits_27 (by decide) (Nat.le_of_ble_eq_true rfl) (by decide) (by decide) (by decide) (by decide)
theorem dX11_house4_0 : decode cX11_house4 0 = .ok (.iload_n 2, 1) := by decide +kernel
theorem dX11_house4_1 : decode cX11_house4 1 = .ok (.invokestatic 215, 3) := by decide +kernel
theorem dX11_house4_4 : decode cX11_house4 4 = .ok (.aload_n 0, 1) := by decide +kernel
theorem dX11_house4_5 : decode cX11_house4 5 = .ok (.iload_n 1, 1) := by decide +kernel
theorem dX11_house4_6 : decode cX11_house4 6 = .ok (.invokevirtual 233, 3) := by decide +kernel
theorem dX11_house4_9 : decode cX11_house4 9 = .ok (.iload_n 1, 1) := by decide +kernel
theorem dX11_house4_10 : decode cX11_house4 10 = .ok (.invokestatic 236, 3) := by decide +kernel
theorem dX11_house4_13 : decode cX11_house4 13 = .ok (.iconst 4, 1) := by decide +kernel
theorem dX11_house4_14 : decode cX11_house4 14 = .ok (.if_icmp .le 13, 3) := by decide +kernel
theorem dX11_house4_17 : decode cX11_house4 17 = .ok (.new 105, 3) := by decide +kernel
theorem dX11_house4_20 : decode cX11_house4 20 = .ok (.dup, 1) := by decide +kernel
theorem dX11_house4_21 : decode cX11_house4 21 = .ok (.ldc 241, 2) := by decide +kernel
theorem dX11_house4_23 : decode cX11_house4 23 = .ok (.invokespecial 109, 3) := by decide +kernel
theorem dX11_house4_26 : decode cX11_house4 26 = .ok (.athrow, 1) := by decide +kernel
theorem dX11_house4_27 : decode cX11_house4 27 = .ok (.aload_n 0, 1) := by decide +kernel
theorem dX11_house4_28 : decode cX11_house4 28 = .ok (.getfield 78, 3) := by decide +kernel
theorem dX11_house4_31 : decode cX11_house4 31 = .ok (.iload_n 1, 1) := by decide +kernel
theorem dX11_house4_32 : decode cX11_house4 32 = .ok (.aload_n 0, 1) := by decide +kernel
theorem dX11_house4_33 : decode cX11_house4 33 = .ok (.getfield 24, 3) := by decide +kernel
theorem dX11_house4_36 : decode cX11_house4 36 = .ok (.iload_n 2, 1) := by decide +kernel
theorem dX11_house4_37 : decode cX11_house4 37 = .ok (.invokevirtual 218, 3) := by decide +kernel
theorem dX11_house4_40 : decode cX11_house4 40 = .ok (.invokevirtual 243, 3) := by decide +kernel
theorem dX11_house4_43 : decode cX11_house4 43 = .ok (.ireturn, 1) := by decide +kernel
def fX11_house4_0 (S : Nat → Int32) (V : Nat → Nat → Int32) (a1 : Int32) (a2 : Int32) : Option ((Int32 × (Nat → Int32) × (Nat → Nat → Int32)) ⊕ Nat) :=
  bdx (fX11_needDay a2) (
  bdx (fX11_needTenantBits_0 S a1) (
  bd1 (fJ6_bitCount_0f7a4 a1) (fun r5 =>
  (if r5 ≤ (4 : Int32) then
  bd1 (fX2_oilLeft_3 S a2) (fun r8 =>
  bd3 (fX0_find_49 S V a1 r8) (fun r10 S11 V12 =>
  some (.inl (r10, S11, V12))))
  else
  some (.inr 0)))))
set_option maxHeartbeats 4000000 in
set_option maxRecDepth 100000 in
theorem kX11_house4_0 (l : Launch) (B : jBT) (D : va_G) (ad : Nat → Nat) (cA : Nat → ClassId) (hI : jI ad TC) (hl0 : l.stackTraces = false) (S : Nat → Int32) (V : Nat → Nat → Int32) (L : Nat → Int64) (a1 : Int32) (a2 : Int32) (rr : (Int32 × (Nat → Int32) × (Nat → Nat → Int32)) ⊕ Nat) (h : fX11_house4_0 S V a1 a2 = some rr) : jMx l yX11_house4 cX11_house4 3 (some .int) ({ frames := 12, cells := 3, slots := 18, locals := 316 }) B D TC ad cA [.ref (ad 0), .int a1, .int a2] S V L (Sum.map (fun (z : Int32 × (Nat → Int32) × (Nat → Nat → Int32)) => ((some (.int z.1) : Option Value), z.2.1, z.2.2, L)) (fun (x : Nat) => x) rr : jR) 3 18 := by
  refine jMx_of (by decide) TC_ok hI (Nat.le_of_ble_eq_true rfl) ?_
  intro p e s m args below meth c C hr hlk hxt
  refine j_lv (lv2 := [(0, .ref (ad 0)), (1, .int a1), (2, .int a2)]) rfl ?_
  unfold fX11_house4_0 at h
  refine j_iload_n C 2 rfl dX11_house4_0 rfl ?_
  rcases bdx_elim h with ⟨h1, h⟩ | ⟨x2, h1, rfl⟩
  · refine fun H locs ls hP hS hl => jx_ok C hS hl (jx_callS (As := [.int a2]) (rest := []) C (kX11_needDay l B D ad cA hI hl0 S V L a2 (.inl ()) h1) mw_X11_needDay wd1124 wd1123 ⟨rfl, rfl, by decide, by decide⟩ ⟨by decide, by decide⟩ rfl rfl (Nat.le_of_ble_eq_true rfl) dX11_house4_1 hP hS hl) ?_
    refine j_aload_n C 0 rfl dX11_house4_4 rfl ?_
    refine j_iload_n C 1 rfl dX11_house4_5 rfl ?_
    rcases bdx_elim h with ⟨h3, h⟩ | ⟨x4, h3, rfl⟩
    · refine fun H locs ls hP hS hl => jx_ok C hS hl (jx_callV (As := [.int a1]) (rest := []) C (kX11_needTenantBits_0 l B D ad cA hI hl0 S V L a1 (.inl ()) h3) mw_X11_needTenantBits wd1181 wd38 wd1179 tc_0 rfl rfl ⟨rfl, rfl, by decide, by decide⟩ ⟨by decide, by decide⟩ rfl rfl (Nat.le_of_ble_eq_true rfl) dX11_house4_6 hP hS hl) ?_
      refine j_iload_n C 1 rfl dX11_house4_9 rfl ?_
      obtain ⟨r5, h6, h⟩ := bd1_elim h
      refine j_callS (As := [.int a1]) (rest := []) C (kJ6_bitCount_0f7a4 l B D ad cA hI S V L a1 _ h6) mw_J6_bitCount_0f7a4 wd1092 wd1184 ⟨rfl, rfl, by decide, by decide⟩ ⟨by decide, by decide⟩ rfl rfl (Nat.le_of_ble_eq_true rfl) dX11_house4_10 ?_
      refine j_iconst C dX11_house4_13 ci_4 ?_
      refine j_icmp_le (tgt := 27) C dX11_house4_14 (by decide) (fun c7 => ?_) (fun c7 => ?_)
      · have h := (if_pos c7).symm.trans h
        refine j_aload_n C 0 rfl dX11_house4_27 rfl ?_
        refine fg_X11_78_TC_0 C dX11_house4_28 ?_
        refine j_iload_n C 1 rfl dX11_house4_31 rfl ?_
        refine j_aload_n C 0 rfl dX11_house4_32 rfl ?_
        refine fg_X11_24_TC_0 C dX11_house4_33 ?_
        refine j_iload_n C 2 rfl dX11_house4_36 rfl ?_
        obtain ⟨r8, h9, h⟩ := bd1_elim h
        refine j_callV (As := [.int a2]) (rest := [.int a1, .ref (ad 49)]) C (kX2_oilLeft_3 l B D ad cA hI S V L a2 _ h9) mw_X2_oilLeft wd1128 wd1129 wd1127 tc_3 rfl rfl ⟨rfl, rfl, by decide, by decide⟩ ⟨by decide, by decide⟩ rfl rfl (Nat.le_of_ble_eq_true rfl) dX11_house4_37 ?_
        obtain ⟨r10, S11, V12, h13, h⟩ := bd3_elim h
        refine j_callV (As := [.int a1, .int r8]) (rest := []) C (kX0_find_49 l B D ad cA hI S V L a1 r8 _ _ _ h13) mw_X0_find wd1187 wd1188 wd1186 tc_49 rfl rfl ⟨rfl, rfl, by decide, by decide⟩ ⟨by decide, by decide⟩ rfl rfl (Nat.le_of_ble_eq_true rfl) dX11_house4_40 ?_
        cases h
        exact jx_iret C hr hlk rfl rfl (by decide) (by decide) dX11_house4_43
      · have h := (if_neg c7).symm.trans h
        cases h
        exact jx_throw (x := 0) (i := 11) C hl0 hlk rfl hxt rfl rfl xw_0 dX11_house4_17 dX11_house4_20 dX11_house4_21 dX11_house4_23 dX11_house4_26 (by decide) (Nat.le_of_ble_eq_true rfl) (by decide) (by decide) (by decide) (by decide)
    · exact fun H locs ls hP hS hl => jx_ex C hlk rfl hxt rfl hS (jx_callV (As := [.int a1]) (rest := []) C (kX11_needTenantBits_0 l B D ad cA hI hl0 S V L a1 (.inr x4) h3) mw_X11_needTenantBits wd1181 wd38 wd1179 tc_0 rfl rfl ⟨rfl, rfl, by decide, by decide⟩ ⟨by decide, by decide⟩ rfl rfl (Nat.le_of_ble_eq_true rfl) dX11_house4_6 hP hS hl) (by decide) (by decide)
  · exact fun H locs ls hP hS hl => jx_ex C hlk rfl hxt rfl hS (jx_callS (As := [.int a2]) (rest := []) C (kX11_needDay l B D ad cA hI hl0 S V L a2 (.inr x2) h1) mw_X11_needDay wd1124 wd1123 ⟨rfl, rfl, by decide, by decide⟩ ⟨by decide, by decide⟩ rfl rfl (Nat.le_of_ble_eq_true rfl) dX11_house4_1 hP hS hl) (by decide) (by decide)
