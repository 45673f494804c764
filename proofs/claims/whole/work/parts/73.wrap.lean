theorem wcl_13 : Cond.classLink "ClockLodgersLaw" (13 : Nat) "java/lang/IllegalArgumentException" ∈ bg := bg_in (List.mem_of_getElem? (i := 687) (by decide +kernel)) rfl
theorem wcl_18 : Cond.classLink "ClockLodgersLaw" (18 : Nat) "java/util/NoSuchElementException" ∈ bg := bg_in (List.mem_of_getElem? (i := 1053) (by decide +kernel)) rfl
theorem mw_X11_birthday : jmw yX11_birthday cX11_birthday 2 (some .int) 1 := ⟨wd1386, wd103, by decide +kernel⟩
theorem mw_X11_both : jmw yX11_both cX11_both 7 (some .int) 4 := ⟨wd1406, wd103, by decide +kernel⟩
theorem mw_X11_count : jmw yX11_count cX11_count 2 (some .int) 1 := ⟨wd1057, wd103, by decide +kernel⟩
theorem mw_X11_cuckoo : jmw yX11_cuckoo cX11_cuckoo 3 (some .int) 2 := ⟨wd1256, wd103, by decide +kernel⟩
theorem mw_X11_house4 : jmw yX11_house4 cX11_house4 3 (some .int) 2 := ⟨wd1178, wd103, by decide +kernel⟩
theorem mw_X11_housed : jmw yX11_housed cX11_housed 2 (some .int) 1 := ⟨wd1248, wd103, by decide +kernel⟩
theorem mw_X11_house : jmw yX11_house cX11_house 3 (some .int) 1 := ⟨wd691, wd103, by decide +kernel⟩
theorem mw_X11_in : jmw yX11_in cX11_in 3 (some .int) 2 := ⟨wd1109, wd103, by decide +kernel⟩
theorem mw_X11_rent : jmw yX11_rent cX11_rent 2 (some .int) 1 := ⟨wd1325, wd103, by decide +kernel⟩
theorem mw_X11_shared : jmw yX11_shared cX11_shared 3 (some .int) 2 := ⟨wd1337, wd103, by decide +kernel⟩
theorem mw_X11_slowBy : jmw yX11_slowBy cX11_slowBy 4 (some .int) 2 := ⟨wd1166, wd103, by decide +kernel⟩
theorem mw_X11_slow : jmw yX11_slow cX11_slow 4 (some .int) 3 := ⟨wd1153, wd103, by decide +kernel⟩
theorem mw_X11_sublet : jmw yX11_sublet cX11_sublet 2 (some .int) 1 := ⟨wd1350, wd103, by decide +kernel⟩
theorem mw_X11_swing : jmw yX11_swing cX11_swing 3 (some .int) 2 := ⟨wd1122, wd103, by decide +kernel⟩
theorem mw_X11_tenant : jmw yX11_tenant cX11_tenant 3 (some .int) 2 := ⟨wd1080, wd103, by decide +kernel⟩
theorem mw_X11_visits : jmw yX11_visits cX11_visits 3 (some .int) 2 := ⟨wd1286, wd103, by decide +kernel⟩
theorem mw_X11_visit : jmw yX11_visit cX11_visit 2 (some .int) 1 := ⟨wd1317, wd103, by decide +kernel⟩
theorem mw_X11_wedding : jmw yX11_wedding cX11_wedding 2 (some .int) 1 := ⟨wd1370, wd103, by decide +kernel⟩
theorem mw_X11_wind : jmw yX11_wind cX11_wind 4 (some .int) 3 := ⟨wd1425, wd103, by decide +kernel⟩
theorem dL_house_0 : decode cL_house 0 = .ok (.aload_n 2, 1) := by decide +kernel
theorem dL_house_1 : decode cL_house 1 = .ok (.iconst 0, 1) := by decide +kernel
theorem dL_house_2 : decode cL_house 2 = .ok (.aload_n 0, 1) := by decide +kernel
theorem dL_house_3 : decode cL_house 3 = .ok (.iload_n 1, 1) := by decide +kernel
theorem dL_house_4 : decode cL_house 4 = .ok (.invokevirtual 7, 3) := by decide +kernel
theorem dL_house_7 : decode cL_house 7 = .ok (.i2l, 1) := by decide +kernel
theorem dL_house_8 : decode cL_house 8 = .ok (.lastore, 1) := by decide +kernel
theorem dL_house_9 : decode cL_house 9 = .ok (.goto 6, 3) := by decide +kernel
theorem dL_house_12 : decode cL_house 12 = .ok (.astore_n 3, 1) := by decide +kernel
theorem dL_house_13 : decode cL_house 13 = .ok (.iconst 1, 1) := by decide +kernel
theorem dL_house_14 : decode cL_house 14 = .ok (.ireturn, 1) := by decide +kernel
theorem dL_house_15 : decode cL_house 15 = .ok (.iconst 0, 1) := by decide +kernel
theorem dL_house_16 : decode cL_house 16 = .ok (.ireturn, 1) := by decide +kernel
set_option maxHeartbeats 4000000 in
set_option maxRecDepth 100000 in
theorem wL_house_ok (l : Launch) (B : jBT) (D : va_G) (ad : Nat → Nat) (cA : Nat → ClassId) (hI : jI ad TC) (hl0 : l.stackTraces = false) (ao : Nat) (cO : ClassId) (hao : ∀ j, j < TC.length → ad j ≠ ao) (S : Nat → Int32) (V : Nat → Nat → Int32) (L : Nat → Int64) (o : Nat → Int64) (a1 : Int32) (r0 : Int32) (S0 : Nat → Int32) (V0 : Nat → Nat → Int32) (h : fX11_house_0 S V a1 = some (.inl (r0, S0, V0))) : jMo l yL_house cL_house 4 [(0, 9, 12, 13)] ({ frames := 10, cells := 1, slots := 6, locals := 228 }) B D ad cA ao cO [.ref (ad 0), .int a1, .ref ao] S V L o 0 S0 V0 L (vp_updL o 0 r0.toInt64) 1 6 := by
  refine jMo_of (by decide) hI hao (Nat.le_of_ble_eq_true rfl) ?_
  intro p e s m args below meth c C hr hlk hx
  refine jo_lv (lv2 := [(0, .ref (ad 0)), (1, .int a1), (2, .ref ao)]) rfl ?_
  refine jo_aload_n C 2 rfl dL_house_0 rfl ?_
  refine jo_iconst C dL_house_1 ci_0 ?_
  refine jo_aload_n C 0 rfl dL_house_2 rfl ?_
  refine jo_iload_n C 1 rfl dL_house_3 rfl ?_
  refine fun H locs ls hP hS hl => jo_ok C hP hS hl (jx_callV (q := 0) (As := [.int a1]) (rest := [.int (0 : Int32), .ref ao]) C.1 (kX11_house_0 l B D ad cA hI hl0 S V L a1 (.inl (r0, S0, V0)) h) mw_X11_house wd689 wd690 wd688 tc_0 rfl rfl ⟨rfl, rfl, by decide, by decide⟩ ⟨by decide, by decide⟩ rfl rfl (Nat.le_of_ble_eq_true rfl) dL_house_4 (vp_cons.mp hP).2 hS hl) ?_
  refine jo_i2l C dL_house_7 ?_
  refine jo_last C dL_house_8 ?_
  refine jo_goto (tgt := 15) C dL_house_9 (by decide) ?_
  refine jo_iconst C dL_house_15 ci_0 ?_
  exact jo_ret C hr hlk rfl (by decide) (by decide) dL_house_16
set_option maxHeartbeats 4000000 in
set_option maxRecDepth 100000 in
theorem wL_house_ex0 (l : Launch) (B : jBT) (D : va_G) (ad : Nat → Nat) (cA : Nat → ClassId) (hI : jI ad TC) (hl0 : l.stackTraces = false) (ao : Nat) (cO : ClassId) (hao : ∀ j, j < TC.length → ad j ≠ ao) (S : Nat → Int32) (V : Nat → Nat → Int32) (L : Nat → Int64) (o : Nat → Int64) (a1 : Int32) (h : fX11_house_0 S V a1 = some (.inr 0)) : jMo l yL_house cL_house 4 [(0, 9, 12, 13)] ({ frames := 10, cells := 1, slots := 6, locals := 228 }) B D ad cA ao cO [.ref (ad 0), .int a1, .ref ao] S V L o 1 S V L o 1 6 := by
  refine jMo_of (by decide) hI hao (Nat.le_of_ble_eq_true rfl) ?_
  intro p e s m args below meth c C hr hlk hx
  refine jo_lv (lv2 := [(0, .ref (ad 0)), (1, .int a1), (2, .ref ao)]) rfl ?_
  refine jo_aload_n C 2 rfl dL_house_0 rfl ?_
  refine jo_iconst C dL_house_1 ci_0 ?_
  refine jo_aload_n C 0 rfl dL_house_2 rfl ?_
  refine jo_iload_n C 1 rfl dL_house_3 rfl ?_
  refine fun H locs ls hP hS hl => jo_ex C hP hS hl (jx_callV (q := 0) (As := [.int a1]) (rest := [.int (0 : Int32), .ref ao]) C.1 (kX11_house_0 l B D ad cA hI hl0 S V L a1 (.inr 0) h) mw_X11_house wd689 wd690 wd688 tc_0 rfl rfl ⟨rfl, rfl, by decide, by decide⟩ ⟨by decide, by decide⟩ rfl rfl (Nat.le_of_ble_eq_true rfl) dL_house_4 (vp_cons.mp hP).2 hS hl) [] ⟨0, 9, 12, 13⟩ [] hx (fun z hz => nomatch hz) (by decide) (by decide) wcl_13 (by decide) (fun q => ?_)
  refine jo_astore_n C dL_house_12 rfl (by decide) (fun lv2 => ?_)
  refine jo_iconst C dL_house_13 ci_1 ?_
  exact jo_ret C hr hlk rfl (by decide) (by decide) dL_house_14
set_option maxRecDepth 1000000 in
theorem wcw_L_house : Cond.codeWith yL_house cL_house 4 (some .int) [(0, 9, 12, 13)] ∈ bg := bg_in (List.mem_of_getElem? (i := 686) rfl) rfl
theorem dL_count_0 : decode cL_count 0 = .ok (.aload_n 2, 1) := by decide +kernel
theorem dL_count_1 : decode cL_count 1 = .ok (.iconst 0, 1) := by decide +kernel
theorem dL_count_2 : decode cL_count 2 = .ok (.aload_n 0, 1) := by decide +kernel
theorem dL_count_3 : decode cL_count 3 = .ok (.iload_n 1, 1) := by decide +kernel
theorem dL_count_4 : decode cL_count 4 = .ok (.invokevirtual 15, 3) := by decide +kernel
theorem dL_count_7 : decode cL_count 7 = .ok (.i2l, 1) := by decide +kernel
theorem dL_count_8 : decode cL_count 8 = .ok (.lastore, 1) := by decide +kernel
theorem dL_count_9 : decode cL_count 9 = .ok (.goto 6, 3) := by decide +kernel
theorem dL_count_12 : decode cL_count 12 = .ok (.astore_n 3, 1) := by decide +kernel
theorem dL_count_13 : decode cL_count 13 = .ok (.iconst 1, 1) := by decide +kernel
theorem dL_count_14 : decode cL_count 14 = .ok (.ireturn, 1) := by decide +kernel
theorem dL_count_15 : decode cL_count 15 = .ok (.iconst 0, 1) := by decide +kernel
theorem dL_count_16 : decode cL_count 16 = .ok (.ireturn, 1) := by decide +kernel
set_option maxHeartbeats 4000000 in
set_option maxRecDepth 100000 in
theorem wL_count_ok (l : Launch) (B : jBT) (D : va_G) (ad : Nat → Nat) (cA : Nat → ClassId) (hI : jI ad TC) (hl0 : l.stackTraces = false) (ao : Nat) (cO : ClassId) (hao : ∀ j, j < TC.length → ad j ≠ ao) (S : Nat → Int32) (V : Nat → Nat → Int32) (L : Nat → Int64) (o : Nat → Int64) (a1 : Int32) (r0 : Int32) (h : fX11_count_0 S V a1 = some (.inl r0)) : jMo l yL_count cL_count 4 [(0, 9, 12, 18)] ({ frames := 7, cells := 1, slots := 6, locals := 141 }) B D ad cA ao cO [.ref (ad 0), .int a1, .ref ao] S V L o 0 S V L (vp_updL o 0 r0.toInt64) 1 6 := by
  refine jMo_of (by decide) hI hao (Nat.le_of_ble_eq_true rfl) ?_
  intro p e s m args below meth c C hr hlk hx
  refine jo_lv (lv2 := [(0, .ref (ad 0)), (1, .int a1), (2, .ref ao)]) rfl ?_
  refine jo_aload_n C 2 rfl dL_count_0 rfl ?_
  refine jo_iconst C dL_count_1 ci_0 ?_
  refine jo_aload_n C 0 rfl dL_count_2 rfl ?_
  refine jo_iload_n C 1 rfl dL_count_3 rfl ?_
  refine fun H locs ls hP hS hl => jo_ok C hP hS hl (jx_callV (q := 0) (As := [.int a1]) (rest := [.int (0 : Int32), .ref ao]) C.1 (kX11_count_0 l B D ad cA hI hl0 S V L a1 (.inl r0) h) mw_X11_count wd1055 wd1056 wd1054 tc_0 rfl rfl ⟨rfl, rfl, by decide, by decide⟩ ⟨by decide, by decide⟩ rfl rfl (Nat.le_of_ble_eq_true rfl) dL_count_4 (vp_cons.mp hP).2 hS hl) ?_
  refine jo_i2l C dL_count_7 ?_
  refine jo_last C dL_count_8 ?_
  refine jo_goto (tgt := 15) C dL_count_9 (by decide) ?_
  refine jo_iconst C dL_count_15 ci_0 ?_
  exact jo_ret C hr hlk rfl (by decide) (by decide) dL_count_16
set_option maxHeartbeats 4000000 in
set_option maxRecDepth 100000 in
theorem wL_count_ex1 (l : Launch) (B : jBT) (D : va_G) (ad : Nat → Nat) (cA : Nat → ClassId) (hI : jI ad TC) (hl0 : l.stackTraces = false) (ao : Nat) (cO : ClassId) (hao : ∀ j, j < TC.length → ad j ≠ ao) (S : Nat → Int32) (V : Nat → Nat → Int32) (L : Nat → Int64) (o : Nat → Int64) (a1 : Int32) (h : fX11_count_0 S V a1 = some (.inr 1)) : jMo l yL_count cL_count 4 [(0, 9, 12, 18)] ({ frames := 7, cells := 1, slots := 6, locals := 141 }) B D ad cA ao cO [.ref (ad 0), .int a1, .ref ao] S V L o 1 S V L o 1 6 := by
  refine jMo_of (by decide) hI hao (Nat.le_of_ble_eq_true rfl) ?_
  intro p e s m args below meth c C hr hlk hx
  refine jo_lv (lv2 := [(0, .ref (ad 0)), (1, .int a1), (2, .ref ao)]) rfl ?_
  refine jo_aload_n C 2 rfl dL_count_0 rfl ?_
  refine jo_iconst C dL_count_1 ci_0 ?_
  refine jo_aload_n C 0 rfl dL_count_2 rfl ?_
  refine jo_iload_n C 1 rfl dL_count_3 rfl ?_
  refine fun H locs ls hP hS hl => jo_ex C hP hS hl (jx_callV (q := 0) (As := [.int a1]) (rest := [.int (0 : Int32), .ref ao]) C.1 (kX11_count_0 l B D ad cA hI hl0 S V L a1 (.inr 1) h) mw_X11_count wd1055 wd1056 wd1054 tc_0 rfl rfl ⟨rfl, rfl, by decide, by decide⟩ ⟨by decide, by decide⟩ rfl rfl (Nat.le_of_ble_eq_true rfl) dL_count_4 (vp_cons.mp hP).2 hS hl) [] ⟨0, 9, 12, 18⟩ [] hx (fun z hz => nomatch hz) (by decide) (by decide) wcl_18 (by decide) (fun q => ?_)
  refine jo_astore_n C dL_count_12 rfl (by decide) (fun lv2 => ?_)
  refine jo_iconst C dL_count_13 ci_1 ?_
  exact jo_ret C hr hlk rfl (by decide) (by decide) dL_count_14
set_option maxRecDepth 1000000 in
theorem wcw_L_count : Cond.codeWith yL_count cL_count 4 (some .int) [(0, 9, 12, 18)] ∈ bg := bg_in (List.mem_of_getElem? (i := 1052) rfl) rfl
theorem dL_tenant_0 : decode cL_tenant 0 = .ok (.aload_n 3, 1) := by decide +kernel
theorem dL_tenant_1 : decode cL_tenant 1 = .ok (.iconst 0, 1) := by decide +kernel
theorem dL_tenant_2 : decode cL_tenant 2 = .ok (.aload_n 0, 1) := by decide +kernel
theorem dL_tenant_3 : decode cL_tenant 3 = .ok (.iload_n 1, 1) := by decide +kernel
theorem dL_tenant_4 : decode cL_tenant 4 = .ok (.iload_n 2, 1) := by decide +kernel
theorem dL_tenant_5 : decode cL_tenant 5 = .ok (.invokevirtual 20, 3) := by decide +kernel
theorem dL_tenant_8 : decode cL_tenant 8 = .ok (.i2l, 1) := by decide +kernel
theorem dL_tenant_9 : decode cL_tenant 9 = .ok (.lastore, 1) := by decide +kernel
theorem dL_tenant_10 : decode cL_tenant 10 = .ok (.goto 7, 3) := by decide +kernel
theorem dL_tenant_13 : decode cL_tenant 13 = .ok (.astore 4, 2) := by decide +kernel
theorem dL_tenant_15 : decode cL_tenant 15 = .ok (.iconst 1, 1) := by decide +kernel
theorem dL_tenant_16 : decode cL_tenant 16 = .ok (.ireturn, 1) := by decide +kernel
theorem dL_tenant_17 : decode cL_tenant 17 = .ok (.iconst 0, 1) := by decide +kernel
theorem dL_tenant_18 : decode cL_tenant 18 = .ok (.ireturn, 1) := by decide +kernel
set_option maxHeartbeats 4000000 in
set_option maxRecDepth 100000 in
theorem wL_tenant_ok (l : Launch) (B : jBT) (D : va_G) (ad : Nat → Nat) (cA : Nat → ClassId) (hI : jI ad TC) (hl0 : l.stackTraces = false) (ao : Nat) (cO : ClassId) (hao : ∀ j, j < TC.length → ad j ≠ ao) (S : Nat → Int32) (V : Nat → Nat → Int32) (L : Nat → Int64) (o : Nat → Int64) (a1 : Int32) (a2 : Int32) (r0 : Int32) (h : fX11_tenant_0 S V a1 a2 = some (.inl r0)) : jMo l yL_tenant cL_tenant 5 [(0, 10, 13, 18)] ({ frames := 8, cells := 2, slots := 12, locals := 163 }) B D ad cA ao cO [.ref (ad 0), .int a1, .int a2, .ref ao] S V L o 0 S V L (vp_updL o 0 r0.toInt64) 2 12 := by
  refine jMo_of (by decide) hI hao (Nat.le_of_ble_eq_true rfl) ?_
  intro p e s m args below meth c C hr hlk hx
  refine jo_lv (lv2 := [(0, .ref (ad 0)), (1, .int a1), (2, .int a2), (3, .ref ao)]) rfl ?_
  refine jo_aload_n C 3 rfl dL_tenant_0 rfl ?_
  refine jo_iconst C dL_tenant_1 ci_0 ?_
  refine jo_aload_n C 0 rfl dL_tenant_2 rfl ?_
  refine jo_iload_n C 1 rfl dL_tenant_3 rfl ?_
  refine jo_iload_n C 2 rfl dL_tenant_4 rfl ?_
  refine fun H locs ls hP hS hl => jo_ok C hP hS hl (jx_callV (q := 0) (As := [.int a1, .int a2]) (rest := [.int (0 : Int32), .ref ao]) C.1 (kX11_tenant_0 l B D ad cA hI hl0 S V L a1 a2 (.inl r0) h) mw_X11_tenant wd1078 wd1079 wd1077 tc_0 rfl rfl ⟨rfl, rfl, by decide, by decide⟩ ⟨by decide, by decide⟩ rfl rfl (Nat.le_of_ble_eq_true rfl) dL_tenant_5 (vp_cons.mp hP).2 hS hl) ?_
  refine jo_i2l C dL_tenant_8 ?_
  refine jo_last C dL_tenant_9 ?_
  refine jo_goto (tgt := 17) C dL_tenant_10 (by decide) ?_
  refine jo_iconst C dL_tenant_17 ci_0 ?_
  exact jo_ret C hr hlk rfl (by decide) (by decide) dL_tenant_18
set_option maxHeartbeats 4000000 in
set_option maxRecDepth 100000 in
theorem wL_tenant_ex1 (l : Launch) (B : jBT) (D : va_G) (ad : Nat → Nat) (cA : Nat → ClassId) (hI : jI ad TC) (hl0 : l.stackTraces = false) (ao : Nat) (cO : ClassId) (hao : ∀ j, j < TC.length → ad j ≠ ao) (S : Nat → Int32) (V : Nat → Nat → Int32) (L : Nat → Int64) (o : Nat → Int64) (a1 : Int32) (a2 : Int32) (h : fX11_tenant_0 S V a1 a2 = some (.inr 1)) : jMo l yL_tenant cL_tenant 5 [(0, 10, 13, 18)] ({ frames := 8, cells := 2, slots := 12, locals := 163 }) B D ad cA ao cO [.ref (ad 0), .int a1, .int a2, .ref ao] S V L o 1 S V L o 2 12 := by
  refine jMo_of (by decide) hI hao (Nat.le_of_ble_eq_true rfl) ?_
  intro p e s m args below meth c C hr hlk hx
  refine jo_lv (lv2 := [(0, .ref (ad 0)), (1, .int a1), (2, .int a2), (3, .ref ao)]) rfl ?_
  refine jo_aload_n C 3 rfl dL_tenant_0 rfl ?_
  refine jo_iconst C dL_tenant_1 ci_0 ?_
  refine jo_aload_n C 0 rfl dL_tenant_2 rfl ?_
  refine jo_iload_n C 1 rfl dL_tenant_3 rfl ?_
  refine jo_iload_n C 2 rfl dL_tenant_4 rfl ?_
  refine fun H locs ls hP hS hl => jo_ex C hP hS hl (jx_callV (q := 0) (As := [.int a1, .int a2]) (rest := [.int (0 : Int32), .ref ao]) C.1 (kX11_tenant_0 l B D ad cA hI hl0 S V L a1 a2 (.inr 1) h) mw_X11_tenant wd1078 wd1079 wd1077 tc_0 rfl rfl ⟨rfl, rfl, by decide, by decide⟩ ⟨by decide, by decide⟩ rfl rfl (Nat.le_of_ble_eq_true rfl) dL_tenant_5 (vp_cons.mp hP).2 hS hl) [] ⟨0, 10, 13, 18⟩ [] hx (fun z hz => nomatch hz) (by decide) (by decide) wcl_18 (by decide) (fun q => ?_)
  refine jo_astore C dL_tenant_13 (by decide) (fun lv2 => ?_)
  refine jo_iconst C dL_tenant_15 ci_1 ?_
  exact jo_ret C hr hlk rfl (by decide) (by decide) dL_tenant_16
set_option maxRecDepth 1000000 in
theorem wcw_L_tenant : Cond.codeWith yL_tenant cL_tenant 5 (some .int) [(0, 10, 13, 18)] ∈ bg := bg_in (List.mem_of_getElem? (i := 1076) rfl) rfl
theorem dL_in_0 : decode cL_in 0 = .ok (.aload_n 3, 1) := by decide +kernel
theorem dL_in_1 : decode cL_in 1 = .ok (.iconst 0, 1) := by decide +kernel
theorem dL_in_2 : decode cL_in 2 = .ok (.aload_n 0, 1) := by decide +kernel
theorem dL_in_3 : decode cL_in 3 = .ok (.iload_n 1, 1) := by decide +kernel
theorem dL_in_4 : decode cL_in 4 = .ok (.iload_n 2, 1) := by decide +kernel
theorem dL_in_5 : decode cL_in 5 = .ok (.invokevirtual 24, 3) := by decide +kernel
theorem dL_in_8 : decode cL_in 8 = .ok (.i2l, 1) := by decide +kernel
theorem dL_in_9 : decode cL_in 9 = .ok (.lastore, 1) := by decide +kernel
theorem dL_in_10 : decode cL_in 10 = .ok (.goto 7, 3) := by decide +kernel
theorem dL_in_13 : decode cL_in 13 = .ok (.astore 4, 2) := by decide +kernel
theorem dL_in_15 : decode cL_in 15 = .ok (.iconst 1, 1) := by decide +kernel
theorem dL_in_16 : decode cL_in 16 = .ok (.ireturn, 1) := by decide +kernel
theorem dL_in_17 : decode cL_in 17 = .ok (.iconst 0, 1) := by decide +kernel
theorem dL_in_18 : decode cL_in 18 = .ok (.ireturn, 1) := by decide +kernel
set_option maxHeartbeats 4000000 in
set_option maxRecDepth 100000 in
theorem wL_in_ok (l : Launch) (B : jBT) (D : va_G) (ad : Nat → Nat) (cA : Nat → ClassId) (hI : jI ad TC) (hl0 : l.stackTraces = false) (ao : Nat) (cO : ClassId) (hao : ∀ j, j < TC.length → ad j ≠ ao) (S : Nat → Int32) (V : Nat → Nat → Int32) (L : Nat → Int64) (o : Nat → Int64) (a1 : Int32) (a2 : Int32) (r0 : Int32) (h : fX11_in_0 V a1 a2 = some (.inl r0)) : jMo l yL_in cL_in 5 [(0, 10, 13, 18)] ({ frames := 8, cells := 2, slots := 12, locals := 162 }) B D ad cA ao cO [.ref (ad 0), .int a1, .int a2, .ref ao] S V L o 0 S V L (vp_updL o 0 r0.toInt64) 2 12 := by
  refine jMo_of (by decide) hI hao (Nat.le_of_ble_eq_true rfl) ?_
  intro p e s m args below meth c C hr hlk hx
  refine jo_lv (lv2 := [(0, .ref (ad 0)), (1, .int a1), (2, .int a2), (3, .ref ao)]) rfl ?_
  refine jo_aload_n C 3 rfl dL_in_0 rfl ?_
  refine jo_iconst C dL_in_1 ci_0 ?_
  refine jo_aload_n C 0 rfl dL_in_2 rfl ?_
  refine jo_iload_n C 1 rfl dL_in_3 rfl ?_
  refine jo_iload_n C 2 rfl dL_in_4 rfl ?_
  refine fun H locs ls hP hS hl => jo_ok C hP hS hl (jx_callV (q := 0) (As := [.int a1, .int a2]) (rest := [.int (0 : Int32), .ref ao]) C.1 (kX11_in_0 l B D ad cA hI hl0 S V L a1 a2 (.inl r0) h) mw_X11_in wd1107 wd1108 wd1106 tc_0 rfl rfl ⟨rfl, rfl, by decide, by decide⟩ ⟨by decide, by decide⟩ rfl rfl (Nat.le_of_ble_eq_true rfl) dL_in_5 (vp_cons.mp hP).2 hS hl) ?_
  refine jo_i2l C dL_in_8 ?_
  refine jo_last C dL_in_9 ?_
  refine jo_goto (tgt := 17) C dL_in_10 (by decide) ?_
  refine jo_iconst C dL_in_17 ci_0 ?_
  exact jo_ret C hr hlk rfl (by decide) (by decide) dL_in_18
set_option maxHeartbeats 4000000 in
set_option maxRecDepth 100000 in
theorem wL_in_ex1 (l : Launch) (B : jBT) (D : va_G) (ad : Nat → Nat) (cA : Nat → ClassId) (hI : jI ad TC) (hl0 : l.stackTraces = false) (ao : Nat) (cO : ClassId) (hao : ∀ j, j < TC.length → ad j ≠ ao) (S : Nat → Int32) (V : Nat → Nat → Int32) (L : Nat → Int64) (o : Nat → Int64) (a1 : Int32) (a2 : Int32) (h : fX11_in_0 V a1 a2 = some (.inr 1)) : jMo l yL_in cL_in 5 [(0, 10, 13, 18)] ({ frames := 8, cells := 2, slots := 12, locals := 162 }) B D ad cA ao cO [.ref (ad 0), .int a1, .int a2, .ref ao] S V L o 1 S V L o 2 12 := by
  refine jMo_of (by decide) hI hao (Nat.le_of_ble_eq_true rfl) ?_
  intro p e s m args below meth c C hr hlk hx
  refine jo_lv (lv2 := [(0, .ref (ad 0)), (1, .int a1), (2, .int a2), (3, .ref ao)]) rfl ?_
  refine jo_aload_n C 3 rfl dL_in_0 rfl ?_
  refine jo_iconst C dL_in_1 ci_0 ?_
  refine jo_aload_n C 0 rfl dL_in_2 rfl ?_
  refine jo_iload_n C 1 rfl dL_in_3 rfl ?_
  refine jo_iload_n C 2 rfl dL_in_4 rfl ?_
  refine fun H locs ls hP hS hl => jo_ex C hP hS hl (jx_callV (q := 0) (As := [.int a1, .int a2]) (rest := [.int (0 : Int32), .ref ao]) C.1 (kX11_in_0 l B D ad cA hI hl0 S V L a1 a2 (.inr 1) h) mw_X11_in wd1107 wd1108 wd1106 tc_0 rfl rfl ⟨rfl, rfl, by decide, by decide⟩ ⟨by decide, by decide⟩ rfl rfl (Nat.le_of_ble_eq_true rfl) dL_in_5 (vp_cons.mp hP).2 hS hl) [] ⟨0, 10, 13, 18⟩ [] hx (fun z hz => nomatch hz) (by decide) (by decide) wcl_18 (by decide) (fun q => ?_)
  refine jo_astore C dL_in_13 (by decide) (fun lv2 => ?_)
  refine jo_iconst C dL_in_15 ci_1 ?_
  exact jo_ret C hr hlk rfl (by decide) (by decide) dL_in_16
set_option maxRecDepth 1000000 in
theorem wcw_L_in : Cond.codeWith yL_in cL_in 5 (some .int) [(0, 10, 13, 18)] ∈ bg := bg_in (List.mem_of_getElem? (i := 1105) rfl) rfl
theorem dL_swing_0 : decode cL_swing 0 = .ok (.aload_n 3, 1) := by decide +kernel
theorem dL_swing_1 : decode cL_swing 1 = .ok (.iconst 0, 1) := by decide +kernel
theorem dL_swing_2 : decode cL_swing 2 = .ok (.aload_n 0, 1) := by decide +kernel
theorem dL_swing_3 : decode cL_swing 3 = .ok (.iload_n 1, 1) := by decide +kernel
theorem dL_swing_4 : decode cL_swing 4 = .ok (.iload_n 2, 1) := by decide +kernel
theorem dL_swing_5 : decode cL_swing 5 = .ok (.invokevirtual 27, 3) := by decide +kernel
theorem dL_swing_8 : decode cL_swing 8 = .ok (.i2l, 1) := by decide +kernel
theorem dL_swing_9 : decode cL_swing 9 = .ok (.lastore, 1) := by decide +kernel
theorem dL_swing_10 : decode cL_swing 10 = .ok (.goto 11, 3) := by decide +kernel
theorem dL_swing_13 : decode cL_swing 13 = .ok (.astore 4, 2) := by decide +kernel
theorem dL_swing_15 : decode cL_swing 15 = .ok (.iconst 1, 1) := by decide +kernel
theorem dL_swing_16 : decode cL_swing 16 = .ok (.ireturn, 1) := by decide +kernel
theorem dL_swing_17 : decode cL_swing 17 = .ok (.astore 4, 2) := by decide +kernel
theorem dL_swing_19 : decode cL_swing 19 = .ok (.iconst 2, 1) := by decide +kernel
theorem dL_swing_20 : decode cL_swing 20 = .ok (.ireturn, 1) := by decide +kernel
theorem dL_swing_21 : decode cL_swing 21 = .ok (.iconst 0, 1) := by decide +kernel
theorem dL_swing_22 : decode cL_swing 22 = .ok (.ireturn, 1) := by decide +kernel
set_option maxHeartbeats 4000000 in
set_option maxRecDepth 100000 in
theorem wL_swing_ok (l : Launch) (B : jBT) (D : va_G) (ad : Nat → Nat) (cA : Nat → ClassId) (hI : jI ad TC) (hl0 : l.stackTraces = false) (ao : Nat) (cO : ClassId) (hao : ∀ j, j < TC.length → ad j ≠ ao) (S : Nat → Int32) (V : Nat → Nat → Int32) (L : Nat → Int64) (o : Nat → Int64) (a1 : Int32) (a2 : Int32) (r0 : Int32) (h : fX11_swing_0 S V a1 a2 = some (.inl r0)) : jMo l yL_swing cL_swing 5 [(0, 10, 13, 18), (0, 10, 17, 13)] ({ frames := 8, cells := 3, slots := 18, locals := 162 }) B D ad cA ao cO [.ref (ad 0), .int a1, .int a2, .ref ao] S V L o 0 S V L (vp_updL o 0 r0.toInt64) 3 18 := by
  refine jMo_of (by decide) hI hao (Nat.le_of_ble_eq_true rfl) ?_
  intro p e s m args below meth c C hr hlk hx
  refine jo_lv (lv2 := [(0, .ref (ad 0)), (1, .int a1), (2, .int a2), (3, .ref ao)]) rfl ?_
  refine jo_aload_n C 3 rfl dL_swing_0 rfl ?_
  refine jo_iconst C dL_swing_1 ci_0 ?_
  refine jo_aload_n C 0 rfl dL_swing_2 rfl ?_
  refine jo_iload_n C 1 rfl dL_swing_3 rfl ?_
  refine jo_iload_n C 2 rfl dL_swing_4 rfl ?_
  refine fun H locs ls hP hS hl => jo_ok C hP hS hl (jx_callV (q := 0) (As := [.int a1, .int a2]) (rest := [.int (0 : Int32), .ref ao]) C.1 (kX11_swing_0 l B D ad cA hI hl0 S V L a1 a2 (.inl r0) h) mw_X11_swing wd1120 wd1121 wd1119 tc_0 rfl rfl ⟨rfl, rfl, by decide, by decide⟩ ⟨by decide, by decide⟩ rfl rfl (Nat.le_of_ble_eq_true rfl) dL_swing_5 (vp_cons.mp hP).2 hS hl) ?_
  refine jo_i2l C dL_swing_8 ?_
  refine jo_last C dL_swing_9 ?_
  refine jo_goto (tgt := 21) C dL_swing_10 (by decide) ?_
  refine jo_iconst C dL_swing_21 ci_0 ?_
  exact jo_ret C hr hlk rfl (by decide) (by decide) dL_swing_22
set_option maxHeartbeats 4000000 in
set_option maxRecDepth 100000 in
theorem wL_swing_ex1 (l : Launch) (B : jBT) (D : va_G) (ad : Nat → Nat) (cA : Nat → ClassId) (hI : jI ad TC) (hl0 : l.stackTraces = false) (ao : Nat) (cO : ClassId) (hao : ∀ j, j < TC.length → ad j ≠ ao) (S : Nat → Int32) (V : Nat → Nat → Int32) (L : Nat → Int64) (o : Nat → Int64) (a1 : Int32) (a2 : Int32) (h : fX11_swing_0 S V a1 a2 = some (.inr 1)) : jMo l yL_swing cL_swing 5 [(0, 10, 13, 18), (0, 10, 17, 13)] ({ frames := 8, cells := 3, slots := 18, locals := 162 }) B D ad cA ao cO [.ref (ad 0), .int a1, .int a2, .ref ao] S V L o 1 S V L o 3 18 := by
  refine jMo_of (by decide) hI hao (Nat.le_of_ble_eq_true rfl) ?_
  intro p e s m args below meth c C hr hlk hx
  refine jo_lv (lv2 := [(0, .ref (ad 0)), (1, .int a1), (2, .int a2), (3, .ref ao)]) rfl ?_
  refine jo_aload_n C 3 rfl dL_swing_0 rfl ?_
  refine jo_iconst C dL_swing_1 ci_0 ?_
  refine jo_aload_n C 0 rfl dL_swing_2 rfl ?_
  refine jo_iload_n C 1 rfl dL_swing_3 rfl ?_
  refine jo_iload_n C 2 rfl dL_swing_4 rfl ?_
  refine fun H locs ls hP hS hl => jo_ex C hP hS hl (jx_callV (q := 0) (As := [.int a1, .int a2]) (rest := [.int (0 : Int32), .ref ao]) C.1 (kX11_swing_0 l B D ad cA hI hl0 S V L a1 a2 (.inr 1) h) mw_X11_swing wd1120 wd1121 wd1119 tc_0 rfl rfl ⟨rfl, rfl, by decide, by decide⟩ ⟨by decide, by decide⟩ rfl rfl (Nat.le_of_ble_eq_true rfl) dL_swing_5 (vp_cons.mp hP).2 hS hl) [] ⟨0, 10, 13, 18⟩ [⟨0, 10, 17, 13⟩] hx (fun z hz => nomatch hz) (by decide) (by decide) wcl_18 (by decide) (fun q => ?_)
  refine jo_astore C dL_swing_13 (by decide) (fun lv2 => ?_)
  refine jo_iconst C dL_swing_15 ci_1 ?_
  exact jo_ret C hr hlk rfl (by decide) (by decide) dL_swing_16
set_option maxHeartbeats 4000000 in
set_option maxRecDepth 100000 in
theorem wL_swing_ex0 (l : Launch) (B : jBT) (D : va_G) (ad : Nat → Nat) (cA : Nat → ClassId) (hI : jI ad TC) (hl0 : l.stackTraces = false) (ao : Nat) (cO : ClassId) (hao : ∀ j, j < TC.length → ad j ≠ ao) (S : Nat → Int32) (V : Nat → Nat → Int32) (L : Nat → Int64) (o : Nat → Int64) (a1 : Int32) (a2 : Int32) (h : fX11_swing_0 S V a1 a2 = some (.inr 0)) : jMo l yL_swing cL_swing 5 [(0, 10, 13, 18), (0, 10, 17, 13)] ({ frames := 8, cells := 3, slots := 18, locals := 162 }) B D ad cA ao cO [.ref (ad 0), .int a1, .int a2, .ref ao] S V L o 2 S V L o 3 18 := by
  refine jMo_of (by decide) hI hao (Nat.le_of_ble_eq_true rfl) ?_
  intro p e s m args below meth c C hr hlk hx
  refine jo_lv (lv2 := [(0, .ref (ad 0)), (1, .int a1), (2, .int a2), (3, .ref ao)]) rfl ?_
  refine jo_aload_n C 3 rfl dL_swing_0 rfl ?_
  refine jo_iconst C dL_swing_1 ci_0 ?_
  refine jo_aload_n C 0 rfl dL_swing_2 rfl ?_
  refine jo_iload_n C 1 rfl dL_swing_3 rfl ?_
  refine jo_iload_n C 2 rfl dL_swing_4 rfl ?_
  refine fun H locs ls hP hS hl => jo_ex C hP hS hl (jx_callV (q := 0) (As := [.int a1, .int a2]) (rest := [.int (0 : Int32), .ref ao]) C.1 (kX11_swing_0 l B D ad cA hI hl0 S V L a1 a2 (.inr 0) h) mw_X11_swing wd1120 wd1121 wd1119 tc_0 rfl rfl ⟨rfl, rfl, by decide, by decide⟩ ⟨by decide, by decide⟩ rfl rfl (Nat.le_of_ble_eq_true rfl) dL_swing_5 (vp_cons.mp hP).2 hS hl) [⟨0, 10, 13, 18⟩] ⟨0, 10, 17, 13⟩ [] hx (fun z hz => by rw [List.mem_singleton.mp hz]; exact Or.inr ⟨by decide, _, wcl_18, C.2.2.2.2⟩) (by decide) (by decide) wcl_13 (by decide) (fun q => ?_)
  refine jo_astore C dL_swing_17 (by decide) (fun lv2 => ?_)
  refine jo_iconst C dL_swing_19 ci_2 ?_
  exact jo_ret C hr hlk rfl (by decide) (by decide) dL_swing_20
set_option maxRecDepth 1000000 in
theorem wcw_L_swing : Cond.codeWith yL_swing cL_swing 5 (some .int) [(0, 10, 13, 18), (0, 10, 17, 13)] ∈ bg := bg_in (List.mem_of_getElem? (i := 1118) rfl) rfl
theorem dL_slow_0 : decode cL_slow 0 = .ok (.aload 4, 2) := by decide +kernel
theorem dL_slow_2 : decode cL_slow 2 = .ok (.iconst 0, 1) := by decide +kernel
theorem dL_slow_3 : decode cL_slow 3 = .ok (.aload_n 0, 1) := by decide +kernel
theorem dL_slow_4 : decode cL_slow 4 = .ok (.iload_n 1, 1) := by decide +kernel
theorem dL_slow_5 : decode cL_slow 5 = .ok (.iload_n 2, 1) := by decide +kernel
theorem dL_slow_6 : decode cL_slow 6 = .ok (.iload_n 3, 1) := by decide +kernel
theorem dL_slow_7 : decode cL_slow 7 = .ok (.invokevirtual 30, 3) := by decide +kernel
theorem dL_slow_10 : decode cL_slow 10 = .ok (.i2l, 1) := by decide +kernel
theorem dL_slow_11 : decode cL_slow 11 = .ok (.lastore, 1) := by decide +kernel
theorem dL_slow_12 : decode cL_slow 12 = .ok (.goto 11, 3) := by decide +kernel
theorem dL_slow_15 : decode cL_slow 15 = .ok (.astore 5, 2) := by decide +kernel
theorem dL_slow_17 : decode cL_slow 17 = .ok (.iconst 1, 1) := by decide +kernel
theorem dL_slow_18 : decode cL_slow 18 = .ok (.ireturn, 1) := by decide +kernel
theorem dL_slow_19 : decode cL_slow 19 = .ok (.astore 5, 2) := by decide +kernel
theorem dL_slow_21 : decode cL_slow 21 = .ok (.iconst 2, 1) := by decide +kernel
theorem dL_slow_22 : decode cL_slow 22 = .ok (.ireturn, 1) := by decide +kernel
theorem dL_slow_23 : decode cL_slow 23 = .ok (.iconst 0, 1) := by decide +kernel
theorem dL_slow_24 : decode cL_slow 24 = .ok (.ireturn, 1) := by decide +kernel
set_option maxHeartbeats 4000000 in
set_option maxRecDepth 100000 in
theorem wL_slow_ok (l : Launch) (B : jBT) (D : va_G) (ad : Nat → Nat) (cA : Nat → ClassId) (hI : jI ad TC) (hl0 : l.stackTraces = false) (ao : Nat) (cO : ClassId) (hao : ∀ j, j < TC.length → ad j ≠ ao) (S : Nat → Int32) (V : Nat → Nat → Int32) (L : Nat → Int64) (o : Nat → Int64) (a1 : Int32) (a2 : Int32) (a3 : Int32) (r0 : Int32) (h : fX11_slow_0 S V a1 a2 a3 = some (.inl r0)) : jMo l yL_slow cL_slow 6 [(0, 12, 15, 18), (0, 12, 19, 13)] ({ frames := 8, cells := 4, slots := 24, locals := 163 }) B D ad cA ao cO [.ref (ad 0), .int a1, .int a2, .int a3, .ref ao] S V L o 0 S V L (vp_updL o 0 r0.toInt64) 4 24 := by
  refine jMo_of (by decide) hI hao (Nat.le_of_ble_eq_true rfl) ?_
  intro p e s m args below meth c C hr hlk hx
  refine jo_lv (lv2 := [(0, .ref (ad 0)), (1, .int a1), (2, .int a2), (3, .int a3), (4, .ref ao)]) rfl ?_
  refine jo_aload C 4 rfl dL_slow_0 ?_
  refine jo_iconst C dL_slow_2 ci_0 ?_
  refine jo_aload_n C 0 rfl dL_slow_3 rfl ?_
  refine jo_iload_n C 1 rfl dL_slow_4 rfl ?_
  refine jo_iload_n C 2 rfl dL_slow_5 rfl ?_
  refine jo_iload_n C 3 rfl dL_slow_6 rfl ?_
  refine fun H locs ls hP hS hl => jo_ok C hP hS hl (jx_callV (q := 0) (As := [.int a1, .int a2, .int a3]) (rest := [.int (0 : Int32), .ref ao]) C.1 (kX11_slow_0 l B D ad cA hI hl0 S V L a1 a2 a3 (.inl r0) h) mw_X11_slow wd1151 wd1152 wd1150 tc_0 rfl rfl ⟨rfl, rfl, by decide, by decide⟩ ⟨by decide, by decide⟩ rfl rfl (Nat.le_of_ble_eq_true rfl) dL_slow_7 (vp_cons.mp hP).2 hS hl) ?_
  refine jo_i2l C dL_slow_10 ?_
  refine jo_last C dL_slow_11 ?_
  refine jo_goto (tgt := 23) C dL_slow_12 (by decide) ?_
  refine jo_iconst C dL_slow_23 ci_0 ?_
  exact jo_ret C hr hlk rfl (by decide) (by decide) dL_slow_24
set_option maxHeartbeats 4000000 in
set_option maxRecDepth 100000 in
theorem wL_slow_ex1 (l : Launch) (B : jBT) (D : va_G) (ad : Nat → Nat) (cA : Nat → ClassId) (hI : jI ad TC) (hl0 : l.stackTraces = false) (ao : Nat) (cO : ClassId) (hao : ∀ j, j < TC.length → ad j ≠ ao) (S : Nat → Int32) (V : Nat → Nat → Int32) (L : Nat → Int64) (o : Nat → Int64) (a1 : Int32) (a2 : Int32) (a3 : Int32) (h : fX11_slow_0 S V a1 a2 a3 = some (.inr 1)) : jMo l yL_slow cL_slow 6 [(0, 12, 15, 18), (0, 12, 19, 13)] ({ frames := 8, cells := 4, slots := 24, locals := 163 }) B D ad cA ao cO [.ref (ad 0), .int a1, .int a2, .int a3, .ref ao] S V L o 1 S V L o 4 24 := by
  refine jMo_of (by decide) hI hao (Nat.le_of_ble_eq_true rfl) ?_
  intro p e s m args below meth c C hr hlk hx
  refine jo_lv (lv2 := [(0, .ref (ad 0)), (1, .int a1), (2, .int a2), (3, .int a3), (4, .ref ao)]) rfl ?_
  refine jo_aload C 4 rfl dL_slow_0 ?_
  refine jo_iconst C dL_slow_2 ci_0 ?_
  refine jo_aload_n C 0 rfl dL_slow_3 rfl ?_
  refine jo_iload_n C 1 rfl dL_slow_4 rfl ?_
  refine jo_iload_n C 2 rfl dL_slow_5 rfl ?_
  refine jo_iload_n C 3 rfl dL_slow_6 rfl ?_
  refine fun H locs ls hP hS hl => jo_ex C hP hS hl (jx_callV (q := 0) (As := [.int a1, .int a2, .int a3]) (rest := [.int (0 : Int32), .ref ao]) C.1 (kX11_slow_0 l B D ad cA hI hl0 S V L a1 a2 a3 (.inr 1) h) mw_X11_slow wd1151 wd1152 wd1150 tc_0 rfl rfl ⟨rfl, rfl, by decide, by decide⟩ ⟨by decide, by decide⟩ rfl rfl (Nat.le_of_ble_eq_true rfl) dL_slow_7 (vp_cons.mp hP).2 hS hl) [] ⟨0, 12, 15, 18⟩ [⟨0, 12, 19, 13⟩] hx (fun z hz => nomatch hz) (by decide) (by decide) wcl_18 (by decide) (fun q => ?_)
  refine jo_astore C dL_slow_15 (by decide) (fun lv2 => ?_)
  refine jo_iconst C dL_slow_17 ci_1 ?_
  exact jo_ret C hr hlk rfl (by decide) (by decide) dL_slow_18
set_option maxHeartbeats 4000000 in
set_option maxRecDepth 100000 in
theorem wL_slow_ex0 (l : Launch) (B : jBT) (D : va_G) (ad : Nat → Nat) (cA : Nat → ClassId) (hI : jI ad TC) (hl0 : l.stackTraces = false) (ao : Nat) (cO : ClassId) (hao : ∀ j, j < TC.length → ad j ≠ ao) (S : Nat → Int32) (V : Nat → Nat → Int32) (L : Nat → Int64) (o : Nat → Int64) (a1 : Int32) (a2 : Int32) (a3 : Int32) (h : fX11_slow_0 S V a1 a2 a3 = some (.inr 0)) : jMo l yL_slow cL_slow 6 [(0, 12, 15, 18), (0, 12, 19, 13)] ({ frames := 8, cells := 4, slots := 24, locals := 163 }) B D ad cA ao cO [.ref (ad 0), .int a1, .int a2, .int a3, .ref ao] S V L o 2 S V L o 4 24 := by
  refine jMo_of (by decide) hI hao (Nat.le_of_ble_eq_true rfl) ?_
  intro p e s m args below meth c C hr hlk hx
  refine jo_lv (lv2 := [(0, .ref (ad 0)), (1, .int a1), (2, .int a2), (3, .int a3), (4, .ref ao)]) rfl ?_
  refine jo_aload C 4 rfl dL_slow_0 ?_
  refine jo_iconst C dL_slow_2 ci_0 ?_
  refine jo_aload_n C 0 rfl dL_slow_3 rfl ?_
  refine jo_iload_n C 1 rfl dL_slow_4 rfl ?_
  refine jo_iload_n C 2 rfl dL_slow_5 rfl ?_
  refine jo_iload_n C 3 rfl dL_slow_6 rfl ?_
  refine fun H locs ls hP hS hl => jo_ex C hP hS hl (jx_callV (q := 0) (As := [.int a1, .int a2, .int a3]) (rest := [.int (0 : Int32), .ref ao]) C.1 (kX11_slow_0 l B D ad cA hI hl0 S V L a1 a2 a3 (.inr 0) h) mw_X11_slow wd1151 wd1152 wd1150 tc_0 rfl rfl ⟨rfl, rfl, by decide, by decide⟩ ⟨by decide, by decide⟩ rfl rfl (Nat.le_of_ble_eq_true rfl) dL_slow_7 (vp_cons.mp hP).2 hS hl) [⟨0, 12, 15, 18⟩] ⟨0, 12, 19, 13⟩ [] hx (fun z hz => by rw [List.mem_singleton.mp hz]; exact Or.inr ⟨by decide, _, wcl_18, C.2.2.2.2⟩) (by decide) (by decide) wcl_13 (by decide) (fun q => ?_)
  refine jo_astore C dL_slow_19 (by decide) (fun lv2 => ?_)
  refine jo_iconst C dL_slow_21 ci_2 ?_
  exact jo_ret C hr hlk rfl (by decide) (by decide) dL_slow_22
set_option maxRecDepth 1000000 in
theorem wcw_L_slow : Cond.codeWith yL_slow cL_slow 6 (some .int) [(0, 12, 15, 18), (0, 12, 19, 13)] ∈ bg := bg_in (List.mem_of_getElem? (i := 1149) rfl) rfl
theorem dL_slowBy_0 : decode cL_slowBy 0 = .ok (.aload_n 3, 1) := by decide +kernel
theorem dL_slowBy_1 : decode cL_slowBy 1 = .ok (.iconst 0, 1) := by decide +kernel
theorem dL_slowBy_2 : decode cL_slowBy 2 = .ok (.aload_n 0, 1) := by decide +kernel
theorem dL_slowBy_3 : decode cL_slowBy 3 = .ok (.iload_n 1, 1) := by decide +kernel
theorem dL_slowBy_4 : decode cL_slowBy 4 = .ok (.iload_n 2, 1) := by decide +kernel
theorem dL_slowBy_5 : decode cL_slowBy 5 = .ok (.invokevirtual 34, 3) := by decide +kernel
theorem dL_slowBy_8 : decode cL_slowBy 8 = .ok (.i2l, 1) := by decide +kernel
theorem dL_slowBy_9 : decode cL_slowBy 9 = .ok (.lastore, 1) := by decide +kernel
theorem dL_slowBy_10 : decode cL_slowBy 10 = .ok (.goto 11, 3) := by decide +kernel
theorem dL_slowBy_13 : decode cL_slowBy 13 = .ok (.astore 4, 2) := by decide +kernel
theorem dL_slowBy_15 : decode cL_slowBy 15 = .ok (.iconst 1, 1) := by decide +kernel
theorem dL_slowBy_16 : decode cL_slowBy 16 = .ok (.ireturn, 1) := by decide +kernel
theorem dL_slowBy_17 : decode cL_slowBy 17 = .ok (.astore 4, 2) := by decide +kernel
theorem dL_slowBy_19 : decode cL_slowBy 19 = .ok (.iconst 2, 1) := by decide +kernel
theorem dL_slowBy_20 : decode cL_slowBy 20 = .ok (.ireturn, 1) := by decide +kernel
theorem dL_slowBy_21 : decode cL_slowBy 21 = .ok (.iconst 0, 1) := by decide +kernel
theorem dL_slowBy_22 : decode cL_slowBy 22 = .ok (.ireturn, 1) := by decide +kernel
set_option maxHeartbeats 4000000 in
set_option maxRecDepth 100000 in
theorem wL_slowBy_ok (l : Launch) (B : jBT) (D : va_G) (ad : Nat → Nat) (cA : Nat → ClassId) (hI : jI ad TC) (hl0 : l.stackTraces = false) (ao : Nat) (cO : ClassId) (hao : ∀ j, j < TC.length → ad j ≠ ao) (S : Nat → Int32) (V : Nat → Nat → Int32) (L : Nat → Int64) (o : Nat → Int64) (a1 : Int32) (a2 : Int32) (r0 : Int32) (h : fX11_slowBy_0 S V a1 a2 = some (.inl r0)) : jMo l yL_slowBy cL_slowBy 5 [(0, 10, 13, 18), (0, 10, 17, 13)] ({ frames := 8, cells := 3, slots := 18, locals := 164 }) B D ad cA ao cO [.ref (ad 0), .int a1, .int a2, .ref ao] S V L o 0 S V L (vp_updL o 0 r0.toInt64) 3 18 := by
  refine jMo_of (by decide) hI hao (Nat.le_of_ble_eq_true rfl) ?_
  intro p e s m args below meth c C hr hlk hx
  refine jo_lv (lv2 := [(0, .ref (ad 0)), (1, .int a1), (2, .int a2), (3, .ref ao)]) rfl ?_
  refine jo_aload_n C 3 rfl dL_slowBy_0 rfl ?_
  refine jo_iconst C dL_slowBy_1 ci_0 ?_
  refine jo_aload_n C 0 rfl dL_slowBy_2 rfl ?_
  refine jo_iload_n C 1 rfl dL_slowBy_3 rfl ?_
  refine jo_iload_n C 2 rfl dL_slowBy_4 rfl ?_
  refine fun H locs ls hP hS hl => jo_ok C hP hS hl (jx_callV (q := 0) (As := [.int a1, .int a2]) (rest := [.int (0 : Int32), .ref ao]) C.1 (kX11_slowBy_0 l B D ad cA hI hl0 S V L a1 a2 (.inl r0) h) mw_X11_slowBy wd1164 wd1165 wd1163 tc_0 rfl rfl ⟨rfl, rfl, by decide, by decide⟩ ⟨by decide, by decide⟩ rfl rfl (Nat.le_of_ble_eq_true rfl) dL_slowBy_5 (vp_cons.mp hP).2 hS hl) ?_
  refine jo_i2l C dL_slowBy_8 ?_
  refine jo_last C dL_slowBy_9 ?_
  refine jo_goto (tgt := 21) C dL_slowBy_10 (by decide) ?_
  refine jo_iconst C dL_slowBy_21 ci_0 ?_
  exact jo_ret C hr hlk rfl (by decide) (by decide) dL_slowBy_22
set_option maxHeartbeats 4000000 in
set_option maxRecDepth 100000 in
theorem wL_slowBy_ex1 (l : Launch) (B : jBT) (D : va_G) (ad : Nat → Nat) (cA : Nat → ClassId) (hI : jI ad TC) (hl0 : l.stackTraces = false) (ao : Nat) (cO : ClassId) (hao : ∀ j, j < TC.length → ad j ≠ ao) (S : Nat → Int32) (V : Nat → Nat → Int32) (L : Nat → Int64) (o : Nat → Int64) (a1 : Int32) (a2 : Int32) (h : fX11_slowBy_0 S V a1 a2 = some (.inr 1)) : jMo l yL_slowBy cL_slowBy 5 [(0, 10, 13, 18), (0, 10, 17, 13)] ({ frames := 8, cells := 3, slots := 18, locals := 164 }) B D ad cA ao cO [.ref (ad 0), .int a1, .int a2, .ref ao] S V L o 1 S V L o 3 18 := by
  refine jMo_of (by decide) hI hao (Nat.le_of_ble_eq_true rfl) ?_
  intro p e s m args below meth c C hr hlk hx
  refine jo_lv (lv2 := [(0, .ref (ad 0)), (1, .int a1), (2, .int a2), (3, .ref ao)]) rfl ?_
  refine jo_aload_n C 3 rfl dL_slowBy_0 rfl ?_
  refine jo_iconst C dL_slowBy_1 ci_0 ?_
  refine jo_aload_n C 0 rfl dL_slowBy_2 rfl ?_
  refine jo_iload_n C 1 rfl dL_slowBy_3 rfl ?_
  refine jo_iload_n C 2 rfl dL_slowBy_4 rfl ?_
  refine fun H locs ls hP hS hl => jo_ex C hP hS hl (jx_callV (q := 0) (As := [.int a1, .int a2]) (rest := [.int (0 : Int32), .ref ao]) C.1 (kX11_slowBy_0 l B D ad cA hI hl0 S V L a1 a2 (.inr 1) h) mw_X11_slowBy wd1164 wd1165 wd1163 tc_0 rfl rfl ⟨rfl, rfl, by decide, by decide⟩ ⟨by decide, by decide⟩ rfl rfl (Nat.le_of_ble_eq_true rfl) dL_slowBy_5 (vp_cons.mp hP).2 hS hl) [] ⟨0, 10, 13, 18⟩ [⟨0, 10, 17, 13⟩] hx (fun z hz => nomatch hz) (by decide) (by decide) wcl_18 (by decide) (fun q => ?_)
  refine jo_astore C dL_slowBy_13 (by decide) (fun lv2 => ?_)
  refine jo_iconst C dL_slowBy_15 ci_1 ?_
  exact jo_ret C hr hlk rfl (by decide) (by decide) dL_slowBy_16
set_option maxHeartbeats 4000000 in
set_option maxRecDepth 100000 in
theorem wL_slowBy_ex0 (l : Launch) (B : jBT) (D : va_G) (ad : Nat → Nat) (cA : Nat → ClassId) (hI : jI ad TC) (hl0 : l.stackTraces = false) (ao : Nat) (cO : ClassId) (hao : ∀ j, j < TC.length → ad j ≠ ao) (S : Nat → Int32) (V : Nat → Nat → Int32) (L : Nat → Int64) (o : Nat → Int64) (a1 : Int32) (a2 : Int32) (h : fX11_slowBy_0 S V a1 a2 = some (.inr 0)) : jMo l yL_slowBy cL_slowBy 5 [(0, 10, 13, 18), (0, 10, 17, 13)] ({ frames := 8, cells := 3, slots := 18, locals := 164 }) B D ad cA ao cO [.ref (ad 0), .int a1, .int a2, .ref ao] S V L o 2 S V L o 3 18 := by
  refine jMo_of (by decide) hI hao (Nat.le_of_ble_eq_true rfl) ?_
  intro p e s m args below meth c C hr hlk hx
  refine jo_lv (lv2 := [(0, .ref (ad 0)), (1, .int a1), (2, .int a2), (3, .ref ao)]) rfl ?_
  refine jo_aload_n C 3 rfl dL_slowBy_0 rfl ?_
  refine jo_iconst C dL_slowBy_1 ci_0 ?_
  refine jo_aload_n C 0 rfl dL_slowBy_2 rfl ?_
  refine jo_iload_n C 1 rfl dL_slowBy_3 rfl ?_
  refine jo_iload_n C 2 rfl dL_slowBy_4 rfl ?_
  refine fun H locs ls hP hS hl => jo_ex C hP hS hl (jx_callV (q := 0) (As := [.int a1, .int a2]) (rest := [.int (0 : Int32), .ref ao]) C.1 (kX11_slowBy_0 l B D ad cA hI hl0 S V L a1 a2 (.inr 0) h) mw_X11_slowBy wd1164 wd1165 wd1163 tc_0 rfl rfl ⟨rfl, rfl, by decide, by decide⟩ ⟨by decide, by decide⟩ rfl rfl (Nat.le_of_ble_eq_true rfl) dL_slowBy_5 (vp_cons.mp hP).2 hS hl) [⟨0, 10, 13, 18⟩] ⟨0, 10, 17, 13⟩ [] hx (fun z hz => by rw [List.mem_singleton.mp hz]; exact Or.inr ⟨by decide, _, wcl_18, C.2.2.2.2⟩) (by decide) (by decide) wcl_13 (by decide) (fun q => ?_)
  refine jo_astore C dL_slowBy_17 (by decide) (fun lv2 => ?_)
  refine jo_iconst C dL_slowBy_19 ci_2 ?_
  exact jo_ret C hr hlk rfl (by decide) (by decide) dL_slowBy_20
set_option maxRecDepth 1000000 in
theorem wcw_L_slowBy : Cond.codeWith yL_slowBy cL_slowBy 5 (some .int) [(0, 10, 13, 18), (0, 10, 17, 13)] ∈ bg := bg_in (List.mem_of_getElem? (i := 1162) rfl) rfl
theorem dL_house4_0 : decode cL_house4 0 = .ok (.aload_n 3, 1) := by decide +kernel
theorem dL_house4_1 : decode cL_house4 1 = .ok (.iconst 0, 1) := by decide +kernel
theorem dL_house4_2 : decode cL_house4 2 = .ok (.aload_n 0, 1) := by decide +kernel
theorem dL_house4_3 : decode cL_house4 3 = .ok (.iload_n 1, 1) := by decide +kernel
theorem dL_house4_4 : decode cL_house4 4 = .ok (.iload_n 2, 1) := by decide +kernel
theorem dL_house4_5 : decode cL_house4 5 = .ok (.invokevirtual 37, 3) := by decide +kernel
theorem dL_house4_8 : decode cL_house4 8 = .ok (.i2l, 1) := by decide +kernel
theorem dL_house4_9 : decode cL_house4 9 = .ok (.lastore, 1) := by decide +kernel
theorem dL_house4_10 : decode cL_house4 10 = .ok (.goto 7, 3) := by decide +kernel
theorem dL_house4_13 : decode cL_house4 13 = .ok (.astore 4, 2) := by decide +kernel
theorem dL_house4_15 : decode cL_house4 15 = .ok (.iconst 1, 1) := by decide +kernel
theorem dL_house4_16 : decode cL_house4 16 = .ok (.ireturn, 1) := by decide +kernel
theorem dL_house4_17 : decode cL_house4 17 = .ok (.iconst 0, 1) := by decide +kernel
theorem dL_house4_18 : decode cL_house4 18 = .ok (.ireturn, 1) := by decide +kernel
set_option maxHeartbeats 4000000 in
set_option maxRecDepth 100000 in
theorem wL_house4_ok (l : Launch) (B : jBT) (D : va_G) (ad : Nat → Nat) (cA : Nat → ClassId) (hI : jI ad TC) (hl0 : l.stackTraces = false) (ao : Nat) (cO : ClassId) (hao : ∀ j, j < TC.length → ad j ≠ ao) (S : Nat → Int32) (V : Nat → Nat → Int32) (L : Nat → Int64) (o : Nat → Int64) (a1 : Int32) (a2 : Int32) (r0 : Int32) (S0 : Nat → Int32) (V0 : Nat → Nat → Int32) (h : fX11_house4_0 S V a1 a2 = some (.inl (r0, S0, V0))) : jMo l yL_house4 cL_house4 5 [(0, 10, 13, 13)] ({ frames := 13, cells := 3, slots := 18, locals := 338 }) B D ad cA ao cO [.ref (ad 0), .int a1, .int a2, .ref ao] S V L o 0 S0 V0 L (vp_updL o 0 r0.toInt64) 3 18 := by
  refine jMo_of (by decide) hI hao (Nat.le_of_ble_eq_true rfl) ?_
  intro p e s m args below meth c C hr hlk hx
  refine jo_lv (lv2 := [(0, .ref (ad 0)), (1, .int a1), (2, .int a2), (3, .ref ao)]) rfl ?_
  refine jo_aload_n C 3 rfl dL_house4_0 rfl ?_
  refine jo_iconst C dL_house4_1 ci_0 ?_
  refine jo_aload_n C 0 rfl dL_house4_2 rfl ?_
  refine jo_iload_n C 1 rfl dL_house4_3 rfl ?_
  refine jo_iload_n C 2 rfl dL_house4_4 rfl ?_
  refine fun H locs ls hP hS hl => jo_ok C hP hS hl (jx_callV (q := 0) (As := [.int a1, .int a2]) (rest := [.int (0 : Int32), .ref ao]) C.1 (kX11_house4_0 l B D ad cA hI hl0 S V L a1 a2 (.inl (r0, S0, V0)) h) mw_X11_house4 wd1176 wd1177 wd1175 tc_0 rfl rfl ⟨rfl, rfl, by decide, by decide⟩ ⟨by decide, by decide⟩ rfl rfl (Nat.le_of_ble_eq_true rfl) dL_house4_5 (vp_cons.mp hP).2 hS hl) ?_
  refine jo_i2l C dL_house4_8 ?_
  refine jo_last C dL_house4_9 ?_
  refine jo_goto (tgt := 17) C dL_house4_10 (by decide) ?_
  refine jo_iconst C dL_house4_17 ci_0 ?_
  exact jo_ret C hr hlk rfl (by decide) (by decide) dL_house4_18
set_option maxHeartbeats 4000000 in
set_option maxRecDepth 100000 in
theorem wL_house4_ex0 (l : Launch) (B : jBT) (D : va_G) (ad : Nat → Nat) (cA : Nat → ClassId) (hI : jI ad TC) (hl0 : l.stackTraces = false) (ao : Nat) (cO : ClassId) (hao : ∀ j, j < TC.length → ad j ≠ ao) (S : Nat → Int32) (V : Nat → Nat → Int32) (L : Nat → Int64) (o : Nat → Int64) (a1 : Int32) (a2 : Int32) (h : fX11_house4_0 S V a1 a2 = some (.inr 0)) : jMo l yL_house4 cL_house4 5 [(0, 10, 13, 13)] ({ frames := 13, cells := 3, slots := 18, locals := 338 }) B D ad cA ao cO [.ref (ad 0), .int a1, .int a2, .ref ao] S V L o 1 S V L o 3 18 := by
  refine jMo_of (by decide) hI hao (Nat.le_of_ble_eq_true rfl) ?_
  intro p e s m args below meth c C hr hlk hx
  refine jo_lv (lv2 := [(0, .ref (ad 0)), (1, .int a1), (2, .int a2), (3, .ref ao)]) rfl ?_
  refine jo_aload_n C 3 rfl dL_house4_0 rfl ?_
  refine jo_iconst C dL_house4_1 ci_0 ?_
  refine jo_aload_n C 0 rfl dL_house4_2 rfl ?_
  refine jo_iload_n C 1 rfl dL_house4_3 rfl ?_
  refine jo_iload_n C 2 rfl dL_house4_4 rfl ?_
  refine fun H locs ls hP hS hl => jo_ex C hP hS hl (jx_callV (q := 0) (As := [.int a1, .int a2]) (rest := [.int (0 : Int32), .ref ao]) C.1 (kX11_house4_0 l B D ad cA hI hl0 S V L a1 a2 (.inr 0) h) mw_X11_house4 wd1176 wd1177 wd1175 tc_0 rfl rfl ⟨rfl, rfl, by decide, by decide⟩ ⟨by decide, by decide⟩ rfl rfl (Nat.le_of_ble_eq_true rfl) dL_house4_5 (vp_cons.mp hP).2 hS hl) [] ⟨0, 10, 13, 13⟩ [] hx (fun z hz => nomatch hz) (by decide) (by decide) wcl_13 (by decide) (fun q => ?_)
  refine jo_astore C dL_house4_13 (by decide) (fun lv2 => ?_)
  refine jo_iconst C dL_house4_15 ci_1 ?_
  exact jo_ret C hr hlk rfl (by decide) (by decide) dL_house4_16
set_option maxRecDepth 1000000 in
theorem wcw_L_house4 : Cond.codeWith yL_house4 cL_house4 5 (some .int) [(0, 10, 13, 13)] ∈ bg := bg_in (List.mem_of_getElem? (i := 1174) rfl) rfl
theorem dL_housed_0 : decode cL_housed 0 = .ok (.aload_n 2, 1) := by decide +kernel
theorem dL_housed_1 : decode cL_housed 1 = .ok (.iconst 0, 1) := by decide +kernel
theorem dL_housed_2 : decode cL_housed 2 = .ok (.aload_n 0, 1) := by decide +kernel
theorem dL_housed_3 : decode cL_housed 3 = .ok (.iload_n 1, 1) := by decide +kernel
theorem dL_housed_4 : decode cL_housed 4 = .ok (.invokevirtual 40, 3) := by decide +kernel
theorem dL_housed_7 : decode cL_housed 7 = .ok (.i2l, 1) := by decide +kernel
theorem dL_housed_8 : decode cL_housed 8 = .ok (.lastore, 1) := by decide +kernel
theorem dL_housed_9 : decode cL_housed 9 = .ok (.goto 6, 3) := by decide +kernel
theorem dL_housed_12 : decode cL_housed 12 = .ok (.astore_n 3, 1) := by decide +kernel
theorem dL_housed_13 : decode cL_housed 13 = .ok (.iconst 1, 1) := by decide +kernel
theorem dL_housed_14 : decode cL_housed 14 = .ok (.ireturn, 1) := by decide +kernel
theorem dL_housed_15 : decode cL_housed 15 = .ok (.iconst 0, 1) := by decide +kernel
theorem dL_housed_16 : decode cL_housed 16 = .ok (.ireturn, 1) := by decide +kernel
set_option maxHeartbeats 4000000 in
set_option maxRecDepth 100000 in
theorem wL_housed_ok (l : Launch) (B : jBT) (D : va_G) (ad : Nat → Nat) (cA : Nat → ClassId) (hI : jI ad TC) (hl0 : l.stackTraces = false) (ao : Nat) (cO : ClassId) (hao : ∀ j, j < TC.length → ad j ≠ ao) (S : Nat → Int32) (V : Nat → Nat → Int32) (L : Nat → Int64) (o : Nat → Int64) (a1 : Int32) (r0 : Int32) (h : fX11_housed_0 S V a1 = some (.inl r0)) : jMo l yL_housed cL_housed 4 [(0, 9, 12, 18)] ({ frames := 8, cells := 2, slots := 12, locals := 162 }) B D ad cA ao cO [.ref (ad 0), .int a1, .ref ao] S V L o 0 S V L (vp_updL o 0 r0.toInt64) 2 12 := by
  refine jMo_of (by decide) hI hao (Nat.le_of_ble_eq_true rfl) ?_
  intro p e s m args below meth c C hr hlk hx
  refine jo_lv (lv2 := [(0, .ref (ad 0)), (1, .int a1), (2, .ref ao)]) rfl ?_
  refine jo_aload_n C 2 rfl dL_housed_0 rfl ?_
  refine jo_iconst C dL_housed_1 ci_0 ?_
  refine jo_aload_n C 0 rfl dL_housed_2 rfl ?_
  refine jo_iload_n C 1 rfl dL_housed_3 rfl ?_
  refine fun H locs ls hP hS hl => jo_ok C hP hS hl (jx_callV (q := 0) (As := [.int a1]) (rest := [.int (0 : Int32), .ref ao]) C.1 (kX11_housed_0 l B D ad cA hI hl0 S V L a1 (.inl r0) h) mw_X11_housed wd1246 wd1247 wd1245 tc_0 rfl rfl ⟨rfl, rfl, by decide, by decide⟩ ⟨by decide, by decide⟩ rfl rfl (Nat.le_of_ble_eq_true rfl) dL_housed_4 (vp_cons.mp hP).2 hS hl) ?_
  refine jo_i2l C dL_housed_7 ?_
  refine jo_last C dL_housed_8 ?_
  refine jo_goto (tgt := 15) C dL_housed_9 (by decide) ?_
  refine jo_iconst C dL_housed_15 ci_0 ?_
  exact jo_ret C hr hlk rfl (by decide) (by decide) dL_housed_16
set_option maxHeartbeats 4000000 in
set_option maxRecDepth 100000 in
theorem wL_housed_ex1 (l : Launch) (B : jBT) (D : va_G) (ad : Nat → Nat) (cA : Nat → ClassId) (hI : jI ad TC) (hl0 : l.stackTraces = false) (ao : Nat) (cO : ClassId) (hao : ∀ j, j < TC.length → ad j ≠ ao) (S : Nat → Int32) (V : Nat → Nat → Int32) (L : Nat → Int64) (o : Nat → Int64) (a1 : Int32) (h : fX11_housed_0 S V a1 = some (.inr 1)) : jMo l yL_housed cL_housed 4 [(0, 9, 12, 18)] ({ frames := 8, cells := 2, slots := 12, locals := 162 }) B D ad cA ao cO [.ref (ad 0), .int a1, .ref ao] S V L o 1 S V L o 2 12 := by
  refine jMo_of (by decide) hI hao (Nat.le_of_ble_eq_true rfl) ?_
  intro p e s m args below meth c C hr hlk hx
  refine jo_lv (lv2 := [(0, .ref (ad 0)), (1, .int a1), (2, .ref ao)]) rfl ?_
  refine jo_aload_n C 2 rfl dL_housed_0 rfl ?_
  refine jo_iconst C dL_housed_1 ci_0 ?_
  refine jo_aload_n C 0 rfl dL_housed_2 rfl ?_
  refine jo_iload_n C 1 rfl dL_housed_3 rfl ?_
  refine fun H locs ls hP hS hl => jo_ex C hP hS hl (jx_callV (q := 0) (As := [.int a1]) (rest := [.int (0 : Int32), .ref ao]) C.1 (kX11_housed_0 l B D ad cA hI hl0 S V L a1 (.inr 1) h) mw_X11_housed wd1246 wd1247 wd1245 tc_0 rfl rfl ⟨rfl, rfl, by decide, by decide⟩ ⟨by decide, by decide⟩ rfl rfl (Nat.le_of_ble_eq_true rfl) dL_housed_4 (vp_cons.mp hP).2 hS hl) [] ⟨0, 9, 12, 18⟩ [] hx (fun z hz => nomatch hz) (by decide) (by decide) wcl_18 (by decide) (fun q => ?_)
  refine jo_astore_n C dL_housed_12 rfl (by decide) (fun lv2 => ?_)
  refine jo_iconst C dL_housed_13 ci_1 ?_
  exact jo_ret C hr hlk rfl (by decide) (by decide) dL_housed_14
set_option maxRecDepth 1000000 in
theorem wcw_L_housed : Cond.codeWith yL_housed cL_housed 4 (some .int) [(0, 9, 12, 18)] ∈ bg := bg_in (List.mem_of_getElem? (i := 1244) rfl) rfl
theorem dL_cuckoo_0 : decode cL_cuckoo 0 = .ok (.aload_n 3, 1) := by decide +kernel
theorem dL_cuckoo_1 : decode cL_cuckoo 1 = .ok (.iconst 0, 1) := by decide +kernel
theorem dL_cuckoo_2 : decode cL_cuckoo 2 = .ok (.aload_n 0, 1) := by decide +kernel
theorem dL_cuckoo_3 : decode cL_cuckoo 3 = .ok (.iload_n 1, 1) := by decide +kernel
theorem dL_cuckoo_4 : decode cL_cuckoo 4 = .ok (.iload_n 2, 1) := by decide +kernel
theorem dL_cuckoo_5 : decode cL_cuckoo 5 = .ok (.invokevirtual 43, 3) := by decide +kernel
theorem dL_cuckoo_8 : decode cL_cuckoo 8 = .ok (.i2l, 1) := by decide +kernel
theorem dL_cuckoo_9 : decode cL_cuckoo 9 = .ok (.lastore, 1) := by decide +kernel
theorem dL_cuckoo_10 : decode cL_cuckoo 10 = .ok (.goto 7, 3) := by decide +kernel
theorem dL_cuckoo_13 : decode cL_cuckoo 13 = .ok (.astore 4, 2) := by decide +kernel
theorem dL_cuckoo_15 : decode cL_cuckoo 15 = .ok (.iconst 1, 1) := by decide +kernel
theorem dL_cuckoo_16 : decode cL_cuckoo 16 = .ok (.ireturn, 1) := by decide +kernel
theorem dL_cuckoo_17 : decode cL_cuckoo 17 = .ok (.iconst 0, 1) := by decide +kernel
theorem dL_cuckoo_18 : decode cL_cuckoo 18 = .ok (.ireturn, 1) := by decide +kernel
set_option maxHeartbeats 4000000 in
set_option maxRecDepth 100000 in
theorem wL_cuckoo_ok (l : Launch) (B : jBT) (D : va_G) (ad : Nat → Nat) (cA : Nat → ClassId) (hI : jI ad TC) (hl0 : l.stackTraces = false) (ao : Nat) (cO : ClassId) (hao : ∀ j, j < TC.length → ad j ≠ ao) (S : Nat → Int32) (V : Nat → Nat → Int32) (L : Nat → Int64) (o : Nat → Int64) (a1 : Int32) (a2 : Int32) (r0 : Int32) (S0 : Nat → Int32) (h : fX11_cuckoo_0 S V a1 a2 = some (.inl (r0, S0))) : jMo l yL_cuckoo cL_cuckoo 5 [(0, 10, 13, 18)] ({ frames := 7, cells := 1, slots := 6, locals := 161 }) B D ad cA ao cO [.ref (ad 0), .int a1, .int a2, .ref ao] S V L o 0 S0 V L (vp_updL o 0 r0.toInt64) 1 6 := by
  refine jMo_of (by decide) hI hao (Nat.le_of_ble_eq_true rfl) ?_
  intro p e s m args below meth c C hr hlk hx
  refine jo_lv (lv2 := [(0, .ref (ad 0)), (1, .int a1), (2, .int a2), (3, .ref ao)]) rfl ?_
  refine jo_aload_n C 3 rfl dL_cuckoo_0 rfl ?_
  refine jo_iconst C dL_cuckoo_1 ci_0 ?_
  refine jo_aload_n C 0 rfl dL_cuckoo_2 rfl ?_
  refine jo_iload_n C 1 rfl dL_cuckoo_3 rfl ?_
  refine jo_iload_n C 2 rfl dL_cuckoo_4 rfl ?_
  refine fun H locs ls hP hS hl => jo_ok C hP hS hl (jx_callV (q := 0) (As := [.int a1, .int a2]) (rest := [.int (0 : Int32), .ref ao]) C.1 (kX11_cuckoo_0 l B D ad cA hI hl0 S V L a1 a2 (.inl (r0, S0)) h) mw_X11_cuckoo wd1254 wd1255 wd1253 tc_0 rfl rfl ⟨rfl, rfl, by decide, by decide⟩ ⟨by decide, by decide⟩ rfl rfl (Nat.le_of_ble_eq_true rfl) dL_cuckoo_5 (vp_cons.mp hP).2 hS hl) ?_
  refine jo_i2l C dL_cuckoo_8 ?_
  refine jo_last C dL_cuckoo_9 ?_
  refine jo_goto (tgt := 17) C dL_cuckoo_10 (by decide) ?_
  refine jo_iconst C dL_cuckoo_17 ci_0 ?_
  exact jo_ret C hr hlk rfl (by decide) (by decide) dL_cuckoo_18
set_option maxHeartbeats 4000000 in
set_option maxRecDepth 100000 in
theorem wL_cuckoo_ex1 (l : Launch) (B : jBT) (D : va_G) (ad : Nat → Nat) (cA : Nat → ClassId) (hI : jI ad TC) (hl0 : l.stackTraces = false) (ao : Nat) (cO : ClassId) (hao : ∀ j, j < TC.length → ad j ≠ ao) (S : Nat → Int32) (V : Nat → Nat → Int32) (L : Nat → Int64) (o : Nat → Int64) (a1 : Int32) (a2 : Int32) (h : fX11_cuckoo_0 S V a1 a2 = some (.inr 1)) : jMo l yL_cuckoo cL_cuckoo 5 [(0, 10, 13, 18)] ({ frames := 7, cells := 1, slots := 6, locals := 161 }) B D ad cA ao cO [.ref (ad 0), .int a1, .int a2, .ref ao] S V L o 1 S V L o 1 6 := by
  refine jMo_of (by decide) hI hao (Nat.le_of_ble_eq_true rfl) ?_
  intro p e s m args below meth c C hr hlk hx
  refine jo_lv (lv2 := [(0, .ref (ad 0)), (1, .int a1), (2, .int a2), (3, .ref ao)]) rfl ?_
  refine jo_aload_n C 3 rfl dL_cuckoo_0 rfl ?_
  refine jo_iconst C dL_cuckoo_1 ci_0 ?_
  refine jo_aload_n C 0 rfl dL_cuckoo_2 rfl ?_
  refine jo_iload_n C 1 rfl dL_cuckoo_3 rfl ?_
  refine jo_iload_n C 2 rfl dL_cuckoo_4 rfl ?_
  refine fun H locs ls hP hS hl => jo_ex C hP hS hl (jx_callV (q := 0) (As := [.int a1, .int a2]) (rest := [.int (0 : Int32), .ref ao]) C.1 (kX11_cuckoo_0 l B D ad cA hI hl0 S V L a1 a2 (.inr 1) h) mw_X11_cuckoo wd1254 wd1255 wd1253 tc_0 rfl rfl ⟨rfl, rfl, by decide, by decide⟩ ⟨by decide, by decide⟩ rfl rfl (Nat.le_of_ble_eq_true rfl) dL_cuckoo_5 (vp_cons.mp hP).2 hS hl) [] ⟨0, 10, 13, 18⟩ [] hx (fun z hz => nomatch hz) (by decide) (by decide) wcl_18 (by decide) (fun q => ?_)
  refine jo_astore C dL_cuckoo_13 (by decide) (fun lv2 => ?_)
  refine jo_iconst C dL_cuckoo_15 ci_1 ?_
  exact jo_ret C hr hlk rfl (by decide) (by decide) dL_cuckoo_16
set_option maxRecDepth 1000000 in
theorem wcw_L_cuckoo : Cond.codeWith yL_cuckoo cL_cuckoo 5 (some .int) [(0, 10, 13, 18)] ∈ bg := bg_in (List.mem_of_getElem? (i := 1252) rfl) rfl
theorem dL_visits_0 : decode cL_visits 0 = .ok (.aload_n 3, 1) := by decide +kernel
theorem dL_visits_1 : decode cL_visits 1 = .ok (.iconst 0, 1) := by decide +kernel
theorem dL_visits_2 : decode cL_visits 2 = .ok (.aload_n 0, 1) := by decide +kernel
theorem dL_visits_3 : decode cL_visits 3 = .ok (.iload_n 1, 1) := by decide +kernel
theorem dL_visits_4 : decode cL_visits 4 = .ok (.iload_n 2, 1) := by decide +kernel
theorem dL_visits_5 : decode cL_visits 5 = .ok (.invokevirtual 46, 3) := by decide +kernel
theorem dL_visits_8 : decode cL_visits 8 = .ok (.i2l, 1) := by decide +kernel
theorem dL_visits_9 : decode cL_visits 9 = .ok (.lastore, 1) := by decide +kernel
theorem dL_visits_10 : decode cL_visits 10 = .ok (.goto 11, 3) := by decide +kernel
theorem dL_visits_13 : decode cL_visits 13 = .ok (.astore 4, 2) := by decide +kernel
theorem dL_visits_15 : decode cL_visits 15 = .ok (.iconst 1, 1) := by decide +kernel
theorem dL_visits_16 : decode cL_visits 16 = .ok (.ireturn, 1) := by decide +kernel
theorem dL_visits_17 : decode cL_visits 17 = .ok (.astore 4, 2) := by decide +kernel
theorem dL_visits_19 : decode cL_visits 19 = .ok (.iconst 2, 1) := by decide +kernel
theorem dL_visits_20 : decode cL_visits 20 = .ok (.ireturn, 1) := by decide +kernel
theorem dL_visits_21 : decode cL_visits 21 = .ok (.iconst 0, 1) := by decide +kernel
theorem dL_visits_22 : decode cL_visits 22 = .ok (.ireturn, 1) := by decide +kernel
set_option maxHeartbeats 4000000 in
set_option maxRecDepth 100000 in
theorem wL_visits_ok (l : Launch) (B : jBT) (D : va_G) (ad : Nat → Nat) (cA : Nat → ClassId) (hI : jI ad TC) (hl0 : l.stackTraces = false) (ao : Nat) (cO : ClassId) (hao : ∀ j, j < TC.length → ad j ≠ ao) (S : Nat → Int32) (V : Nat → Nat → Int32) (L : Nat → Int64) (o : Nat → Int64) (a1 : Int32) (a2 : Int32) (r0 : Int32) (S0 : Nat → Int32) (V0 : Nat → Nat → Int32) (h : fX11_visits_0 S V a1 a2 = some (.inl (r0, S0, V0))) : jMo l yL_visits cL_visits 5 [(0, 10, 13, 18), (0, 10, 17, 13)] ({ frames := 8, cells := 3, slots := 18, locals := 163 }) B D ad cA ao cO [.ref (ad 0), .int a1, .int a2, .ref ao] S V L o 0 S0 V0 L (vp_updL o 0 r0.toInt64) 3 18 := by
  refine jMo_of (by decide) hI hao (Nat.le_of_ble_eq_true rfl) ?_
  intro p e s m args below meth c C hr hlk hx
  refine jo_lv (lv2 := [(0, .ref (ad 0)), (1, .int a1), (2, .int a2), (3, .ref ao)]) rfl ?_
  refine jo_aload_n C 3 rfl dL_visits_0 rfl ?_
  refine jo_iconst C dL_visits_1 ci_0 ?_
  refine jo_aload_n C 0 rfl dL_visits_2 rfl ?_
  refine jo_iload_n C 1 rfl dL_visits_3 rfl ?_
  refine jo_iload_n C 2 rfl dL_visits_4 rfl ?_
  refine fun H locs ls hP hS hl => jo_ok C hP hS hl (jx_callV (q := 0) (As := [.int a1, .int a2]) (rest := [.int (0 : Int32), .ref ao]) C.1 (kX11_visits_0 l B D ad cA hI hl0 S V L a1 a2 (.inl (r0, S0, V0)) h) mw_X11_visits wd1284 wd1285 wd1283 tc_0 rfl rfl ⟨rfl, rfl, by decide, by decide⟩ ⟨by decide, by decide⟩ rfl rfl (Nat.le_of_ble_eq_true rfl) dL_visits_5 (vp_cons.mp hP).2 hS hl) ?_
  refine jo_i2l C dL_visits_8 ?_
  refine jo_last C dL_visits_9 ?_
  refine jo_goto (tgt := 21) C dL_visits_10 (by decide) ?_
  refine jo_iconst C dL_visits_21 ci_0 ?_
  exact jo_ret C hr hlk rfl (by decide) (by decide) dL_visits_22
set_option maxHeartbeats 4000000 in
set_option maxRecDepth 100000 in
theorem wL_visits_ex1 (l : Launch) (B : jBT) (D : va_G) (ad : Nat → Nat) (cA : Nat → ClassId) (hI : jI ad TC) (hl0 : l.stackTraces = false) (ao : Nat) (cO : ClassId) (hao : ∀ j, j < TC.length → ad j ≠ ao) (S : Nat → Int32) (V : Nat → Nat → Int32) (L : Nat → Int64) (o : Nat → Int64) (a1 : Int32) (a2 : Int32) (h : fX11_visits_0 S V a1 a2 = some (.inr 1)) : jMo l yL_visits cL_visits 5 [(0, 10, 13, 18), (0, 10, 17, 13)] ({ frames := 8, cells := 3, slots := 18, locals := 163 }) B D ad cA ao cO [.ref (ad 0), .int a1, .int a2, .ref ao] S V L o 1 S V L o 3 18 := by
  refine jMo_of (by decide) hI hao (Nat.le_of_ble_eq_true rfl) ?_
  intro p e s m args below meth c C hr hlk hx
  refine jo_lv (lv2 := [(0, .ref (ad 0)), (1, .int a1), (2, .int a2), (3, .ref ao)]) rfl ?_
  refine jo_aload_n C 3 rfl dL_visits_0 rfl ?_
  refine jo_iconst C dL_visits_1 ci_0 ?_
  refine jo_aload_n C 0 rfl dL_visits_2 rfl ?_
  refine jo_iload_n C 1 rfl dL_visits_3 rfl ?_
  refine jo_iload_n C 2 rfl dL_visits_4 rfl ?_
  refine fun H locs ls hP hS hl => jo_ex C hP hS hl (jx_callV (q := 0) (As := [.int a1, .int a2]) (rest := [.int (0 : Int32), .ref ao]) C.1 (kX11_visits_0 l B D ad cA hI hl0 S V L a1 a2 (.inr 1) h) mw_X11_visits wd1284 wd1285 wd1283 tc_0 rfl rfl ⟨rfl, rfl, by decide, by decide⟩ ⟨by decide, by decide⟩ rfl rfl (Nat.le_of_ble_eq_true rfl) dL_visits_5 (vp_cons.mp hP).2 hS hl) [] ⟨0, 10, 13, 18⟩ [⟨0, 10, 17, 13⟩] hx (fun z hz => nomatch hz) (by decide) (by decide) wcl_18 (by decide) (fun q => ?_)
  refine jo_astore C dL_visits_13 (by decide) (fun lv2 => ?_)
  refine jo_iconst C dL_visits_15 ci_1 ?_
  exact jo_ret C hr hlk rfl (by decide) (by decide) dL_visits_16
set_option maxHeartbeats 4000000 in
set_option maxRecDepth 100000 in
theorem wL_visits_ex0 (l : Launch) (B : jBT) (D : va_G) (ad : Nat → Nat) (cA : Nat → ClassId) (hI : jI ad TC) (hl0 : l.stackTraces = false) (ao : Nat) (cO : ClassId) (hao : ∀ j, j < TC.length → ad j ≠ ao) (S : Nat → Int32) (V : Nat → Nat → Int32) (L : Nat → Int64) (o : Nat → Int64) (a1 : Int32) (a2 : Int32) (h : fX11_visits_0 S V a1 a2 = some (.inr 0)) : jMo l yL_visits cL_visits 5 [(0, 10, 13, 18), (0, 10, 17, 13)] ({ frames := 8, cells := 3, slots := 18, locals := 163 }) B D ad cA ao cO [.ref (ad 0), .int a1, .int a2, .ref ao] S V L o 2 S V L o 3 18 := by
  refine jMo_of (by decide) hI hao (Nat.le_of_ble_eq_true rfl) ?_
  intro p e s m args below meth c C hr hlk hx
  refine jo_lv (lv2 := [(0, .ref (ad 0)), (1, .int a1), (2, .int a2), (3, .ref ao)]) rfl ?_
  refine jo_aload_n C 3 rfl dL_visits_0 rfl ?_
  refine jo_iconst C dL_visits_1 ci_0 ?_
  refine jo_aload_n C 0 rfl dL_visits_2 rfl ?_
  refine jo_iload_n C 1 rfl dL_visits_3 rfl ?_
  refine jo_iload_n C 2 rfl dL_visits_4 rfl ?_
  refine fun H locs ls hP hS hl => jo_ex C hP hS hl (jx_callV (q := 0) (As := [.int a1, .int a2]) (rest := [.int (0 : Int32), .ref ao]) C.1 (kX11_visits_0 l B D ad cA hI hl0 S V L a1 a2 (.inr 0) h) mw_X11_visits wd1284 wd1285 wd1283 tc_0 rfl rfl ⟨rfl, rfl, by decide, by decide⟩ ⟨by decide, by decide⟩ rfl rfl (Nat.le_of_ble_eq_true rfl) dL_visits_5 (vp_cons.mp hP).2 hS hl) [⟨0, 10, 13, 18⟩] ⟨0, 10, 17, 13⟩ [] hx (fun z hz => by rw [List.mem_singleton.mp hz]; exact Or.inr ⟨by decide, _, wcl_18, C.2.2.2.2⟩) (by decide) (by decide) wcl_13 (by decide) (fun q => ?_)
  refine jo_astore C dL_visits_17 (by decide) (fun lv2 => ?_)
  refine jo_iconst C dL_visits_19 ci_2 ?_
  exact jo_ret C hr hlk rfl (by decide) (by decide) dL_visits_20
set_option maxRecDepth 1000000 in
theorem wcw_L_visits : Cond.codeWith yL_visits cL_visits 5 (some .int) [(0, 10, 13, 18), (0, 10, 17, 13)] ∈ bg := bg_in (List.mem_of_getElem? (i := 1282) rfl) rfl
theorem dL_visit_0 : decode cL_visit 0 = .ok (.aload_n 2, 1) := by decide +kernel
theorem dL_visit_1 : decode cL_visit 1 = .ok (.iconst 0, 1) := by decide +kernel
theorem dL_visit_2 : decode cL_visit 2 = .ok (.aload_n 0, 1) := by decide +kernel
theorem dL_visit_3 : decode cL_visit 3 = .ok (.iload_n 1, 1) := by decide +kernel
theorem dL_visit_4 : decode cL_visit 4 = .ok (.invokevirtual 49, 3) := by decide +kernel
theorem dL_visit_7 : decode cL_visit 7 = .ok (.i2l, 1) := by decide +kernel
theorem dL_visit_8 : decode cL_visit 8 = .ok (.lastore, 1) := by decide +kernel
theorem dL_visit_9 : decode cL_visit 9 = .ok (.goto 6, 3) := by decide +kernel
theorem dL_visit_12 : decode cL_visit 12 = .ok (.astore_n 3, 1) := by decide +kernel
theorem dL_visit_13 : decode cL_visit 13 = .ok (.iconst 1, 1) := by decide +kernel
theorem dL_visit_14 : decode cL_visit 14 = .ok (.ireturn, 1) := by decide +kernel
theorem dL_visit_15 : decode cL_visit 15 = .ok (.iconst 0, 1) := by decide +kernel
theorem dL_visit_16 : decode cL_visit 16 = .ok (.ireturn, 1) := by decide +kernel
set_option maxHeartbeats 4000000 in
set_option maxRecDepth 100000 in
theorem wL_visit_ok (l : Launch) (B : jBT) (D : va_G) (ad : Nat → Nat) (cA : Nat → ClassId) (hI : jI ad TC) (hl0 : l.stackTraces = false) (ao : Nat) (cO : ClassId) (hao : ∀ j, j < TC.length → ad j ≠ ao) (S : Nat → Int32) (V : Nat → Nat → Int32) (L : Nat → Int64) (o : Nat → Int64) (a1 : Int32) (r0 : Int32) (h : fX11_visit_0 S V a1 = some (.inl r0)) : jMo l yL_visit cL_visit 4 [(0, 9, 12, 18)] ({ frames := 8, cells := 2, slots := 12, locals := 162 }) B D ad cA ao cO [.ref (ad 0), .int a1, .ref ao] S V L o 0 S V L (vp_updL o 0 r0.toInt64) 2 12 := by
  refine jMo_of (by decide) hI hao (Nat.le_of_ble_eq_true rfl) ?_
  intro p e s m args below meth c C hr hlk hx
  refine jo_lv (lv2 := [(0, .ref (ad 0)), (1, .int a1), (2, .ref ao)]) rfl ?_
  refine jo_aload_n C 2 rfl dL_visit_0 rfl ?_
  refine jo_iconst C dL_visit_1 ci_0 ?_
  refine jo_aload_n C 0 rfl dL_visit_2 rfl ?_
  refine jo_iload_n C 1 rfl dL_visit_3 rfl ?_
  refine fun H locs ls hP hS hl => jo_ok C hP hS hl (jx_callV (q := 0) (As := [.int a1]) (rest := [.int (0 : Int32), .ref ao]) C.1 (kX11_visit_0 l B D ad cA hI hl0 S V L a1 (.inl r0) h) mw_X11_visit wd1315 wd1316 wd1314 tc_0 rfl rfl ⟨rfl, rfl, by decide, by decide⟩ ⟨by decide, by decide⟩ rfl rfl (Nat.le_of_ble_eq_true rfl) dL_visit_4 (vp_cons.mp hP).2 hS hl) ?_
  refine jo_i2l C dL_visit_7 ?_
  refine jo_last C dL_visit_8 ?_
  refine jo_goto (tgt := 15) C dL_visit_9 (by decide) ?_
  refine jo_iconst C dL_visit_15 ci_0 ?_
  exact jo_ret C hr hlk rfl (by decide) (by decide) dL_visit_16
set_option maxHeartbeats 4000000 in
set_option maxRecDepth 100000 in
theorem wL_visit_ex1 (l : Launch) (B : jBT) (D : va_G) (ad : Nat → Nat) (cA : Nat → ClassId) (hI : jI ad TC) (hl0 : l.stackTraces = false) (ao : Nat) (cO : ClassId) (hao : ∀ j, j < TC.length → ad j ≠ ao) (S : Nat → Int32) (V : Nat → Nat → Int32) (L : Nat → Int64) (o : Nat → Int64) (a1 : Int32) (h : fX11_visit_0 S V a1 = some (.inr 1)) : jMo l yL_visit cL_visit 4 [(0, 9, 12, 18)] ({ frames := 8, cells := 2, slots := 12, locals := 162 }) B D ad cA ao cO [.ref (ad 0), .int a1, .ref ao] S V L o 1 S V L o 2 12 := by
  refine jMo_of (by decide) hI hao (Nat.le_of_ble_eq_true rfl) ?_
  intro p e s m args below meth c C hr hlk hx
  refine jo_lv (lv2 := [(0, .ref (ad 0)), (1, .int a1), (2, .ref ao)]) rfl ?_
  refine jo_aload_n C 2 rfl dL_visit_0 rfl ?_
  refine jo_iconst C dL_visit_1 ci_0 ?_
  refine jo_aload_n C 0 rfl dL_visit_2 rfl ?_
  refine jo_iload_n C 1 rfl dL_visit_3 rfl ?_
  refine fun H locs ls hP hS hl => jo_ex C hP hS hl (jx_callV (q := 0) (As := [.int a1]) (rest := [.int (0 : Int32), .ref ao]) C.1 (kX11_visit_0 l B D ad cA hI hl0 S V L a1 (.inr 1) h) mw_X11_visit wd1315 wd1316 wd1314 tc_0 rfl rfl ⟨rfl, rfl, by decide, by decide⟩ ⟨by decide, by decide⟩ rfl rfl (Nat.le_of_ble_eq_true rfl) dL_visit_4 (vp_cons.mp hP).2 hS hl) [] ⟨0, 9, 12, 18⟩ [] hx (fun z hz => nomatch hz) (by decide) (by decide) wcl_18 (by decide) (fun q => ?_)
  refine jo_astore_n C dL_visit_12 rfl (by decide) (fun lv2 => ?_)
  refine jo_iconst C dL_visit_13 ci_1 ?_
  exact jo_ret C hr hlk rfl (by decide) (by decide) dL_visit_14
set_option maxRecDepth 1000000 in
theorem wcw_L_visit : Cond.codeWith yL_visit cL_visit 4 (some .int) [(0, 9, 12, 18)] ∈ bg := bg_in (List.mem_of_getElem? (i := 1313) rfl) rfl
theorem dL_rent_0 : decode cL_rent 0 = .ok (.aload_n 2, 1) := by decide +kernel
theorem dL_rent_1 : decode cL_rent 1 = .ok (.iconst 0, 1) := by decide +kernel
theorem dL_rent_2 : decode cL_rent 2 = .ok (.aload_n 0, 1) := by decide +kernel
theorem dL_rent_3 : decode cL_rent 3 = .ok (.iload_n 1, 1) := by decide +kernel
theorem dL_rent_4 : decode cL_rent 4 = .ok (.invokevirtual 52, 3) := by decide +kernel
theorem dL_rent_7 : decode cL_rent 7 = .ok (.i2l, 1) := by decide +kernel
theorem dL_rent_8 : decode cL_rent 8 = .ok (.lastore, 1) := by decide +kernel
theorem dL_rent_9 : decode cL_rent 9 = .ok (.goto 6, 3) := by decide +kernel
theorem dL_rent_12 : decode cL_rent 12 = .ok (.astore_n 3, 1) := by decide +kernel
theorem dL_rent_13 : decode cL_rent 13 = .ok (.iconst 1, 1) := by decide +kernel
theorem dL_rent_14 : decode cL_rent 14 = .ok (.ireturn, 1) := by decide +kernel
theorem dL_rent_15 : decode cL_rent 15 = .ok (.iconst 0, 1) := by decide +kernel
theorem dL_rent_16 : decode cL_rent 16 = .ok (.ireturn, 1) := by decide +kernel
set_option maxHeartbeats 4000000 in
set_option maxRecDepth 100000 in
theorem wL_rent_ok (l : Launch) (B : jBT) (D : va_G) (ad : Nat → Nat) (cA : Nat → ClassId) (hI : jI ad TC) (hl0 : l.stackTraces = false) (ao : Nat) (cO : ClassId) (hao : ∀ j, j < TC.length → ad j ≠ ao) (S : Nat → Int32) (V : Nat → Nat → Int32) (L : Nat → Int64) (o : Nat → Int64) (a1 : Int32) (r0 : Int32) (h : fX11_rent_0 S V a1 = some (.inl r0)) : jMo l yL_rent cL_rent 4 [(0, 9, 12, 18)] ({ frames := 8, cells := 2, slots := 12, locals := 162 }) B D ad cA ao cO [.ref (ad 0), .int a1, .ref ao] S V L o 0 S V L (vp_updL o 0 r0.toInt64) 2 12 := by
  refine jMo_of (by decide) hI hao (Nat.le_of_ble_eq_true rfl) ?_
  intro p e s m args below meth c C hr hlk hx
  refine jo_lv (lv2 := [(0, .ref (ad 0)), (1, .int a1), (2, .ref ao)]) rfl ?_
  refine jo_aload_n C 2 rfl dL_rent_0 rfl ?_
  refine jo_iconst C dL_rent_1 ci_0 ?_
  refine jo_aload_n C 0 rfl dL_rent_2 rfl ?_
  refine jo_iload_n C 1 rfl dL_rent_3 rfl ?_
  refine fun H locs ls hP hS hl => jo_ok C hP hS hl (jx_callV (q := 0) (As := [.int a1]) (rest := [.int (0 : Int32), .ref ao]) C.1 (kX11_rent_0 l B D ad cA hI hl0 S V L a1 (.inl r0) h) mw_X11_rent wd1323 wd1324 wd1322 tc_0 rfl rfl ⟨rfl, rfl, by decide, by decide⟩ ⟨by decide, by decide⟩ rfl rfl (Nat.le_of_ble_eq_true rfl) dL_rent_4 (vp_cons.mp hP).2 hS hl) ?_
  refine jo_i2l C dL_rent_7 ?_
  refine jo_last C dL_rent_8 ?_
  refine jo_goto (tgt := 15) C dL_rent_9 (by decide) ?_
  refine jo_iconst C dL_rent_15 ci_0 ?_
  exact jo_ret C hr hlk rfl (by decide) (by decide) dL_rent_16
set_option maxHeartbeats 4000000 in
set_option maxRecDepth 100000 in
theorem wL_rent_ex1 (l : Launch) (B : jBT) (D : va_G) (ad : Nat → Nat) (cA : Nat → ClassId) (hI : jI ad TC) (hl0 : l.stackTraces = false) (ao : Nat) (cO : ClassId) (hao : ∀ j, j < TC.length → ad j ≠ ao) (S : Nat → Int32) (V : Nat → Nat → Int32) (L : Nat → Int64) (o : Nat → Int64) (a1 : Int32) (h : fX11_rent_0 S V a1 = some (.inr 1)) : jMo l yL_rent cL_rent 4 [(0, 9, 12, 18)] ({ frames := 8, cells := 2, slots := 12, locals := 162 }) B D ad cA ao cO [.ref (ad 0), .int a1, .ref ao] S V L o 1 S V L o 2 12 := by
  refine jMo_of (by decide) hI hao (Nat.le_of_ble_eq_true rfl) ?_
  intro p e s m args below meth c C hr hlk hx
  refine jo_lv (lv2 := [(0, .ref (ad 0)), (1, .int a1), (2, .ref ao)]) rfl ?_
  refine jo_aload_n C 2 rfl dL_rent_0 rfl ?_
  refine jo_iconst C dL_rent_1 ci_0 ?_
  refine jo_aload_n C 0 rfl dL_rent_2 rfl ?_
  refine jo_iload_n C 1 rfl dL_rent_3 rfl ?_
  refine fun H locs ls hP hS hl => jo_ex C hP hS hl (jx_callV (q := 0) (As := [.int a1]) (rest := [.int (0 : Int32), .ref ao]) C.1 (kX11_rent_0 l B D ad cA hI hl0 S V L a1 (.inr 1) h) mw_X11_rent wd1323 wd1324 wd1322 tc_0 rfl rfl ⟨rfl, rfl, by decide, by decide⟩ ⟨by decide, by decide⟩ rfl rfl (Nat.le_of_ble_eq_true rfl) dL_rent_4 (vp_cons.mp hP).2 hS hl) [] ⟨0, 9, 12, 18⟩ [] hx (fun z hz => nomatch hz) (by decide) (by decide) wcl_18 (by decide) (fun q => ?_)
  refine jo_astore_n C dL_rent_12 rfl (by decide) (fun lv2 => ?_)
  refine jo_iconst C dL_rent_13 ci_1 ?_
  exact jo_ret C hr hlk rfl (by decide) (by decide) dL_rent_14
set_option maxRecDepth 1000000 in
theorem wcw_L_rent : Cond.codeWith yL_rent cL_rent 4 (some .int) [(0, 9, 12, 18)] ∈ bg := bg_in (List.mem_of_getElem? (i := 1321) rfl) rfl
theorem dL_shared_0 : decode cL_shared 0 = .ok (.aload_n 3, 1) := by decide +kernel
theorem dL_shared_1 : decode cL_shared 1 = .ok (.iconst 0, 1) := by decide +kernel
theorem dL_shared_2 : decode cL_shared 2 = .ok (.aload_n 0, 1) := by decide +kernel
theorem dL_shared_3 : decode cL_shared 3 = .ok (.iload_n 1, 1) := by decide +kernel
theorem dL_shared_4 : decode cL_shared 4 = .ok (.iload_n 2, 1) := by decide +kernel
theorem dL_shared_5 : decode cL_shared 5 = .ok (.invokevirtual 55, 3) := by decide +kernel
theorem dL_shared_8 : decode cL_shared 8 = .ok (.i2l, 1) := by decide +kernel
theorem dL_shared_9 : decode cL_shared 9 = .ok (.lastore, 1) := by decide +kernel
theorem dL_shared_10 : decode cL_shared 10 = .ok (.goto 11, 3) := by decide +kernel
theorem dL_shared_13 : decode cL_shared 13 = .ok (.astore 4, 2) := by decide +kernel
theorem dL_shared_15 : decode cL_shared 15 = .ok (.iconst 1, 1) := by decide +kernel
theorem dL_shared_16 : decode cL_shared 16 = .ok (.ireturn, 1) := by decide +kernel
theorem dL_shared_17 : decode cL_shared 17 = .ok (.astore 4, 2) := by decide +kernel
theorem dL_shared_19 : decode cL_shared 19 = .ok (.iconst 2, 1) := by decide +kernel
theorem dL_shared_20 : decode cL_shared 20 = .ok (.ireturn, 1) := by decide +kernel
theorem dL_shared_21 : decode cL_shared 21 = .ok (.iconst 0, 1) := by decide +kernel
theorem dL_shared_22 : decode cL_shared 22 = .ok (.ireturn, 1) := by decide +kernel
set_option maxHeartbeats 4000000 in
set_option maxRecDepth 100000 in
theorem wL_shared_ok (l : Launch) (B : jBT) (D : va_G) (ad : Nat → Nat) (cA : Nat → ClassId) (hI : jI ad TC) (hl0 : l.stackTraces = false) (ao : Nat) (cO : ClassId) (hao : ∀ j, j < TC.length → ad j ≠ ao) (S : Nat → Int32) (V : Nat → Nat → Int32) (L : Nat → Int64) (o : Nat → Int64) (a1 : Int32) (a2 : Int32) (r0 : Int32) (h : fX11_shared_0 S V a1 a2 = some (.inl r0)) : jMo l yL_shared cL_shared 5 [(0, 10, 13, 18), (0, 10, 17, 13)] ({ frames := 8, cells := 2, slots := 12, locals := 163 }) B D ad cA ao cO [.ref (ad 0), .int a1, .int a2, .ref ao] S V L o 0 S V L (vp_updL o 0 r0.toInt64) 2 12 := by
  refine jMo_of (by decide) hI hao (Nat.le_of_ble_eq_true rfl) ?_
  intro p e s m args below meth c C hr hlk hx
  refine jo_lv (lv2 := [(0, .ref (ad 0)), (1, .int a1), (2, .int a2), (3, .ref ao)]) rfl ?_
  refine jo_aload_n C 3 rfl dL_shared_0 rfl ?_
  refine jo_iconst C dL_shared_1 ci_0 ?_
  refine jo_aload_n C 0 rfl dL_shared_2 rfl ?_
  refine jo_iload_n C 1 rfl dL_shared_3 rfl ?_
  refine jo_iload_n C 2 rfl dL_shared_4 rfl ?_
  refine fun H locs ls hP hS hl => jo_ok C hP hS hl (jx_callV (q := 0) (As := [.int a1, .int a2]) (rest := [.int (0 : Int32), .ref ao]) C.1 (kX11_shared_0 l B D ad cA hI hl0 S V L a1 a2 (.inl r0) h) mw_X11_shared wd1335 wd1336 wd1334 tc_0 rfl rfl ⟨rfl, rfl, by decide, by decide⟩ ⟨by decide, by decide⟩ rfl rfl (Nat.le_of_ble_eq_true rfl) dL_shared_5 (vp_cons.mp hP).2 hS hl) ?_
  refine jo_i2l C dL_shared_8 ?_
  refine jo_last C dL_shared_9 ?_
  refine jo_goto (tgt := 21) C dL_shared_10 (by decide) ?_
  refine jo_iconst C dL_shared_21 ci_0 ?_
  exact jo_ret C hr hlk rfl (by decide) (by decide) dL_shared_22
set_option maxHeartbeats 4000000 in
set_option maxRecDepth 100000 in
theorem wL_shared_ex1 (l : Launch) (B : jBT) (D : va_G) (ad : Nat → Nat) (cA : Nat → ClassId) (hI : jI ad TC) (hl0 : l.stackTraces = false) (ao : Nat) (cO : ClassId) (hao : ∀ j, j < TC.length → ad j ≠ ao) (S : Nat → Int32) (V : Nat → Nat → Int32) (L : Nat → Int64) (o : Nat → Int64) (a1 : Int32) (a2 : Int32) (h : fX11_shared_0 S V a1 a2 = some (.inr 1)) : jMo l yL_shared cL_shared 5 [(0, 10, 13, 18), (0, 10, 17, 13)] ({ frames := 8, cells := 2, slots := 12, locals := 163 }) B D ad cA ao cO [.ref (ad 0), .int a1, .int a2, .ref ao] S V L o 1 S V L o 2 12 := by
  refine jMo_of (by decide) hI hao (Nat.le_of_ble_eq_true rfl) ?_
  intro p e s m args below meth c C hr hlk hx
  refine jo_lv (lv2 := [(0, .ref (ad 0)), (1, .int a1), (2, .int a2), (3, .ref ao)]) rfl ?_
  refine jo_aload_n C 3 rfl dL_shared_0 rfl ?_
  refine jo_iconst C dL_shared_1 ci_0 ?_
  refine jo_aload_n C 0 rfl dL_shared_2 rfl ?_
  refine jo_iload_n C 1 rfl dL_shared_3 rfl ?_
  refine jo_iload_n C 2 rfl dL_shared_4 rfl ?_
  refine fun H locs ls hP hS hl => jo_ex C hP hS hl (jx_callV (q := 0) (As := [.int a1, .int a2]) (rest := [.int (0 : Int32), .ref ao]) C.1 (kX11_shared_0 l B D ad cA hI hl0 S V L a1 a2 (.inr 1) h) mw_X11_shared wd1335 wd1336 wd1334 tc_0 rfl rfl ⟨rfl, rfl, by decide, by decide⟩ ⟨by decide, by decide⟩ rfl rfl (Nat.le_of_ble_eq_true rfl) dL_shared_5 (vp_cons.mp hP).2 hS hl) [] ⟨0, 10, 13, 18⟩ [⟨0, 10, 17, 13⟩] hx (fun z hz => nomatch hz) (by decide) (by decide) wcl_18 (by decide) (fun q => ?_)
  refine jo_astore C dL_shared_13 (by decide) (fun lv2 => ?_)
  refine jo_iconst C dL_shared_15 ci_1 ?_
  exact jo_ret C hr hlk rfl (by decide) (by decide) dL_shared_16
set_option maxHeartbeats 4000000 in
set_option maxRecDepth 100000 in
theorem wL_shared_ex0 (l : Launch) (B : jBT) (D : va_G) (ad : Nat → Nat) (cA : Nat → ClassId) (hI : jI ad TC) (hl0 : l.stackTraces = false) (ao : Nat) (cO : ClassId) (hao : ∀ j, j < TC.length → ad j ≠ ao) (S : Nat → Int32) (V : Nat → Nat → Int32) (L : Nat → Int64) (o : Nat → Int64) (a1 : Int32) (a2 : Int32) (h : fX11_shared_0 S V a1 a2 = some (.inr 0)) : jMo l yL_shared cL_shared 5 [(0, 10, 13, 18), (0, 10, 17, 13)] ({ frames := 8, cells := 2, slots := 12, locals := 163 }) B D ad cA ao cO [.ref (ad 0), .int a1, .int a2, .ref ao] S V L o 2 S V L o 2 12 := by
  refine jMo_of (by decide) hI hao (Nat.le_of_ble_eq_true rfl) ?_
  intro p e s m args below meth c C hr hlk hx
  refine jo_lv (lv2 := [(0, .ref (ad 0)), (1, .int a1), (2, .int a2), (3, .ref ao)]) rfl ?_
  refine jo_aload_n C 3 rfl dL_shared_0 rfl ?_
  refine jo_iconst C dL_shared_1 ci_0 ?_
  refine jo_aload_n C 0 rfl dL_shared_2 rfl ?_
  refine jo_iload_n C 1 rfl dL_shared_3 rfl ?_
  refine jo_iload_n C 2 rfl dL_shared_4 rfl ?_
  refine fun H locs ls hP hS hl => jo_ex C hP hS hl (jx_callV (q := 0) (As := [.int a1, .int a2]) (rest := [.int (0 : Int32), .ref ao]) C.1 (kX11_shared_0 l B D ad cA hI hl0 S V L a1 a2 (.inr 0) h) mw_X11_shared wd1335 wd1336 wd1334 tc_0 rfl rfl ⟨rfl, rfl, by decide, by decide⟩ ⟨by decide, by decide⟩ rfl rfl (Nat.le_of_ble_eq_true rfl) dL_shared_5 (vp_cons.mp hP).2 hS hl) [⟨0, 10, 13, 18⟩] ⟨0, 10, 17, 13⟩ [] hx (fun z hz => by rw [List.mem_singleton.mp hz]; exact Or.inr ⟨by decide, _, wcl_18, C.2.2.2.2⟩) (by decide) (by decide) wcl_13 (by decide) (fun q => ?_)
  refine jo_astore C dL_shared_17 (by decide) (fun lv2 => ?_)
  refine jo_iconst C dL_shared_19 ci_2 ?_
  exact jo_ret C hr hlk rfl (by decide) (by decide) dL_shared_20
set_option maxRecDepth 1000000 in
theorem wcw_L_shared : Cond.codeWith yL_shared cL_shared 5 (some .int) [(0, 10, 13, 18), (0, 10, 17, 13)] ∈ bg := bg_in (List.mem_of_getElem? (i := 1333) rfl) rfl
theorem dL_sublet_0 : decode cL_sublet 0 = .ok (.aload_n 2, 1) := by decide +kernel
theorem dL_sublet_1 : decode cL_sublet 1 = .ok (.iconst 0, 1) := by decide +kernel
theorem dL_sublet_2 : decode cL_sublet 2 = .ok (.aload_n 0, 1) := by decide +kernel
theorem dL_sublet_3 : decode cL_sublet 3 = .ok (.iload_n 1, 1) := by decide +kernel
theorem dL_sublet_4 : decode cL_sublet 4 = .ok (.invokevirtual 58, 3) := by decide +kernel
theorem dL_sublet_7 : decode cL_sublet 7 = .ok (.i2l, 1) := by decide +kernel
theorem dL_sublet_8 : decode cL_sublet 8 = .ok (.lastore, 1) := by decide +kernel
theorem dL_sublet_9 : decode cL_sublet 9 = .ok (.goto 6, 3) := by decide +kernel
theorem dL_sublet_12 : decode cL_sublet 12 = .ok (.astore_n 3, 1) := by decide +kernel
theorem dL_sublet_13 : decode cL_sublet 13 = .ok (.iconst 1, 1) := by decide +kernel
theorem dL_sublet_14 : decode cL_sublet 14 = .ok (.ireturn, 1) := by decide +kernel
theorem dL_sublet_15 : decode cL_sublet 15 = .ok (.iconst 0, 1) := by decide +kernel
theorem dL_sublet_16 : decode cL_sublet 16 = .ok (.ireturn, 1) := by decide +kernel
set_option maxHeartbeats 4000000 in
set_option maxRecDepth 100000 in
theorem wL_sublet_ok (l : Launch) (B : jBT) (D : va_G) (ad : Nat → Nat) (cA : Nat → ClassId) (hI : jI ad TC) (hl0 : l.stackTraces = false) (ao : Nat) (cO : ClassId) (hao : ∀ j, j < TC.length → ad j ≠ ao) (S : Nat → Int32) (V : Nat → Nat → Int32) (L : Nat → Int64) (o : Nat → Int64) (a1 : Int32) (r0 : Int32) (S0 : Nat → Int32) (h : fX11_sublet_0 S V a1 = some (.inl (r0, S0))) : jMo l yL_sublet cL_sublet 4 [(0, 9, 12, 18)] ({ frames := 7, cells := 1, slots := 6, locals := 141 }) B D ad cA ao cO [.ref (ad 0), .int a1, .ref ao] S V L o 0 S0 V L (vp_updL o 0 r0.toInt64) 1 6 := by
  refine jMo_of (by decide) hI hao (Nat.le_of_ble_eq_true rfl) ?_
  intro p e s m args below meth c C hr hlk hx
  refine jo_lv (lv2 := [(0, .ref (ad 0)), (1, .int a1), (2, .ref ao)]) rfl ?_
  refine jo_aload_n C 2 rfl dL_sublet_0 rfl ?_
  refine jo_iconst C dL_sublet_1 ci_0 ?_
  refine jo_aload_n C 0 rfl dL_sublet_2 rfl ?_
  refine jo_iload_n C 1 rfl dL_sublet_3 rfl ?_
  refine fun H locs ls hP hS hl => jo_ok C hP hS hl (jx_callV (q := 0) (As := [.int a1]) (rest := [.int (0 : Int32), .ref ao]) C.1 (kX11_sublet_0 l B D ad cA hI hl0 S V L a1 (.inl (r0, S0)) h) mw_X11_sublet wd1348 wd1349 wd1347 tc_0 rfl rfl ⟨rfl, rfl, by decide, by decide⟩ ⟨by decide, by decide⟩ rfl rfl (Nat.le_of_ble_eq_true rfl) dL_sublet_4 (vp_cons.mp hP).2 hS hl) ?_
  refine jo_i2l C dL_sublet_7 ?_
  refine jo_last C dL_sublet_8 ?_
  refine jo_goto (tgt := 15) C dL_sublet_9 (by decide) ?_
  refine jo_iconst C dL_sublet_15 ci_0 ?_
  exact jo_ret C hr hlk rfl (by decide) (by decide) dL_sublet_16
set_option maxHeartbeats 4000000 in
set_option maxRecDepth 100000 in
theorem wL_sublet_ex1 (l : Launch) (B : jBT) (D : va_G) (ad : Nat → Nat) (cA : Nat → ClassId) (hI : jI ad TC) (hl0 : l.stackTraces = false) (ao : Nat) (cO : ClassId) (hao : ∀ j, j < TC.length → ad j ≠ ao) (S : Nat → Int32) (V : Nat → Nat → Int32) (L : Nat → Int64) (o : Nat → Int64) (a1 : Int32) (h : fX11_sublet_0 S V a1 = some (.inr 1)) : jMo l yL_sublet cL_sublet 4 [(0, 9, 12, 18)] ({ frames := 7, cells := 1, slots := 6, locals := 141 }) B D ad cA ao cO [.ref (ad 0), .int a1, .ref ao] S V L o 1 S V L o 1 6 := by
  refine jMo_of (by decide) hI hao (Nat.le_of_ble_eq_true rfl) ?_
  intro p e s m args below meth c C hr hlk hx
  refine jo_lv (lv2 := [(0, .ref (ad 0)), (1, .int a1), (2, .ref ao)]) rfl ?_
  refine jo_aload_n C 2 rfl dL_sublet_0 rfl ?_
  refine jo_iconst C dL_sublet_1 ci_0 ?_
  refine jo_aload_n C 0 rfl dL_sublet_2 rfl ?_
  refine jo_iload_n C 1 rfl dL_sublet_3 rfl ?_
  refine fun H locs ls hP hS hl => jo_ex C hP hS hl (jx_callV (q := 0) (As := [.int a1]) (rest := [.int (0 : Int32), .ref ao]) C.1 (kX11_sublet_0 l B D ad cA hI hl0 S V L a1 (.inr 1) h) mw_X11_sublet wd1348 wd1349 wd1347 tc_0 rfl rfl ⟨rfl, rfl, by decide, by decide⟩ ⟨by decide, by decide⟩ rfl rfl (Nat.le_of_ble_eq_true rfl) dL_sublet_4 (vp_cons.mp hP).2 hS hl) [] ⟨0, 9, 12, 18⟩ [] hx (fun z hz => nomatch hz) (by decide) (by decide) wcl_18 (by decide) (fun q => ?_)
  refine jo_astore_n C dL_sublet_12 rfl (by decide) (fun lv2 => ?_)
  refine jo_iconst C dL_sublet_13 ci_1 ?_
  exact jo_ret C hr hlk rfl (by decide) (by decide) dL_sublet_14
set_option maxRecDepth 1000000 in
theorem wcw_L_sublet : Cond.codeWith yL_sublet cL_sublet 4 (some .int) [(0, 9, 12, 18)] ∈ bg := bg_in (List.mem_of_getElem? (i := 1346) rfl) rfl
theorem dL_wedding_0 : decode cL_wedding 0 = .ok (.aload_n 2, 1) := by decide +kernel
theorem dL_wedding_1 : decode cL_wedding 1 = .ok (.iconst 0, 1) := by decide +kernel
theorem dL_wedding_2 : decode cL_wedding 2 = .ok (.aload_n 0, 1) := by decide +kernel
theorem dL_wedding_3 : decode cL_wedding 3 = .ok (.iload_n 1, 1) := by decide +kernel
theorem dL_wedding_4 : decode cL_wedding 4 = .ok (.invokevirtual 61, 3) := by decide +kernel
theorem dL_wedding_7 : decode cL_wedding 7 = .ok (.i2l, 1) := by decide +kernel
theorem dL_wedding_8 : decode cL_wedding 8 = .ok (.lastore, 1) := by decide +kernel
theorem dL_wedding_9 : decode cL_wedding 9 = .ok (.goto 6, 3) := by decide +kernel
theorem dL_wedding_12 : decode cL_wedding 12 = .ok (.astore_n 3, 1) := by decide +kernel
theorem dL_wedding_13 : decode cL_wedding 13 = .ok (.iconst 1, 1) := by decide +kernel
theorem dL_wedding_14 : decode cL_wedding 14 = .ok (.ireturn, 1) := by decide +kernel
theorem dL_wedding_15 : decode cL_wedding 15 = .ok (.iconst 0, 1) := by decide +kernel
theorem dL_wedding_16 : decode cL_wedding 16 = .ok (.ireturn, 1) := by decide +kernel
set_option maxHeartbeats 4000000 in
set_option maxRecDepth 100000 in
theorem wL_wedding_ok (l : Launch) (B : jBT) (D : va_G) (ad : Nat → Nat) (cA : Nat → ClassId) (hI : jI ad TC) (hl0 : l.stackTraces = false) (ao : Nat) (cO : ClassId) (hao : ∀ j, j < TC.length → ad j ≠ ao) (S : Nat → Int32) (V : Nat → Nat → Int32) (L : Nat → Int64) (o : Nat → Int64) (a1 : Int32) (r0 : Int32) (h : fX11_wedding_0 S V a1 = some (.inl r0)) : jMo l yL_wedding cL_wedding 4 [(0, 9, 12, 13)] ({ frames := 8, cells := 2, slots := 12, locals := 161 }) B D ad cA ao cO [.ref (ad 0), .int a1, .ref ao] S V L o 0 S V L (vp_updL o 0 r0.toInt64) 2 12 := by
  refine jMo_of (by decide) hI hao (Nat.le_of_ble_eq_true rfl) ?_
  intro p e s m args below meth c C hr hlk hx
  refine jo_lv (lv2 := [(0, .ref (ad 0)), (1, .int a1), (2, .ref ao)]) rfl ?_
  refine jo_aload_n C 2 rfl dL_wedding_0 rfl ?_
  refine jo_iconst C dL_wedding_1 ci_0 ?_
  refine jo_aload_n C 0 rfl dL_wedding_2 rfl ?_
  refine jo_iload_n C 1 rfl dL_wedding_3 rfl ?_
  refine fun H locs ls hP hS hl => jo_ok C hP hS hl (jx_callV (q := 0) (As := [.int a1]) (rest := [.int (0 : Int32), .ref ao]) C.1 (kX11_wedding_0 l B D ad cA hI hl0 S V L a1 (.inl r0) h) mw_X11_wedding wd1368 wd1369 wd1367 tc_0 rfl rfl ⟨rfl, rfl, by decide, by decide⟩ ⟨by decide, by decide⟩ rfl rfl (Nat.le_of_ble_eq_true rfl) dL_wedding_4 (vp_cons.mp hP).2 hS hl) ?_
  refine jo_i2l C dL_wedding_7 ?_
  refine jo_last C dL_wedding_8 ?_
  refine jo_goto (tgt := 15) C dL_wedding_9 (by decide) ?_
  refine jo_iconst C dL_wedding_15 ci_0 ?_
  exact jo_ret C hr hlk rfl (by decide) (by decide) dL_wedding_16
set_option maxHeartbeats 4000000 in
set_option maxRecDepth 100000 in
theorem wL_wedding_ex0 (l : Launch) (B : jBT) (D : va_G) (ad : Nat → Nat) (cA : Nat → ClassId) (hI : jI ad TC) (hl0 : l.stackTraces = false) (ao : Nat) (cO : ClassId) (hao : ∀ j, j < TC.length → ad j ≠ ao) (S : Nat → Int32) (V : Nat → Nat → Int32) (L : Nat → Int64) (o : Nat → Int64) (a1 : Int32) (h : fX11_wedding_0 S V a1 = some (.inr 0)) : jMo l yL_wedding cL_wedding 4 [(0, 9, 12, 13)] ({ frames := 8, cells := 2, slots := 12, locals := 161 }) B D ad cA ao cO [.ref (ad 0), .int a1, .ref ao] S V L o 1 S V L o 2 12 := by
  refine jMo_of (by decide) hI hao (Nat.le_of_ble_eq_true rfl) ?_
  intro p e s m args below meth c C hr hlk hx
  refine jo_lv (lv2 := [(0, .ref (ad 0)), (1, .int a1), (2, .ref ao)]) rfl ?_
  refine jo_aload_n C 2 rfl dL_wedding_0 rfl ?_
  refine jo_iconst C dL_wedding_1 ci_0 ?_
  refine jo_aload_n C 0 rfl dL_wedding_2 rfl ?_
  refine jo_iload_n C 1 rfl dL_wedding_3 rfl ?_
  refine fun H locs ls hP hS hl => jo_ex C hP hS hl (jx_callV (q := 0) (As := [.int a1]) (rest := [.int (0 : Int32), .ref ao]) C.1 (kX11_wedding_0 l B D ad cA hI hl0 S V L a1 (.inr 0) h) mw_X11_wedding wd1368 wd1369 wd1367 tc_0 rfl rfl ⟨rfl, rfl, by decide, by decide⟩ ⟨by decide, by decide⟩ rfl rfl (Nat.le_of_ble_eq_true rfl) dL_wedding_4 (vp_cons.mp hP).2 hS hl) [] ⟨0, 9, 12, 13⟩ [] hx (fun z hz => nomatch hz) (by decide) (by decide) wcl_13 (by decide) (fun q => ?_)
  refine jo_astore_n C dL_wedding_12 rfl (by decide) (fun lv2 => ?_)
  refine jo_iconst C dL_wedding_13 ci_1 ?_
  exact jo_ret C hr hlk rfl (by decide) (by decide) dL_wedding_14
set_option maxRecDepth 1000000 in
theorem wcw_L_wedding : Cond.codeWith yL_wedding cL_wedding 4 (some .int) [(0, 9, 12, 13)] ∈ bg := bg_in (List.mem_of_getElem? (i := 1366) rfl) rfl
theorem dL_birthday_0 : decode cL_birthday 0 = .ok (.aload_n 2, 1) := by decide +kernel
theorem dL_birthday_1 : decode cL_birthday 1 = .ok (.iconst 0, 1) := by decide +kernel
theorem dL_birthday_2 : decode cL_birthday 2 = .ok (.aload_n 0, 1) := by decide +kernel
theorem dL_birthday_3 : decode cL_birthday 3 = .ok (.iload_n 1, 1) := by decide +kernel
theorem dL_birthday_4 : decode cL_birthday 4 = .ok (.invokevirtual 64, 3) := by decide +kernel
theorem dL_birthday_7 : decode cL_birthday 7 = .ok (.i2l, 1) := by decide +kernel
theorem dL_birthday_8 : decode cL_birthday 8 = .ok (.lastore, 1) := by decide +kernel
theorem dL_birthday_9 : decode cL_birthday 9 = .ok (.goto 6, 3) := by decide +kernel
theorem dL_birthday_12 : decode cL_birthday 12 = .ok (.astore_n 3, 1) := by decide +kernel
theorem dL_birthday_13 : decode cL_birthday 13 = .ok (.iconst 1, 1) := by decide +kernel
theorem dL_birthday_14 : decode cL_birthday 14 = .ok (.ireturn, 1) := by decide +kernel
theorem dL_birthday_15 : decode cL_birthday 15 = .ok (.iconst 0, 1) := by decide +kernel
theorem dL_birthday_16 : decode cL_birthday 16 = .ok (.ireturn, 1) := by decide +kernel
set_option maxHeartbeats 4000000 in
set_option maxRecDepth 100000 in
theorem wL_birthday_ok (l : Launch) (B : jBT) (D : va_G) (ad : Nat → Nat) (cA : Nat → ClassId) (hI : jI ad TC) (hl0 : l.stackTraces = false) (ao : Nat) (cO : ClassId) (hao : ∀ j, j < TC.length → ad j ≠ ao) (S : Nat → Int32) (V : Nat → Nat → Int32) (L : Nat → Int64) (o : Nat → Int64) (a1 : Int32) (r0 : Int32) (h : fX11_birthday_0 S V a1 = some (.inl r0)) : jMo l yL_birthday cL_birthday 4 [(0, 9, 12, 13)] ({ frames := 8, cells := 2, slots := 12, locals := 167 }) B D ad cA ao cO [.ref (ad 0), .int a1, .ref ao] S V L o 0 S V L (vp_updL o 0 r0.toInt64) 2 12 := by
  refine jMo_of (by decide) hI hao (Nat.le_of_ble_eq_true rfl) ?_
  intro p e s m args below meth c C hr hlk hx
  refine jo_lv (lv2 := [(0, .ref (ad 0)), (1, .int a1), (2, .ref ao)]) rfl ?_
  refine jo_aload_n C 2 rfl dL_birthday_0 rfl ?_
  refine jo_iconst C dL_birthday_1 ci_0 ?_
  refine jo_aload_n C 0 rfl dL_birthday_2 rfl ?_
  refine jo_iload_n C 1 rfl dL_birthday_3 rfl ?_
  refine fun H locs ls hP hS hl => jo_ok C hP hS hl (jx_callV (q := 0) (As := [.int a1]) (rest := [.int (0 : Int32), .ref ao]) C.1 (kX11_birthday_0 l B D ad cA hI hl0 S V L a1 (.inl r0) h) mw_X11_birthday wd1384 wd1385 wd1383 tc_0 rfl rfl ⟨rfl, rfl, by decide, by decide⟩ ⟨by decide, by decide⟩ rfl rfl (Nat.le_of_ble_eq_true rfl) dL_birthday_4 (vp_cons.mp hP).2 hS hl) ?_
  refine jo_i2l C dL_birthday_7 ?_
  refine jo_last C dL_birthday_8 ?_
  refine jo_goto (tgt := 15) C dL_birthday_9 (by decide) ?_
  refine jo_iconst C dL_birthday_15 ci_0 ?_
  exact jo_ret C hr hlk rfl (by decide) (by decide) dL_birthday_16
set_option maxHeartbeats 4000000 in
set_option maxRecDepth 100000 in
theorem wL_birthday_ex0 (l : Launch) (B : jBT) (D : va_G) (ad : Nat → Nat) (cA : Nat → ClassId) (hI : jI ad TC) (hl0 : l.stackTraces = false) (ao : Nat) (cO : ClassId) (hao : ∀ j, j < TC.length → ad j ≠ ao) (S : Nat → Int32) (V : Nat → Nat → Int32) (L : Nat → Int64) (o : Nat → Int64) (a1 : Int32) (h : fX11_birthday_0 S V a1 = some (.inr 0)) : jMo l yL_birthday cL_birthday 4 [(0, 9, 12, 13)] ({ frames := 8, cells := 2, slots := 12, locals := 167 }) B D ad cA ao cO [.ref (ad 0), .int a1, .ref ao] S V L o 1 S V L o 2 12 := by
  refine jMo_of (by decide) hI hao (Nat.le_of_ble_eq_true rfl) ?_
  intro p e s m args below meth c C hr hlk hx
  refine jo_lv (lv2 := [(0, .ref (ad 0)), (1, .int a1), (2, .ref ao)]) rfl ?_
  refine jo_aload_n C 2 rfl dL_birthday_0 rfl ?_
  refine jo_iconst C dL_birthday_1 ci_0 ?_
  refine jo_aload_n C 0 rfl dL_birthday_2 rfl ?_
  refine jo_iload_n C 1 rfl dL_birthday_3 rfl ?_
  refine fun H locs ls hP hS hl => jo_ex C hP hS hl (jx_callV (q := 0) (As := [.int a1]) (rest := [.int (0 : Int32), .ref ao]) C.1 (kX11_birthday_0 l B D ad cA hI hl0 S V L a1 (.inr 0) h) mw_X11_birthday wd1384 wd1385 wd1383 tc_0 rfl rfl ⟨rfl, rfl, by decide, by decide⟩ ⟨by decide, by decide⟩ rfl rfl (Nat.le_of_ble_eq_true rfl) dL_birthday_4 (vp_cons.mp hP).2 hS hl) [] ⟨0, 9, 12, 13⟩ [] hx (fun z hz => nomatch hz) (by decide) (by decide) wcl_13 (by decide) (fun q => ?_)
  refine jo_astore_n C dL_birthday_12 rfl (by decide) (fun lv2 => ?_)
  refine jo_iconst C dL_birthday_13 ci_1 ?_
  exact jo_ret C hr hlk rfl (by decide) (by decide) dL_birthday_14
set_option maxRecDepth 1000000 in
theorem wcw_L_birthday : Cond.codeWith yL_birthday cL_birthday 4 (some .int) [(0, 9, 12, 13)] ∈ bg := bg_in (List.mem_of_getElem? (i := 1382) rfl) rfl
theorem dL_both_0 : decode cL_both 0 = .ok (.aload 5, 2) := by decide +kernel
theorem dL_both_2 : decode cL_both 2 = .ok (.iconst 0, 1) := by decide +kernel
theorem dL_both_3 : decode cL_both 3 = .ok (.aload_n 0, 1) := by decide +kernel
theorem dL_both_4 : decode cL_both 4 = .ok (.iload_n 1, 1) := by decide +kernel
theorem dL_both_5 : decode cL_both 5 = .ok (.iload_n 2, 1) := by decide +kernel
theorem dL_both_6 : decode cL_both 6 = .ok (.iload_n 3, 1) := by decide +kernel
theorem dL_both_7 : decode cL_both 7 = .ok (.iload 4, 2) := by decide +kernel
theorem dL_both_9 : decode cL_both 9 = .ok (.invokevirtual 67, 3) := by decide +kernel
theorem dL_both_12 : decode cL_both 12 = .ok (.i2l, 1) := by decide +kernel
theorem dL_both_13 : decode cL_both 13 = .ok (.lastore, 1) := by decide +kernel
theorem dL_both_14 : decode cL_both 14 = .ok (.goto 11, 3) := by decide +kernel
theorem dL_both_17 : decode cL_both 17 = .ok (.astore 6, 2) := by decide +kernel
theorem dL_both_19 : decode cL_both 19 = .ok (.iconst 1, 1) := by decide +kernel
theorem dL_both_20 : decode cL_both 20 = .ok (.ireturn, 1) := by decide +kernel
theorem dL_both_21 : decode cL_both 21 = .ok (.astore 6, 2) := by decide +kernel
theorem dL_both_23 : decode cL_both 23 = .ok (.iconst 2, 1) := by decide +kernel
theorem dL_both_24 : decode cL_both 24 = .ok (.ireturn, 1) := by decide +kernel
theorem dL_both_25 : decode cL_both 25 = .ok (.iconst 0, 1) := by decide +kernel
theorem dL_both_26 : decode cL_both 26 = .ok (.ireturn, 1) := by decide +kernel
set_option maxHeartbeats 4000000 in
set_option maxRecDepth 100000 in
theorem wL_both_ok (l : Launch) (B : jBT) (D : va_G) (ad : Nat → Nat) (cA : Nat → ClassId) (hI : jI ad TC) (hl0 : l.stackTraces = false) (ao : Nat) (cO : ClassId) (hao : ∀ j, j < TC.length → ad j ≠ ao) (S : Nat → Int32) (V : Nat → Nat → Int32) (L : Nat → Int64) (o : Nat → Int64) (a1 : Int32) (a2 : Int32) (a3 : Int32) (a4 : Int32) (r0 : Int32) (h : fX11_both_0 S V a1 a2 a3 a4 = some (.inl r0)) : jMo l yL_both cL_both 7 [(0, 14, 17, 18), (0, 14, 21, 13)] ({ frames := 8, cells := 3, slots := 18, locals := 167 }) B D ad cA ao cO [.ref (ad 0), .int a1, .int a2, .int a3, .int a4, .ref ao] S V L o 0 S V L (vp_updL o 0 r0.toInt64) 3 18 := by
  refine jMo_of (by decide) hI hao (Nat.le_of_ble_eq_true rfl) ?_
  intro p e s m args below meth c C hr hlk hx
  refine jo_lv (lv2 := [(0, .ref (ad 0)), (1, .int a1), (2, .int a2), (3, .int a3), (4, .int a4), (5, .ref ao)]) rfl ?_
  refine jo_aload C 5 rfl dL_both_0 ?_
  refine jo_iconst C dL_both_2 ci_0 ?_
  refine jo_aload_n C 0 rfl dL_both_3 rfl ?_
  refine jo_iload_n C 1 rfl dL_both_4 rfl ?_
  refine jo_iload_n C 2 rfl dL_both_5 rfl ?_
  refine jo_iload_n C 3 rfl dL_both_6 rfl ?_
  refine jo_iload C 4 rfl dL_both_7 ?_
  refine fun H locs ls hP hS hl => jo_ok C hP hS hl (jx_callV (q := 0) (As := [.int a1, .int a2, .int a3, .int a4]) (rest := [.int (0 : Int32), .ref ao]) C.1 (kX11_both_0 l B D ad cA hI hl0 S V L a1 a2 a3 a4 (.inl r0) h) mw_X11_both wd1404 wd1405 wd1403 tc_0 rfl rfl ⟨rfl, rfl, by decide, by decide⟩ ⟨by decide, by decide⟩ rfl rfl (Nat.le_of_ble_eq_true rfl) dL_both_9 (vp_cons.mp hP).2 hS hl) ?_
  refine jo_i2l C dL_both_12 ?_
  refine jo_last C dL_both_13 ?_
  refine jo_goto (tgt := 25) C dL_both_14 (by decide) ?_
  refine jo_iconst C dL_both_25 ci_0 ?_
  exact jo_ret C hr hlk rfl (by decide) (by decide) dL_both_26
set_option maxHeartbeats 4000000 in
set_option maxRecDepth 100000 in
theorem wL_both_ex1 (l : Launch) (B : jBT) (D : va_G) (ad : Nat → Nat) (cA : Nat → ClassId) (hI : jI ad TC) (hl0 : l.stackTraces = false) (ao : Nat) (cO : ClassId) (hao : ∀ j, j < TC.length → ad j ≠ ao) (S : Nat → Int32) (V : Nat → Nat → Int32) (L : Nat → Int64) (o : Nat → Int64) (a1 : Int32) (a2 : Int32) (a3 : Int32) (a4 : Int32) (h : fX11_both_0 S V a1 a2 a3 a4 = some (.inr 1)) : jMo l yL_both cL_both 7 [(0, 14, 17, 18), (0, 14, 21, 13)] ({ frames := 8, cells := 3, slots := 18, locals := 167 }) B D ad cA ao cO [.ref (ad 0), .int a1, .int a2, .int a3, .int a4, .ref ao] S V L o 1 S V L o 3 18 := by
  refine jMo_of (by decide) hI hao (Nat.le_of_ble_eq_true rfl) ?_
  intro p e s m args below meth c C hr hlk hx
  refine jo_lv (lv2 := [(0, .ref (ad 0)), (1, .int a1), (2, .int a2), (3, .int a3), (4, .int a4), (5, .ref ao)]) rfl ?_
  refine jo_aload C 5 rfl dL_both_0 ?_
  refine jo_iconst C dL_both_2 ci_0 ?_
  refine jo_aload_n C 0 rfl dL_both_3 rfl ?_
  refine jo_iload_n C 1 rfl dL_both_4 rfl ?_
  refine jo_iload_n C 2 rfl dL_both_5 rfl ?_
  refine jo_iload_n C 3 rfl dL_both_6 rfl ?_
  refine jo_iload C 4 rfl dL_both_7 ?_
  refine fun H locs ls hP hS hl => jo_ex C hP hS hl (jx_callV (q := 0) (As := [.int a1, .int a2, .int a3, .int a4]) (rest := [.int (0 : Int32), .ref ao]) C.1 (kX11_both_0 l B D ad cA hI hl0 S V L a1 a2 a3 a4 (.inr 1) h) mw_X11_both wd1404 wd1405 wd1403 tc_0 rfl rfl ⟨rfl, rfl, by decide, by decide⟩ ⟨by decide, by decide⟩ rfl rfl (Nat.le_of_ble_eq_true rfl) dL_both_9 (vp_cons.mp hP).2 hS hl) [] ⟨0, 14, 17, 18⟩ [⟨0, 14, 21, 13⟩] hx (fun z hz => nomatch hz) (by decide) (by decide) wcl_18 (by decide) (fun q => ?_)
  refine jo_astore C dL_both_17 (by decide) (fun lv2 => ?_)
  refine jo_iconst C dL_both_19 ci_1 ?_
  exact jo_ret C hr hlk rfl (by decide) (by decide) dL_both_20
set_option maxHeartbeats 4000000 in
set_option maxRecDepth 100000 in
theorem wL_both_ex0 (l : Launch) (B : jBT) (D : va_G) (ad : Nat → Nat) (cA : Nat → ClassId) (hI : jI ad TC) (hl0 : l.stackTraces = false) (ao : Nat) (cO : ClassId) (hao : ∀ j, j < TC.length → ad j ≠ ao) (S : Nat → Int32) (V : Nat → Nat → Int32) (L : Nat → Int64) (o : Nat → Int64) (a1 : Int32) (a2 : Int32) (a3 : Int32) (a4 : Int32) (h : fX11_both_0 S V a1 a2 a3 a4 = some (.inr 0)) : jMo l yL_both cL_both 7 [(0, 14, 17, 18), (0, 14, 21, 13)] ({ frames := 8, cells := 3, slots := 18, locals := 167 }) B D ad cA ao cO [.ref (ad 0), .int a1, .int a2, .int a3, .int a4, .ref ao] S V L o 2 S V L o 3 18 := by
  refine jMo_of (by decide) hI hao (Nat.le_of_ble_eq_true rfl) ?_
  intro p e s m args below meth c C hr hlk hx
  refine jo_lv (lv2 := [(0, .ref (ad 0)), (1, .int a1), (2, .int a2), (3, .int a3), (4, .int a4), (5, .ref ao)]) rfl ?_
  refine jo_aload C 5 rfl dL_both_0 ?_
  refine jo_iconst C dL_both_2 ci_0 ?_
  refine jo_aload_n C 0 rfl dL_both_3 rfl ?_
  refine jo_iload_n C 1 rfl dL_both_4 rfl ?_
  refine jo_iload_n C 2 rfl dL_both_5 rfl ?_
  refine jo_iload_n C 3 rfl dL_both_6 rfl ?_
  refine jo_iload C 4 rfl dL_both_7 ?_
  refine fun H locs ls hP hS hl => jo_ex C hP hS hl (jx_callV (q := 0) (As := [.int a1, .int a2, .int a3, .int a4]) (rest := [.int (0 : Int32), .ref ao]) C.1 (kX11_both_0 l B D ad cA hI hl0 S V L a1 a2 a3 a4 (.inr 0) h) mw_X11_both wd1404 wd1405 wd1403 tc_0 rfl rfl ⟨rfl, rfl, by decide, by decide⟩ ⟨by decide, by decide⟩ rfl rfl (Nat.le_of_ble_eq_true rfl) dL_both_9 (vp_cons.mp hP).2 hS hl) [⟨0, 14, 17, 18⟩] ⟨0, 14, 21, 13⟩ [] hx (fun z hz => by rw [List.mem_singleton.mp hz]; exact Or.inr ⟨by decide, _, wcl_18, C.2.2.2.2⟩) (by decide) (by decide) wcl_13 (by decide) (fun q => ?_)
  refine jo_astore C dL_both_21 (by decide) (fun lv2 => ?_)
  refine jo_iconst C dL_both_23 ci_2 ?_
  exact jo_ret C hr hlk rfl (by decide) (by decide) dL_both_24
set_option maxRecDepth 1000000 in
theorem wcw_L_both : Cond.codeWith yL_both cL_both 7 (some .int) [(0, 14, 17, 18), (0, 14, 21, 13)] ∈ bg := bg_in (List.mem_of_getElem? (i := 1402) rfl) rfl
theorem dL_wind_0 : decode cL_wind 0 = .ok (.aload 4, 2) := by decide +kernel
theorem dL_wind_2 : decode cL_wind 2 = .ok (.iconst 0, 1) := by decide +kernel
theorem dL_wind_3 : decode cL_wind 3 = .ok (.aload_n 0, 1) := by decide +kernel
theorem dL_wind_4 : decode cL_wind 4 = .ok (.iload_n 1, 1) := by decide +kernel
theorem dL_wind_5 : decode cL_wind 5 = .ok (.iload_n 2, 1) := by decide +kernel
theorem dL_wind_6 : decode cL_wind 6 = .ok (.iload_n 3, 1) := by decide +kernel
theorem dL_wind_7 : decode cL_wind 7 = .ok (.invokevirtual 71, 3) := by decide +kernel
theorem dL_wind_10 : decode cL_wind 10 = .ok (.i2l, 1) := by decide +kernel
theorem dL_wind_11 : decode cL_wind 11 = .ok (.lastore, 1) := by decide +kernel
theorem dL_wind_12 : decode cL_wind 12 = .ok (.goto 7, 3) := by decide +kernel
theorem dL_wind_15 : decode cL_wind 15 = .ok (.astore 5, 2) := by decide +kernel
theorem dL_wind_17 : decode cL_wind 17 = .ok (.iconst 1, 1) := by decide +kernel
theorem dL_wind_18 : decode cL_wind 18 = .ok (.ireturn, 1) := by decide +kernel
theorem dL_wind_19 : decode cL_wind 19 = .ok (.iconst 0, 1) := by decide +kernel
theorem dL_wind_20 : decode cL_wind 20 = .ok (.ireturn, 1) := by decide +kernel
set_option maxHeartbeats 4000000 in
set_option maxRecDepth 100000 in
theorem wL_wind_ok (l : Launch) (B : jBT) (D : va_G) (ad : Nat → Nat) (cA : Nat → ClassId) (hI : jI ad TC) (hl0 : l.stackTraces = false) (ao : Nat) (cO : ClassId) (hao : ∀ j, j < TC.length → ad j ≠ ao) (S : Nat → Int32) (V : Nat → Nat → Int32) (L : Nat → Int64) (o : Nat → Int64) (a1 : Int32) (a2 : Int32) (a3 : Int32) (r0 : Int32) (h : fX11_wind_0 S V a1 a2 a3 = some (.inl r0)) : jMo l yL_wind cL_wind 6 [(0, 12, 15, 13)] ({ frames := 7, cells := 1, slots := 6, locals := 168 }) B D ad cA ao cO [.ref (ad 0), .int a1, .int a2, .int a3, .ref ao] S V L o 0 S V L (vp_updL o 0 r0.toInt64) 1 6 := by
  refine jMo_of (by decide) hI hao (Nat.le_of_ble_eq_true rfl) ?_
  intro p e s m args below meth c C hr hlk hx
  refine jo_lv (lv2 := [(0, .ref (ad 0)), (1, .int a1), (2, .int a2), (3, .int a3), (4, .ref ao)]) rfl ?_
  refine jo_aload C 4 rfl dL_wind_0 ?_
  refine jo_iconst C dL_wind_2 ci_0 ?_
  refine jo_aload_n C 0 rfl dL_wind_3 rfl ?_
  refine jo_iload_n C 1 rfl dL_wind_4 rfl ?_
  refine jo_iload_n C 2 rfl dL_wind_5 rfl ?_
  refine jo_iload_n C 3 rfl dL_wind_6 rfl ?_
  refine fun H locs ls hP hS hl => jo_ok C hP hS hl (jx_callV (q := 0) (As := [.int a1, .int a2, .int a3]) (rest := [.int (0 : Int32), .ref ao]) C.1 (kX11_wind_0 l B D ad cA hI hl0 S V L a1 a2 a3 (.inl r0) h) mw_X11_wind wd1423 wd1424 wd1422 tc_0 rfl rfl ⟨rfl, rfl, by decide, by decide⟩ ⟨by decide, by decide⟩ rfl rfl (Nat.le_of_ble_eq_true rfl) dL_wind_7 (vp_cons.mp hP).2 hS hl) ?_
  refine jo_i2l C dL_wind_10 ?_
  refine jo_last C dL_wind_11 ?_
  refine jo_goto (tgt := 19) C dL_wind_12 (by decide) ?_
  refine jo_iconst C dL_wind_19 ci_0 ?_
  exact jo_ret C hr hlk rfl (by decide) (by decide) dL_wind_20
set_option maxHeartbeats 4000000 in
set_option maxRecDepth 100000 in
theorem wL_wind_ex0 (l : Launch) (B : jBT) (D : va_G) (ad : Nat → Nat) (cA : Nat → ClassId) (hI : jI ad TC) (hl0 : l.stackTraces = false) (ao : Nat) (cO : ClassId) (hao : ∀ j, j < TC.length → ad j ≠ ao) (S : Nat → Int32) (V : Nat → Nat → Int32) (L : Nat → Int64) (o : Nat → Int64) (a1 : Int32) (a2 : Int32) (a3 : Int32) (h : fX11_wind_0 S V a1 a2 a3 = some (.inr 0)) : jMo l yL_wind cL_wind 6 [(0, 12, 15, 13)] ({ frames := 7, cells := 1, slots := 6, locals := 168 }) B D ad cA ao cO [.ref (ad 0), .int a1, .int a2, .int a3, .ref ao] S V L o 1 S V L o 1 6 := by
  refine jMo_of (by decide) hI hao (Nat.le_of_ble_eq_true rfl) ?_
  intro p e s m args below meth c C hr hlk hx
  refine jo_lv (lv2 := [(0, .ref (ad 0)), (1, .int a1), (2, .int a2), (3, .int a3), (4, .ref ao)]) rfl ?_
  refine jo_aload C 4 rfl dL_wind_0 ?_
  refine jo_iconst C dL_wind_2 ci_0 ?_
  refine jo_aload_n C 0 rfl dL_wind_3 rfl ?_
  refine jo_iload_n C 1 rfl dL_wind_4 rfl ?_
  refine jo_iload_n C 2 rfl dL_wind_5 rfl ?_
  refine jo_iload_n C 3 rfl dL_wind_6 rfl ?_
  refine fun H locs ls hP hS hl => jo_ex C hP hS hl (jx_callV (q := 0) (As := [.int a1, .int a2, .int a3]) (rest := [.int (0 : Int32), .ref ao]) C.1 (kX11_wind_0 l B D ad cA hI hl0 S V L a1 a2 a3 (.inr 0) h) mw_X11_wind wd1423 wd1424 wd1422 tc_0 rfl rfl ⟨rfl, rfl, by decide, by decide⟩ ⟨by decide, by decide⟩ rfl rfl (Nat.le_of_ble_eq_true rfl) dL_wind_7 (vp_cons.mp hP).2 hS hl) [] ⟨0, 12, 15, 13⟩ [] hx (fun z hz => nomatch hz) (by decide) (by decide) wcl_13 (by decide) (fun q => ?_)
  refine jo_astore C dL_wind_15 (by decide) (fun lv2 => ?_)
  refine jo_iconst C dL_wind_17 ci_1 ?_
  exact jo_ret C hr hlk rfl (by decide) (by decide) dL_wind_18
set_option maxRecDepth 1000000 in
theorem wcw_L_wind : Cond.codeWith yL_wind cL_wind 6 (some .int) [(0, 12, 15, 13)] ∈ bg := bg_in (List.mem_of_getElem? (i := 1421) rfl) rfl
