theorem dX11_wedding_0 : decode cX11_wedding 0 = .ok (.iload_n 1, 1) := by decide +kernel
theorem dX11_wedding_1 : decode cX11_wedding 1 = .ok (.invokestatic 215, 3) := by decide +kernel
theorem dX11_wedding_4 : decode cX11_wedding 4 = .ok (.aload_n 0, 1) := by decide +kernel
theorem dX11_wedding_5 : decode cX11_wedding 5 = .ok (.getfield 71, 3) := by decide +kernel
theorem dX11_wedding_8 : decode cX11_wedding 8 = .ok (.iload_n 1, 1) := by decide +kernel
theorem dX11_wedding_9 : decode cX11_wedding 9 = .ok (.invokevirtual 303, 3) := by decide +kernel
theorem dX11_wedding_12 : decode cX11_wedding 12 = .ok (.ireturn, 1) := by decide +kernel
def fX11_wedding_0 (S : Nat → Int32) (V : Nat → Nat → Int32) (a1 : Int32) : Option ((Int32) ⊕ Nat) :=
  bdx (fX11_needDay a1) (
  bd1 (fX6_firstWedding_48 S V a1) (fun r3 =>
  some (.inl r3)))
set_option maxHeartbeats 4000000 in
set_option maxRecDepth 100000 in
theorem kX11_wedding_0 (l : Launch) (B : jBT) (D : va_G) (ad : Nat → Nat) (cA : Nat → ClassId) (hI : jI ad TC) (hl0 : l.stackTraces = false) (S : Nat → Int32) (V : Nat → Nat → Int32) (L : Nat → Int64) (a1 : Int32) (rr : (Int32) ⊕ Nat) (h : fX11_wedding_0 S V a1 = some rr) : jMx l yX11_wedding cX11_wedding 2 (some .int) ({ frames := 7, cells := 2, slots := 12, locals := 140 }) B D TC ad cA [.ref (ad 0), .int a1] S V L (Sum.map (fun (z : Int32) => ((some (.int z) : Option Value), S, V, L)) (fun (x : Nat) => x) rr : jR) 2 12 := by
  refine jMx_of (by decide) TC_ok hI (Nat.le_of_ble_eq_true rfl) ?_
  intro p e s m args below meth c C hr hlk hxt
  refine j_lv (lv2 := [(0, .ref (ad 0)), (1, .int a1)]) rfl ?_
  unfold fX11_wedding_0 at h
  refine j_iload_n C 1 rfl dX11_wedding_0 rfl ?_
  rcases bdx_elim h with ⟨h1, h⟩ | ⟨x2, h1, rfl⟩
  · refine fun H locs ls hP hS hl => jx_ok C hS hl (jx_callS (As := [.int a1]) (rest := []) C (kX11_needDay l B D ad cA hI hl0 S V L a1 (.inl ()) h1) mw_X11_needDay wd1124 wd1123 ⟨rfl, rfl, by decide, by decide⟩ ⟨by decide, by decide⟩ rfl rfl (Nat.le_of_ble_eq_true rfl) dX11_wedding_1 hP hS hl) ?_
    refine j_aload_n C 0 rfl dX11_wedding_4 rfl ?_
    refine fg_X11_71_TC_0 C dX11_wedding_5 ?_
    refine j_iload_n C 1 rfl dX11_wedding_8 rfl ?_
    obtain ⟨r3, h4, h⟩ := bd1_elim h
    refine j_callV (As := [.int a1]) (rest := []) C (kX6_firstWedding_48 l B D ad cA hI S V L a1 _ h4) mw_X6_firstWedding wd1372 wd1373 wd1371 tc_48 rfl rfl ⟨rfl, rfl, by decide, by decide⟩ ⟨by decide, by decide⟩ rfl rfl (Nat.le_of_ble_eq_true rfl) dX11_wedding_9 ?_
    cases h
    exact jx_iret C hr hlk rfl rfl (by decide) (by decide) dX11_wedding_12
  · exact fun H locs ls hP hS hl => jx_ex C hlk rfl hxt rfl hS (jx_callS (As := [.int a1]) (rest := []) C (kX11_needDay l B D ad cA hI hl0 S V L a1 (.inr x2) h1) mw_X11_needDay wd1124 wd1123 ⟨rfl, rfl, by decide, by decide⟩ ⟨by decide, by decide⟩ rfl rfl (Nat.le_of_ble_eq_true rfl) dX11_wedding_1 hP hS hl) (by decide) (by decide)
theorem dX11_wind_0 : decode cX11_wind 0 = .ok (.iload_n 2, 1) := by decide +kernel
theorem dX11_wind_1 : decode cX11_wind 1 = .ok (.ifCond .lt 19, 3) := by decide +kernel
theorem dX11_wind_4 : decode cX11_wind 4 = .ok (.iload_n 2, 1) := by decide +kernel
theorem dX11_wind_5 : decode cX11_wind 5 = .ok (.bipush 40, 2) := by decide +kernel
theorem dX11_wind_7 : decode cX11_wind 7 = .ok (.if_icmp .gt 13, 3) := by decide +kernel
theorem dX11_wind_10 : decode cX11_wind 10 = .ok (.iload_n 3, 1) := by decide +kernel
theorem dX11_wind_11 : decode cX11_wind 11 = .ok (.ifCond .lt 9, 3) := by decide +kernel
theorem dX11_wind_14 : decode cX11_wind 14 = .ok (.iload_n 3, 1) := by decide +kernel
theorem dX11_wind_15 : decode cX11_wind 15 = .ok (.bipush 100, 2) := by decide +kernel
theorem dX11_wind_17 : decode cX11_wind 17 = .ok (.if_icmp .le 14, 3) := by decide +kernel
theorem dX11_wind_20 : decode cX11_wind 20 = .ok (.new 105, 3) := by decide +kernel
theorem dX11_wind_23 : decode cX11_wind 23 = .ok (.dup, 1) := by decide +kernel
theorem dX11_wind_24 : decode cX11_wind 24 = .ok (.ldc_w 319, 3) := by decide +kernel
theorem dX11_wind_27 : decode cX11_wind 27 = .ok (.invokespecial 109, 3) := by decide +kernel
theorem dX11_wind_30 : decode cX11_wind 30 = .ok (.athrow, 1) := by decide +kernel
theorem dX11_wind_31 : decode cX11_wind 31 = .ok (.aload_n 0, 1) := by decide +kernel
theorem dX11_wind_32 : decode cX11_wind 32 = .ok (.getfield 71, 3) := by decide +kernel
theorem dX11_wind_35 : decode cX11_wind 35 = .ok (.iload_n 1, 1) := by decide +kernel
theorem dX11_wind_36 : decode cX11_wind 36 = .ok (.iload_n 2, 1) := by decide +kernel
theorem dX11_wind_37 : decode cX11_wind 37 = .ok (.iload_n 3, 1) := by decide +kernel
theorem dX11_wind_38 : decode cX11_wind 38 = .ok (.invokevirtual 321, 3) := by decide +kernel
theorem dX11_wind_41 : decode cX11_wind 41 = .ok (.ireturn, 1) := by decide +kernel
def fX11_wind_0 (S : Nat → Int32) (V : Nat → Nat → Int32) (a1 : Int32) (a2 : Int32) (a3 : Int32) : Option ((Int32) ⊕ Nat) :=
  (if a2 < 0 then
  some (.inr 0)
  else
  (if (40 : Int32) < a2 then
  some (.inr 0)
  else
  (if a3 < 0 then
  some (.inr 0)
  else
  (if a3 ≤ (100 : Int32) then
  bd1 (fX6_slowInWind_48 S V a1 a2 a3) (fun r5 =>
  some (.inl r5))
  else
  some (.inr 0)))))
set_option maxHeartbeats 4000000 in
set_option maxRecDepth 100000 in
theorem kX11_wind_0 (l : Launch) (B : jBT) (D : va_G) (ad : Nat → Nat) (cA : Nat → ClassId) (hI : jI ad TC) (hl0 : l.stackTraces = false) (S : Nat → Int32) (V : Nat → Nat → Int32) (L : Nat → Int64) (a1 : Int32) (a2 : Int32) (a3 : Int32) (rr : (Int32) ⊕ Nat) (h : fX11_wind_0 S V a1 a2 a3 = some rr) : jMx l yX11_wind cX11_wind 4 (some .int) ({ frames := 6, cells := 1, slots := 6, locals := 145 }) B D TC ad cA [.ref (ad 0), .int a1, .int a2, .int a3] S V L (Sum.map (fun (z : Int32) => ((some (.int z) : Option Value), S, V, L)) (fun (x : Nat) => x) rr : jR) 1 6 := by
  refine jMx_of (by decide) TC_ok hI (Nat.le_of_ble_eq_true rfl) ?_
  intro p e s m args below meth c C hr hlk hxt
  refine j_lv (lv2 := [(0, .ref (ad 0)), (1, .int a1), (2, .int a2), (3, .int a3)]) rfl ?_
  unfold fX11_wind_0 at h
  refine j_iload_n C 2 rfl dX11_wind_0 rfl ?_
  refine j_if_lt (tgt := 20) C dX11_wind_1 (by decide) (fun c1 => ?_) (fun c1 => ?_)
  · have h := (if_pos c1).symm.trans h
    cases h
    exact jx_throwW (x := 0) (i := 19) C hl0 hlk rfl hxt rfl rfl xw_0 dX11_wind_20 dX11_wind_23 dX11_wind_24 dX11_wind_27 dX11_wind_30 (by decide) (Nat.le_of_ble_eq_true rfl) (by decide) (by decide) (by decide) (by decide)
  · have h := (if_neg c1).symm.trans h
    refine j_iload_n C 2 rfl dX11_wind_4 rfl ?_
    refine j_bipush C dX11_wind_5 cb_40 ?_
    refine j_icmp_gt (tgt := 20) C dX11_wind_7 (by decide) (fun c2 => ?_) (fun c2 => ?_)
    · have h := (if_pos c2).symm.trans h
      cases h
      exact jx_throwW (x := 0) (i := 19) C hl0 hlk rfl hxt rfl rfl xw_0 dX11_wind_20 dX11_wind_23 dX11_wind_24 dX11_wind_27 dX11_wind_30 (by decide) (Nat.le_of_ble_eq_true rfl) (by decide) (by decide) (by decide) (by decide)
    · have h := (if_neg c2).symm.trans h
      refine j_iload_n C 3 rfl dX11_wind_10 rfl ?_
      refine j_if_lt (tgt := 20) C dX11_wind_11 (by decide) (fun c3 => ?_) (fun c3 => ?_)
      · have h := (if_pos c3).symm.trans h
        cases h
        exact jx_throwW (x := 0) (i := 19) C hl0 hlk rfl hxt rfl rfl xw_0 dX11_wind_20 dX11_wind_23 dX11_wind_24 dX11_wind_27 dX11_wind_30 (by decide) (Nat.le_of_ble_eq_true rfl) (by decide) (by decide) (by decide) (by decide)
      · have h := (if_neg c3).symm.trans h
        refine j_iload_n C 3 rfl dX11_wind_14 rfl ?_
        refine j_bipush C dX11_wind_15 cb_100 ?_
        refine j_icmp_le (tgt := 31) C dX11_wind_17 (by decide) (fun c4 => ?_) (fun c4 => ?_)
        · have h := (if_pos c4).symm.trans h
          refine j_aload_n C 0 rfl dX11_wind_31 rfl ?_
          refine fg_X11_71_TC_0 C dX11_wind_32 ?_
          refine j_iload_n C 1 rfl dX11_wind_35 rfl ?_
          refine j_iload_n C 2 rfl dX11_wind_36 rfl ?_
          refine j_iload_n C 3 rfl dX11_wind_37 rfl ?_
          obtain ⟨r5, h6, h⟩ := bd1_elim h
          refine j_callV (As := [.int a1, .int a2, .int a3]) (rest := []) C (kX6_slowInWind_48 l B D ad cA hI S V L a1 a2 a3 _ h6) mw_X6_slowInWind wd1428 wd1429 wd1427 tc_48 rfl rfl ⟨rfl, rfl, by decide, by decide⟩ ⟨by decide, by decide⟩ rfl rfl (Nat.le_of_ble_eq_true rfl) dX11_wind_38 ?_
          cases h
          exact jx_iret C hr hlk rfl rfl (by decide) (by decide) dX11_wind_41
        · have h := (if_neg c4).symm.trans h
          cases h
          exact jx_throwW (x := 0) (i := 19) C hl0 hlk rfl hxt rfl rfl xw_0 dX11_wind_20 dX11_wind_23 dX11_wind_24 dX11_wind_27 dX11_wind_30 (by decide) (Nat.le_of_ble_eq_true rfl) (by decide) (by decide) (by decide) (by decide)
