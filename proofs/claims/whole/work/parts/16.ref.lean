theorem dX12_isSign_0 : decode cX12_isSign 0 = .ok (.aload_n 0, 1) := by decide +kernel
theorem dX12_isSign_1 : decode cX12_isSign 1 = .ok (.getfield 126, 3) := by decide +kernel
theorem dX12_isSign_4 : decode cX12_isSign 4 = .ok (.iconst 3, 1) := by decide +kernel
theorem dX12_isSign_5 : decode cX12_isSign 5 = .ok (.if_icmp .ne 15, 3) := by decide +kernel
theorem dX12_isSign_8 : decode cX12_isSign 8 = .ok (.aload_n 0, 1) := by decide +kernel
theorem dX12_isSign_9 : decode cX12_isSign 9 = .ok (.getfield 123, 3) := by decide +kernel
theorem dX12_isSign_12 : decode cX12_isSign 12 = .ok (.iload_n 1, 1) := by decide +kernel
theorem dX12_isSign_13 : decode cX12_isSign 13 = .ok (.if_icmp .ne 7, 3) := by decide +kernel
theorem dX12_isSign_16 : decode cX12_isSign 16 = .ok (.iconst 1, 1) := by decide +kernel
theorem dX12_isSign_17 : decode cX12_isSign 17 = .ok (.goto 4, 3) := by decide +kernel
theorem dX12_isSign_20 : decode cX12_isSign 20 = .ok (.iconst 0, 1) := by decide +kernel
theorem dX12_isSign_21 : decode cX12_isSign 21 = .ok (.ireturn, 1) := by decide +kernel
def fX12_isSign_0 (S : Nat → Int32) (a1 : Int32) : Option (Int32) :=
  (if (S 19) = (3 : Int32) then
  (if (S 23) = a1 then
  some (1 : Int32)
  else
  some (0 : Int32))
  else
  some (0 : Int32))
set_option maxHeartbeats 4000000 in
set_option maxRecDepth 100000 in
theorem kX12_isSign_0 (l : Launch) (B : jBT) (D : va_G) (ad : Nat → Nat) (cA : Nat → ClassId) (hI : jI ad TR) (S : Nat → Int32) (V : Nat → Nat → Int32) (L : Nat → Int64) (a1 : Int32) (r0 : Int32) (h : fX12_isSign_0 S a1 = some r0) : jM l yX12_isSign cX12_isSign 2 (some .boolean) ({ frames := 0, cells := 0, slots := 0, locals := 0 }) B D TR ad cA [.ref (ad 0), .int a1] S V L (some (.int r0)) S V L := by
  refine jM_of (plainFor_of_name (by decide)) TR_ok hI (Nat.le_of_ble_eq_true rfl) ?_
  intro p e s m args below meth c C hr hlk
  refine j_lv (lv2 := [(0, .ref (ad 0)), (1, .int a1)]) rfl ?_
  unfold fX12_isSign_0 at h
  refine j_aload_n C 0 rfl dX12_isSign_0 rfl ?_
  refine fg_X12_126_TR_0 C dX12_isSign_1 ?_
  refine j_iconst C dX12_isSign_4 ci_3 ?_
  refine j_icmp_ne (tgt := 20) C dX12_isSign_5 (by decide) (fun c1 => ?_) (fun c1 => ?_)
  · have h := (if_neg c1).symm.trans h
    refine j_iconst C dX12_isSign_20 ci_0 ?_
    cases h
    exact j_zret C hr hlk rfl rfl dX12_isSign_21
  · have h := (if_pos c1).symm.trans h
    refine j_aload_n C 0 rfl dX12_isSign_8 rfl ?_
    refine fg_X12_123_TR_0 C dX12_isSign_9 ?_
    refine j_iload_n C 1 rfl dX12_isSign_12 rfl ?_
    refine j_icmp_ne (tgt := 20) C dX12_isSign_13 (by decide) (fun c2 => ?_) (fun c2 => ?_)
    · have h := (if_neg c2).symm.trans h
      refine j_iconst C dX12_isSign_20 ci_0 ?_
      cases h
      exact j_zret C hr hlk rfl rfl dX12_isSign_21
    · have h := (if_pos c2).symm.trans h
      refine j_iconst C dX12_isSign_16 ci_1 ?_
      refine j_goto (tgt := 21) C dX12_isSign_17 (by decide) ?_
      cases h
      exact j_zret C hr hlk rfl rfl dX12_isSign_21
theorem dX12_deeper_0 : decode cX12_deeper 0 = .ok (.aload_n 0, 1) := by decide +kernel
theorem dX12_deeper_1 : decode cX12_deeper 1 = .ok (.getfield 181, 3) := by decide +kernel
theorem dX12_deeper_4 : decode cX12_deeper 4 = .ok (.bipush 6, 2) := by decide +kernel
theorem dX12_deeper_6 : decode cX12_deeper 6 = .ok (.if_icmp .ge 24, 3) := by decide +kernel
theorem dX12_deeper_9 : decode cX12_deeper 9 = .ok (.aload_n 0, 1) := by decide +kernel
theorem dX12_deeper_10 : decode cX12_deeper 10 = .ok (.dup, 1) := by decide +kernel
theorem dX12_deeper_11 : decode cX12_deeper 11 = .ok (.getfield 181, 3) := by decide +kernel
theorem dX12_deeper_14 : decode cX12_deeper 14 = .ok (.iconst 1, 1) := by decide +kernel
theorem dX12_deeper_15 : decode cX12_deeper 15 = .ok (.iadd, 1) := by decide +kernel
theorem dX12_deeper_16 : decode cX12_deeper 16 = .ok (.putfield 181, 3) := by decide +kernel
theorem dX12_deeper_19 : decode cX12_deeper 19 = .ok (.aload_n 0, 1) := by decide +kernel
theorem dX12_deeper_20 : decode cX12_deeper 20 = .ok (.getfield 56, 3) := by decide +kernel
theorem dX12_deeper_23 : decode cX12_deeper 23 = .ok (.aload_n 0, 1) := by decide +kernel
theorem dX12_deeper_24 : decode cX12_deeper 24 = .ok (.getfield 181, 3) := by decide +kernel
theorem dX12_deeper_27 : decode cX12_deeper 27 = .ok (.iconst 0, 1) := by decide +kernel
theorem dX12_deeper_28 : decode cX12_deeper 28 = .ok (.bastore, 1) := by decide +kernel
theorem dX12_deeper_29 : decode cX12_deeper 29 = .ok (.return_, 1) := by decide +kernel
theorem dX12_deeper_30 : decode cX12_deeper 30 = .ok (.aload_n 0, 1) := by decide +kernel
theorem dX12_deeper_31 : decode cX12_deeper 31 = .ok (.aload_n 0, 1) := by decide +kernel
theorem dX12_deeper_32 : decode cX12_deeper 32 = .ok (.getfield 126, 3) := by decide +kernel
theorem dX12_deeper_35 : decode cX12_deeper 35 = .ok (.iconst 2, 1) := by decide +kernel
theorem dX12_deeper_36 : decode cX12_deeper 36 = .ok (.if_icmp .eq 20, 3) := by decide +kernel
theorem dX12_deeper_39 : decode cX12_deeper 39 = .ok (.aload_n 0, 1) := by decide +kernel
theorem dX12_deeper_40 : decode cX12_deeper 40 = .ok (.getfield 126, 3) := by decide +kernel
theorem dX12_deeper_43 : decode cX12_deeper 43 = .ok (.iconst 1, 1) := by decide +kernel
theorem dX12_deeper_44 : decode cX12_deeper 44 = .ok (.if_icmp .eq 12, 3) := by decide +kernel
theorem dX12_deeper_47 : decode cX12_deeper 47 = .ok (.aload_n 0, 1) := by decide +kernel
theorem dX12_deeper_48 : decode cX12_deeper 48 = .ok (.bipush 40, 2) := by decide +kernel
theorem dX12_deeper_50 : decode cX12_deeper 50 = .ok (.invokevirtual 184, 3) := by decide +kernel
theorem dX12_deeper_53 : decode cX12_deeper 53 = .ok (.ifCond .eq 7, 3) := by decide +kernel
theorem dX12_deeper_56 : decode cX12_deeper 56 = .ok (.iconst 2, 1) := by decide +kernel
theorem dX12_deeper_57 : decode cX12_deeper 57 = .ok (.goto 4, 3) := by decide +kernel
theorem dX12_deeper_60 : decode cX12_deeper 60 = .ok (.iconst 1, 1) := by decide +kernel
theorem dX12_deeper_61 : decode cX12_deeper 61 = .ok (.invokevirtual 159, 3) := by decide +kernel
theorem dX12_deeper_64 : decode cX12_deeper 64 = .ok (.return_, 1) := by decide +kernel
def fX12_deeper_0 (S : Nat → Int32) (V : Nat → Nat → Int32) : Option ((Nat → Int32) × (Nat → Nat → Int32)) :=
  (if (6 : Int32) ≤ (S 35) then
  bk (fun (x3 : Int32) (S4 : Nat → Int32) (V5 : Nat → Nat → Int32) =>
  bd1 (fX12_wrong_0 S4 x3) (fun S6 =>
  some (S6, V5))) (fun K61_2 =>
  bk (fun (S9 : Nat → Int32) (V10 : Nat → Nat → Int32) =>
  K61_2 (2 : Int32) S9 V10) (fun K56_8 =>
  (if (S 19) = (2 : Int32) then
  K56_8 S V
  else
  (if (S 19) = (1 : Int32) then
  K56_8 S V
  else
  bd1 (fX12_isSign_0 S (40 : Int32)) (fun r13 =>
  (if r13 = 0 then
  K61_2 (1 : Int32) S V
  else
  K56_8 S V))))))
  else
  lt (((S 35) + (1 : Int32))) (fun x16 =>
  lt (va_up S 35 x16) (fun S17 =>
  lt ((S17 35)) (fun x18 =>
  gd (ib x18 9) (
  lt (va_up V 12 (upd (V 12) (x18).toNatClampNeg (vp_nar .boolean (0 : Int32)))) (fun V20 =>
  some (S17, V20)))))))
set_option maxHeartbeats 4000000 in
set_option maxRecDepth 100000 in
theorem kX12_deeper_0 (l : Launch) (B : jBT) (D : va_G) (ad : Nat → Nat) (cA : Nat → ClassId) (hI : jI ad TR) (S : Nat → Int32) (V : Nat → Nat → Int32) (L : Nat → Int64) (S0 : Nat → Int32) (V0 : Nat → Nat → Int32) (h : fX12_deeper_0 S V = some (S0, V0)) : jM l yX12_deeper cX12_deeper 1 none ({ frames := 1, cells := 0, slots := 0, locals := 21 }) B D TR ad cA [.ref (ad 0)] S V L none S0 V0 L := by
  refine jM_of (plainFor_of_name (by decide)) TR_ok hI (Nat.le_of_ble_eq_true rfl) ?_
  intro p e s m args below meth c C hr hlk
  refine j_lv (lv2 := [(0, .ref (ad 0))]) rfl ?_
  unfold fX12_deeper_0 at h
  refine j_aload_n C 0 rfl dX12_deeper_0 rfl ?_
  refine fg_X12_181_TR_0 C dX12_deeper_1 ?_
  refine j_bipush C dX12_deeper_4 cb_6 ?_
  refine j_icmp_ge (tgt := 30) C dX12_deeper_6 (by decide) (fun c1 => ?_) (fun c1 => ?_)
  · have h := (if_pos c1).symm.trans h
    refine j_aload_n C 0 rfl dX12_deeper_30 rfl ?_
    refine j_aload_n C 0 rfl dX12_deeper_31 rfl ?_
    refine fg_X12_126_TR_0 C dX12_deeper_32 ?_
    refine j_iconst C dX12_deeper_35 ci_2 ?_
    refine bk_elim h (fun K61_2 e_K61_2 h => ?_)
    have HK61_2 : ∀ (x3 : Int32) (S4 : Nat → Int32) (V5 : Nat → Nat → Int32), K61_2 x3 S4 V5 = some (S0, V0) → jW p l e ({ frames := 1, cells := 0, slots := 0, locals := 21 }) s m args below meth c (MQ below (jQc D TR ad cA none s.heap.size S0 V0 L) args s 0 0 (jA ad TR s.heap.size)) D TR ad cA (jA ad TR s.heap.size) 1 0 0 61 [] [.int x3, .ref (ad 0)] S4 V5 L := by
      subst e_K61_2
      intro x3 S4 V5 h
      obtain ⟨S6, h7, h⟩ := bd1_elim h
      refine j_callV (As := [.int x3]) (rest := []) C (kX12_wrong_0 l B D ad cA hI S4 V5 L x3 _ h7) mw_X12_wrong wd1679 wd63 wd1677 tr_0 rfl rfl ⟨rfl, rfl, by decide, by decide⟩ ⟨Nat.zero_le _, Nat.zero_le _⟩ rfl rfl (Nat.le_of_ble_eq_true rfl) dX12_deeper_61 ?_
      cases h
      exact j_vret C hr hlk rfl dX12_deeper_64
    refine bk_elim h (fun K56_8 e_K56_8 h => ?_)
    have HK56_8 : ∀ (S9 : Nat → Int32) (V10 : Nat → Nat → Int32), K56_8 S9 V10 = some (S0, V0) → jW p l e ({ frames := 1, cells := 0, slots := 0, locals := 21 }) s m args below meth c (MQ below (jQc D TR ad cA none s.heap.size S0 V0 L) args s 0 0 (jA ad TR s.heap.size)) D TR ad cA (jA ad TR s.heap.size) 1 0 0 56 [] [.ref (ad 0)] S9 V10 L := by
      subst e_K56_8
      intro S9 V10 h
      refine j_iconst C dX12_deeper_56 ci_2 ?_
      refine j_goto (tgt := 61) C dX12_deeper_57 (by decide) ?_
      exact j_sub [] rfl (HK61_2 _ _ _ h)
    refine j_icmp_eq (tgt := 56) C dX12_deeper_36 (by decide) (fun c11 => ?_) (fun c11 => ?_)
    · have h := (if_pos c11).symm.trans h
      exact j_sub [] rfl (HK56_8 _ _ h)
    · have h := (if_neg c11).symm.trans h
      refine j_aload_n C 0 rfl dX12_deeper_39 rfl ?_
      refine fg_X12_126_TR_0 C dX12_deeper_40 ?_
      refine j_iconst C dX12_deeper_43 ci_1 ?_
      refine j_icmp_eq (tgt := 56) C dX12_deeper_44 (by decide) (fun c12 => ?_) (fun c12 => ?_)
      · have h := (if_pos c12).symm.trans h
        exact j_sub [] rfl (HK56_8 _ _ h)
      · have h := (if_neg c12).symm.trans h
        refine j_aload_n C 0 rfl dX12_deeper_47 rfl ?_
        refine j_bipush C dX12_deeper_48 cb_40 ?_
        obtain ⟨r13, h14, h⟩ := bd1_elim h
        refine j_callV (As := [.int (40 : Int32)]) (rest := [.ref (ad 0)]) C (kX12_isSign_0 l B D ad cA hI S V L (40 : Int32) _ h14) mw_X12_isSign wd1711 wd71 wd1709 tr_0 rfl rfl ⟨rfl, rfl, by decide, by decide⟩ ⟨Nat.zero_le _, Nat.zero_le _⟩ rfl rfl (Nat.le_of_ble_eq_true rfl) dX12_deeper_50 ?_
        refine j_if_eq (tgt := 60) C dX12_deeper_53 (by decide) (fun c15 => ?_) (fun c15 => ?_)
        · have h := (if_pos c15).symm.trans h
          refine j_iconst C dX12_deeper_60 ci_1 ?_
          exact j_sub [] rfl (HK61_2 _ _ _ h)
        · have h := (if_neg c15).symm.trans h
          exact j_sub [] rfl (HK56_8 _ _ h)
  · have h := (if_neg c1).symm.trans h
    refine j_aload_n C 0 rfl dX12_deeper_9 rfl ?_
    refine j_dup C dX12_deeper_10 rfl ?_
    refine fg_X12_181_TR_0 C dX12_deeper_11 ?_
    refine j_iconst C dX12_deeper_14 ci_1 ?_
    refine j_iadd C dX12_deeper_15 ?_
    refine lt_elim h (fun x16 e_x16 h => ?_)
    refine j_top e_x16 ?_
    refine fp_X12_181_TR_0 C dX12_deeper_16 ?_
    refine lt_elim h (fun S17 e_S17 h => ?_)
    refine j_S e_S17 ?_
    refine j_aload_n C 0 rfl dX12_deeper_19 rfl ?_
    refine fg_X12_56_TR_0 C dX12_deeper_20 ?_
    refine j_aload_n C 0 rfl dX12_deeper_23 rfl ?_
    refine fg_X12_181_TR_0 C dX12_deeper_24 ?_
    refine j_iconst C dX12_deeper_27 ci_0 ?_
    refine lt_elim h (fun x18 e_x18 h => ?_)
    refine j_top2 e_x18 ?_
    obtain ⟨g19, h⟩ := gd_elim h
    refine j_zast C tr_12 (ib_in g19) dX12_deeper_28 ?_
    refine lt_elim h (fun V20 e_V20 h => ?_)
    refine j_V e_V20 ?_
    cases h
    exact j_vret C hr hlk rfl dX12_deeper_29
