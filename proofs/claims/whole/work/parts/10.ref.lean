theorem dX12_isGood_0 : decode cX12_isGood 0 = .ok (.aload_n 0, 1) := by decide +kernel
theorem dX12_isGood_1 : decode cX12_isGood 1 = .ok (.getfield 149, 3) := by decide +kernel
theorem dX12_isGood_4 : decode cX12_isGood 4 = .ok (.ifCond .ne 7, 3) := by decide +kernel
theorem dX12_isGood_7 : decode cX12_isGood 7 = .ok (.iconst 1, 1) := by decide +kernel
theorem dX12_isGood_8 : decode cX12_isGood 8 = .ok (.goto 4, 3) := by decide +kernel
theorem dX12_isGood_11 : decode cX12_isGood 11 = .ok (.iconst 0, 1) := by decide +kernel
theorem dX12_isGood_12 : decode cX12_isGood 12 = .ok (.ireturn, 1) := by decide +kernel
def fX12_isGood_0 (S : Nat → Int32) : Option (Int32) :=
  (if (S 14) = 0 then
  some (1 : Int32)
  else
  some (0 : Int32))
set_option maxHeartbeats 4000000 in
set_option maxRecDepth 100000 in
theorem kX12_isGood_0 (l : Launch) (B : jBT) (D : va_G) (ad : Nat → Nat) (cA : Nat → ClassId) (hI : jI ad TR) (S : Nat → Int32) (V : Nat → Nat → Int32) (L : Nat → Int64) (r0 : Int32) (h : fX12_isGood_0 S = some r0) : jM l yX12_isGood cX12_isGood 1 (some .boolean) ({ frames := 0, cells := 0, slots := 0, locals := 0 }) B D TR ad cA [.ref (ad 0)] S V L (some (.int r0)) S V L := by
  refine jM_of (plainFor_of_name (by decide)) TR_ok hI (Nat.le_of_ble_eq_true rfl) ?_
  intro p e s m args below meth c C hr hlk
  refine j_lv (lv2 := [(0, .ref (ad 0))]) rfl ?_
  unfold fX12_isGood_0 at h
  refine j_aload_n C 0 rfl dX12_isGood_0 rfl ?_
  refine fg_X12_149_TR_0 C dX12_isGood_1 ?_
  refine j_if_ne (tgt := 11) C dX12_isGood_4 (by decide) (fun c1 => ?_) (fun c1 => ?_)
  · have h := (if_neg c1).symm.trans h
    refine j_iconst C dX12_isGood_11 ci_0 ?_
    cases h
    exact j_zret C hr hlk rfl rfl dX12_isGood_12
  · have h := (if_pos c1).symm.trans h
    refine j_iconst C dX12_isGood_7 ci_1 ?_
    refine j_goto (tgt := 12) C dX12_isGood_8 (by decide) ?_
    cases h
    exact j_zret C hr hlk rfl rfl dX12_isGood_12
theorem dX12_wrong_0 : decode cX12_wrong 0 = .ok (.aload_n 0, 1) := by decide +kernel
theorem dX12_wrong_1 : decode cX12_wrong 1 = .ok (.getfield 149, 3) := by decide +kernel
theorem dX12_wrong_4 : decode cX12_wrong 4 = .ok (.ifCond .eq 4, 3) := by decide +kernel
theorem dX12_wrong_7 : decode cX12_wrong 7 = .ok (.return_, 1) := by decide +kernel
theorem dX12_wrong_8 : decode cX12_wrong 8 = .ok (.aload_n 0, 1) := by decide +kernel
theorem dX12_wrong_9 : decode cX12_wrong 9 = .ok (.iload_n 1, 1) := by decide +kernel
theorem dX12_wrong_10 : decode cX12_wrong 10 = .ok (.putfield 149, 3) := by decide +kernel
theorem dX12_wrong_13 : decode cX12_wrong 13 = .ok (.aload_n 0, 1) := by decide +kernel
theorem dX12_wrong_14 : decode cX12_wrong 14 = .ok (.aload_n 0, 1) := by decide +kernel
theorem dX12_wrong_15 : decode cX12_wrong 15 = .ok (.getfield 113, 3) := by decide +kernel
theorem dX12_wrong_18 : decode cX12_wrong 18 = .ok (.putfield 35, 3) := by decide +kernel
theorem dX12_wrong_21 : decode cX12_wrong 21 = .ok (.return_, 1) := by decide +kernel
def fX12_wrong_0 (S : Nat → Int32) (a1 : Int32) : Option ((Nat → Int32)) :=
  (if (S 14) = 0 then
  lt (va_up S 14 a1) (fun S2 =>
  lt ((S2 20)) (fun x3 =>
  lt (va_up S2 15 x3) (fun S4 =>
  some S4)))
  else
  some S)
set_option maxHeartbeats 4000000 in
set_option maxRecDepth 100000 in
theorem kX12_wrong_0 (l : Launch) (B : jBT) (D : va_G) (ad : Nat → Nat) (cA : Nat → ClassId) (hI : jI ad TR) (S : Nat → Int32) (V : Nat → Nat → Int32) (L : Nat → Int64) (a1 : Int32) (S0 : Nat → Int32) (h : fX12_wrong_0 S a1 = some S0) : jM l yX12_wrong cX12_wrong 2 none ({ frames := 0, cells := 0, slots := 0, locals := 0 }) B D TR ad cA [.ref (ad 0), .int a1] S V L none S0 V L := by
  refine jM_of (plainFor_of_name (by decide)) TR_ok hI (Nat.le_of_ble_eq_true rfl) ?_
  intro p e s m args below meth c C hr hlk
  refine j_lv (lv2 := [(0, .ref (ad 0)), (1, .int a1)]) rfl ?_
  unfold fX12_wrong_0 at h
  refine j_aload_n C 0 rfl dX12_wrong_0 rfl ?_
  refine fg_X12_149_TR_0 C dX12_wrong_1 ?_
  refine j_if_eq (tgt := 8) C dX12_wrong_4 (by decide) (fun c1 => ?_) (fun c1 => ?_)
  · have h := (if_pos c1).symm.trans h
    refine j_aload_n C 0 rfl dX12_wrong_8 rfl ?_
    refine j_iload_n C 1 rfl dX12_wrong_9 rfl ?_
    refine fp_X12_149_TR_0 C dX12_wrong_10 ?_
    refine lt_elim h (fun S2 e_S2 h => ?_)
    refine j_S e_S2 ?_
    refine j_aload_n C 0 rfl dX12_wrong_13 rfl ?_
    refine j_aload_n C 0 rfl dX12_wrong_14 rfl ?_
    refine fg_X12_113_TR_0 C dX12_wrong_15 ?_
    refine lt_elim h (fun x3 e_x3 h => ?_)
    refine j_top e_x3 ?_
    refine fp_X12_35_TR_0 C dX12_wrong_18 ?_
    refine lt_elim h (fun S4 e_S4 h => ?_)
    refine j_S e_S4 ?_
    cases h
    exact j_vret C hr hlk rfl dX12_wrong_21
  · have h := (if_neg c1).symm.trans h
    cases h
    exact j_vret C hr hlk rfl dX12_wrong_7
theorem dX12_amongHere_0 : decode cX12_amongHere 0 = .ok (.aload_n 0, 1) := by decide +kernel
theorem dX12_amongHere_1 : decode cX12_amongHere 1 = .ok (.invokevirtual 152, 3) := by decide +kernel
theorem dX12_amongHere_4 : decode cX12_amongHere 4 = .ok (.ifCond .ne 5, 3) := by decide +kernel
theorem dX12_amongHere_7 : decode cX12_amongHere 7 = .ok (.iconst 0, 1) := by decide +kernel
theorem dX12_amongHere_8 : decode cX12_amongHere 8 = .ok (.ireturn, 1) := by decide +kernel
theorem dX12_amongHere_9 : decode cX12_amongHere 9 = .ok (.aload_n 0, 1) := by decide +kernel
theorem dX12_amongHere_10 : decode cX12_amongHere 10 = .ok (.getfield 126, 3) := by decide +kernel
theorem dX12_amongHere_13 : decode cX12_amongHere 13 = .ok (.iconst 2, 1) := by decide +kernel
theorem dX12_amongHere_14 : decode cX12_amongHere 14 = .ok (.if_icmp .eq 11, 3) := by decide +kernel
theorem dX12_amongHere_17 : decode cX12_amongHere 17 = .ok (.aload_n 0, 1) := by decide +kernel
theorem dX12_amongHere_18 : decode cX12_amongHere 18 = .ok (.iconst 1, 1) := by decide +kernel
theorem dX12_amongHere_19 : decode cX12_amongHere 19 = .ok (.invokevirtual 159, 3) := by decide +kernel
theorem dX12_amongHere_22 : decode cX12_amongHere 22 = .ok (.goto 32, 3) := by decide +kernel
theorem dX12_amongHere_25 : decode cX12_amongHere 25 = .ok (.aload_n 0, 1) := by decide +kernel
theorem dX12_amongHere_26 : decode cX12_amongHere 26 = .ok (.getfield 136, 3) := by decide +kernel
theorem dX12_amongHere_29 : decode cX12_amongHere 29 = .ok (.iconst 4, 1) := by decide +kernel
theorem dX12_amongHere_30 : decode cX12_amongHere 30 = .ok (.if_icmp .le 11, 3) := by decide +kernel
theorem dX12_amongHere_33 : decode cX12_amongHere 33 = .ok (.aload_n 0, 1) := by decide +kernel
theorem dX12_amongHere_34 : decode cX12_amongHere 34 = .ok (.iconst 2, 1) := by decide +kernel
theorem dX12_amongHere_35 : decode cX12_amongHere 35 = .ok (.invokevirtual 159, 3) := by decide +kernel
theorem dX12_amongHere_38 : decode cX12_amongHere 38 = .ok (.goto 16, 3) := by decide +kernel
theorem dX12_amongHere_41 : decode cX12_amongHere 41 = .ok (.aload_n 0, 1) := by decide +kernel
theorem dX12_amongHere_42 : decode cX12_amongHere 42 = .ok (.getfield 120, 3) := by decide +kernel
theorem dX12_amongHere_45 : decode cX12_amongHere 45 = .ok (.iload_n 1, 1) := by decide +kernel
theorem dX12_amongHere_46 : decode cX12_amongHere 46 = .ok (.if_icmp .lt 8, 3) := by decide +kernel
theorem dX12_amongHere_49 : decode cX12_amongHere 49 = .ok (.aload_n 0, 1) := by decide +kernel
theorem dX12_amongHere_50 : decode cX12_amongHere 50 = .ok (.iconst 3, 1) := by decide +kernel
theorem dX12_amongHere_51 : decode cX12_amongHere 51 = .ok (.invokevirtual 159, 3) := by decide +kernel
theorem dX12_amongHere_54 : decode cX12_amongHere 54 = .ok (.aload_n 0, 1) := by decide +kernel
theorem dX12_amongHere_55 : decode cX12_amongHere 55 = .ok (.invokevirtual 152, 3) := by decide +kernel
theorem dX12_amongHere_58 : decode cX12_amongHere 58 = .ok (.ireturn, 1) := by decide +kernel
def fX12_amongHere_0 (S : Nat → Int32) (a1 : Int32) : Option (Int32 × (Nat → Int32)) :=
  bd1 (fX12_isGood_0 S) (fun r1 =>
  (if r1 = 0 then
  some ((0 : Int32), S)
  else
  bk (fun (S5 : Nat → Int32) =>
  bd1 (fX12_isGood_0 S5) (fun r6 =>
  gd (isb r6) (
  some (r6, S5)))) (fun K54_4 =>
  (if (S 19) = (2 : Int32) then
  (if (S 21) ≤ (4 : Int32) then
  (if (S 22) < a1 then
  K54_4 S
  else
  bd1 (fX12_wrong_0 S (3 : Int32)) (fun S12 =>
  K54_4 S12))
  else
  bd1 (fX12_wrong_0 S (2 : Int32)) (fun S14 =>
  K54_4 S14))
  else
  bd1 (fX12_wrong_0 S (1 : Int32)) (fun S16 =>
  K54_4 S16)))))
set_option maxHeartbeats 4000000 in
set_option maxRecDepth 100000 in
theorem kX12_amongHere_0 (l : Launch) (B : jBT) (D : va_G) (ad : Nat → Nat) (cA : Nat → ClassId) (hI : jI ad TR) (S : Nat → Int32) (V : Nat → Nat → Int32) (L : Nat → Int64) (a1 : Int32) (r0 : Int32) (S0 : Nat → Int32) (h : fX12_amongHere_0 S a1 = some (r0, S0)) : jM l yX12_amongHere cX12_amongHere 2 (some .boolean) ({ frames := 1, cells := 0, slots := 0, locals := 21 }) B D TR ad cA [.ref (ad 0), .int a1] S V L (some (.int r0)) S0 V L := by
  refine jM_of (plainFor_of_name (by decide)) TR_ok hI (Nat.le_of_ble_eq_true rfl) ?_
  intro p e s m args below meth c C hr hlk
  refine j_lv (lv2 := [(0, .ref (ad 0)), (1, .int a1)]) rfl ?_
  unfold fX12_amongHere_0 at h
  refine j_aload_n C 0 rfl dX12_amongHere_0 rfl ?_
  obtain ⟨r1, h2, h⟩ := bd1_elim h
  refine j_callV (As := []) (rest := []) C (kX12_isGood_0 l B D ad cA hI S V L _ h2) mw_X12_isGood wd1656 wd59 wd1654 tr_0 rfl rfl ⟨rfl, rfl, by decide, by decide⟩ ⟨Nat.zero_le _, Nat.zero_le _⟩ rfl rfl (Nat.le_of_ble_eq_true rfl) dX12_amongHere_1 ?_
  refine j_if_ne (tgt := 9) C dX12_amongHere_4 (by decide) (fun c3 => ?_) (fun c3 => ?_)
  · have h := (if_neg c3).symm.trans h
    refine j_aload_n C 0 rfl dX12_amongHere_9 rfl ?_
    refine fg_X12_126_TR_0 C dX12_amongHere_10 ?_
    refine j_iconst C dX12_amongHere_13 ci_2 ?_
    refine bk_elim h (fun K54_4 e_K54_4 h => ?_)
    have HK54_4 : ∀ (S5 : Nat → Int32), K54_4 S5 = some (r0, S0) → jW p l e ({ frames := 1, cells := 0, slots := 0, locals := 21 }) s m args below meth c (MQ below (jQc D TR ad cA (some (.int r0)) s.heap.size S0 V L) args s 0 0 (jA ad TR s.heap.size)) D TR ad cA (jA ad TR s.heap.size) 2 0 0 54 [(0, .ref (ad 0))] [] S5 V L := by
      subst e_K54_4
      intro S5 h
      refine j_aload_n C 0 rfl dX12_amongHere_54 rfl ?_
      obtain ⟨r6, h7, h⟩ := bd1_elim h
      refine j_callV (As := []) (rest := []) C (kX12_isGood_0 l B D ad cA hI S5 V L _ h7) mw_X12_isGood wd1656 wd59 wd1654 tr_0 rfl rfl ⟨rfl, rfl, by decide, by decide⟩ ⟨Nat.zero_le _, Nat.zero_le _⟩ rfl rfl (Nat.le_of_ble_eq_true rfl) dX12_amongHere_55 ?_
      obtain ⟨g8, h⟩ := gd_elim h
      cases h
      exact j_zret C hr hlk rfl (isb_n g8) dX12_amongHere_58
    refine j_icmp_eq (tgt := 25) C dX12_amongHere_14 (by decide) (fun c9 => ?_) (fun c9 => ?_)
    · have h := (if_pos c9).symm.trans h
      refine j_aload_n C 0 rfl dX12_amongHere_25 rfl ?_
      refine fg_X12_136_TR_0 C dX12_amongHere_26 ?_
      refine j_iconst C dX12_amongHere_29 ci_4 ?_
      refine j_icmp_le (tgt := 41) C dX12_amongHere_30 (by decide) (fun c10 => ?_) (fun c10 => ?_)
      · have h := (if_pos c10).symm.trans h
        refine j_aload_n C 0 rfl dX12_amongHere_41 rfl ?_
        refine fg_X12_120_TR_0 C dX12_amongHere_42 ?_
        refine j_iload_n C 1 rfl dX12_amongHere_45 rfl ?_
        refine j_icmp_lt (tgt := 54) C dX12_amongHere_46 (by decide) (fun c11 => ?_) (fun c11 => ?_)
        · have h := (if_pos c11).symm.trans h
          exact j_sub [0] rfl (HK54_4 _ h)
        · have h := (if_neg c11).symm.trans h
          refine j_aload_n C 0 rfl dX12_amongHere_49 rfl ?_
          refine j_iconst C dX12_amongHere_50 ci_3 ?_
          obtain ⟨S12, h13, h⟩ := bd1_elim h
          refine j_callV (As := [.int (3 : Int32)]) (rest := []) C (kX12_wrong_0 l B D ad cA hI S V L (3 : Int32) _ h13) mw_X12_wrong wd1679 wd63 wd1677 tr_0 rfl rfl ⟨rfl, rfl, by decide, by decide⟩ ⟨Nat.zero_le _, Nat.zero_le _⟩ rfl rfl (Nat.le_of_ble_eq_true rfl) dX12_amongHere_51 ?_
          exact j_sub [0] rfl (HK54_4 _ h)
      · have h := (if_neg c10).symm.trans h
        refine j_aload_n C 0 rfl dX12_amongHere_33 rfl ?_
        refine j_iconst C dX12_amongHere_34 ci_2 ?_
        obtain ⟨S14, h15, h⟩ := bd1_elim h
        refine j_callV (As := [.int (2 : Int32)]) (rest := []) C (kX12_wrong_0 l B D ad cA hI S V L (2 : Int32) _ h15) mw_X12_wrong wd1679 wd63 wd1677 tr_0 rfl rfl ⟨rfl, rfl, by decide, by decide⟩ ⟨Nat.zero_le _, Nat.zero_le _⟩ rfl rfl (Nat.le_of_ble_eq_true rfl) dX12_amongHere_35 ?_
        refine j_goto (tgt := 54) C dX12_amongHere_38 (by decide) ?_
        exact j_sub [0] rfl (HK54_4 _ h)
    · have h := (if_neg c9).symm.trans h
      refine j_aload_n C 0 rfl dX12_amongHere_17 rfl ?_
      refine j_iconst C dX12_amongHere_18 ci_1 ?_
      obtain ⟨S16, h17, h⟩ := bd1_elim h
      refine j_callV (As := [.int (1 : Int32)]) (rest := []) C (kX12_wrong_0 l B D ad cA hI S V L (1 : Int32) _ h17) mw_X12_wrong wd1679 wd63 wd1677 tr_0 rfl rfl ⟨rfl, rfl, by decide, by decide⟩ ⟨Nat.zero_le _, Nat.zero_le _⟩ rfl rfl (Nat.le_of_ble_eq_true rfl) dX12_amongHere_19 ?_
      refine j_goto (tgt := 54) C dX12_amongHere_22 (by decide) ?_
      exact j_sub [0] rfl (HK54_4 _ h)
  · have h := (if_pos c3).symm.trans h
    refine j_iconst C dX12_amongHere_7 ci_0 ?_
    cases h
    exact j_zret C hr hlk rfl rfl dX12_amongHere_8
