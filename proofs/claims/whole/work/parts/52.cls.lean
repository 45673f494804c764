theorem dJ9_floorMod_7cf53_0 : decode cJ9_floorMod_7cf53 0 = .ok (.iload_n 0, 1) := by decide +kernel
theorem dJ9_floorMod_7cf53_1 : decode cJ9_floorMod_7cf53 1 = .ok (.iload_n 1, 1) := by decide +kernel
theorem dJ9_floorMod_7cf53_2 : decode cJ9_floorMod_7cf53 2 = .ok (.irem, 1) := by decide +kernel
theorem dJ9_floorMod_7cf53_3 : decode cJ9_floorMod_7cf53 3 = .ok (.istore_n 2, 1) := by decide +kernel
theorem dJ9_floorMod_7cf53_4 : decode cJ9_floorMod_7cf53 4 = .ok (.iload_n 0, 1) := by decide +kernel
theorem dJ9_floorMod_7cf53_5 : decode cJ9_floorMod_7cf53 5 = .ok (.iload_n 1, 1) := by decide +kernel
theorem dJ9_floorMod_7cf53_6 : decode cJ9_floorMod_7cf53 6 = .ok (.ixor, 1) := by decide +kernel
theorem dJ9_floorMod_7cf53_7 : decode cJ9_floorMod_7cf53 7 = .ok (.ifCond .ge 11, 3) := by decide +kernel
theorem dJ9_floorMod_7cf53_10 : decode cJ9_floorMod_7cf53 10 = .ok (.iload_n 2, 1) := by decide +kernel
theorem dJ9_floorMod_7cf53_11 : decode cJ9_floorMod_7cf53 11 = .ok (.ifCond .eq 7, 3) := by decide +kernel
theorem dJ9_floorMod_7cf53_14 : decode cJ9_floorMod_7cf53 14 = .ok (.iload_n 2, 1) := by decide +kernel
theorem dJ9_floorMod_7cf53_15 : decode cJ9_floorMod_7cf53 15 = .ok (.iload_n 1, 1) := by decide +kernel
theorem dJ9_floorMod_7cf53_16 : decode cJ9_floorMod_7cf53 16 = .ok (.iadd, 1) := by decide +kernel
theorem dJ9_floorMod_7cf53_17 : decode cJ9_floorMod_7cf53 17 = .ok (.ireturn, 1) := by decide +kernel
theorem dJ9_floorMod_7cf53_18 : decode cJ9_floorMod_7cf53 18 = .ok (.iload_n 2, 1) := by decide +kernel
theorem dJ9_floorMod_7cf53_19 : decode cJ9_floorMod_7cf53 19 = .ok (.ireturn, 1) := by decide +kernel
def fJ9_floorMod_7cf53 (a1 : Int32) (a2 : Int32) : Option (Int32) :=
  gd (nz a2) (
  lt ((a1 - a1 / a2 * a2)) (fun x2 =>
  (if 0 ≤ (a1 ^^^ a2) then
  some x2
  else
  (if x2 = 0 then
  some x2
  else
  some ((x2 + a2))))))
set_option maxHeartbeats 4000000 in
set_option maxRecDepth 100000 in
theorem kJ9_floorMod_7cf53 (l : Launch) (B : jBT) (D : va_G) (ad : Nat → Nat) (cA : Nat → ClassId) (hI : jI ad TC) (S : Nat → Int32) (V : Nat → Nat → Int32) (L : Nat → Int64) (a1 : Int32) (a2 : Int32) (r0 : Int32) (h : fJ9_floorMod_7cf53 a1 a2 = some r0) : jM l yJ9_floorMod_7cf53 cJ9_floorMod_7cf53 3 (some .int) ({ frames := 0, cells := 0, slots := 0, locals := 0 }) B D TC ad cA [.int a1, .int a2] S V L (some (.int r0)) S V L := by
  refine jM_of (by decide +kernel) TC_ok hI (Nat.le_of_ble_eq_true rfl) ?_
  intro p e s m args below meth c C hr hlk
  refine j_lv (lv2 := [(0, .int a1), (1, .int a2)]) rfl ?_
  unfold fJ9_floorMod_7cf53 at h
  refine j_iload_n C 0 rfl dJ9_floorMod_7cf53_0 rfl ?_
  refine j_iload_n C 1 rfl dJ9_floorMod_7cf53_1 rfl ?_
  obtain ⟨g1, h⟩ := gd_elim h
  refine j_irem C dJ9_floorMod_7cf53_2 (nz_ne g1) ?_
  refine lt_elim h (fun x2 e_x2 h => ?_)
  refine j_top e_x2 ?_
  refine j_istore_n C [(2, .int x2), (0, .int a1), (1, .int a2)] dJ9_floorMod_7cf53_3 rfl (by decide) rfl ?_
  refine j_iload_n C 1 rfl dJ9_floorMod_7cf53_4 rfl ?_
  refine j_iload_n C 2 rfl dJ9_floorMod_7cf53_5 rfl ?_
  refine j_ixor C dJ9_floorMod_7cf53_6 ?_
  refine j_if_ge (tgt := 18) C dJ9_floorMod_7cf53_7 (by decide) (fun c3 => ?_) (fun c3 => ?_)
  · have h := (if_pos c3).symm.trans h
    refine j_iload_n C 0 rfl dJ9_floorMod_7cf53_18 rfl ?_
    cases h
    exact j_iret C hr hlk rfl dJ9_floorMod_7cf53_19
  · have h := (if_neg c3).symm.trans h
    refine j_iload_n C 0 rfl dJ9_floorMod_7cf53_10 rfl ?_
    refine j_if_eq (tgt := 18) C dJ9_floorMod_7cf53_11 (by decide) (fun c4 => ?_) (fun c4 => ?_)
    · have h := (if_pos c4).symm.trans h
      refine j_iload_n C 0 rfl dJ9_floorMod_7cf53_18 rfl ?_
      cases h
      exact j_iret C hr hlk rfl dJ9_floorMod_7cf53_19
    · have h := (if_neg c4).symm.trans h
      refine j_iload_n C 0 rfl dJ9_floorMod_7cf53_14 rfl ?_
      refine j_iload_n C 2 rfl dJ9_floorMod_7cf53_15 rfl ?_
      refine j_iadd C dJ9_floorMod_7cf53_16 ?_
      cases h
      exact j_iret C hr hlk rfl dJ9_floorMod_7cf53_17
theorem dX6_firstWedding_0 : decode cX6_firstWedding 0 = .ok (.iconst 0, 1) := by decide +kernel
theorem dX6_firstWedding_1 : decode cX6_firstWedding 1 = .ok (.istore_n 2, 1) := by decide +kernel
theorem dX6_firstWedding_2 : decode cX6_firstWedding 2 = .ok (.iconst 0, 1) := by decide +kernel
theorem dX6_firstWedding_3 : decode cX6_firstWedding 3 = .ok (.istore_n 3, 1) := by decide +kernel
theorem dX6_firstWedding_4 : decode cX6_firstWedding 4 = .ok (.iload_n 3, 1) := by decide +kernel
theorem dX6_firstWedding_5 : decode cX6_firstWedding 5 = .ok (.bipush 24, 2) := by decide +kernel
theorem dX6_firstWedding_7 : decode cX6_firstWedding 7 = .ok (.if_icmp .ge 21, 3) := by decide +kernel
theorem dX6_firstWedding_10 : decode cX6_firstWedding 10 = .ok (.iload_n 2, 1) := by decide +kernel
theorem dX6_firstWedding_11 : decode cX6_firstWedding 11 = .ok (.aload_n 0, 1) := by decide +kernel
theorem dX6_firstWedding_12 : decode cX6_firstWedding 12 = .ok (.iload_n 3, 1) := by decide +kernel
theorem dX6_firstWedding_13 : decode cX6_firstWedding 13 = .ok (.iconst 0, 1) := by decide +kernel
theorem dX6_firstWedding_14 : decode cX6_firstWedding 14 = .ok (.iconst (-1), 1) := by decide +kernel
theorem dX6_firstWedding_15 : decode cX6_firstWedding 15 = .ok (.invokevirtual 35, 3) := by decide +kernel
theorem dX6_firstWedding_18 : decode cX6_firstWedding 18 = .ok (.invokestatic 41, 3) := by decide +kernel
theorem dX6_firstWedding_21 : decode cX6_firstWedding 21 = .ok (.istore_n 2, 1) := by decide +kernel
theorem dX6_firstWedding_22 : decode cX6_firstWedding 22 = .ok (.iinc 3 1, 3) := by decide +kernel
theorem dX6_firstWedding_25 : decode cX6_firstWedding 25 = .ok (.goto (-21), 3) := by decide +kernel
theorem dX6_firstWedding_28 : decode cX6_firstWedding 28 = .ok (.iload_n 1, 1) := by decide +kernel
theorem dX6_firstWedding_29 : decode cX6_firstWedding 29 = .ok (.bipush 6, 2) := by decide +kernel
theorem dX6_firstWedding_31 : decode cX6_firstWedding 31 = .ok (.iload_n 1, 1) := by decide +kernel
theorem dX6_firstWedding_32 : decode cX6_firstWedding 32 = .ok (.isub, 1) := by decide +kernel
theorem dX6_firstWedding_33 : decode cX6_firstWedding 33 = .ok (.bipush 7, 2) := by decide +kernel
theorem dX6_firstWedding_35 : decode cX6_firstWedding 35 = .ok (.invokestatic 46, 3) := by decide +kernel
theorem dX6_firstWedding_38 : decode cX6_firstWedding 38 = .ok (.iadd, 1) := by decide +kernel
theorem dX6_firstWedding_39 : decode cX6_firstWedding 39 = .ok (.istore_n 3, 1) := by decide +kernel
theorem dX6_firstWedding_40 : decode cX6_firstWedding 40 = .ok (.iload_n 3, 1) := by decide +kernel
theorem dX6_firstWedding_41 : decode cX6_firstWedding 41 = .ok (.sipush 9999, 3) := by decide +kernel
theorem dX6_firstWedding_44 : decode cX6_firstWedding 44 = .ok (.if_icmp .gt 42, 3) := by decide +kernel
theorem dX6_firstWedding_47 : decode cX6_firstWedding 47 = .ok (.aload_n 0, 1) := by decide +kernel
theorem dX6_firstWedding_48 : decode cX6_firstWedding 48 = .ok (.getfield 9, 3) := by decide +kernel
theorem dX6_firstWedding_51 : decode cX6_firstWedding 51 = .ok (.iload_n 3, 1) := by decide +kernel
theorem dX6_firstWedding_52 : decode cX6_firstWedding 52 = .ok (.invokevirtual 49, 3) := by decide +kernel
theorem dX6_firstWedding_55 : decode cX6_firstWedding 55 = .ok (.istore 4, 2) := by decide +kernel
theorem dX6_firstWedding_57 : decode cX6_firstWedding 57 = .ok (.iload_n 2, 1) := by decide +kernel
theorem dX6_firstWedding_58 : decode cX6_firstWedding 58 = .ok (.iload 4, 2) := by decide +kernel
theorem dX6_firstWedding_60 : decode cX6_firstWedding 60 = .ok (.isub, 1) := by decide +kernel
theorem dX6_firstWedding_61 : decode cX6_firstWedding 61 = .ok (.aload_n 0, 1) := by decide +kernel
theorem dX6_firstWedding_62 : decode cX6_firstWedding 62 = .ok (.getfield 9, 3) := by decide +kernel
theorem dX6_firstWedding_65 : decode cX6_firstWedding 65 = .ok (.getfield 53, 3) := by decide +kernel
theorem dX6_firstWedding_68 : decode cX6_firstWedding 68 = .ok (.if_icmp .le 5, 3) := by decide +kernel
theorem dX6_firstWedding_71 : decode cX6_firstWedding 71 = .ok (.iload_n 3, 1) := by decide +kernel
theorem dX6_firstWedding_72 : decode cX6_firstWedding 72 = .ok (.ireturn, 1) := by decide +kernel
theorem dX6_firstWedding_73 : decode cX6_firstWedding 73 = .ok (.iload 4, 2) := by decide +kernel
theorem dX6_firstWedding_75 : decode cX6_firstWedding 75 = .ok (.ifCond .ne 5, 3) := by decide +kernel
theorem dX6_firstWedding_78 : decode cX6_firstWedding 78 = .ok (.iconst (-1), 1) := by decide +kernel
theorem dX6_firstWedding_79 : decode cX6_firstWedding 79 = .ok (.ireturn, 1) := by decide +kernel
theorem dX6_firstWedding_80 : decode cX6_firstWedding 80 = .ok (.iinc 3 7, 3) := by decide +kernel
theorem dX6_firstWedding_83 : decode cX6_firstWedding 83 = .ok (.goto (-43), 3) := by decide +kernel
theorem dX6_firstWedding_86 : decode cX6_firstWedding 86 = .ok (.iconst (-1), 1) := by decide +kernel
theorem dX6_firstWedding_87 : decode cX6_firstWedding 87 = .ok (.ireturn, 1) := by decide +kernel
def fX6_firstWedding_48_L4 (E28 : Int32 → Int32 → Option (Int32)) (S : Nat → Int32) (V : Nat → Nat → Int32) : Nat → Int32 → Int32 → Int32 → Option (Int32)
  | 0, _, _, _ => none
  | n + 1, x1, x2, x3 =>
    (if (24 : Int32) ≤ x3 then
    E28 x1 x2
    else
    bd1 (fX6_swingIn_48 S V x3 (0 : Int32) (-1 : Int32)) (fun r5 =>
    bd1 (fJ9_max_7cf53 x2 r5) (fun r7 =>
    lt (x3 + (1 : Int32)) (fun x9 =>
    fX6_firstWedding_48_L4 E28 S V n x1 r7 x9))))
def fX6_firstWedding_48_L40 (S : Nat → Int32) (V : Nat → Nat → Int32) : Nat → Int32 → Int32 → Option (Int32)
  | 0, _, _ => none
  | n + 1, x18, x19 =>
    (if (9999 : Int32) < x19 then
    some (-1 : Int32)
    else
    bd1 (fX2_oilLeft_3 S x19) (fun r21 =>
    (if (x18 - r21) ≤ (S 303) then
    (if r21 = 0 then
    some (-1 : Int32)
    else
    lt (x19 + (7 : Int32)) (fun x25 =>
    fX6_firstWedding_48_L40 S V n x18 x25))
    else
    some x19)))
def fX6_firstWedding_48 (S : Nat → Int32) (V : Nat → Nat → Int32) (a1 : Int32) : Option (Int32) :=
  bk (fun (x13 : Int32) (x14 : Int32) =>
  bd1 (fJ9_floorMod_7cf53 (((6 : Int32) - x13)) (7 : Int32)) (fun r15 =>
  lt ((x13 + r15)) (fun x17 =>
  fX6_firstWedding_48_L40 S V FU x14 x17))) (fun X28_12 =>
  fX6_firstWedding_48_L4 X28_12 S V FU a1 (0 : Int32) (0 : Int32))
set_option maxHeartbeats 4000000 in
set_option maxRecDepth 100000 in
theorem kX6_firstWedding_48 (l : Launch) (B : jBT) (D : va_G) (ad : Nat → Nat) (cA : Nat → ClassId) (hI : jI ad TC) (S : Nat → Int32) (V : Nat → Nat → Int32) (L : Nat → Int64) (a1 : Int32) (r0 : Int32) (h : fX6_firstWedding_48 S V a1 = some r0) : jM l yX6_firstWedding cX6_firstWedding 5 (some .int) ({ frames := 3, cells := 0, slots := 0, locals := 71 }) B D TC ad cA [.ref (ad 48), .int a1] S V L (some (.int r0)) S V L := by
  refine jM_of (plainFor_of_name (by decide)) TC_ok hI (Nat.le_of_ble_eq_true rfl) ?_
  intro p e s m args below meth c C hr hlk
  refine j_lv (lv2 := [(0, .ref (ad 48)), (1, .int a1)]) rfl ?_
  unfold fX6_firstWedding_48 at h
  have H_fX6_firstWedding_48_L4 : ∀ (E28 : Int32 → Int32 → Option (Int32)) (_ : ∀ (x10 : Int32) (x11 : Int32), E28 x10 x11 = some r0 → jW p l e ({ frames := 3, cells := 0, slots := 0, locals := 71 }) s m args below meth c (MQ below (jQc D TC ad cA (some (.int r0)) s.heap.size S V L) args s 0 0 (jA ad TC s.heap.size)) D TC ad cA (jA ad TC s.heap.size) 5 0 0 28 [(0, .ref (ad 48)), (1, .int x10), (2, .int x11)] [] S V L) (n : Nat) (x1 : Int32) (x2 : Int32) (x3 : Int32), fX6_firstWedding_48_L4 E28 S V n x1 x2 x3 = some r0 → jW p l e ({ frames := 3, cells := 0, slots := 0, locals := 71 }) s m args below meth c (MQ below (jQc D TC ad cA (some (.int r0)) s.heap.size S V L) args s 0 0 (jA ad TC s.heap.size)) D TC ad cA (jA ad TC s.heap.size) 5 0 0 4 [(0, .ref (ad 48)), (1, .int x1), (2, .int x2), (3, .int x3)] [] S V L := by
    intro E28 HE28
    intro n
    induction n with
    | zero =>
      intro x1 x2 x3 h
      cases (show (none : Option (Int32)) = some r0 from h)
    | succ n ih =>
      intro x1 x2 x3 h
      unfold fX6_firstWedding_48_L4 at h
      refine j_iload_n C 3 rfl dX6_firstWedding_4 rfl ?_
      refine j_bipush C dX6_firstWedding_5 cb_24 ?_
      refine j_icmp_ge (tgt := 28) C dX6_firstWedding_7 (by decide) (fun c4 => ?_) (fun c4 => ?_)
      · have h := (if_pos c4).symm.trans h
        exact j_sub [0, 1, 2] rfl (HE28 _ _ h)
      · have h := (if_neg c4).symm.trans h
        refine j_iload_n C 2 rfl dX6_firstWedding_10 rfl ?_
        refine j_aload_n C 0 rfl dX6_firstWedding_11 rfl ?_
        refine j_iload_n C 3 rfl dX6_firstWedding_12 rfl ?_
        refine j_iconst C dX6_firstWedding_13 ci_0 ?_
        refine j_iconst C dX6_firstWedding_14 ci_m1 ?_
        obtain ⟨r5, h6, h⟩ := bd1_elim h
        refine j_callV (As := [.int x3, .int (0 : Int32), .int (-1 : Int32)]) (rest := [.int x2]) C (kX6_swingIn_48 l B D ad cA hI S V L x3 (0 : Int32) (-1 : Int32) _ h6) mw_X6_swingIn wd1133 wd1134 wd1159 tc_48 rfl rfl ⟨rfl, rfl, by decide, by decide⟩ ⟨Nat.zero_le _, Nat.zero_le _⟩ rfl rfl (Nat.le_of_ble_eq_true rfl) dX6_firstWedding_15 ?_
        obtain ⟨r7, h8, h⟩ := bd1_elim h
        refine j_callS (As := [.int x2, .int r5]) (rest := []) C (kJ9_max_7cf53 l B D ad cA hI S V L x2 r5 _ h8) mw_J9_max_7cf53 wd770 wd1375 ⟨rfl, rfl, by decide, by decide⟩ ⟨Nat.zero_le _, Nat.zero_le _⟩ rfl rfl (Nat.le_of_ble_eq_true rfl) dX6_firstWedding_18 ?_
        refine j_istore_n C [(2, .int r7), (0, .ref (ad 48)), (1, .int x1), (3, .int x3)] dX6_firstWedding_21 rfl (by decide) rfl ?_
        refine lt_elim h (fun x9 e_x9 h => ?_)
        refine j_iinc C [(3, .int x9), (2, .int r7), (0, .ref (ad 48)), (1, .int x1)] 3 dX6_firstWedding_22 rfl ((iinc_eq ci_1).trans e_x9.symm) (by decide) rfl ?_
        refine j_goto (tgt := 4) C dX6_firstWedding_25 (by decide) ?_
        exact j_sub [2, 3, 1, 0] rfl (ih _ _ _ h)
  have H_fX6_firstWedding_48_L40 : ∀ (n : Nat) (x18 : Int32) (x19 : Int32), fX6_firstWedding_48_L40 S V n x18 x19 = some r0 → jW p l e ({ frames := 3, cells := 0, slots := 0, locals := 71 }) s m args below meth c (MQ below (jQc D TC ad cA (some (.int r0)) s.heap.size S V L) args s 0 0 (jA ad TC s.heap.size)) D TC ad cA (jA ad TC s.heap.size) 5 0 0 40 [(0, .ref (ad 48)), (2, .int x18), (3, .int x19)] [] S V L := by
    intro n
    induction n with
    | zero =>
      intro x18 x19 h
      cases (show (none : Option (Int32)) = some r0 from h)
    | succ n ih =>
      intro x18 x19 h
      unfold fX6_firstWedding_48_L40 at h
      refine j_iload_n C 2 rfl dX6_firstWedding_40 rfl ?_
      refine j_sipush C dX6_firstWedding_41 cs_9999 ?_
      refine j_icmp_gt (tgt := 86) C dX6_firstWedding_44 (by decide) (fun c20 => ?_) (fun c20 => ?_)
      · have h := (if_pos c20).symm.trans h
        refine j_iconst C dX6_firstWedding_86 ci_m1 ?_
        cases h
        exact j_iret C hr hlk rfl dX6_firstWedding_87
      · have h := (if_neg c20).symm.trans h
        refine j_aload_n C 0 rfl dX6_firstWedding_47 rfl ?_
        refine fg_X6_9_TC_48 C dX6_firstWedding_48 ?_
        refine j_iload_n C 2 rfl dX6_firstWedding_51 rfl ?_
        obtain ⟨r21, h22, h⟩ := bd1_elim h
        refine j_callV (As := [.int x19]) (rest := []) C (kX2_oilLeft_3 l B D ad cA hI S V L x19 _ h22) mw_X2_oilLeft wd1128 wd1129 wd1379 tc_3 rfl rfl ⟨rfl, rfl, by decide, by decide⟩ ⟨Nat.zero_le _, Nat.zero_le _⟩ rfl rfl (Nat.le_of_ble_eq_true rfl) dX6_firstWedding_52 ?_
        refine j_istore C [(4, .int r21), (0, .ref (ad 48)), (2, .int x18), (3, .int x19)] dX6_firstWedding_55 (by decide) rfl ?_
        refine j_iload_n C 2 rfl dX6_firstWedding_57 rfl ?_
        refine j_iload C 0 rfl dX6_firstWedding_58 ?_
        refine j_isub C dX6_firstWedding_60 ?_
        refine j_aload_n C 1 rfl dX6_firstWedding_61 rfl ?_
        refine fg_X6_9_TC_48 C dX6_firstWedding_62 ?_
        refine fg_X6_53_TC_3 C dX6_firstWedding_65 ?_
        refine j_icmp_le (tgt := 73) C dX6_firstWedding_68 (by decide) (fun c23 => ?_) (fun c23 => ?_)
        · have h := (if_pos c23).symm.trans h
          refine j_iload C 0 rfl dX6_firstWedding_73 ?_
          refine j_if_ne (tgt := 80) C dX6_firstWedding_75 (by decide) (fun c24 => ?_) (fun c24 => ?_)
          · have h := (if_neg c24).symm.trans h
            refine lt_elim h (fun x25 e_x25 h => ?_)
            refine j_iinc C [(3, .int x25), (4, .int r21), (0, .ref (ad 48)), (2, .int x18)] 3 dX6_firstWedding_80 rfl ((iinc_eq ci_7).trans e_x25.symm) (by decide) rfl ?_
            refine j_goto (tgt := 40) C dX6_firstWedding_83 (by decide) ?_
            exact j_sub [2, 3, 0] rfl (ih _ _ h)
          · have h := (if_pos c24).symm.trans h
            refine j_iconst C dX6_firstWedding_78 ci_m1 ?_
            cases h
            exact j_iret C hr hlk rfl dX6_firstWedding_79
        · have h := (if_neg c23).symm.trans h
          refine j_iload_n C 3 rfl dX6_firstWedding_71 rfl ?_
          cases h
          exact j_iret C hr hlk rfl dX6_firstWedding_72
  refine j_iconst C dX6_firstWedding_0 ci_0 ?_
  refine j_istore_n C [(2, .int (0 : Int32)), (0, .ref (ad 48)), (1, .int a1)] dX6_firstWedding_1 rfl (by decide) rfl ?_
  refine j_iconst C dX6_firstWedding_2 ci_0 ?_
  refine j_istore_n C [(3, .int (0 : Int32)), (2, .int (0 : Int32)), (0, .ref (ad 48)), (1, .int a1)] dX6_firstWedding_3 rfl (by decide) rfl ?_
  refine bk_elim h (fun X28_12 e_X28_12 h => ?_)
  have HX28_12 : ∀ (x13 : Int32) (x14 : Int32), X28_12 x13 x14 = some r0 → jW p l e ({ frames := 3, cells := 0, slots := 0, locals := 71 }) s m args below meth c (MQ below (jQc D TC ad cA (some (.int r0)) s.heap.size S V L) args s 0 0 (jA ad TC s.heap.size)) D TC ad cA (jA ad TC s.heap.size) 5 0 0 28 [(0, .ref (ad 48)), (1, .int x13), (2, .int x14)] [] S V L := by
    subst e_X28_12
    intro x13 x14 h
    refine j_iload_n C 1 rfl dX6_firstWedding_28 rfl ?_
    refine j_bipush C dX6_firstWedding_29 cb_6 ?_
    refine j_iload_n C 1 rfl dX6_firstWedding_31 rfl ?_
    refine j_isub C dX6_firstWedding_32 ?_
    refine j_bipush C dX6_firstWedding_33 cb_7 ?_
    obtain ⟨r15, h16, h⟩ := bd1_elim h
    refine j_callS (As := [.int ((6 : Int32) - x13), .int (7 : Int32)]) (rest := [.int x13]) C (kJ9_floorMod_7cf53 l B D ad cA hI S V L (((6 : Int32) - x13)) (7 : Int32) _ h16) mw_J9_floorMod_7cf53 wd1377 wd1376 ⟨rfl, rfl, by decide, by decide⟩ ⟨Nat.zero_le _, Nat.zero_le _⟩ rfl rfl (Nat.le_of_ble_eq_true rfl) dX6_firstWedding_35 ?_
    refine j_iadd C dX6_firstWedding_38 ?_
    refine lt_elim h (fun x17 e_x17 h => ?_)
    refine j_top e_x17 ?_
    refine j_istore_n C [(3, .int x17), (0, .ref (ad 48)), (1, .int x13), (2, .int x14)] dX6_firstWedding_39 rfl (by decide) rfl ?_
    exact j_sub [1, 3, 0] rfl (H_fX6_firstWedding_48_L40 FU _ _ h)
  exact j_sub [2, 3, 1, 0] rfl (H_fX6_firstWedding_48_L4 _ HX28_12 FU _ _ _ h)
theorem dX6_hoursHere_0 : decode cX6_hoursHere 0 = .ok (.iconst 0, 1) := by decide +kernel
theorem dX6_hoursHere_1 : decode cX6_hoursHere 1 = .ok (.istore 4, 2) := by decide +kernel
theorem dX6_hoursHere_3 : decode cX6_hoursHere 3 = .ok (.iconst 1, 1) := by decide +kernel
theorem dX6_hoursHere_4 : decode cX6_hoursHere 4 = .ok (.istore 5, 2) := by decide +kernel
theorem dX6_hoursHere_6 : decode cX6_hoursHere 6 = .ok (.iload 5, 2) := by decide +kernel
theorem dX6_hoursHere_8 : decode cX6_hoursHere 8 = .ok (.aload_n 0, 1) := by decide +kernel
theorem dX6_hoursHere_9 : decode cX6_hoursHere 9 = .ok (.getfield 9, 3) := by decide +kernel
theorem dX6_hoursHere_12 : decode cX6_hoursHere 12 = .ok (.getfield 66, 3) := by decide +kernel
theorem dX6_hoursHere_15 : decode cX6_hoursHere 15 = .ok (.iload_n 1, 1) := by decide +kernel
theorem dX6_hoursHere_16 : decode cX6_hoursHere 16 = .ok (.iaload, 1) := by decide +kernel
theorem dX6_hoursHere_17 : decode cX6_hoursHere 17 = .ok (.if_icmp .gt 34, 3) := by decide +kernel
theorem dX6_hoursHere_20 : decode cX6_hoursHere 20 = .ok (.aload_n 0, 1) := by decide +kernel
theorem dX6_hoursHere_21 : decode cX6_hoursHere 21 = .ok (.iload_n 1, 1) := by decide +kernel
theorem dX6_hoursHere_22 : decode cX6_hoursHere 22 = .ok (.iload_n 2, 1) := by decide +kernel
theorem dX6_hoursHere_23 : decode cX6_hoursHere 23 = .ok (.iload_n 3, 1) := by decide +kernel
theorem dX6_hoursHere_24 : decode cX6_hoursHere 24 = .ok (.iload 5, 2) := by decide +kernel
theorem dX6_hoursHere_26 : decode cX6_hoursHere 26 = .ok (.invokevirtual 70, 3) := by decide +kernel
theorem dX6_hoursHere_29 : decode cX6_hoursHere 29 = .ok (.aload_n 0, 1) := by decide +kernel
theorem dX6_hoursHere_30 : decode cX6_hoursHere 30 = .ok (.iload_n 1, 1) := by decide +kernel
theorem dX6_hoursHere_31 : decode cX6_hoursHere 31 = .ok (.iload_n 2, 1) := by decide +kernel
theorem dX6_hoursHere_32 : decode cX6_hoursHere 32 = .ok (.iload_n 3, 1) := by decide +kernel
theorem dX6_hoursHere_33 : decode cX6_hoursHere 33 = .ok (.iload 4, 2) := by decide +kernel
theorem dX6_hoursHere_35 : decode cX6_hoursHere 35 = .ok (.invokevirtual 70, 3) := by decide +kernel
theorem dX6_hoursHere_38 : decode cX6_hoursHere 38 = .ok (.if_icmp .ge 7, 3) := by decide +kernel
theorem dX6_hoursHere_41 : decode cX6_hoursHere 41 = .ok (.iload 5, 2) := by decide +kernel
theorem dX6_hoursHere_43 : decode cX6_hoursHere 43 = .ok (.istore 4, 2) := by decide +kernel
theorem dX6_hoursHere_45 : decode cX6_hoursHere 45 = .ok (.iinc 5 1, 3) := by decide +kernel
theorem dX6_hoursHere_48 : decode cX6_hoursHere 48 = .ok (.goto (-42), 3) := by decide +kernel
theorem dX6_hoursHere_51 : decode cX6_hoursHere 51 = .ok (.iload 4, 2) := by decide +kernel
theorem dX6_hoursHere_53 : decode cX6_hoursHere 53 = .ok (.ireturn, 1) := by decide +kernel
def fX6_hoursHere_48_L6 (V : Nat → Nat → Int32) : Nat → Int32 → Int32 → Int32 → Int32 → Int32 → Option (Int32)
  | 0, _, _, _, _, _ => none
  | n + 1, x1, x2, x3, x4, x5 =>
    gd (ib x1 6) (
    (if (V 6 (x1).toNatClampNeg) < x5 then
    some x4
    else
    bd1 (fX6_fartherOfBoth_48 V x1 x2 x3 x5) (fun r8 =>
    bd1 (fX6_fartherOfBoth_48 V x1 x2 x3 x4) (fun r10 =>
    bk (fun (x13 : Int32) (x14 : Int32) (x15 : Int32) (x16 : Int32) (x17 : Int32) =>
    lt (x17 + (1 : Int32)) (fun x18 =>
    fX6_hoursHere_48_L6 V n x13 x14 x15 x16 x18)) (fun K45_12 =>
    (if r10 ≤ r8 then
    K45_12 x1 x2 x3 x4 x5
    else
    K45_12 x1 x2 x3 x5 x5))))))
def fX6_hoursHere_48 (V : Nat → Nat → Int32) (a1 : Int32) (a2 : Int32) (a3 : Int32) : Option (Int32) :=
  fX6_hoursHere_48_L6 V FU a1 a2 a3 (0 : Int32) (1 : Int32)
set_option maxHeartbeats 4000000 in
set_option maxRecDepth 100000 in
theorem kX6_hoursHere_48 (l : Launch) (B : jBT) (D : va_G) (ad : Nat → Nat) (cA : Nat → ClassId) (hI : jI ad TC) (S : Nat → Int32) (V : Nat → Nat → Int32) (L : Nat → Int64) (a1 : Int32) (a2 : Int32) (a3 : Int32) (r0 : Int32) (h : fX6_hoursHere_48 V a1 a2 a3 = some r0) : jM l yX6_hoursHere cX6_hoursHere 6 (some .int) ({ frames := 2, cells := 0, slots := 0, locals := 47 }) B D TC ad cA [.ref (ad 48), .int a1, .int a2, .int a3] S V L (some (.int r0)) S V L := by
  refine jM_of (plainFor_of_name (by decide)) TC_ok hI (Nat.le_of_ble_eq_true rfl) ?_
  intro p e s m args below meth c C hr hlk
  refine j_lv (lv2 := [(0, .ref (ad 48)), (1, .int a1), (2, .int a2), (3, .int a3)]) rfl ?_
  unfold fX6_hoursHere_48 at h
  have H_fX6_hoursHere_48_L6 : ∀ (n : Nat) (x1 : Int32) (x2 : Int32) (x3 : Int32) (x4 : Int32) (x5 : Int32), fX6_hoursHere_48_L6 V n x1 x2 x3 x4 x5 = some r0 → jW p l e ({ frames := 2, cells := 0, slots := 0, locals := 47 }) s m args below meth c (MQ below (jQc D TC ad cA (some (.int r0)) s.heap.size S V L) args s 0 0 (jA ad TC s.heap.size)) D TC ad cA (jA ad TC s.heap.size) 6 0 0 6 [(0, .ref (ad 48)), (1, .int x1), (2, .int x2), (3, .int x3), (4, .int x4), (5, .int x5)] [] S V L := by
    intro n
    induction n with
    | zero =>
      intro x1 x2 x3 x4 x5 h
      cases (show (none : Option (Int32)) = some r0 from h)
    | succ n ih =>
      intro x1 x2 x3 x4 x5 h
      unfold fX6_hoursHere_48_L6 at h
      refine j_iload C 5 rfl dX6_hoursHere_6 ?_
      refine j_aload_n C 0 rfl dX6_hoursHere_8 rfl ?_
      refine fg_X6_9_TC_48 C dX6_hoursHere_9 ?_
      refine fg_X6_66_TC_3 C dX6_hoursHere_12 ?_
      refine j_iload_n C 1 rfl dX6_hoursHere_15 rfl ?_
      obtain ⟨g6, h⟩ := gd_elim h
      refine j_iald C tc_6 (ib_in g6) dX6_hoursHere_16 ?_
      refine j_icmp_gt (tgt := 51) C dX6_hoursHere_17 (by decide) (fun c7 => ?_) (fun c7 => ?_)
      · have h := (if_pos c7).symm.trans h
        refine j_iload C 4 rfl dX6_hoursHere_51 ?_
        cases h
        exact j_iret C hr hlk rfl dX6_hoursHere_53
      · have h := (if_neg c7).symm.trans h
        refine j_aload_n C 0 rfl dX6_hoursHere_20 rfl ?_
        refine j_iload_n C 1 rfl dX6_hoursHere_21 rfl ?_
        refine j_iload_n C 2 rfl dX6_hoursHere_22 rfl ?_
        refine j_iload_n C 3 rfl dX6_hoursHere_23 rfl ?_
        refine j_iload C 5 rfl dX6_hoursHere_24 ?_
        obtain ⟨r8, h9, h⟩ := bd1_elim h
        refine j_callV (As := [.int x1, .int x2, .int x3, .int x5]) (rest := []) C (kX6_fartherOfBoth_48 l B D ad cA hI S V L x1 x2 x3 x5 _ h9) mw_X6_fartherOfBoth wd1414 wd1415 wd1413 tc_48 rfl rfl ⟨rfl, rfl, by decide, by decide⟩ ⟨Nat.zero_le _, Nat.zero_le _⟩ rfl rfl (Nat.le_of_ble_eq_true rfl) dX6_hoursHere_26 ?_
        refine j_aload_n C 0 rfl dX6_hoursHere_29 rfl ?_
        refine j_iload_n C 1 rfl dX6_hoursHere_30 rfl ?_
        refine j_iload_n C 2 rfl dX6_hoursHere_31 rfl ?_
        refine j_iload_n C 3 rfl dX6_hoursHere_32 rfl ?_
        refine j_iload C 4 rfl dX6_hoursHere_33 ?_
        obtain ⟨r10, h11, h⟩ := bd1_elim h
        refine j_callV (As := [.int x1, .int x2, .int x3, .int x4]) (rest := [.int r8]) C (kX6_fartherOfBoth_48 l B D ad cA hI S V L x1 x2 x3 x4 _ h11) mw_X6_fartherOfBoth wd1414 wd1415 wd1413 tc_48 rfl rfl ⟨rfl, rfl, by decide, by decide⟩ ⟨Nat.zero_le _, Nat.zero_le _⟩ rfl rfl (Nat.le_of_ble_eq_true rfl) dX6_hoursHere_35 ?_
        refine bk_elim h (fun K45_12 e_K45_12 h => ?_)
        have HK45_12 : ∀ (x13 : Int32) (x14 : Int32) (x15 : Int32) (x16 : Int32) (x17 : Int32), K45_12 x13 x14 x15 x16 x17 = some r0 → jW p l e ({ frames := 2, cells := 0, slots := 0, locals := 47 }) s m args below meth c (MQ below (jQc D TC ad cA (some (.int r0)) s.heap.size S V L) args s 0 0 (jA ad TC s.heap.size)) D TC ad cA (jA ad TC s.heap.size) 6 0 0 45 [(0, .ref (ad 48)), (1, .int x13), (2, .int x14), (3, .int x15), (4, .int x16), (5, .int x17)] [] S V L := by
          subst e_K45_12
          intro x13 x14 x15 x16 x17 h
          refine lt_elim h (fun x18 e_x18 h => ?_)
          refine j_iinc C [(5, .int x18), (0, .ref (ad 48)), (1, .int x13), (2, .int x14), (3, .int x15), (4, .int x16)] 5 dX6_hoursHere_45 rfl ((iinc_eq ci_1).trans e_x18.symm) (by decide) rfl ?_
          refine j_goto (tgt := 6) C dX6_hoursHere_48 (by decide) ?_
          exact j_sub [1, 2, 3, 4, 5, 0] rfl (ih _ _ _ _ _ h)
        refine j_icmp_ge (tgt := 45) C dX6_hoursHere_38 (by decide) (fun c19 => ?_) (fun c19 => ?_)
        · have h := (if_pos c19).symm.trans h
          exact j_sub [0, 1, 2, 3, 4, 5] rfl (HK45_12 _ _ _ _ _ h)
        · have h := (if_neg c19).symm.trans h
          refine j_iload C 5 rfl dX6_hoursHere_41 ?_
          refine j_istore C [(4, .int x5), (0, .ref (ad 48)), (1, .int x1), (2, .int x2), (3, .int x3), (5, .int x5)] dX6_hoursHere_43 (by decide) rfl ?_
          exact j_sub [1, 2, 3, 4, 0, 5] rfl (HK45_12 _ _ _ _ _ h)
  refine j_iconst C dX6_hoursHere_0 ci_0 ?_
  refine j_istore C [(4, .int (0 : Int32)), (0, .ref (ad 48)), (1, .int a1), (2, .int a2), (3, .int a3)] dX6_hoursHere_1 (by decide) rfl ?_
  refine j_iconst C dX6_hoursHere_3 ci_1 ?_
  refine j_istore C [(5, .int (1 : Int32)), (4, .int (0 : Int32)), (0, .ref (ad 48)), (1, .int a1), (2, .int a2), (3, .int a3)] dX6_hoursHere_4 (by decide) rfl ?_
  exact j_sub [2, 3, 4, 5, 1, 0] rfl (H_fX6_hoursHere_48_L6 FU _ _ _ _ _ h)
theorem dX6_slowInWind_0 : decode cX6_slowInWind 0 = .ok (.iload_n 1, 1) := by decide +kernel
theorem dX6_slowInWind_1 : decode cX6_slowInWind 1 = .ok (.istore 4, 2) := by decide +kernel
theorem dX6_slowInWind_3 : decode cX6_slowInWind 3 = .ok (.iconst 0, 1) := by decide +kernel
theorem dX6_slowInWind_4 : decode cX6_slowInWind 4 = .ok (.istore 5, 2) := by decide +kernel
theorem dX6_slowInWind_6 : decode cX6_slowInWind 6 = .ok (.iconst 0, 1) := by decide +kernel
theorem dX6_slowInWind_7 : decode cX6_slowInWind 7 = .ok (.istore 6, 2) := by decide +kernel
theorem dX6_slowInWind_9 : decode cX6_slowInWind 9 = .ok (.iload 6, 2) := by decide +kernel
theorem dX6_slowInWind_11 : decode cX6_slowInWind 11 = .ok (.iload_n 2, 1) := by decide +kernel
theorem dX6_slowInWind_12 : decode cX6_slowInWind 12 = .ok (.if_icmp .ge 73, 3) := by decide +kernel
theorem dX6_slowInWind_15 : decode cX6_slowInWind 15 = .ok (.iload 5, 2) := by decide +kernel
theorem dX6_slowInWind_17 : decode cX6_slowInWind 17 = .ok (.aload_n 0, 1) := by decide +kernel
theorem dX6_slowInWind_18 : decode cX6_slowInWind 18 = .ok (.aload_n 0, 1) := by decide +kernel
theorem dX6_slowInWind_19 : decode cX6_slowInWind 19 = .ok (.getfield 9, 3) := by decide +kernel
theorem dX6_slowInWind_22 : decode cX6_slowInWind 22 = .ok (.iload 6, 2) := by decide +kernel
theorem dX6_slowInWind_24 : decode cX6_slowInWind 24 = .ok (.invokevirtual 49, 3) := by decide +kernel
theorem dX6_slowInWind_27 : decode cX6_slowInWind 27 = .ok (.invokevirtual 57, 3) := by decide +kernel
theorem dX6_slowInWind_30 : decode cX6_slowInWind 30 = .ok (.iadd, 1) := by decide +kernel
theorem dX6_slowInWind_31 : decode cX6_slowInWind 31 = .ok (.istore 5, 2) := by decide +kernel
theorem dX6_slowInWind_33 : decode cX6_slowInWind 33 = .ok (.iconst 0, 1) := by decide +kernel
theorem dX6_slowInWind_34 : decode cX6_slowInWind 34 = .ok (.istore 7, 2) := by decide +kernel
theorem dX6_slowInWind_36 : decode cX6_slowInWind 36 = .ok (.iload 7, 2) := by decide +kernel
theorem dX6_slowInWind_38 : decode cX6_slowInWind 38 = .ok (.bipush 24, 2) := by decide +kernel
theorem dX6_slowInWind_40 : decode cX6_slowInWind 40 = .ok (.if_icmp .ge 39, 3) := by decide +kernel
theorem dX6_slowInWind_43 : decode cX6_slowInWind 43 = .ok (.iload 4, 2) := by decide +kernel
theorem dX6_slowInWind_45 : decode cX6_slowInWind 45 = .ok (.ldc 79, 2) := by decide +kernel
theorem dX6_slowInWind_47 : decode cX6_slowInWind 47 = .ok (.imul, 1) := by decide +kernel
theorem dX6_slowInWind_48 : decode cX6_slowInWind 48 = .ok (.sipush 12345, 3) := by decide +kernel
theorem dX6_slowInWind_51 : decode cX6_slowInWind 51 = .ok (.iadd, 1) := by decide +kernel
theorem dX6_slowInWind_52 : decode cX6_slowInWind 52 = .ok (.istore 4, 2) := by decide +kernel
theorem dX6_slowInWind_54 : decode cX6_slowInWind 54 = .ok (.iload 4, 2) := by decide +kernel
theorem dX6_slowInWind_56 : decode cX6_slowInWind 56 = .ok (.bipush 16, 2) := by decide +kernel
theorem dX6_slowInWind_58 : decode cX6_slowInWind 58 = .ok (.iushr, 1) := by decide +kernel
theorem dX6_slowInWind_59 : decode cX6_slowInWind 59 = .ok (.sipush 32767, 3) := by decide +kernel
theorem dX6_slowInWind_62 : decode cX6_slowInWind 62 = .ok (.iand, 1) := by decide +kernel
theorem dX6_slowInWind_63 : decode cX6_slowInWind 63 = .ok (.bipush 100, 2) := by decide +kernel
theorem dX6_slowInWind_65 : decode cX6_slowInWind 65 = .ok (.irem, 1) := by decide +kernel
theorem dX6_slowInWind_66 : decode cX6_slowInWind 66 = .ok (.iload_n 3, 1) := by decide +kernel
theorem dX6_slowInWind_67 : decode cX6_slowInWind 67 = .ok (.if_icmp .ge 6, 3) := by decide +kernel
theorem dX6_slowInWind_70 : decode cX6_slowInWind 70 = .ok (.iinc 5 (-5), 3) := by decide +kernel
theorem dX6_slowInWind_73 : decode cX6_slowInWind 73 = .ok (.iinc 7 1, 3) := by decide +kernel
theorem dX6_slowInWind_76 : decode cX6_slowInWind 76 = .ok (.goto (-40), 3) := by decide +kernel
theorem dX6_slowInWind_79 : decode cX6_slowInWind 79 = .ok (.iinc 6 1, 3) := by decide +kernel
theorem dX6_slowInWind_82 : decode cX6_slowInWind 82 = .ok (.goto (-73), 3) := by decide +kernel
theorem dX6_slowInWind_85 : decode cX6_slowInWind 85 = .ok (.iload 5, 2) := by decide +kernel
theorem dX6_slowInWind_87 : decode cX6_slowInWind 87 = .ok (.ireturn, 1) := by decide +kernel
def fX6_slowInWind_48_L36 (E79 : Int32 → Int32 → Int32 → Int32 → Int32 → Option (Int32)) (S : Nat → Int32) (V : Nat → Nat → Int32) : Nat → Int32 → Int32 → Int32 → Int32 → Int32 → Int32 → Option (Int32)
  | 0, _, _, _, _, _, _ => none
  | n + 1, x12, x13, x14, x15, x16, x17 =>
    (if (24 : Int32) ≤ x17 then
    E79 x12 x13 x14 x15 x16
    else
    lt (((x14 * (1103515245 : Int32)) + (12345 : Int32))) (fun x19 =>
    lt ((((x19).toUInt32 >>> (((16 : Int32)).toUInt32 &&& Int32.toUInt32 31)).toInt32 &&& (32767 : Int32))) (fun x20 =>
    bk (fun (x22 : Int32) (x23 : Int32) (x24 : Int32) (x25 : Int32) (x26 : Int32) (x27 : Int32) =>
    lt (x27 + (1 : Int32)) (fun x28 =>
    fX6_slowInWind_48_L36 E79 S V n x22 x23 x24 x25 x26 x28)) (fun K73_21 =>
    (if x13 ≤ (x20 - x20 / (100 : Int32) * (100 : Int32)) then
    K73_21 x12 x13 x19 x15 x16 x17
    else
    lt (x15 + (-5 : Int32)) (fun x30 =>
    K73_21 x12 x13 x19 x30 x16 x17))))))
def fX6_slowInWind_48_L9 (S : Nat → Int32) (V : Nat → Nat → Int32) : Nat → Int32 → Int32 → Int32 → Int32 → Int32 → Option (Int32)
  | 0, _, _, _, _, _ => none
  | n + 1, x1, x2, x3, x4, x5 =>
    (if x1 ≤ x5 then
    some x4
    else
    bd1 (fX2_oilLeft_3 S x5) (fun r7 =>
    bd1 (fX6_slownessOfDay_48 S V r7) (fun r9 =>
    lt ((x4 + r9)) (fun x11 =>
    bk (fun (x37 : Int32) (x38 : Int32) (x39 : Int32) (x40 : Int32) (x41 : Int32) =>
    lt (x41 + (1 : Int32)) (fun x42 =>
    fX6_slowInWind_48_L9 S V n x37 x38 x39 x40 x42)) (fun X79_36 =>
    fX6_slowInWind_48_L36 X79_36 S V FU x1 x2 x3 x11 x5 (0 : Int32))))))
def fX6_slowInWind_48 (S : Nat → Int32) (V : Nat → Nat → Int32) (a1 : Int32) (a2 : Int32) (a3 : Int32) : Option (Int32) :=
  fX6_slowInWind_48_L9 S V FU a2 a3 a1 (0 : Int32) (0 : Int32)
set_option maxHeartbeats 4000000 in
set_option maxRecDepth 100000 in
theorem kX6_slowInWind_48 (l : Launch) (B : jBT) (D : va_G) (ad : Nat → Nat) (cA : Nat → ClassId) (hI : jI ad TC) (S : Nat → Int32) (V : Nat → Nat → Int32) (L : Nat → Int64) (a1 : Int32) (a2 : Int32) (a3 : Int32) (r0 : Int32) (h : fX6_slowInWind_48 S V a1 a2 a3 = some r0) : jM l yX6_slowInWind cX6_slowInWind 8 (some .int) ({ frames := 5, cells := 0, slots := 0, locals := 118 }) B D TC ad cA [.ref (ad 48), .int a1, .int a2, .int a3] S V L (some (.int r0)) S V L := by
  refine jM_of (plainFor_of_name (by decide)) TC_ok hI (Nat.le_of_ble_eq_true rfl) ?_
  intro p e s m args below meth c C hr hlk
  refine j_lv (lv2 := [(0, .ref (ad 48)), (1, .int a1), (2, .int a2), (3, .int a3)]) rfl ?_
  unfold fX6_slowInWind_48 at h
  have H_fX6_slowInWind_48_L36 : ∀ (E79 : Int32 → Int32 → Int32 → Int32 → Int32 → Option (Int32)) (_ : ∀ (x31 : Int32) (x32 : Int32) (x33 : Int32) (x34 : Int32) (x35 : Int32), E79 x31 x32 x33 x34 x35 = some r0 → jW p l e ({ frames := 5, cells := 0, slots := 0, locals := 118 }) s m args below meth c (MQ below (jQc D TC ad cA (some (.int r0)) s.heap.size S V L) args s 0 0 (jA ad TC s.heap.size)) D TC ad cA (jA ad TC s.heap.size) 8 0 0 79 [(0, .ref (ad 48)), (2, .int x31), (3, .int x32), (4, .int x33), (5, .int x34), (6, .int x35)] [] S V L) (n : Nat) (x12 : Int32) (x13 : Int32) (x14 : Int32) (x15 : Int32) (x16 : Int32) (x17 : Int32), fX6_slowInWind_48_L36 E79 S V n x12 x13 x14 x15 x16 x17 = some r0 → jW p l e ({ frames := 5, cells := 0, slots := 0, locals := 118 }) s m args below meth c (MQ below (jQc D TC ad cA (some (.int r0)) s.heap.size S V L) args s 0 0 (jA ad TC s.heap.size)) D TC ad cA (jA ad TC s.heap.size) 8 0 0 36 [(0, .ref (ad 48)), (2, .int x12), (3, .int x13), (4, .int x14), (5, .int x15), (6, .int x16), (7, .int x17)] [] S V L := by
    intro E79 HE79
    intro n
    induction n with
    | zero =>
      intro x12 x13 x14 x15 x16 x17 h
      cases (show (none : Option (Int32)) = some r0 from h)
    | succ n ih =>
      intro x12 x13 x14 x15 x16 x17 h
      unfold fX6_slowInWind_48_L36 at h
      refine j_iload C 6 rfl dX6_slowInWind_36 ?_
      refine j_bipush C dX6_slowInWind_38 cb_24 ?_
      refine j_icmp_ge (tgt := 79) C dX6_slowInWind_40 (by decide) (fun c18 => ?_) (fun c18 => ?_)
      · have h := (if_pos c18).symm.trans h
        exact j_sub [0, 1, 2, 3, 4, 5] rfl (HE79 _ _ _ _ _ h)
      · have h := (if_neg c18).symm.trans h
        refine j_iload C 3 rfl dX6_slowInWind_43 ?_
        refine j_ldc C wd1431 dX6_slowInWind_45 ?_
        refine j_imul C dX6_slowInWind_47 ?_
        refine j_sipush C dX6_slowInWind_48 cs_12345 ?_
        refine j_iadd C dX6_slowInWind_51 ?_
        refine lt_elim h (fun x19 e_x19 h => ?_)
        refine j_top e_x19 ?_
        refine j_istore C [(4, .int x19), (0, .ref (ad 48)), (2, .int x12), (3, .int x13), (5, .int x15), (6, .int x16), (7, .int x17)] dX6_slowInWind_52 (by decide) rfl ?_
        refine j_iload C 0 rfl dX6_slowInWind_54 ?_
        refine j_bipush C dX6_slowInWind_56 cb_16 ?_
        refine j_iushr C dX6_slowInWind_58 ?_
        refine j_sipush C dX6_slowInWind_59 cs_32767 ?_
        refine j_iand C dX6_slowInWind_62 ?_
        refine j_bipush C dX6_slowInWind_63 cb_100 ?_
        refine lt_elim h (fun x20 e_x20 h => ?_)
        refine j_top2 e_x20 ?_
        refine j_irem C dX6_slowInWind_65 (by decide) ?_
        refine j_iload_n C 3 rfl dX6_slowInWind_66 rfl ?_
        refine bk_elim h (fun K73_21 e_K73_21 h => ?_)
        have HK73_21 : ∀ (x22 : Int32) (x23 : Int32) (x24 : Int32) (x25 : Int32) (x26 : Int32) (x27 : Int32), K73_21 x22 x23 x24 x25 x26 x27 = some r0 → jW p l e ({ frames := 5, cells := 0, slots := 0, locals := 118 }) s m args below meth c (MQ below (jQc D TC ad cA (some (.int r0)) s.heap.size S V L) args s 0 0 (jA ad TC s.heap.size)) D TC ad cA (jA ad TC s.heap.size) 8 0 0 73 [(0, .ref (ad 48)), (2, .int x22), (3, .int x23), (4, .int x24), (5, .int x25), (6, .int x26), (7, .int x27)] [] S V L := by
          subst e_K73_21
          intro x22 x23 x24 x25 x26 x27 h
          refine lt_elim h (fun x28 e_x28 h => ?_)
          refine j_iinc C [(7, .int x28), (0, .ref (ad 48)), (2, .int x22), (3, .int x23), (4, .int x24), (5, .int x25), (6, .int x26)] 6 dX6_slowInWind_73 rfl ((iinc_eq ci_1).trans e_x28.symm) (by decide) rfl ?_
          refine j_goto (tgt := 36) C dX6_slowInWind_76 (by decide) ?_
          exact j_sub [1, 2, 3, 4, 5, 6, 0] rfl (ih _ _ _ _ _ _ h)
        refine j_icmp_ge (tgt := 73) C dX6_slowInWind_67 (by decide) (fun c29 => ?_) (fun c29 => ?_)
        · have h := (if_pos c29).symm.trans h
          exact j_sub [1, 2, 3, 0, 4, 5, 6] rfl (HK73_21 _ _ _ _ _ _ h)
        · have h := (if_neg c29).symm.trans h
          refine lt_elim h (fun x30 e_x30 h => ?_)
          refine j_iinc C [(5, .int x30), (4, .int x19), (0, .ref (ad 48)), (2, .int x12), (3, .int x13), (6, .int x16), (7, .int x17)] 4 dX6_slowInWind_70 rfl ((iinc_eq ci_m5).trans e_x30.symm) (by decide) rfl ?_
          exact j_sub [2, 3, 4, 1, 0, 5, 6] rfl (HK73_21 _ _ _ _ _ _ h)
  have H_fX6_slowInWind_48_L9 : ∀ (n : Nat) (x1 : Int32) (x2 : Int32) (x3 : Int32) (x4 : Int32) (x5 : Int32), fX6_slowInWind_48_L9 S V n x1 x2 x3 x4 x5 = some r0 → jW p l e ({ frames := 5, cells := 0, slots := 0, locals := 118 }) s m args below meth c (MQ below (jQc D TC ad cA (some (.int r0)) s.heap.size S V L) args s 0 0 (jA ad TC s.heap.size)) D TC ad cA (jA ad TC s.heap.size) 8 0 0 9 [(0, .ref (ad 48)), (2, .int x1), (3, .int x2), (4, .int x3), (5, .int x4), (6, .int x5)] [] S V L := by
    intro n
    induction n with
    | zero =>
      intro x1 x2 x3 x4 x5 h
      cases (show (none : Option (Int32)) = some r0 from h)
    | succ n ih =>
      intro x1 x2 x3 x4 x5 h
      unfold fX6_slowInWind_48_L9 at h
      refine j_iload C 5 rfl dX6_slowInWind_9 ?_
      refine j_iload_n C 1 rfl dX6_slowInWind_11 rfl ?_
      refine j_icmp_ge (tgt := 85) C dX6_slowInWind_12 (by decide) (fun c6 => ?_) (fun c6 => ?_)
      · have h := (if_pos c6).symm.trans h
        refine j_iload C 4 rfl dX6_slowInWind_85 ?_
        cases h
        exact j_iret C hr hlk rfl dX6_slowInWind_87
      · have h := (if_neg c6).symm.trans h
        refine j_iload C 4 rfl dX6_slowInWind_15 ?_
        refine j_aload_n C 0 rfl dX6_slowInWind_17 rfl ?_
        refine j_aload_n C 0 rfl dX6_slowInWind_18 rfl ?_
        refine fg_X6_9_TC_48 C dX6_slowInWind_19 ?_
        refine j_iload C 5 rfl dX6_slowInWind_22 ?_
        obtain ⟨r7, h8, h⟩ := bd1_elim h
        refine j_callV (As := [.int x5]) (rest := [.ref (ad 48), .int x4]) C (kX2_oilLeft_3 l B D ad cA hI S V L x5 _ h8) mw_X2_oilLeft wd1128 wd1129 wd1379 tc_3 rfl rfl ⟨rfl, rfl, by decide, by decide⟩ ⟨Nat.zero_le _, Nat.zero_le _⟩ rfl rfl (Nat.le_of_ble_eq_true rfl) dX6_slowInWind_24 ?_
        obtain ⟨r9, h10, h⟩ := bd1_elim h
        refine j_callV (As := [.int r7]) (rest := [.int x4]) C (kX6_slownessOfDay_48 l B D ad cA hI S V L r7 _ h10) mw_X6_slownessOfDay wd1168 wd1169 wd1391 tc_48 rfl rfl ⟨rfl, rfl, by decide, by decide⟩ ⟨Nat.zero_le _, Nat.zero_le _⟩ rfl rfl (Nat.le_of_ble_eq_true rfl) dX6_slowInWind_27 ?_
        refine j_iadd C dX6_slowInWind_30 ?_
        refine lt_elim h (fun x11 e_x11 h => ?_)
        refine j_top e_x11 ?_
        refine j_istore C [(5, .int x11), (0, .ref (ad 48)), (2, .int x1), (3, .int x2), (4, .int x3), (6, .int x5)] dX6_slowInWind_31 (by decide) rfl ?_
        refine j_iconst C dX6_slowInWind_33 ci_0 ?_
        refine j_istore C [(7, .int (0 : Int32)), (5, .int x11), (0, .ref (ad 48)), (2, .int x1), (3, .int x2), (4, .int x3), (6, .int x5)] dX6_slowInWind_34 (by decide) rfl ?_
        refine bk_elim h (fun X79_36 e_X79_36 h => ?_)
        have HX79_36 : ∀ (x37 : Int32) (x38 : Int32) (x39 : Int32) (x40 : Int32) (x41 : Int32), X79_36 x37 x38 x39 x40 x41 = some r0 → jW p l e ({ frames := 5, cells := 0, slots := 0, locals := 118 }) s m args below meth c (MQ below (jQc D TC ad cA (some (.int r0)) s.heap.size S V L) args s 0 0 (jA ad TC s.heap.size)) D TC ad cA (jA ad TC s.heap.size) 8 0 0 79 [(0, .ref (ad 48)), (2, .int x37), (3, .int x38), (4, .int x39), (5, .int x40), (6, .int x41)] [] S V L := by
          subst e_X79_36
          intro x37 x38 x39 x40 x41 h
          refine lt_elim h (fun x42 e_x42 h => ?_)
          refine j_iinc C [(6, .int x42), (0, .ref (ad 48)), (2, .int x37), (3, .int x38), (4, .int x39), (5, .int x40)] 5 dX6_slowInWind_79 rfl ((iinc_eq ci_1).trans e_x42.symm) (by decide) rfl ?_
          refine j_goto (tgt := 9) C dX6_slowInWind_82 (by decide) ?_
          exact j_sub [1, 2, 3, 4, 5, 0] rfl (ih _ _ _ _ _ h)
        exact j_sub [2, 3, 4, 5, 1, 6, 0] rfl (H_fX6_slowInWind_48_L36 _ HX79_36 FU _ _ _ _ _ _ h)
  refine j_iload_n C 1 rfl dX6_slowInWind_0 rfl ?_
  refine j_istore C [(4, .int a1), (0, .ref (ad 48)), (1, .int a1), (2, .int a2), (3, .int a3)] dX6_slowInWind_1 (by decide) rfl ?_
  refine j_iconst C dX6_slowInWind_3 ci_0 ?_
  refine j_istore C [(5, .int (0 : Int32)), (4, .int a1), (0, .ref (ad 48)), (1, .int a1), (2, .int a2), (3, .int a3)] dX6_slowInWind_4 (by decide) rfl ?_
  refine j_iconst C dX6_slowInWind_6 ci_0 ?_
  refine j_istore C [(6, .int (0 : Int32)), (5, .int (0 : Int32)), (4, .int a1), (0, .ref (ad 48)), (1, .int a1), (2, .int a2), (3, .int a3)] dX6_slowInWind_7 (by decide) rfl ?_
  exact j_sub [3, 5, 6, 2, 1, 0] rfl (H_fX6_slowInWind_48_L9 FU _ _ _ _ _ h)
theorem dX7_canVisit_0 : decode cX7_canVisit 0 = .ok (.iconst 1, 1) := by decide +kernel
theorem dX7_canVisit_1 : decode cX7_canVisit 1 = .ok (.istore_n 3, 1) := by decide +kernel
theorem dX7_canVisit_2 : decode cX7_canVisit 2 = .ok (.iload_n 3, 1) := by decide +kernel
theorem dX7_canVisit_3 : decode cX7_canVisit 3 = .ok (.iload_n 1, 1) := by decide +kernel
theorem dX7_canVisit_4 : decode cX7_canVisit 4 = .ok (.if_icmp .gt 37, 3) := by decide +kernel
theorem dX7_canVisit_7 : decode cX7_canVisit 7 = .ok (.iload_n 3, 1) := by decide +kernel
theorem dX7_canVisit_8 : decode cX7_canVisit 8 = .ok (.iload_n 1, 1) := by decide +kernel
theorem dX7_canVisit_9 : decode cX7_canVisit 9 = .ok (.iconst (-1), 1) := by decide +kernel
theorem dX7_canVisit_10 : decode cX7_canVisit 10 = .ok (.ixor, 1) := by decide +kernel
theorem dX7_canVisit_11 : decode cX7_canVisit 11 = .ok (.iand, 1) := by decide +kernel
theorem dX7_canVisit_12 : decode cX7_canVisit 12 = .ok (.ifCond .ne 23, 3) := by decide +kernel
theorem dX7_canVisit_15 : decode cX7_canVisit 15 = .ok (.aload_n 0, 1) := by decide +kernel
theorem dX7_canVisit_16 : decode cX7_canVisit 16 = .ok (.getfield 9, 3) := by decide +kernel
theorem dX7_canVisit_19 : decode cX7_canVisit 19 = .ok (.iload_n 3, 1) := by decide +kernel
theorem dX7_canVisit_20 : decode cX7_canVisit 20 = .ok (.iaload, 1) := by decide +kernel
theorem dX7_canVisit_21 : decode cX7_canVisit 21 = .ok (.iload_n 2, 1) := by decide +kernel
theorem dX7_canVisit_22 : decode cX7_canVisit 22 = .ok (.iand, 1) := by decide +kernel
theorem dX7_canVisit_23 : decode cX7_canVisit 23 = .ok (.invokestatic 56, 3) := by decide +kernel
theorem dX7_canVisit_26 : decode cX7_canVisit 26 = .ok (.iload_n 3, 1) := by decide +kernel
theorem dX7_canVisit_27 : decode cX7_canVisit 27 = .ok (.invokestatic 56, 3) := by decide +kernel
theorem dX7_canVisit_30 : decode cX7_canVisit 30 = .ok (.if_icmp .ge 5, 3) := by decide +kernel
theorem dX7_canVisit_33 : decode cX7_canVisit 33 = .ok (.iconst 0, 1) := by decide +kernel
theorem dX7_canVisit_34 : decode cX7_canVisit 34 = .ok (.ireturn, 1) := by decide +kernel
theorem dX7_canVisit_35 : decode cX7_canVisit 35 = .ok (.iinc 3 1, 3) := by decide +kernel
theorem dX7_canVisit_38 : decode cX7_canVisit 38 = .ok (.goto (-36), 3) := by decide +kernel
theorem dX7_canVisit_41 : decode cX7_canVisit 41 = .ok (.iconst 1, 1) := by decide +kernel
theorem dX7_canVisit_42 : decode cX7_canVisit 42 = .ok (.ireturn, 1) := by decide +kernel
def fX7_canVisit_59_L2 (V : Nat → Nat → Int32) : Nat → Int32 → Int32 → Int32 → Option (Int32)
  | 0, _, _, _ => none
  | n + 1, x1, x2, x3 =>
    (if x1 < x3 then
    some (1 : Int32)
    else
    bk (fun (x6 : Int32) (x7 : Int32) (x8 : Int32) =>
    lt (x8 + (1 : Int32)) (fun x9 =>
    fX7_canVisit_59_L2 V n x6 x7 x9)) (fun K35_5 =>
    (if (x3 &&& (x1 ^^^ (-1 : Int32))) = 0 then
    gd (ib x3 64) (
    bd1 (fJ6_bitCount_0f7a4 (((V 60 (x3).toNatClampNeg) &&& x2))) (fun r12 =>
    bd1 (fJ6_bitCount_0f7a4 x3) (fun r14 =>
    (if r14 ≤ r12 then
    K35_5 x1 x2 x3
    else
    some (0 : Int32)))))
    else
    K35_5 x1 x2 x3)))
def fX7_canVisit_59 (V : Nat → Nat → Int32) (a1 : Int32) (a2 : Int32) : Option (Int32) :=
  fX7_canVisit_59_L2 V FU a1 a2 (1 : Int32)
set_option maxHeartbeats 4000000 in
set_option maxRecDepth 100000 in
theorem kX7_canVisit_59 (l : Launch) (B : jBT) (D : va_G) (ad : Nat → Nat) (cA : Nat → ClassId) (hI : jI ad TC) (S : Nat → Int32) (V : Nat → Nat → Int32) (L : Nat → Int64) (a1 : Int32) (a2 : Int32) (r0 : Int32) (h : fX7_canVisit_59 V a1 a2 = some r0) : jM l yX7_canVisit cX7_canVisit 4 (some .boolean) ({ frames := 1, cells := 0, slots := 0, locals := 20 }) B D TC ad cA [.ref (ad 59), .int a1, .int a2] S V L (some (.int r0)) S V L := by
  refine jM_of (plainFor_of_name (by decide)) TC_ok hI (Nat.le_of_ble_eq_true rfl) ?_
  intro p e s m args below meth c C hr hlk
  refine j_lv (lv2 := [(0, .ref (ad 59)), (1, .int a1), (2, .int a2)]) rfl ?_
  unfold fX7_canVisit_59 at h
  have H_fX7_canVisit_59_L2 : ∀ (n : Nat) (x1 : Int32) (x2 : Int32) (x3 : Int32), fX7_canVisit_59_L2 V n x1 x2 x3 = some r0 → jW p l e ({ frames := 1, cells := 0, slots := 0, locals := 20 }) s m args below meth c (MQ below (jQc D TC ad cA (some (.int r0)) s.heap.size S V L) args s 0 0 (jA ad TC s.heap.size)) D TC ad cA (jA ad TC s.heap.size) 4 0 0 2 [(0, .ref (ad 59)), (1, .int x1), (2, .int x2), (3, .int x3)] [] S V L := by
    intro n
    induction n with
    | zero =>
      intro x1 x2 x3 h
      cases (show (none : Option (Int32)) = some r0 from h)
    | succ n ih =>
      intro x1 x2 x3 h
      unfold fX7_canVisit_59_L2 at h
      refine j_iload_n C 3 rfl dX7_canVisit_2 rfl ?_
      refine j_iload_n C 1 rfl dX7_canVisit_3 rfl ?_
      refine j_icmp_gt (tgt := 41) C dX7_canVisit_4 (by decide) (fun c4 => ?_) (fun c4 => ?_)
      · have h := (if_pos c4).symm.trans h
        refine j_iconst C dX7_canVisit_41 ci_1 ?_
        cases h
        exact j_zret C hr hlk rfl rfl dX7_canVisit_42
      · have h := (if_neg c4).symm.trans h
        refine j_iload_n C 3 rfl dX7_canVisit_7 rfl ?_
        refine j_iload_n C 1 rfl dX7_canVisit_8 rfl ?_
        refine j_iconst C dX7_canVisit_9 ci_m1 ?_
        refine j_ixor C dX7_canVisit_10 ?_
        refine j_iand C dX7_canVisit_11 ?_
        refine bk_elim h (fun K35_5 e_K35_5 h => ?_)
        have HK35_5 : ∀ (x6 : Int32) (x7 : Int32) (x8 : Int32), K35_5 x6 x7 x8 = some r0 → jW p l e ({ frames := 1, cells := 0, slots := 0, locals := 20 }) s m args below meth c (MQ below (jQc D TC ad cA (some (.int r0)) s.heap.size S V L) args s 0 0 (jA ad TC s.heap.size)) D TC ad cA (jA ad TC s.heap.size) 4 0 0 35 [(0, .ref (ad 59)), (1, .int x6), (2, .int x7), (3, .int x8)] [] S V L := by
          subst e_K35_5
          intro x6 x7 x8 h
          refine lt_elim h (fun x9 e_x9 h => ?_)
          refine j_iinc C [(3, .int x9), (0, .ref (ad 59)), (1, .int x6), (2, .int x7)] 3 dX7_canVisit_35 rfl ((iinc_eq ci_1).trans e_x9.symm) (by decide) rfl ?_
          refine j_goto (tgt := 2) C dX7_canVisit_38 (by decide) ?_
          exact j_sub [1, 2, 3, 0] rfl (ih _ _ _ h)
        refine j_if_ne (tgt := 35) C dX7_canVisit_12 (by decide) (fun c10 => ?_) (fun c10 => ?_)
        · have h := (if_neg c10).symm.trans h
          exact j_sub [0, 1, 2, 3] rfl (HK35_5 _ _ _ h)
        · have h := (if_pos c10).symm.trans h
          refine j_aload_n C 0 rfl dX7_canVisit_15 rfl ?_
          refine fg_X7_9_TC_59 C dX7_canVisit_16 ?_
          refine j_iload_n C 3 rfl dX7_canVisit_19 rfl ?_
          obtain ⟨g11, h⟩ := gd_elim h
          refine j_iald C tc_60 (ib_in g11) dX7_canVisit_20 ?_
          refine j_iload_n C 2 rfl dX7_canVisit_21 rfl ?_
          refine j_iand C dX7_canVisit_22 ?_
          obtain ⟨r12, h13, h⟩ := bd1_elim h
          refine j_callS (As := [.int ((V 60 (x3).toNatClampNeg) &&& x2)]) (rest := []) C (kJ6_bitCount_0f7a4 l B D ad cA hI S V L (((V 60 (x3).toNatClampNeg) &&& x2)) _ h13) mw_J6_bitCount_0f7a4 wd1092 wd1301 ⟨rfl, rfl, by decide, by decide⟩ ⟨Nat.zero_le _, Nat.zero_le _⟩ rfl rfl (Nat.le_of_ble_eq_true rfl) dX7_canVisit_23 ?_
          refine j_iload_n C 3 rfl dX7_canVisit_26 rfl ?_
          obtain ⟨r14, h15, h⟩ := bd1_elim h
          refine j_callS (As := [.int x3]) (rest := [.int r12]) C (kJ6_bitCount_0f7a4 l B D ad cA hI S V L x3 _ h15) mw_J6_bitCount_0f7a4 wd1092 wd1301 ⟨rfl, rfl, by decide, by decide⟩ ⟨Nat.zero_le _, Nat.zero_le _⟩ rfl rfl (Nat.le_of_ble_eq_true rfl) dX7_canVisit_27 ?_
          refine j_icmp_ge (tgt := 35) C dX7_canVisit_30 (by decide) (fun c16 => ?_) (fun c16 => ?_)
          · have h := (if_pos c16).symm.trans h
            exact j_sub [0, 1, 2, 3] rfl (HK35_5 _ _ _ h)
          · have h := (if_neg c16).symm.trans h
            refine j_iconst C dX7_canVisit_33 ci_0 ?_
            cases h
            exact j_zret C hr hlk rfl rfl dX7_canVisit_34
  refine j_iconst C dX7_canVisit_0 ci_1 ?_
  refine j_istore_n C [(3, .int (1 : Int32)), (0, .ref (ad 59)), (1, .int a1), (2, .int a2)] dX7_canVisit_1 rfl (by decide) rfl ?_
  exact j_sub [1, 2, 3, 0] rfl (H_fX7_canVisit_59_L2 FU _ _ _ h)
