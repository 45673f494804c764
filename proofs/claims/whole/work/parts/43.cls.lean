theorem dX10_numberOf_0 : decode cX10_numberOf 0 = .ok (.iload_n 2, 1) := by decide +kernel
theorem dX10_numberOf_1 : decode cX10_numberOf 1 = .ok (.iload_n 1, 1) := by decide +kernel
theorem dX10_numberOf_2 : decode cX10_numberOf 2 = .ok (.isub, 1) := by decide +kernel
theorem dX10_numberOf_3 : decode cX10_numberOf 3 = .ok (.iconst 4, 1) := by decide +kernel
theorem dX10_numberOf_4 : decode cX10_numberOf 4 = .ok (.if_icmp .le 5, 3) := by decide +kernel
theorem dX10_numberOf_7 : decode cX10_numberOf 7 = .ok (.iconst (-1), 1) := by decide +kernel
theorem dX10_numberOf_8 : decode cX10_numberOf 8 = .ok (.ireturn, 1) := by decide +kernel
theorem dX10_numberOf_9 : decode cX10_numberOf 9 = .ok (.iconst 0, 1) := by decide +kernel
theorem dX10_numberOf_10 : decode cX10_numberOf 10 = .ok (.istore_n 3, 1) := by decide +kernel
theorem dX10_numberOf_11 : decode cX10_numberOf 11 = .ok (.iload_n 1, 1) := by decide +kernel
theorem dX10_numberOf_12 : decode cX10_numberOf 12 = .ok (.istore 4, 2) := by decide +kernel
theorem dX10_numberOf_14 : decode cX10_numberOf 14 = .ok (.iload 4, 2) := by decide +kernel
theorem dX10_numberOf_16 : decode cX10_numberOf 16 = .ok (.iload_n 2, 1) := by decide +kernel
theorem dX10_numberOf_17 : decode cX10_numberOf 17 = .ok (.if_icmp .ge 25, 3) := by decide +kernel
theorem dX10_numberOf_20 : decode cX10_numberOf 20 = .ok (.iload_n 3, 1) := by decide +kernel
theorem dX10_numberOf_21 : decode cX10_numberOf 21 = .ok (.bipush 10, 2) := by decide +kernel
theorem dX10_numberOf_23 : decode cX10_numberOf 23 = .ok (.imul, 1) := by decide +kernel
theorem dX10_numberOf_24 : decode cX10_numberOf 24 = .ok (.aload_n 0, 1) := by decide +kernel
theorem dX10_numberOf_25 : decode cX10_numberOf 25 = .ok (.getfield 9, 3) := by decide +kernel
theorem dX10_numberOf_28 : decode cX10_numberOf 28 = .ok (.iload 4, 2) := by decide +kernel
theorem dX10_numberOf_30 : decode cX10_numberOf 30 = .ok (.baload, 1) := by decide +kernel
theorem dX10_numberOf_31 : decode cX10_numberOf 31 = .ok (.iadd, 1) := by decide +kernel
theorem dX10_numberOf_32 : decode cX10_numberOf 32 = .ok (.bipush 48, 2) := by decide +kernel
theorem dX10_numberOf_34 : decode cX10_numberOf 34 = .ok (.isub, 1) := by decide +kernel
theorem dX10_numberOf_35 : decode cX10_numberOf 35 = .ok (.istore_n 3, 1) := by decide +kernel
theorem dX10_numberOf_36 : decode cX10_numberOf 36 = .ok (.iinc 4 1, 3) := by decide +kernel
theorem dX10_numberOf_39 : decode cX10_numberOf 39 = .ok (.goto (-25), 3) := by decide +kernel
theorem dX10_numberOf_42 : decode cX10_numberOf 42 = .ok (.iload_n 3, 1) := by decide +kernel
theorem dX10_numberOf_43 : decode cX10_numberOf 43 = .ok (.ireturn, 1) := by decide +kernel
def fX10_numberOf_20_L14 (V : Nat → Nat → Int32) : Nat → Int32 → Int32 → Int32 → Option (Int32)
  | 0, _, _, _ => none
  | n + 1, x2, x3, x4 =>
    (if x2 ≤ x4 then
    some x3
    else
    gd (ib x4 600) (
    lt ((((x3 * (10 : Int32)) + (V 21 (x4).toNatClampNeg)) - (48 : Int32))) (fun x7 =>
    lt (x4 + (1 : Int32)) (fun x8 =>
    fX10_numberOf_20_L14 V n x2 x7 x8))))
def fX10_numberOf_20 (V : Nat → Nat → Int32) (a1 : Int32) (a2 : Int32) : Option (Int32) :=
  (if (a2 - a1) ≤ (4 : Int32) then
  fX10_numberOf_20_L14 V FU a2 (0 : Int32) a1
  else
  some (-1 : Int32))
set_option maxHeartbeats 4000000 in
set_option maxRecDepth 100000 in
theorem kX10_numberOf_20 (l : Launch) (B : jBT) (D : va_G) (ad : Nat → Nat) (cA : Nat → ClassId) (hI : jI ad TC) (S : Nat → Int32) (V : Nat → Nat → Int32) (L : Nat → Int64) (a1 : Int32) (a2 : Int32) (r0 : Int32) (h : fX10_numberOf_20 V a1 a2 = some r0) : jM l yX10_numberOf cX10_numberOf 5 (some .int) ({ frames := 0, cells := 0, slots := 0, locals := 0 }) B D TC ad cA [.ref (ad 20), .int a1, .int a2] S V L (some (.int r0)) S V L := by
  refine jM_of (plainFor_of_name (by decide)) TC_ok hI (Nat.le_of_ble_eq_true rfl) ?_
  intro p e s m args below meth c C hr hlk
  refine j_lv (lv2 := [(0, .ref (ad 20)), (1, .int a1), (2, .int a2)]) rfl ?_
  unfold fX10_numberOf_20 at h
  have H_fX10_numberOf_20_L14 : ∀ (n : Nat) (x2 : Int32) (x3 : Int32) (x4 : Int32), fX10_numberOf_20_L14 V n x2 x3 x4 = some r0 → jW p l e ({ frames := 0, cells := 0, slots := 0, locals := 0 }) s m args below meth c (MQ below (jQc D TC ad cA (some (.int r0)) s.heap.size S V L) args s 0 0 (jA ad TC s.heap.size)) D TC ad cA (jA ad TC s.heap.size) 5 0 0 14 [(0, .ref (ad 20)), (2, .int x2), (3, .int x3), (4, .int x4)] [] S V L := by
    intro n
    induction n with
    | zero =>
      intro x2 x3 x4 h
      cases (show (none : Option (Int32)) = some r0 from h)
    | succ n ih =>
      intro x2 x3 x4 h
      unfold fX10_numberOf_20_L14 at h
      refine j_iload C 3 rfl dX10_numberOf_14 ?_
      refine j_iload_n C 1 rfl dX10_numberOf_16 rfl ?_
      refine j_icmp_ge (tgt := 42) C dX10_numberOf_17 (by decide) (fun c5 => ?_) (fun c5 => ?_)
      · have h := (if_pos c5).symm.trans h
        refine j_iload_n C 2 rfl dX10_numberOf_42 rfl ?_
        cases h
        exact j_iret C hr hlk rfl dX10_numberOf_43
      · have h := (if_neg c5).symm.trans h
        refine j_iload_n C 2 rfl dX10_numberOf_20 rfl ?_
        refine j_bipush C dX10_numberOf_21 cb_10 ?_
        refine j_imul C dX10_numberOf_23 ?_
        refine j_aload_n C 0 rfl dX10_numberOf_24 rfl ?_
        refine fg_X10_9_TC_20 C dX10_numberOf_25 ?_
        refine j_iload C 3 rfl dX10_numberOf_28 ?_
        obtain ⟨g6, h⟩ := gd_elim h
        refine j_bald C tc_21 (ib_in g6) dX10_numberOf_30 ?_
        refine j_iadd C dX10_numberOf_31 ?_
        refine j_bipush C dX10_numberOf_32 cb_48 ?_
        refine j_isub C dX10_numberOf_34 ?_
        refine lt_elim h (fun x7 e_x7 h => ?_)
        refine j_top e_x7 ?_
        refine j_istore_n C [(3, .int x7), (0, .ref (ad 20)), (2, .int x2), (4, .int x4)] dX10_numberOf_35 rfl (by decide) rfl ?_
        refine lt_elim h (fun x8 e_x8 h => ?_)
        refine j_iinc C [(4, .int x8), (3, .int x7), (0, .ref (ad 20)), (2, .int x2)] 3 dX10_numberOf_36 rfl ((iinc_eq ci_1).trans e_x8.symm) (by decide) rfl ?_
        refine j_goto (tgt := 14) C dX10_numberOf_39 (by decide) ?_
        exact j_sub [2, 3, 1, 0] rfl (ih _ _ _ h)
  refine j_iload_n C 2 rfl dX10_numberOf_0 rfl ?_
  refine j_iload_n C 1 rfl dX10_numberOf_1 rfl ?_
  refine j_isub C dX10_numberOf_2 ?_
  refine j_iconst C dX10_numberOf_3 ci_4 ?_
  refine j_icmp_le (tgt := 9) C dX10_numberOf_4 (by decide) (fun c1 => ?_) (fun c1 => ?_)
  · have h := (if_pos c1).symm.trans h
    refine j_iconst C dX10_numberOf_9 ci_0 ?_
    refine j_istore_n C [(3, .int (0 : Int32)), (0, .ref (ad 20)), (1, .int a1), (2, .int a2)] dX10_numberOf_10 rfl (by decide) rfl ?_
    refine j_iload_n C 2 rfl dX10_numberOf_11 rfl ?_
    refine j_istore C [(4, .int a1), (3, .int (0 : Int32)), (0, .ref (ad 20)), (1, .int a1), (2, .int a2)] dX10_numberOf_12 (by decide) rfl ?_
    exact j_sub [2, 4, 1, 0] rfl (H_fX10_numberOf_20_L14 FU _ _ _ h)
  · have h := (if_neg c1).symm.trans h
    refine j_iconst C dX10_numberOf_7 ci_m1 ?_
    cases h
    exact j_iret C hr hlk rfl dX10_numberOf_8
theorem dX10_place_0 : decode cX10_place 0 = .ok (.aload_n 0, 1) := by decide +kernel
theorem dX10_place_1 : decode cX10_place 1 = .ok (.getfield 19, 3) := by decide +kernel
theorem dX10_place_4 : decode cX10_place 4 = .ok (.aload_n 0, 1) := by decide +kernel
theorem dX10_place_5 : decode cX10_place 5 = .ok (.getfield 44, 3) := by decide +kernel
theorem dX10_place_8 : decode cX10_place 8 = .ok (.iaload, 1) := by decide +kernel
theorem dX10_place_9 : decode cX10_place 9 = .ok (.ireturn, 1) := by decide +kernel
def fX10_place_20 (S : Nat → Int32) (V : Nat → Nat → Int32) : Option (Int32) :=
  lt ((S 2005)) (fun x1 =>
  gd (ib x1 601) (
  some ((V 23 (x1).toNatClampNeg))))
set_option maxHeartbeats 4000000 in
set_option maxRecDepth 100000 in
theorem kX10_place_20 (l : Launch) (B : jBT) (D : va_G) (ad : Nat → Nat) (cA : Nat → ClassId) (hI : jI ad TC) (S : Nat → Int32) (V : Nat → Nat → Int32) (L : Nat → Int64) (r0 : Int32) (h : fX10_place_20 S V = some r0) : jM l yX10_place cX10_place 1 (some .int) ({ frames := 0, cells := 0, slots := 0, locals := 0 }) B D TC ad cA [.ref (ad 20)] S V L (some (.int r0)) S V L := by
  refine jM_of (plainFor_of_name (by decide)) TC_ok hI (Nat.le_of_ble_eq_true rfl) ?_
  intro p e s m args below meth c C hr hlk
  refine j_lv (lv2 := [(0, .ref (ad 20))]) rfl ?_
  unfold fX10_place_20 at h
  refine j_aload_n C 0 rfl dX10_place_0 rfl ?_
  refine fg_X10_19_TC_20 C dX10_place_1 ?_
  refine j_aload_n C 0 rfl dX10_place_4 rfl ?_
  refine fg_X10_44_TC_20 C dX10_place_5 ?_
  refine lt_elim h (fun x1 e_x1 h => ?_)
  refine j_top e_x1 ?_
  obtain ⟨g2, h⟩ := gd_elim h
  refine j_iald C tc_23 (ib_in g2) dX10_place_8 ?_
  cases h
  exact j_iret C hr hlk rfl dX10_place_9
def fJ0_isLatin1_aae02_s2 : Option (Int32) :=
  some (1 : Int32)
set_option maxHeartbeats 4000000 in
set_option maxRecDepth 100000 in
theorem kJ0_isLatin1_aae02_s2 (l : Launch) (B : jBT) (D : va_G) (ad : Nat → Nat) (cA : Nat → ClassId) (hI : jI ad TC) (S : Nat → Int32) (V : Nat → Nat → Int32) (L : Nat → Int64) (r0 : Int32) (h : fJ0_isLatin1_aae02_s2 = some r0) : jM l yJ0_isLatin1_aae02 cJ0_isLatin1_aae02 1 (some .boolean) ({ frames := 0, cells := 0, slots := 0, locals := 0 }) B D TC ad cA [.ref (B.2.1 2)] S V L (some (.int r0)) S V L := by
  refine jM_of (plainFor_of_name (by decide)) TC_ok hI (Nat.le_of_ble_eq_true rfl) ?_
  intro p e s m args below meth c C hr hlk
  refine j_lv (lv2 := [(0, .ref (B.2.1 2))]) rfl ?_
  unfold fJ0_isLatin1_aae02_s2 at h
  refine j_compact C wd802 dJ0_isLatin1_aae02_0 ?_
  refine j_if_eq (tgt := 17) C dJ0_isLatin1_aae02_3 (by decide) (fun c => absurd c (by decide)) (fun _ => ?_)
  refine j_aload_n C 0 rfl dJ0_isLatin1_aae02_6 rfl ?_
  refine j_scod C (by decide) wd1982 dJ0_isLatin1_aae02_7 ?_
  refine j_if_ne (tgt := 17) C dJ0_isLatin1_aae02_10 (by decide) (fun c => absurd c (by decide)) (fun _ => ?_)
  refine j_iconst C dJ0_isLatin1_aae02_13 ci_1 ?_
  refine j_goto (tgt := 18) C dJ0_isLatin1_aae02_14 (by decide) ?_
  cases h
  exact j_zret C hr hlk rfl rfl dJ0_isLatin1_aae02_18
def fJ0_coder_7d493_s2 : Option (Int32) :=
  some (0 : Int32)
set_option maxHeartbeats 4000000 in
set_option maxRecDepth 100000 in
theorem kJ0_coder_7d493_s2 (l : Launch) (B : jBT) (D : va_G) (ad : Nat → Nat) (cA : Nat → ClassId) (hI : jI ad TC) (S : Nat → Int32) (V : Nat → Nat → Int32) (L : Nat → Int64) (r0 : Int32) (h : fJ0_coder_7d493_s2 = some r0) : jM l yJ0_coder_7d493 cJ0_coder_7d493 1 (some .byte) ({ frames := 0, cells := 0, slots := 0, locals := 0 }) B D TC ad cA [.ref (B.2.1 2)] S V L (some (.int r0)) S V L := by
  refine jM_of (plainFor_of_name (by decide)) TC_ok hI (Nat.le_of_ble_eq_true rfl) ?_
  intro p e s m args below meth c C hr hlk
  refine j_lv (lv2 := [(0, .ref (B.2.1 2))]) rfl ?_
  unfold fJ0_coder_7d493_s2 at h
  refine j_compact C wd802 dJ0_coder_7d493_0 ?_
  refine j_if_eq (tgt := 13) C dJ0_coder_7d493_3 (by decide) (fun c => absurd c (by decide)) (fun _ => ?_)
  refine j_aload_n C 0 rfl dJ0_coder_7d493_6 rfl ?_
  refine j_scod C (by decide) wd1982 dJ0_coder_7d493_7 ?_
  refine j_goto (tgt := 14) C dJ0_coder_7d493_10 (by decide) ?_
  cases h
  exact j_nret C hr hlk rfl rfl dJ0_coder_7d493_14
def fJ0_length_8abf5_s2 : Option (Int32) :=
  bd1 (fJ0_coder_7d493_s2) (fun r1 =>
  some (((9 : Int32) >>> (r1 &&& 31))))
set_option maxHeartbeats 4000000 in
set_option maxRecDepth 100000 in
theorem kJ0_length_8abf5_s2 (l : Launch) (B : jBT) (D : va_G) (ad : Nat → Nat) (cA : Nat → ClassId) (hI : jI ad TC) (S : Nat → Int32) (V : Nat → Nat → Int32) (L : Nat → Int64) (r0 : Int32) (h : fJ0_length_8abf5_s2 = some r0) : jM l yJ0_length_8abf5 cJ0_length_8abf5 1 (some .int) ({ frames := 1, cells := 0, slots := 0, locals := 20 }) B D TC ad cA [.ref (B.2.1 2)] S V L (some (.int r0)) S V L := by
  refine jM_of (plainFor_of_name (by decide)) TC_ok hI (Nat.le_of_ble_eq_true rfl) ?_
  intro p e s m args below meth c C hr hlk
  refine j_lv (lv2 := [(0, .ref (B.2.1 2))]) rfl ?_
  unfold fJ0_length_8abf5_s2 at h
  refine j_aload_n C 0 rfl dJ0_length_8abf5_0 rfl ?_
  refine j_sval C (by decide) wd1981 dJ0_length_8abf5_1 ?_
  refine j_salen (n := 9) (v := (9 : Int32)) (k := 2) C (by decide) rfl (by decide) dJ0_length_8abf5_4 ?_
  refine j_aload_n C 0 rfl dJ0_length_8abf5_5 rfl ?_
  obtain ⟨r1, h2, h⟩ := bd1_elim h
  refine j_callT (k := 2) (As := []) (rest := [.int (9 : Int32)]) C (kJ0_coder_7d493_s2 l B D ad cA hI S V L _ h2) mw_J0_coder_7d493 wd799 wd800 wd798 (by decide) rfl ⟨rfl, rfl, by decide, by decide⟩ ⟨Nat.zero_le _, Nat.zero_le _⟩ rfl rfl (Nat.le_of_ble_eq_true rfl) dJ0_length_8abf5_6 ?_
  refine j_ishr C dJ0_length_8abf5_9 ?_
  cases h
  exact j_iret C hr hlk rfl dJ0_length_8abf5_10
theorem dJ1_canEncode_9a6ad_0 : decode cJ1_canEncode_9a6ad 0 = .ok (.iload_n 0, 1) := by decide +kernel
theorem dJ1_canEncode_9a6ad_1 : decode cJ1_canEncode_9a6ad 1 = .ok (.ifCond .lt 14, 3) := by decide +kernel
theorem dJ1_canEncode_9a6ad_4 : decode cJ1_canEncode_9a6ad 4 = .ok (.iload_n 0, 1) := by decide +kernel
theorem dJ1_canEncode_9a6ad_5 : decode cJ1_canEncode_9a6ad 5 = .ok (.sipush 255, 3) := by decide +kernel
theorem dJ1_canEncode_9a6ad_8 : decode cJ1_canEncode_9a6ad 8 = .ok (.if_icmp .gt 7, 3) := by decide +kernel
theorem dJ1_canEncode_9a6ad_11 : decode cJ1_canEncode_9a6ad 11 = .ok (.iconst 1, 1) := by decide +kernel
theorem dJ1_canEncode_9a6ad_12 : decode cJ1_canEncode_9a6ad 12 = .ok (.goto 4, 3) := by decide +kernel
theorem dJ1_canEncode_9a6ad_15 : decode cJ1_canEncode_9a6ad 15 = .ok (.iconst 0, 1) := by decide +kernel
theorem dJ1_canEncode_9a6ad_16 : decode cJ1_canEncode_9a6ad 16 = .ok (.ireturn, 1) := by decide +kernel
def fJ1_canEncode_9a6ad (a1 : Int32) : Option (Int32) :=
  (if a1 < 0 then
  some (0 : Int32)
  else
  (if (255 : Int32) < a1 then
  some (0 : Int32)
  else
  some (1 : Int32)))
set_option maxHeartbeats 4000000 in
set_option maxRecDepth 100000 in
theorem kJ1_canEncode_9a6ad (l : Launch) (B : jBT) (D : va_G) (ad : Nat → Nat) (cA : Nat → ClassId) (hI : jI ad TC) (S : Nat → Int32) (V : Nat → Nat → Int32) (L : Nat → Int64) (a1 : Int32) (r0 : Int32) (h : fJ1_canEncode_9a6ad a1 = some r0) : jM l yJ1_canEncode_9a6ad cJ1_canEncode_9a6ad 1 (some .boolean) ({ frames := 0, cells := 0, slots := 0, locals := 0 }) B D TC ad cA [.int a1] S V L (some (.int r0)) S V L := by
  refine jM_of (plainFor_of_name (by decide)) TC_ok hI (Nat.le_of_ble_eq_true rfl) ?_
  intro p e s m args below meth c C hr hlk
  refine j_lv (lv2 := [(0, .int a1)]) rfl ?_
  unfold fJ1_canEncode_9a6ad at h
  refine j_iload_n C 0 rfl dJ1_canEncode_9a6ad_0 rfl ?_
  refine j_if_lt (tgt := 15) C dJ1_canEncode_9a6ad_1 (by decide) (fun c1 => ?_) (fun c1 => ?_)
  · have h := (if_pos c1).symm.trans h
    refine j_iconst C dJ1_canEncode_9a6ad_15 ci_0 ?_
    cases h
    exact j_zret C hr hlk rfl rfl dJ1_canEncode_9a6ad_16
  · have h := (if_neg c1).symm.trans h
    refine j_iload_n C 0 rfl dJ1_canEncode_9a6ad_4 rfl ?_
    refine j_sipush C dJ1_canEncode_9a6ad_5 cs_255 ?_
    refine j_icmp_gt (tgt := 15) C dJ1_canEncode_9a6ad_8 (by decide) (fun c2 => ?_) (fun c2 => ?_)
    · have h := (if_pos c2).symm.trans h
      refine j_iconst C dJ1_canEncode_9a6ad_15 ci_0 ?_
      cases h
      exact j_zret C hr hlk rfl rfl dJ1_canEncode_9a6ad_16
    · have h := (if_neg c2).symm.trans h
      refine j_iconst C dJ1_canEncode_9a6ad_11 ci_1 ?_
      refine j_goto (tgt := 16) C dJ1_canEncode_9a6ad_12 (by decide) ?_
      cases h
      exact j_zret C hr hlk rfl rfl dJ1_canEncode_9a6ad_16
theorem dJ1_indexOfChar_4cfef_0 : decode cJ1_indexOfChar_4cfef 0 = .ok (.iload_n 1, 1) := by decide +kernel
theorem dJ1_indexOfChar_4cfef_1 : decode cJ1_indexOfChar_4cfef 1 = .ok (.i2b, 1) := by decide +kernel
theorem dJ1_indexOfChar_4cfef_2 : decode cJ1_indexOfChar_4cfef 2 = .ok (.istore 4, 2) := by decide +kernel
theorem dJ1_indexOfChar_4cfef_4 : decode cJ1_indexOfChar_4cfef 4 = .ok (.iload_n 2, 1) := by decide +kernel
theorem dJ1_indexOfChar_4cfef_5 : decode cJ1_indexOfChar_4cfef 5 = .ok (.istore 5, 2) := by decide +kernel
theorem dJ1_indexOfChar_4cfef_7 : decode cJ1_indexOfChar_4cfef 7 = .ok (.iload 5, 2) := by decide +kernel
theorem dJ1_indexOfChar_4cfef_9 : decode cJ1_indexOfChar_4cfef 9 = .ok (.iload_n 3, 1) := by decide +kernel
theorem dJ1_indexOfChar_4cfef_10 : decode cJ1_indexOfChar_4cfef 10 = .ok (.if_icmp .ge 21, 3) := by decide +kernel
theorem dJ1_indexOfChar_4cfef_13 : decode cJ1_indexOfChar_4cfef 13 = .ok (.aload_n 0, 1) := by decide +kernel
theorem dJ1_indexOfChar_4cfef_14 : decode cJ1_indexOfChar_4cfef 14 = .ok (.iload 5, 2) := by decide +kernel
theorem dJ1_indexOfChar_4cfef_16 : decode cJ1_indexOfChar_4cfef 16 = .ok (.baload, 1) := by decide +kernel
theorem dJ1_indexOfChar_4cfef_17 : decode cJ1_indexOfChar_4cfef 17 = .ok (.iload 4, 2) := by decide +kernel
theorem dJ1_indexOfChar_4cfef_19 : decode cJ1_indexOfChar_4cfef 19 = .ok (.if_icmp .ne 6, 3) := by decide +kernel
theorem dJ1_indexOfChar_4cfef_22 : decode cJ1_indexOfChar_4cfef 22 = .ok (.iload 5, 2) := by decide +kernel
theorem dJ1_indexOfChar_4cfef_24 : decode cJ1_indexOfChar_4cfef 24 = .ok (.ireturn, 1) := by decide +kernel
theorem dJ1_indexOfChar_4cfef_25 : decode cJ1_indexOfChar_4cfef 25 = .ok (.iinc 5 1, 3) := by decide +kernel
theorem dJ1_indexOfChar_4cfef_28 : decode cJ1_indexOfChar_4cfef 28 = .ok (.goto (-21), 3) := by decide +kernel
theorem dJ1_indexOfChar_4cfef_31 : decode cJ1_indexOfChar_4cfef 31 = .ok (.iconst (-1), 1) := by decide +kernel
theorem dJ1_indexOfChar_4cfef_32 : decode cJ1_indexOfChar_4cfef 32 = .ok (.ireturn, 1) := by decide +kernel
def fJ1_indexOfChar_4cfef_v2_L7 : Nat → Int32 → Int32 → Int32 → Option (Int32)
  | 0, _, _, _ => none
  | n + 1, x2, x3, x4 =>
    (if x2 ≤ x4 then
    some (-1 : Int32)
    else
    gd (ib x4 9) (
    (if (sch 2 (x4).toNatClampNeg) = x3 then
    some x4
    else
    lt (x4 + (1 : Int32)) (fun x8 =>
    fJ1_indexOfChar_4cfef_v2_L7 n x2 x3 x8))))
def fJ1_indexOfChar_4cfef_v2 (a1 : Int32) (a2 : Int32) (a3 : Int32) : Option (Int32) :=
  lt (((a1).toInt8.toInt32)) (fun x1 =>
  fJ1_indexOfChar_4cfef_v2_L7 FU a3 x1 a2)
set_option maxHeartbeats 4000000 in
set_option maxRecDepth 100000 in
theorem kJ1_indexOfChar_4cfef_v2 (l : Launch) (B : jBT) (D : va_G) (ad : Nat → Nat) (cA : Nat → ClassId) (hI : jI ad TC) (S : Nat → Int32) (V : Nat → Nat → Int32) (L : Nat → Int64) (a1 : Int32) (a2 : Int32) (a3 : Int32) (r0 : Int32) (h : fJ1_indexOfChar_4cfef_v2 a1 a2 a3 = some r0) : jM l yJ1_indexOfChar_4cfef cJ1_indexOfChar_4cfef 6 (some .int) ({ frames := 0, cells := 0, slots := 0, locals := 0 }) B D TC ad cA [.ref (B.2.2 2), .int a1, .int a2, .int a3] S V L (some (.int r0)) S V L := by
  refine jM_of (plainFor_of_name (by decide)) TC_ok hI (Nat.le_of_ble_eq_true rfl) ?_
  intro p e s m args below meth c C hr hlk
  refine j_lv (lv2 := [(0, .ref (B.2.2 2)), (1, .int a1), (2, .int a2), (3, .int a3)]) rfl ?_
  unfold fJ1_indexOfChar_4cfef_v2 at h
  have H_fJ1_indexOfChar_4cfef_v2_L7 : ∀ (n : Nat) (x2 : Int32) (x3 : Int32) (x4 : Int32), fJ1_indexOfChar_4cfef_v2_L7 n x2 x3 x4 = some r0 → jW p l e ({ frames := 0, cells := 0, slots := 0, locals := 0 }) s m args below meth c (MQ below (jQc D TC ad cA (some (.int r0)) s.heap.size S V L) args s 0 0 (jA ad TC s.heap.size)) D TC ad cA (jA ad TC s.heap.size) 6 0 0 7 [(0, .ref (B.2.2 2)), (3, .int x2), (4, .int x3), (5, .int x4)] [] S V L := by
    intro n
    induction n with
    | zero =>
      intro x2 x3 x4 h
      cases (show (none : Option (Int32)) = some r0 from h)
    | succ n ih =>
      intro x2 x3 x4 h
      unfold fJ1_indexOfChar_4cfef_v2_L7 at h
      refine j_iload C 3 rfl dJ1_indexOfChar_4cfef_7 ?_
      refine j_iload_n C 1 rfl dJ1_indexOfChar_4cfef_9 rfl ?_
      refine j_icmp_ge (tgt := 31) C dJ1_indexOfChar_4cfef_10 (by decide) (fun c5 => ?_) (fun c5 => ?_)
      · have h := (if_pos c5).symm.trans h
        refine j_iconst C dJ1_indexOfChar_4cfef_31 ci_m1 ?_
        cases h
        exact j_iret C hr hlk rfl dJ1_indexOfChar_4cfef_32
      · have h := (if_neg c5).symm.trans h
        refine j_aload_n C 0 rfl dJ1_indexOfChar_4cfef_13 rfl ?_
        refine j_iload C 3 rfl dJ1_indexOfChar_4cfef_14 ?_
        obtain ⟨g6, h⟩ := gd_elim h
        refine j_sbald (n := 9) (k := 2) C (by decide) rfl (ib_in g6) dJ1_indexOfChar_4cfef_16 ?_
        refine j_iload C 2 rfl dJ1_indexOfChar_4cfef_17 ?_
        refine j_icmp_ne (tgt := 25) C dJ1_indexOfChar_4cfef_19 (by decide) (fun c7 => ?_) (fun c7 => ?_)
        · have h := (if_neg c7).symm.trans h
          refine lt_elim h (fun x8 e_x8 h => ?_)
          refine j_iinc C [(5, .int x8), (0, .ref (B.2.2 2)), (3, .int x2), (4, .int x3)] 3 dJ1_indexOfChar_4cfef_25 rfl ((iinc_eq ci_1).trans e_x8.symm) (by decide) rfl ?_
          refine j_goto (tgt := 7) C dJ1_indexOfChar_4cfef_28 (by decide) ?_
          exact j_sub [1, 2, 3, 0] rfl (ih _ _ _ h)
        · have h := (if_pos c7).symm.trans h
          refine j_iload C 3 rfl dJ1_indexOfChar_4cfef_22 ?_
          cases h
          exact j_iret C hr hlk rfl dJ1_indexOfChar_4cfef_24
  refine j_iload_n C 1 rfl dJ1_indexOfChar_4cfef_0 rfl ?_
  refine j_i2b C dJ1_indexOfChar_4cfef_1 ?_
  refine lt_elim h (fun x1 e_x1 h => ?_)
  refine j_top e_x1 ?_
  refine j_istore C [(4, .int x1), (0, .ref (B.2.2 2)), (1, .int a1), (2, .int a2), (3, .int a3)] dJ1_indexOfChar_4cfef_2 (by decide) rfl ?_
  refine j_iload_n C 3 rfl dJ1_indexOfChar_4cfef_4 rfl ?_
  refine j_istore C [(5, .int a2), (4, .int x1), (0, .ref (B.2.2 2)), (1, .int a1), (2, .int a2), (3, .int a3)] dJ1_indexOfChar_4cfef_5 (by decide) rfl ?_
  exact j_sub [2, 5, 1, 0] rfl (H_fJ1_indexOfChar_4cfef_v2_L7 FU _ _ _ h)
theorem dJ1_indexOf_4cfef_0 : decode cJ1_indexOf_4cfef 0 = .ok (.iload_n 1, 1) := by decide +kernel
theorem dJ1_indexOf_4cfef_1 : decode cJ1_indexOf_4cfef 1 = .ok (.invokestatic 88, 3) := by decide +kernel
theorem dJ1_indexOf_4cfef_4 : decode cJ1_indexOf_4cfef 4 = .ok (.ifCond .ne 5, 3) := by decide +kernel
theorem dJ1_indexOf_4cfef_7 : decode cJ1_indexOf_4cfef 7 = .ok (.iconst (-1), 1) := by decide +kernel
theorem dJ1_indexOf_4cfef_8 : decode cJ1_indexOf_4cfef 8 = .ok (.ireturn, 1) := by decide +kernel
theorem dJ1_indexOf_4cfef_9 : decode cJ1_indexOf_4cfef 9 = .ok (.iload_n 2, 1) := by decide +kernel
theorem dJ1_indexOf_4cfef_10 : decode cJ1_indexOf_4cfef 10 = .ok (.iconst 0, 1) := by decide +kernel
theorem dJ1_indexOf_4cfef_11 : decode cJ1_indexOf_4cfef 11 = .ok (.invokestatic 92, 3) := by decide +kernel
theorem dJ1_indexOf_4cfef_14 : decode cJ1_indexOf_4cfef 14 = .ok (.istore_n 2, 1) := by decide +kernel
theorem dJ1_indexOf_4cfef_15 : decode cJ1_indexOf_4cfef 15 = .ok (.iload_n 3, 1) := by decide +kernel
theorem dJ1_indexOf_4cfef_16 : decode cJ1_indexOf_4cfef 16 = .ok (.aload_n 0, 1) := by decide +kernel
theorem dJ1_indexOf_4cfef_17 : decode cJ1_indexOf_4cfef 17 = .ok (.arraylength, 1) := by decide +kernel
theorem dJ1_indexOf_4cfef_18 : decode cJ1_indexOf_4cfef 18 = .ok (.invokestatic 38, 3) := by decide +kernel
theorem dJ1_indexOf_4cfef_21 : decode cJ1_indexOf_4cfef 21 = .ok (.istore_n 3, 1) := by decide +kernel
theorem dJ1_indexOf_4cfef_22 : decode cJ1_indexOf_4cfef 22 = .ok (.iload_n 2, 1) := by decide +kernel
theorem dJ1_indexOf_4cfef_23 : decode cJ1_indexOf_4cfef 23 = .ok (.iload_n 3, 1) := by decide +kernel
theorem dJ1_indexOf_4cfef_24 : decode cJ1_indexOf_4cfef 24 = .ok (.if_icmp .lt 5, 3) := by decide +kernel
theorem dJ1_indexOf_4cfef_27 : decode cJ1_indexOf_4cfef 27 = .ok (.iconst (-1), 1) := by decide +kernel
theorem dJ1_indexOf_4cfef_28 : decode cJ1_indexOf_4cfef 28 = .ok (.ireturn, 1) := by decide +kernel
theorem dJ1_indexOf_4cfef_29 : decode cJ1_indexOf_4cfef 29 = .ok (.aload_n 0, 1) := by decide +kernel
theorem dJ1_indexOf_4cfef_30 : decode cJ1_indexOf_4cfef 30 = .ok (.iload_n 1, 1) := by decide +kernel
theorem dJ1_indexOf_4cfef_31 : decode cJ1_indexOf_4cfef 31 = .ok (.iload_n 2, 1) := by decide +kernel
theorem dJ1_indexOf_4cfef_32 : decode cJ1_indexOf_4cfef 32 = .ok (.iload_n 3, 1) := by decide +kernel
theorem dJ1_indexOf_4cfef_33 : decode cJ1_indexOf_4cfef 33 = .ok (.invokestatic 95, 3) := by decide +kernel
theorem dJ1_indexOf_4cfef_36 : decode cJ1_indexOf_4cfef 36 = .ok (.ireturn, 1) := by decide +kernel
def fJ1_indexOf_4cfef_v2 (a1 : Int32) (a2 : Int32) (a3 : Int32) : Option (Int32) :=
  bd1 (fJ1_canEncode_9a6ad a1) (fun r1 =>
  (if r1 = 0 then
  some (-1 : Int32)
  else
  bd1 (fJ9_max_7cf53 a2 (0 : Int32)) (fun r4 =>
  bd1 (fJ9_min_7cf53 a3 (9 : Int32)) (fun r6 =>
  (if r4 < r6 then
  bd1 (fJ1_indexOfChar_4cfef_v2 a1 r4 r6) (fun r9 =>
  some r9)
  else
  some (-1 : Int32))))))
set_option maxHeartbeats 4000000 in
set_option maxRecDepth 100000 in
theorem kJ1_indexOf_4cfef_v2 (l : Launch) (B : jBT) (D : va_G) (ad : Nat → Nat) (cA : Nat → ClassId) (hI : jI ad TC) (S : Nat → Int32) (V : Nat → Nat → Int32) (L : Nat → Int64) (a1 : Int32) (a2 : Int32) (a3 : Int32) (r0 : Int32) (h : fJ1_indexOf_4cfef_v2 a1 a2 a3 = some r0) : jM l yJ1_indexOf_4cfef cJ1_indexOf_4cfef 4 (some .int) ({ frames := 1, cells := 0, slots := 0, locals := 25 }) B D TC ad cA [.ref (B.2.2 2), .int a1, .int a2, .int a3] S V L (some (.int r0)) S V L := by
  refine jM_of (plainFor_of_name (by decide)) TC_ok hI (Nat.le_of_ble_eq_true rfl) ?_
  intro p e s m args below meth c C hr hlk
  refine j_lv (lv2 := [(0, .ref (B.2.2 2)), (1, .int a1), (2, .int a2), (3, .int a3)]) rfl ?_
  unfold fJ1_indexOf_4cfef_v2 at h
  refine j_iload_n C 1 rfl dJ1_indexOf_4cfef_0 rfl ?_
  obtain ⟨r1, h2, h⟩ := bd1_elim h
  refine j_callS (As := [.int a1]) (rest := []) C (kJ1_canEncode_9a6ad l B D ad cA hI S V L a1 _ h2) mw_J1_canEncode_9a6ad wd864 wd863 ⟨rfl, rfl, by decide, by decide⟩ ⟨Nat.zero_le _, Nat.zero_le _⟩ rfl rfl (Nat.le_of_ble_eq_true rfl) dJ1_indexOf_4cfef_1 ?_
  refine j_if_ne (tgt := 9) C dJ1_indexOf_4cfef_4 (by decide) (fun c3 => ?_) (fun c3 => ?_)
  · have h := (if_neg c3).symm.trans h
    refine j_iload_n C 2 rfl dJ1_indexOf_4cfef_9 rfl ?_
    refine j_iconst C dJ1_indexOf_4cfef_10 ci_0 ?_
    obtain ⟨r4, h5, h⟩ := bd1_elim h
    refine j_callS (As := [.int a2, .int (0 : Int32)]) (rest := []) C (kJ9_max_7cf53 l B D ad cA hI S V L a2 (0 : Int32) _ h5) mw_J9_max_7cf53 wd770 wd866 ⟨rfl, rfl, by decide, by decide⟩ ⟨Nat.zero_le _, Nat.zero_le _⟩ rfl rfl (Nat.le_of_ble_eq_true rfl) dJ1_indexOf_4cfef_11 ?_
    refine j_istore_n C [(2, .int r4), (0, .ref (B.2.2 2)), (1, .int a1), (3, .int a3)] dJ1_indexOf_4cfef_14 rfl (by decide) rfl ?_
    refine j_iload_n C 3 rfl dJ1_indexOf_4cfef_15 rfl ?_
    refine j_aload_n C 1 rfl dJ1_indexOf_4cfef_16 rfl ?_
    refine j_salen (n := 9) (v := (9 : Int32)) (k := 2) C (by decide) rfl (by decide) dJ1_indexOf_4cfef_17 ?_
    obtain ⟨r6, h7, h⟩ := bd1_elim h
    refine j_callS (As := [.int a3, .int (9 : Int32)]) (rest := []) C (kJ9_min_7cf53 l B D ad cA hI S V L a3 (9 : Int32) _ h7) mw_J9_min_7cf53 wd767 wd867 ⟨rfl, rfl, by decide, by decide⟩ ⟨Nat.zero_le _, Nat.zero_le _⟩ rfl rfl (Nat.le_of_ble_eq_true rfl) dJ1_indexOf_4cfef_18 ?_
    refine j_istore_n C [(3, .int r6), (2, .int r4), (0, .ref (B.2.2 2)), (1, .int a1)] dJ1_indexOf_4cfef_21 rfl (by decide) rfl ?_
    refine j_iload_n C 1 rfl dJ1_indexOf_4cfef_22 rfl ?_
    refine j_iload_n C 0 rfl dJ1_indexOf_4cfef_23 rfl ?_
    refine j_icmp_lt (tgt := 29) C dJ1_indexOf_4cfef_24 (by decide) (fun c8 => ?_) (fun c8 => ?_)
    · have h := (if_pos c8).symm.trans h
      refine j_aload_n C 2 rfl dJ1_indexOf_4cfef_29 rfl ?_
      refine j_iload_n C 3 rfl dJ1_indexOf_4cfef_30 rfl ?_
      refine j_iload_n C 1 rfl dJ1_indexOf_4cfef_31 rfl ?_
      refine j_iload_n C 0 rfl dJ1_indexOf_4cfef_32 rfl ?_
      obtain ⟨r9, h10, h⟩ := bd1_elim h
      refine j_callS (As := [.ref (B.2.2 2), .int a1, .int r4, .int r6]) (rest := []) C (kJ1_indexOfChar_4cfef_v2 l B D ad cA hI S V L a1 r4 r6 _ h10) mw_J1_indexOfChar_4cfef wd869 wd868 ⟨rfl, rfl, by decide, by decide⟩ ⟨Nat.zero_le _, Nat.zero_le _⟩ rfl rfl (Nat.le_of_ble_eq_true rfl) dJ1_indexOf_4cfef_33 ?_
      cases h
      exact j_iret C hr hlk rfl dJ1_indexOf_4cfef_36
    · have h := (if_neg c8).symm.trans h
      refine j_iconst C dJ1_indexOf_4cfef_27 ci_m1 ?_
      cases h
      exact j_iret C hr hlk rfl dJ1_indexOf_4cfef_28
  · have h := (if_pos c3).symm.trans h
    refine j_iconst C dJ1_indexOf_4cfef_7 ci_m1 ?_
    cases h
    exact j_iret C hr hlk rfl dJ1_indexOf_4cfef_8
theorem dJ0_indexOf_7cf53_0 : decode cJ0_indexOf_7cf53 0 = .ok (.aload_n 0, 1) := by decide +kernel
theorem dJ0_indexOf_7cf53_1 : decode cJ0_indexOf_7cf53 1 = .ok (.invokevirtual 492, 3) := by decide +kernel
theorem dJ0_indexOf_7cf53_4 : decode cJ0_indexOf_7cf53 4 = .ok (.ifCond .eq 19, 3) := by decide +kernel
theorem dJ0_indexOf_7cf53_7 : decode cJ0_indexOf_7cf53 7 = .ok (.aload_n 0, 1) := by decide +kernel
theorem dJ0_indexOf_7cf53_8 : decode cJ0_indexOf_7cf53 8 = .ok (.getfield 9, 3) := by decide +kernel
theorem dJ0_indexOf_7cf53_11 : decode cJ0_indexOf_7cf53 11 = .ok (.iload_n 1, 1) := by decide +kernel
theorem dJ0_indexOf_7cf53_12 : decode cJ0_indexOf_7cf53 12 = .ok (.iload_n 2, 1) := by decide +kernel
theorem dJ0_indexOf_7cf53_13 : decode cJ0_indexOf_7cf53 13 = .ok (.aload_n 0, 1) := by decide +kernel
theorem dJ0_indexOf_7cf53_14 : decode cJ0_indexOf_7cf53 14 = .ok (.invokevirtual 505, 3) := by decide +kernel
theorem dJ0_indexOf_7cf53_17 : decode cJ0_indexOf_7cf53 17 = .ok (.invokestatic 637, 3) := by decide +kernel
theorem dJ0_indexOf_7cf53_20 : decode cJ0_indexOf_7cf53 20 = .ok (.goto 16, 3) := by decide +kernel
theorem dJ0_indexOf_7cf53_23 : decode cJ0_indexOf_7cf53 23 = .ok (.aload_n 0, 1) := by decide +kernel
theorem dJ0_indexOf_7cf53_24 : decode cJ0_indexOf_7cf53 24 = .ok (.getfield 9, 3) := by decide +kernel
theorem dJ0_indexOf_7cf53_27 : decode cJ0_indexOf_7cf53 27 = .ok (.iload_n 1, 1) := by decide +kernel
theorem dJ0_indexOf_7cf53_28 : decode cJ0_indexOf_7cf53 28 = .ok (.iload_n 2, 1) := by decide +kernel
theorem dJ0_indexOf_7cf53_29 : decode cJ0_indexOf_7cf53 29 = .ok (.aload_n 0, 1) := by decide +kernel
theorem dJ0_indexOf_7cf53_30 : decode cJ0_indexOf_7cf53 30 = .ok (.invokevirtual 505, 3) := by decide +kernel
theorem dJ0_indexOf_7cf53_33 : decode cJ0_indexOf_7cf53 33 = .ok (.invokestatic 640, 3) := by decide +kernel
theorem dJ0_indexOf_7cf53_36 : decode cJ0_indexOf_7cf53 36 = .ok (.ireturn, 1) := by decide +kernel
def fJ0_indexOf_7cf53_s2 (a1 : Int32) (a2 : Int32) : Option (Int32) :=
  bd1 (fJ0_isLatin1_aae02_s2) (fun r1 =>
  (if r1 = 0 then
  none
  else
  bd1 (fJ0_length_8abf5_s2) (fun r4 =>
  bd1 (fJ1_indexOf_4cfef_v2 a1 a2 r4) (fun r6 =>
  some r6))))
set_option maxHeartbeats 4000000 in
set_option maxRecDepth 100000 in
theorem kJ0_indexOf_7cf53_s2 (l : Launch) (B : jBT) (D : va_G) (ad : Nat → Nat) (cA : Nat → ClassId) (hI : jI ad TC) (S : Nat → Int32) (V : Nat → Nat → Int32) (L : Nat → Int64) (a1 : Int32) (a2 : Int32) (r0 : Int32) (h : fJ0_indexOf_7cf53_s2 a1 a2 = some r0) : jM l yJ0_indexOf_7cf53 cJ0_indexOf_7cf53 3 (some .int) ({ frames := 2, cells := 0, slots := 0, locals := 48 }) B D TC ad cA [.ref (B.2.1 2), .int a1, .int a2] S V L (some (.int r0)) S V L := by
  refine jM_of (plainFor_of_name (by decide)) TC_ok hI (Nat.le_of_ble_eq_true rfl) ?_
  intro p e s m args below meth c C hr hlk
  refine j_lv (lv2 := [(0, .ref (B.2.1 2)), (1, .int a1), (2, .int a2)]) rfl ?_
  unfold fJ0_indexOf_7cf53_s2 at h
  refine j_aload_n C 0 rfl dJ0_indexOf_7cf53_0 rfl ?_
  obtain ⟨r1, h2, h⟩ := bd1_elim h
  refine j_callT (k := 2) (As := []) (rest := []) C (kJ0_isLatin1_aae02_s2 l B D ad cA hI S V L _ h2) mw_J0_isLatin1_aae02 wd809 wd810 wd808 (by decide) rfl ⟨rfl, rfl, by decide, by decide⟩ ⟨Nat.zero_le _, Nat.zero_le _⟩ rfl rfl (Nat.le_of_ble_eq_true rfl) dJ0_indexOf_7cf53_1 ?_
  refine j_if_eq (tgt := 23) C dJ0_indexOf_7cf53_4 (by decide) (fun c3 => ?_) (fun c3 => ?_)
  · have h := (if_pos c3).symm.trans h
    cases h
  · have h := (if_neg c3).symm.trans h
    refine j_aload_n C 0 rfl dJ0_indexOf_7cf53_7 rfl ?_
    refine j_sval C (by decide) wd1981 dJ0_indexOf_7cf53_8 ?_
    refine j_iload_n C 1 rfl dJ0_indexOf_7cf53_11 rfl ?_
    refine j_iload_n C 2 rfl dJ0_indexOf_7cf53_12 rfl ?_
    refine j_aload_n C 0 rfl dJ0_indexOf_7cf53_13 rfl ?_
    obtain ⟨r4, h5, h⟩ := bd1_elim h
    refine j_callT (k := 2) (As := []) (rest := [.int a2, .int a1, .ref (B.2.2 2)]) C (kJ0_length_8abf5_s2 l B D ad cA hI S V L _ h5) mw_J0_length_8abf5 wd795 wd796 wd859 (by decide) rfl ⟨rfl, rfl, by decide, by decide⟩ ⟨Nat.zero_le _, Nat.zero_le _⟩ rfl rfl (Nat.le_of_ble_eq_true rfl) dJ0_indexOf_7cf53_14 ?_
    obtain ⟨r6, h7, h⟩ := bd1_elim h
    refine j_callS (As := [.ref (B.2.2 2), .int a1, .int a2, .int r4]) (rest := []) C (kJ1_indexOf_4cfef_v2 l B D ad cA hI S V L a1 a2 r4 _ h7) mw_J1_indexOf_4cfef wd861 wd860 ⟨rfl, rfl, by decide, by decide⟩ ⟨Nat.zero_le _, Nat.zero_le _⟩ rfl rfl (Nat.le_of_ble_eq_true rfl) dJ0_indexOf_7cf53_17 ?_
    refine j_goto (tgt := 36) C dJ0_indexOf_7cf53_20 (by decide) ?_
    cases h
    exact j_iret C hr hlk rfl dJ0_indexOf_7cf53_36
theorem dJ0_indexOf_0f7a4_0 : decode cJ0_indexOf_0f7a4 0 = .ok (.aload_n 0, 1) := by decide +kernel
theorem dJ0_indexOf_0f7a4_1 : decode cJ0_indexOf_0f7a4 1 = .ok (.iload_n 1, 1) := by decide +kernel
theorem dJ0_indexOf_0f7a4_2 : decode cJ0_indexOf_0f7a4 2 = .ok (.iconst 0, 1) := by decide +kernel
theorem dJ0_indexOf_0f7a4_3 : decode cJ0_indexOf_0f7a4 3 = .ok (.invokevirtual 633, 3) := by decide +kernel
theorem dJ0_indexOf_0f7a4_6 : decode cJ0_indexOf_0f7a4 6 = .ok (.ireturn, 1) := by decide +kernel
def fJ0_indexOf_0f7a4_s2 (a1 : Int32) : Option (Int32) :=
  bd1 (fJ0_indexOf_7cf53_s2 a1 (0 : Int32)) (fun r1 =>
  some r1)
set_option maxHeartbeats 4000000 in
set_option maxRecDepth 100000 in
theorem kJ0_indexOf_0f7a4_s2 (l : Launch) (B : jBT) (D : va_G) (ad : Nat → Nat) (cA : Nat → ClassId) (hI : jI ad TC) (S : Nat → Int32) (V : Nat → Nat → Int32) (L : Nat → Int64) (a1 : Int32) (r0 : Int32) (h : fJ0_indexOf_0f7a4_s2 a1 = some r0) : jM l yJ0_indexOf_0f7a4 cJ0_indexOf_0f7a4 2 (some .int) ({ frames := 3, cells := 0, slots := 0, locals := 70 }) B D TC ad cA [.ref (B.2.1 2), .int a1] S V L (some (.int r0)) S V L := by
  refine jM_of (plainFor_of_name (by decide)) TC_ok hI (Nat.le_of_ble_eq_true rfl) ?_
  intro p e s m args below meth c C hr hlk
  refine j_lv (lv2 := [(0, .ref (B.2.1 2)), (1, .int a1)]) rfl ?_
  unfold fJ0_indexOf_0f7a4_s2 at h
  refine j_aload_n C 0 rfl dJ0_indexOf_0f7a4_0 rfl ?_
  refine j_iload_n C 1 rfl dJ0_indexOf_0f7a4_1 rfl ?_
  refine j_iconst C dJ0_indexOf_0f7a4_2 ci_0 ?_
  obtain ⟨r1, h2, h⟩ := bd1_elim h
  refine j_callT (k := 2) (As := [.int a1, .int (0 : Int32)]) (rest := []) C (kJ0_indexOf_7cf53_s2 l B D ad cA hI S V L a1 (0 : Int32) _ h2) mw_J0_indexOf_7cf53 wd856 wd857 wd855 (by decide) rfl ⟨rfl, rfl, by decide, by decide⟩ ⟨Nat.zero_le _, Nat.zero_le _⟩ rfl rfl (Nat.le_of_ble_eq_true rfl) dJ0_indexOf_0f7a4_3 ?_
  cases h
  exact j_iret C hr hlk rfl dJ0_indexOf_0f7a4_6
theorem dX10_putToken_0 : decode cX10_putToken 0 = .ok (.aload_n 0, 1) := by decide +kernel
theorem dX10_putToken_1 : decode cX10_putToken 1 = .ok (.getfield 19, 3) := by decide +kernel
theorem dX10_putToken_4 : decode cX10_putToken 4 = .ok (.aload_n 0, 1) := by decide +kernel
theorem dX10_putToken_5 : decode cX10_putToken 5 = .ok (.getfield 44, 3) := by decide +kernel
theorem dX10_putToken_8 : decode cX10_putToken 8 = .ok (.iload_n 1, 1) := by decide +kernel
theorem dX10_putToken_9 : decode cX10_putToken 9 = .ok (.iastore, 1) := by decide +kernel
theorem dX10_putToken_10 : decode cX10_putToken 10 = .ok (.aload_n 0, 1) := by decide +kernel
theorem dX10_putToken_11 : decode cX10_putToken 11 = .ok (.iload_n 1, 1) := by decide +kernel
theorem dX10_putToken_12 : decode cX10_putToken 12 = .ok (.invokevirtual 55, 3) := by decide +kernel
theorem dX10_putToken_15 : decode cX10_putToken 15 = .ok (.ifCond .eq 21, 3) := by decide +kernel
theorem dX10_putToken_18 : decode cX10_putToken 18 = .ok (.aload_n 0, 1) := by decide +kernel
theorem dX10_putToken_19 : decode cX10_putToken 19 = .ok (.getfield 15, 3) := by decide +kernel
theorem dX10_putToken_22 : decode cX10_putToken 22 = .ok (.aload_n 0, 1) := by decide +kernel
theorem dX10_putToken_23 : decode cX10_putToken 23 = .ok (.getfield 44, 3) := by decide +kernel
theorem dX10_putToken_26 : decode cX10_putToken 26 = .ok (.aload_n 0, 1) := by decide +kernel
theorem dX10_putToken_27 : decode cX10_putToken 27 = .ok (.iload_n 1, 1) := by decide +kernel
theorem dX10_putToken_28 : decode cX10_putToken 28 = .ok (.iload_n 2, 1) := by decide +kernel
theorem dX10_putToken_29 : decode cX10_putToken 29 = .ok (.invokevirtual 62, 3) := by decide +kernel
theorem dX10_putToken_32 : decode cX10_putToken 32 = .ok (.iastore, 1) := by decide +kernel
theorem dX10_putToken_33 : decode cX10_putToken 33 = .ok (.goto 74, 3) := by decide +kernel
theorem dX10_putToken_36 : decode cX10_putToken 36 = .ok (.aload_n 0, 1) := by decide +kernel
theorem dX10_putToken_37 : decode cX10_putToken 37 = .ok (.iload_n 1, 1) := by decide +kernel
theorem dX10_putToken_38 : decode cX10_putToken 38 = .ok (.invokevirtual 59, 3) := by decide +kernel
theorem dX10_putToken_41 : decode cX10_putToken 41 = .ok (.ifCond .eq 31, 3) := by decide +kernel
theorem dX10_putToken_44 : decode cX10_putToken 44 = .ok (.aload_n 0, 1) := by decide +kernel
theorem dX10_putToken_45 : decode cX10_putToken 45 = .ok (.getfield 15, 3) := by decide +kernel
theorem dX10_putToken_48 : decode cX10_putToken 48 = .ok (.aload_n 0, 1) := by decide +kernel
theorem dX10_putToken_49 : decode cX10_putToken 49 = .ok (.getfield 44, 3) := by decide +kernel
theorem dX10_putToken_52 : decode cX10_putToken 52 = .ok (.iconst 1, 1) := by decide +kernel
theorem dX10_putToken_53 : decode cX10_putToken 53 = .ok (.iastore, 1) := by decide +kernel
theorem dX10_putToken_54 : decode cX10_putToken 54 = .ok (.aload_n 0, 1) := by decide +kernel
theorem dX10_putToken_55 : decode cX10_putToken 55 = .ok (.getfield 22, 3) := by decide +kernel
theorem dX10_putToken_58 : decode cX10_putToken 58 = .ok (.aload_n 0, 1) := by decide +kernel
theorem dX10_putToken_59 : decode cX10_putToken 59 = .ok (.getfield 44, 3) := by decide +kernel
theorem dX10_putToken_62 : decode cX10_putToken 62 = .ok (.aload_n 0, 1) := by decide +kernel
theorem dX10_putToken_63 : decode cX10_putToken 63 = .ok (.iload_n 1, 1) := by decide +kernel
theorem dX10_putToken_64 : decode cX10_putToken 64 = .ok (.iload_n 2, 1) := by decide +kernel
theorem dX10_putToken_65 : decode cX10_putToken 65 = .ok (.invokevirtual 65, 3) := by decide +kernel
theorem dX10_putToken_68 : decode cX10_putToken 68 = .ok (.iastore, 1) := by decide +kernel
theorem dX10_putToken_69 : decode cX10_putToken 69 = .ok (.goto 38, 3) := by decide +kernel
theorem dX10_putToken_72 : decode cX10_putToken 72 = .ok (.aload_n 0, 1) := by decide +kernel
theorem dX10_putToken_73 : decode cX10_putToken 73 = .ok (.getfield 9, 3) := by decide +kernel
theorem dX10_putToken_76 : decode cX10_putToken 76 = .ok (.iload_n 1, 1) := by decide +kernel
theorem dX10_putToken_77 : decode cX10_putToken 77 = .ok (.baload, 1) := by decide +kernel
theorem dX10_putToken_78 : decode cX10_putToken 78 = .ok (.istore_n 3, 1) := by decide +kernel
theorem dX10_putToken_79 : decode cX10_putToken 79 = .ok (.aload_n 0, 1) := by decide +kernel
theorem dX10_putToken_80 : decode cX10_putToken 80 = .ok (.getfield 15, 3) := by decide +kernel
theorem dX10_putToken_83 : decode cX10_putToken 83 = .ok (.aload_n 0, 1) := by decide +kernel
theorem dX10_putToken_84 : decode cX10_putToken 84 = .ok (.getfield 44, 3) := by decide +kernel
theorem dX10_putToken_87 : decode cX10_putToken 87 = .ok (.iload_n 3, 1) := by decide +kernel
theorem dX10_putToken_88 : decode cX10_putToken 88 = .ok (.ifCond .le 17, 3) := by decide +kernel
theorem dX10_putToken_91 : decode cX10_putToken 91 = .ok (.ldc 68, 2) := by decide +kernel
theorem dX10_putToken_93 : decode cX10_putToken 93 = .ok (.iload_n 3, 1) := by decide +kernel
theorem dX10_putToken_94 : decode cX10_putToken 94 = .ok (.i2c, 1) := by decide +kernel
theorem dX10_putToken_95 : decode cX10_putToken 95 = .ok (.invokevirtual 70, 3) := by decide +kernel
theorem dX10_putToken_98 : decode cX10_putToken 98 = .ok (.ifCond .lt 7, 3) := by decide +kernel
theorem dX10_putToken_101 : decode cX10_putToken 101 = .ok (.iload_n 3, 1) := by decide +kernel
theorem dX10_putToken_102 : decode cX10_putToken 102 = .ok (.goto 4, 3) := by decide +kernel
theorem dX10_putToken_105 : decode cX10_putToken 105 = .ok (.iconst 2, 1) := by decide +kernel
theorem dX10_putToken_106 : decode cX10_putToken 106 = .ok (.iastore, 1) := by decide +kernel
theorem dX10_putToken_107 : decode cX10_putToken 107 = .ok (.return_, 1) := by decide +kernel
def fX10_putToken_20 (S : Nat → Int32) (V : Nat → Nat → Int32) (a1 : Int32) (a2 : Int32) : Option ((Nat → Nat → Int32)) :=
  lt ((S 2005)) (fun x1 =>
  gd (ib x1 601) (
  lt (va_up V 23 (upd (V 23) (x1).toNatClampNeg a1)) (fun V3 =>
  bd1 (fX10_isLetter_20 V3 a1) (fun r4 =>
  (if r4 = 0 then
  bd1 (fX10_isDigit_20 V3 a1) (fun r7 =>
  (if r7 = 0 then
  gd (ib a1 600) (
  lt ((V3 21 (a1).toNatClampNeg)) (fun x11 =>
  bk (fun (x13 : Int32) (x14 : Int32) (V15 : Nat → Nat → Int32) =>
  gd (ib x14 601) (
  lt (va_up V15 22 (upd (V15 22) (x14).toNatClampNeg x13)) (fun V17 =>
  some V17))) (fun K106_12 =>
  bk (fun (x19 : Int32) (V20 : Nat → Nat → Int32) =>
  K106_12 (2 : Int32) x19 V20) (fun K105_18 =>
  (if x11 ≤ 0 then
  K105_18 ((S 2005)) V3
  else
  bd1 (fJ0_indexOf_0f7a4_s2 ((((x11).toUInt32 % 65536).toInt32))) (fun r22 =>
  (if r22 < 0 then
  K105_18 ((S 2005)) V3
  else
  K106_12 x11 ((S 2005)) V3)))))))
  else
  lt ((S 2005)) (fun x25 =>
  gd (ib x25 601) (
  lt (va_up V3 22 (upd (V3 22) (x25).toNatClampNeg (1 : Int32))) (fun V27 =>
  bd1 (fX10_numberOf_20 V27 a1 a2) (fun r28 =>
  lt ((S 2005)) (fun x30 =>
  gd (ib x30 601) (
  lt (va_up V27 24 (upd (V27 24) (x30).toNatClampNeg r28)) (fun V32 =>
  some V32)))))))))
  else
  bd1 (fX10_kindOfWord_20 V3 a1 a2) (fun r33 =>
  lt ((S 2005)) (fun x35 =>
  gd (ib x35 601) (
  lt (va_up V3 22 (upd (V3 22) (x35).toNatClampNeg r33)) (fun V37 =>
  some V37)))))))))
set_option maxHeartbeats 4000000 in
set_option maxRecDepth 100000 in
theorem kX10_putToken_20 (l : Launch) (B : jBT) (D : va_G) (ad : Nat → Nat) (cA : Nat → ClassId) (hI : jI ad TC) (S : Nat → Int32) (V : Nat → Nat → Int32) (L : Nat → Int64) (a1 : Int32) (a2 : Int32) (V0 : Nat → Nat → Int32) (h : fX10_putToken_20 S V a1 a2 = some V0) : jM l yX10_putToken cX10_putToken 4 none ({ frames := 6, cells := 0, slots := 0, locals := 134 }) B D TC ad cA [.ref (ad 20), .int a1, .int a2] S V L none S V0 L := by
  refine jM_of (plainFor_of_name (by decide)) TC_ok hI (Nat.le_of_ble_eq_true rfl) ?_
  intro p e s m args below meth c C hr hlk
  refine j_lv (lv2 := [(0, .ref (ad 20)), (1, .int a1), (2, .int a2)]) rfl ?_
  unfold fX10_putToken_20 at h
  refine j_aload_n C 0 rfl dX10_putToken_0 rfl ?_
  refine fg_X10_19_TC_20 C dX10_putToken_1 ?_
  refine j_aload_n C 0 rfl dX10_putToken_4 rfl ?_
  refine fg_X10_44_TC_20 C dX10_putToken_5 ?_
  refine j_iload_n C 1 rfl dX10_putToken_8 rfl ?_
  refine lt_elim h (fun x1 e_x1 h => ?_)
  refine j_top2 e_x1 ?_
  obtain ⟨g2, h⟩ := gd_elim h
  refine j_iast C tc_23 (ib_in g2) dX10_putToken_9 ?_
  refine lt_elim h (fun V3 e_V3 h => ?_)
  refine j_V e_V3 ?_
  refine j_aload_n C 0 rfl dX10_putToken_10 rfl ?_
  refine j_iload_n C 1 rfl dX10_putToken_11 rfl ?_
  obtain ⟨r4, h5, h⟩ := bd1_elim h
  refine j_callV (As := [.int a1]) (rest := []) C (kX10_isLetter_20 l B D ad cA hI S V3 L a1 _ h5) mw_X10_isLetter wd779 wd10 wd777 tc_20 rfl rfl ⟨rfl, rfl, by decide, by decide⟩ ⟨Nat.zero_le _, Nat.zero_le _⟩ rfl rfl (Nat.le_of_ble_eq_true rfl) dX10_putToken_12 ?_
  refine j_if_eq (tgt := 36) C dX10_putToken_15 (by decide) (fun c6 => ?_) (fun c6 => ?_)
  · have h := (if_pos c6).symm.trans h
    refine j_aload_n C 0 rfl dX10_putToken_36 rfl ?_
    refine j_iload_n C 1 rfl dX10_putToken_37 rfl ?_
    obtain ⟨r7, h8, h⟩ := bd1_elim h
    refine j_callV (As := [.int a1]) (rest := []) C (kX10_isDigit_20 l B D ad cA hI S V3 L a1 _ h8) mw_X10_isDigit wd783 wd11 wd781 tc_20 rfl rfl ⟨rfl, rfl, by decide, by decide⟩ ⟨Nat.zero_le _, Nat.zero_le _⟩ rfl rfl (Nat.le_of_ble_eq_true rfl) dX10_putToken_38 ?_
    refine j_if_eq (tgt := 72) C dX10_putToken_41 (by decide) (fun c9 => ?_) (fun c9 => ?_)
    · have h := (if_pos c9).symm.trans h
      refine j_aload_n C 0 rfl dX10_putToken_72 rfl ?_
      refine fg_X10_9_TC_20 C dX10_putToken_73 ?_
      refine j_iload_n C 1 rfl dX10_putToken_76 rfl ?_
      obtain ⟨g10, h⟩ := gd_elim h
      refine j_bald C tc_21 (ib_in g10) dX10_putToken_77 ?_
      refine lt_elim h (fun x11 e_x11 h => ?_)
      refine j_top e_x11 ?_
      refine j_istore_n C [(3, .int x11), (0, .ref (ad 20)), (1, .int a1), (2, .int a2)] dX10_putToken_78 rfl (by decide) rfl ?_
      refine j_aload_n C 1 rfl dX10_putToken_79 rfl ?_
      refine fg_X10_15_TC_20 C dX10_putToken_80 ?_
      refine j_aload_n C 1 rfl dX10_putToken_83 rfl ?_
      refine fg_X10_44_TC_20 C dX10_putToken_84 ?_
      refine j_iload_n C 0 rfl dX10_putToken_87 rfl ?_
      refine bk_elim h (fun K106_12 e_K106_12 h => ?_)
      have HK106_12 : ∀ (x13 : Int32) (x14 : Int32) (V15 : Nat → Nat → Int32), K106_12 x13 x14 V15 = some V0 → jW p l e ({ frames := 6, cells := 0, slots := 0, locals := 134 }) s m args below meth c (MQ below (jQc D TC ad cA none s.heap.size S V0 L) args s 0 0 (jA ad TC s.heap.size)) D TC ad cA (jA ad TC s.heap.size) 4 0 0 106 [] [.int x13, .int x14, .ref (ad 22)] S V15 L := by
        subst e_K106_12
        intro x13 x14 V15 h
        obtain ⟨g16, h⟩ := gd_elim h
        refine j_iast C tc_22 (ib_in g16) dX10_putToken_106 ?_
        refine lt_elim h (fun V17 e_V17 h => ?_)
        refine j_V e_V17 ?_
        cases h
        exact j_vret C hr hlk rfl dX10_putToken_107
      refine bk_elim h (fun K105_18 e_K105_18 h => ?_)
      have HK105_18 : ∀ (x19 : Int32) (V20 : Nat → Nat → Int32), K105_18 x19 V20 = some V0 → jW p l e ({ frames := 6, cells := 0, slots := 0, locals := 134 }) s m args below meth c (MQ below (jQc D TC ad cA none s.heap.size S V0 L) args s 0 0 (jA ad TC s.heap.size)) D TC ad cA (jA ad TC s.heap.size) 4 0 0 105 [] [.int x19, .ref (ad 22)] S V20 L := by
        subst e_K105_18
        intro x19 V20 h
        refine j_iconst C dX10_putToken_105 ci_2 ?_
        exact j_sub [] rfl (HK106_12 _ _ _ h)
      refine j_if_le (tgt := 105) C dX10_putToken_88 (by decide) (fun c21 => ?_) (fun c21 => ?_)
      · have h := (if_pos c21).symm.trans h
        exact j_sub [] rfl (HK105_18 _ _ h)
      · have h := (if_neg c21).symm.trans h
        refine j_sldc (i := 2) C rfl dX10_putToken_91 ?_
        refine j_iload_n C 0 rfl dX10_putToken_93 rfl ?_
        refine j_i2c C dX10_putToken_94 ?_
        obtain ⟨r22, h23, h⟩ := bd1_elim h
        refine j_callT (k := 2) (As := [.int (((x11).toUInt32 % 65536).toInt32)]) (rest := [.int (S 2005), .ref (ad 22)]) C (kJ0_indexOf_0f7a4_s2 l B D ad cA hI S V3 L ((((x11).toUInt32 % 65536).toInt32)) _ h23) mw_J0_indexOf_0f7a4 wd852 wd853 wd851 (by decide) rfl ⟨rfl, rfl, by decide, by decide⟩ ⟨Nat.zero_le _, Nat.zero_le _⟩ rfl rfl (Nat.le_of_ble_eq_true rfl) dX10_putToken_95 ?_
        refine j_if_lt (tgt := 105) C dX10_putToken_98 (by decide) (fun c24 => ?_) (fun c24 => ?_)
        · have h := (if_pos c24).symm.trans h
          exact j_sub [] rfl (HK105_18 _ _ h)
        · have h := (if_neg c24).symm.trans h
          refine j_iload_n C 0 rfl dX10_putToken_101 rfl ?_
          refine j_goto (tgt := 106) C dX10_putToken_102 (by decide) ?_
          exact j_sub [] rfl (HK106_12 _ _ _ h)
    · have h := (if_neg c9).symm.trans h
      refine j_aload_n C 0 rfl dX10_putToken_44 rfl ?_
      refine fg_X10_15_TC_20 C dX10_putToken_45 ?_
      refine j_aload_n C 0 rfl dX10_putToken_48 rfl ?_
      refine fg_X10_44_TC_20 C dX10_putToken_49 ?_
      refine j_iconst C dX10_putToken_52 ci_1 ?_
      refine lt_elim h (fun x25 e_x25 h => ?_)
      refine j_top2 e_x25 ?_
      obtain ⟨g26, h⟩ := gd_elim h
      refine j_iast C tc_22 (ib_in g26) dX10_putToken_53 ?_
      refine lt_elim h (fun V27 e_V27 h => ?_)
      refine j_V e_V27 ?_
      refine j_aload_n C 0 rfl dX10_putToken_54 rfl ?_
      refine fg_X10_22_TC_20 C dX10_putToken_55 ?_
      refine j_aload_n C 0 rfl dX10_putToken_58 rfl ?_
      refine fg_X10_44_TC_20 C dX10_putToken_59 ?_
      refine j_aload_n C 0 rfl dX10_putToken_62 rfl ?_
      refine j_iload_n C 1 rfl dX10_putToken_63 rfl ?_
      refine j_iload_n C 2 rfl dX10_putToken_64 rfl ?_
      obtain ⟨r28, h29, h⟩ := bd1_elim h
      refine j_callV (As := [.int a1, .int a2]) (rest := [.int (S 2005), .ref (ad 24)]) C (kX10_numberOf_20 l B D ad cA hI S V27 L a1 a2 _ h29) mw_X10_numberOf wd848 wd15 wd846 tc_20 rfl rfl ⟨rfl, rfl, by decide, by decide⟩ ⟨Nat.zero_le _, Nat.zero_le _⟩ rfl rfl (Nat.le_of_ble_eq_true rfl) dX10_putToken_65 ?_
      refine lt_elim h (fun x30 e_x30 h => ?_)
      refine j_top2 e_x30 ?_
      obtain ⟨g31, h⟩ := gd_elim h
      refine j_iast C tc_24 (ib_in g31) dX10_putToken_68 ?_
      refine lt_elim h (fun V32 e_V32 h => ?_)
      refine j_V e_V32 ?_
      refine j_goto (tgt := 107) C dX10_putToken_69 (by decide) ?_
      cases h
      exact j_vret C hr hlk rfl dX10_putToken_107
  · have h := (if_neg c6).symm.trans h
    refine j_aload_n C 0 rfl dX10_putToken_18 rfl ?_
    refine fg_X10_15_TC_20 C dX10_putToken_19 ?_
    refine j_aload_n C 0 rfl dX10_putToken_22 rfl ?_
    refine fg_X10_44_TC_20 C dX10_putToken_23 ?_
    refine j_aload_n C 0 rfl dX10_putToken_26 rfl ?_
    refine j_iload_n C 1 rfl dX10_putToken_27 rfl ?_
    refine j_iload_n C 2 rfl dX10_putToken_28 rfl ?_
    obtain ⟨r33, h34, h⟩ := bd1_elim h
    refine j_callV (As := [.int a1, .int a2]) (rest := [.int (S 2005), .ref (ad 22)]) C (kX10_kindOfWord_20 l B D ad cA hI S V3 L a1 a2 _ h34) mw_X10_kindOfWord wd791 wd13 wd789 tc_20 rfl rfl ⟨rfl, rfl, by decide, by decide⟩ ⟨Nat.zero_le _, Nat.zero_le _⟩ rfl rfl (Nat.le_of_ble_eq_true rfl) dX10_putToken_29 ?_
    refine lt_elim h (fun x35 e_x35 h => ?_)
    refine j_top2 e_x35 ?_
    obtain ⟨g36, h⟩ := gd_elim h
    refine j_iast C tc_22 (ib_in g36) dX10_putToken_32 ?_
    refine lt_elim h (fun V37 e_V37 h => ?_)
    refine j_V e_V37 ?_
    refine j_goto (tgt := 107) C dX10_putToken_33 (by decide) ?_
    cases h
    exact j_vret C hr hlk rfl dX10_putToken_107
theorem dX11_fault_0 : decode cX11_fault 0 = .ok (.aload_n 0, 1) := by decide +kernel
theorem dX11_fault_1 : decode cX11_fault 1 = .ok (.getfield 13, 3) := by decide +kernel
theorem dX11_fault_4 : decode cX11_fault 4 = .ok (.ireturn, 1) := by decide +kernel
def fX11_fault_0 (S : Nat → Int32) : Option (Int32) :=
  some ((S 2))
set_option maxHeartbeats 4000000 in
set_option maxRecDepth 100000 in
theorem kX11_fault_0 (l : Launch) (B : jBT) (D : va_G) (ad : Nat → Nat) (cA : Nat → ClassId) (hI : jI ad TC) (S : Nat → Int32) (V : Nat → Nat → Int32) (L : Nat → Int64) (r0 : Int32) (h : fX11_fault_0 S = some r0) : jM l yX11_fault cX11_fault 1 (some .int) ({ frames := 0, cells := 0, slots := 0, locals := 0 }) B D TC ad cA [.ref (ad 0)] S V L (some (.int r0)) S V L := by
  refine jM_of (plainFor_of_name (by decide)) TC_ok hI (Nat.le_of_ble_eq_true rfl) ?_
  intro p e s m args below meth c C hr hlk
  refine j_lv (lv2 := [(0, .ref (ad 0))]) rfl ?_
  unfold fX11_fault_0 at h
  refine j_aload_n C 0 rfl dX11_fault_0 rfl ?_
  refine fg_X11_13_TC_0 C dX11_fault_1 ?_
  cases h
  exact j_iret C hr hlk rfl dX11_fault_4
theorem dX11_putBytes_0 : decode cX11_putBytes 0 = .ok (.bipush 24, 2) := by decide +kernel
theorem dX11_putBytes_2 : decode cX11_putBytes 2 = .ok (.istore_n 2, 1) := by decide +kernel
theorem dX11_putBytes_3 : decode cX11_putBytes 3 = .ok (.iload_n 2, 1) := by decide +kernel
theorem dX11_putBytes_4 : decode cX11_putBytes 4 = .ok (.ifCond .lt 42, 3) := by decide +kernel
theorem dX11_putBytes_7 : decode cX11_putBytes 7 = .ok (.aload_n 0, 1) := by decide +kernel
theorem dX11_putBytes_8 : decode cX11_putBytes 8 = .ok (.getfield 98, 3) := by decide +kernel
theorem dX11_putBytes_11 : decode cX11_putBytes 11 = .ok (.sipush 600, 3) := by decide +kernel
theorem dX11_putBytes_14 : decode cX11_putBytes 14 = .ok (.if_icmp .ge 26, 3) := by decide +kernel
theorem dX11_putBytes_17 : decode cX11_putBytes 17 = .ok (.aload_n 0, 1) := by decide +kernel
theorem dX11_putBytes_18 : decode cX11_putBytes 18 = .ok (.getfield 9, 3) := by decide +kernel
theorem dX11_putBytes_21 : decode cX11_putBytes 21 = .ok (.aload_n 0, 1) := by decide +kernel
theorem dX11_putBytes_22 : decode cX11_putBytes 22 = .ok (.getfield 98, 3) := by decide +kernel
theorem dX11_putBytes_25 : decode cX11_putBytes 25 = .ok (.iload_n 1, 1) := by decide +kernel
theorem dX11_putBytes_26 : decode cX11_putBytes 26 = .ok (.iload_n 2, 1) := by decide +kernel
theorem dX11_putBytes_27 : decode cX11_putBytes 27 = .ok (.iushr, 1) := by decide +kernel
theorem dX11_putBytes_28 : decode cX11_putBytes 28 = .ok (.i2b, 1) := by decide +kernel
theorem dX11_putBytes_29 : decode cX11_putBytes 29 = .ok (.bastore, 1) := by decide +kernel
theorem dX11_putBytes_30 : decode cX11_putBytes 30 = .ok (.aload_n 0, 1) := by decide +kernel
theorem dX11_putBytes_31 : decode cX11_putBytes 31 = .ok (.dup, 1) := by decide +kernel
theorem dX11_putBytes_32 : decode cX11_putBytes 32 = .ok (.getfield 98, 3) := by decide +kernel
theorem dX11_putBytes_35 : decode cX11_putBytes 35 = .ok (.iconst 1, 1) := by decide +kernel
theorem dX11_putBytes_36 : decode cX11_putBytes 36 = .ok (.iadd, 1) := by decide +kernel
theorem dX11_putBytes_37 : decode cX11_putBytes 37 = .ok (.putfield 98, 3) := by decide +kernel
theorem dX11_putBytes_40 : decode cX11_putBytes 40 = .ok (.iinc 2 (-8), 3) := by decide +kernel
theorem dX11_putBytes_43 : decode cX11_putBytes 43 = .ok (.goto (-40), 3) := by decide +kernel
theorem dX11_putBytes_46 : decode cX11_putBytes 46 = .ok (.return_, 1) := by decide +kernel
def fX11_putBytes_0_L3 : Nat → Int32 → Int32 → (Nat → Int32) → (Nat → Nat → Int32) → Option ((Nat → Int32) × (Nat → Nat → Int32))
  | 0, _, _, _, _ => none
  | n + 1, x1, x2, S3, V4 =>
    (if x2 < 0 then
    some (S3, V4)
    else
    bk (fun (x7 : Int32) (x8 : Int32) (S9 : Nat → Int32) (V10 : Nat → Nat → Int32) =>
    lt (x8 + (-8 : Int32)) (fun x11 =>
    fX11_putBytes_0_L3 n x7 x11 S9 V10)) (fun K40_6 =>
    (if (600 : Int32) ≤ (S3 1) then
    K40_6 x1 x2 S3 V4
    else
    lt (((x1).toUInt32 >>> ((x2).toUInt32 &&& Int32.toUInt32 31)).toInt32) (fun x13 =>
    lt (((x13).toInt8.toInt32)) (fun x14 =>
    lt ((S3 1)) (fun x15 =>
    gd (ib x15 600) (
    lt (va_up V4 1 (upd (V4 1) (x15).toNatClampNeg (vp_nar .byte x14))) (fun V17 =>
    lt (((S3 1) + (1 : Int32))) (fun x18 =>
    lt (va_up S3 1 x18) (fun S19 =>
    K40_6 x1 x2 S19 V17))))))))))
def fX11_putBytes_0 (S : Nat → Int32) (V : Nat → Nat → Int32) (a1 : Int32) : Option ((Nat → Int32) × (Nat → Nat → Int32)) :=
  fX11_putBytes_0_L3 FU a1 (24 : Int32) S V
set_option maxHeartbeats 4000000 in
set_option maxRecDepth 100000 in
theorem kX11_putBytes_0 (l : Launch) (B : jBT) (D : va_G) (ad : Nat → Nat) (cA : Nat → ClassId) (hI : jI ad TC) (S : Nat → Int32) (V : Nat → Nat → Int32) (L : Nat → Int64) (a1 : Int32) (S0 : Nat → Int32) (V0 : Nat → Nat → Int32) (h : fX11_putBytes_0 S V a1 = some (S0, V0)) : jM l yX11_putBytes cX11_putBytes 3 none ({ frames := 0, cells := 0, slots := 0, locals := 0 }) B D TC ad cA [.ref (ad 0), .int a1] S V L none S0 V0 L := by
  refine jM_of (plainFor_of_name (by decide)) TC_ok hI (Nat.le_of_ble_eq_true rfl) ?_
  intro p e s m args below meth c C hr hlk
  refine j_lv (lv2 := [(0, .ref (ad 0)), (1, .int a1)]) rfl ?_
  unfold fX11_putBytes_0 at h
  have H_fX11_putBytes_0_L3 : ∀ (n : Nat) (x1 : Int32) (x2 : Int32) (S3 : Nat → Int32) (V4 : Nat → Nat → Int32), fX11_putBytes_0_L3 n x1 x2 S3 V4 = some (S0, V0) → jW p l e ({ frames := 0, cells := 0, slots := 0, locals := 0 }) s m args below meth c (MQ below (jQc D TC ad cA none s.heap.size S0 V0 L) args s 0 0 (jA ad TC s.heap.size)) D TC ad cA (jA ad TC s.heap.size) 3 0 0 3 [(0, .ref (ad 0)), (1, .int x1), (2, .int x2)] [] S3 V4 L := by
    intro n
    induction n with
    | zero =>
      intro x1 x2 S3 V4 h
      cases (show (none : Option ((Nat → Int32) × (Nat → Nat → Int32))) = some (S0, V0) from h)
    | succ n ih =>
      intro x1 x2 S3 V4 h
      unfold fX11_putBytes_0_L3 at h
      refine j_iload_n C 2 rfl dX11_putBytes_3 rfl ?_
      refine j_if_lt (tgt := 46) C dX11_putBytes_4 (by decide) (fun c5 => ?_) (fun c5 => ?_)
      · have h := (if_pos c5).symm.trans h
        cases h
        exact j_vret C hr hlk rfl dX11_putBytes_46
      · have h := (if_neg c5).symm.trans h
        refine j_aload_n C 0 rfl dX11_putBytes_7 rfl ?_
        refine fg_X11_98_TC_0 C dX11_putBytes_8 ?_
        refine j_sipush C dX11_putBytes_11 cs_600 ?_
        refine bk_elim h (fun K40_6 e_K40_6 h => ?_)
        have HK40_6 : ∀ (x7 : Int32) (x8 : Int32) (S9 : Nat → Int32) (V10 : Nat → Nat → Int32), K40_6 x7 x8 S9 V10 = some (S0, V0) → jW p l e ({ frames := 0, cells := 0, slots := 0, locals := 0 }) s m args below meth c (MQ below (jQc D TC ad cA none s.heap.size S0 V0 L) args s 0 0 (jA ad TC s.heap.size)) D TC ad cA (jA ad TC s.heap.size) 3 0 0 40 [(0, .ref (ad 0)), (1, .int x7), (2, .int x8)] [] S9 V10 L := by
          subst e_K40_6
          intro x7 x8 S9 V10 h
          refine lt_elim h (fun x11 e_x11 h => ?_)
          refine j_iinc C [(2, .int x11), (0, .ref (ad 0)), (1, .int x7)] 2 dX11_putBytes_40 rfl ((iinc_eq ci_m8).trans e_x11.symm) (by decide) rfl ?_
          refine j_goto (tgt := 3) C dX11_putBytes_43 (by decide) ?_
          exact j_sub [1, 2, 0] rfl (ih _ _ _ _ h)
        refine j_icmp_ge (tgt := 40) C dX11_putBytes_14 (by decide) (fun c12 => ?_) (fun c12 => ?_)
        · have h := (if_pos c12).symm.trans h
          exact j_sub [0, 1, 2] rfl (HK40_6 _ _ _ _ h)
        · have h := (if_neg c12).symm.trans h
          refine j_aload_n C 0 rfl dX11_putBytes_17 rfl ?_
          refine fg_X11_9_TC_0 C dX11_putBytes_18 ?_
          refine j_aload_n C 0 rfl dX11_putBytes_21 rfl ?_
          refine fg_X11_98_TC_0 C dX11_putBytes_22 ?_
          refine j_iload_n C 1 rfl dX11_putBytes_25 rfl ?_
          refine j_iload_n C 2 rfl dX11_putBytes_26 rfl ?_
          refine j_iushr C dX11_putBytes_27 ?_
          refine lt_elim h (fun x13 e_x13 h => ?_)
          refine j_top e_x13 ?_
          refine j_i2b C dX11_putBytes_28 ?_
          refine lt_elim h (fun x14 e_x14 h => ?_)
          refine j_top e_x14 ?_
          refine lt_elim h (fun x15 e_x15 h => ?_)
          refine j_top2 e_x15 ?_
          obtain ⟨g16, h⟩ := gd_elim h
          refine j_bast C tc_1 (ib_in g16) dX11_putBytes_29 ?_
          refine lt_elim h (fun V17 e_V17 h => ?_)
          refine j_V e_V17 ?_
          refine j_aload_n C 0 rfl dX11_putBytes_30 rfl ?_
          refine j_dup C dX11_putBytes_31 rfl ?_
          refine fg_X11_98_TC_0 C dX11_putBytes_32 ?_
          refine j_iconst C dX11_putBytes_35 ci_1 ?_
          refine j_iadd C dX11_putBytes_36 ?_
          refine lt_elim h (fun x18 e_x18 h => ?_)
          refine j_top e_x18 ?_
          refine fp_X11_98_TC_0 C dX11_putBytes_37 ?_
          refine lt_elim h (fun S19 e_S19 h => ?_)
          refine j_S e_S19 ?_
          exact j_sub [0, 1, 2] rfl (HK40_6 _ _ _ _ h)
  refine j_bipush C dX11_putBytes_0 cb_24 ?_
  refine j_istore_n C [(2, .int (24 : Int32)), (0, .ref (ad 0)), (1, .int a1)] dX11_putBytes_2 rfl (by decide) rfl ?_
  exact j_sub [1, 2, 0] rfl (H_fX11_putBytes_0_L3 FU _ _ _ _ h)
theorem dX11_feed_0 : decode cX11_feed 0 = .ok (.aload_n 0, 1) := by decide +kernel
theorem dX11_feed_1 : decode cX11_feed 1 = .ok (.getfield 98, 3) := by decide +kernel
theorem dX11_feed_4 : decode cX11_feed 4 = .ok (.bipush 20, 2) := by decide +kernel
theorem dX11_feed_6 : decode cX11_feed 6 = .ok (.iadd, 1) := by decide +kernel
theorem dX11_feed_7 : decode cX11_feed 7 = .ok (.sipush 600, 3) := by decide +kernel
theorem dX11_feed_10 : decode cX11_feed 10 = .ok (.if_icmp .le 5, 3) := by decide +kernel
theorem dX11_feed_13 : decode cX11_feed 13 = .ok (.iconst (-1), 1) := by decide +kernel
theorem dX11_feed_14 : decode cX11_feed 14 = .ok (.ireturn, 1) := by decide +kernel
theorem dX11_feed_15 : decode cX11_feed 15 = .ok (.aload_n 0, 1) := by decide +kernel
theorem dX11_feed_16 : decode cX11_feed 16 = .ok (.iload_n 1, 1) := by decide +kernel
theorem dX11_feed_17 : decode cX11_feed 17 = .ok (.invokevirtual 101, 3) := by decide +kernel
theorem dX11_feed_20 : decode cX11_feed 20 = .ok (.aload_n 0, 1) := by decide +kernel
theorem dX11_feed_21 : decode cX11_feed 21 = .ok (.iload_n 2, 1) := by decide +kernel
theorem dX11_feed_22 : decode cX11_feed 22 = .ok (.invokevirtual 101, 3) := by decide +kernel
theorem dX11_feed_25 : decode cX11_feed 25 = .ok (.aload_n 0, 1) := by decide +kernel
theorem dX11_feed_26 : decode cX11_feed 26 = .ok (.iload_n 3, 1) := by decide +kernel
theorem dX11_feed_27 : decode cX11_feed 27 = .ok (.invokevirtual 101, 3) := by decide +kernel
theorem dX11_feed_30 : decode cX11_feed 30 = .ok (.aload_n 0, 1) := by decide +kernel
theorem dX11_feed_31 : decode cX11_feed 31 = .ok (.iload 4, 2) := by decide +kernel
theorem dX11_feed_33 : decode cX11_feed 33 = .ok (.invokevirtual 101, 3) := by decide +kernel
theorem dX11_feed_36 : decode cX11_feed 36 = .ok (.aload_n 0, 1) := by decide +kernel
theorem dX11_feed_37 : decode cX11_feed 37 = .ok (.iload 5, 2) := by decide +kernel
theorem dX11_feed_39 : decode cX11_feed 39 = .ok (.invokevirtual 101, 3) := by decide +kernel
theorem dX11_feed_42 : decode cX11_feed 42 = .ok (.aload_n 0, 1) := by decide +kernel
theorem dX11_feed_43 : decode cX11_feed 43 = .ok (.getfield 98, 3) := by decide +kernel
theorem dX11_feed_46 : decode cX11_feed 46 = .ok (.ireturn, 1) := by decide +kernel
def fX11_feed_0 (S : Nat → Int32) (V : Nat → Nat → Int32) (a1 : Int32) (a2 : Int32) (a3 : Int32) (a4 : Int32) (a5 : Int32) : Option (Int32 × (Nat → Int32) × (Nat → Nat → Int32)) :=
  (if ((S 1) + (20 : Int32)) ≤ (600 : Int32) then
  bd2 (fX11_putBytes_0 S V a1) (fun S2 V3 =>
  bd2 (fX11_putBytes_0 S2 V3 a2) (fun S5 V6 =>
  bd2 (fX11_putBytes_0 S5 V6 a3) (fun S8 V9 =>
  bd2 (fX11_putBytes_0 S8 V9 a4) (fun S11 V12 =>
  bd2 (fX11_putBytes_0 S11 V12 a5) (fun S14 V15 =>
  some ((S14 1), S14, V15))))))
  else
  some ((-1 : Int32), S, V))
set_option maxHeartbeats 4000000 in
set_option maxRecDepth 100000 in
theorem kX11_feed_0 (l : Launch) (B : jBT) (D : va_G) (ad : Nat → Nat) (cA : Nat → ClassId) (hI : jI ad TC) (S : Nat → Int32) (V : Nat → Nat → Int32) (L : Nat → Int64) (a1 : Int32) (a2 : Int32) (a3 : Int32) (a4 : Int32) (a5 : Int32) (r0 : Int32) (S0 : Nat → Int32) (V0 : Nat → Nat → Int32) (h : fX11_feed_0 S V a1 a2 a3 a4 a5 = some (r0, S0, V0)) : jM l yX11_feed cX11_feed 6 (some .int) ({ frames := 1, cells := 0, slots := 0, locals := 22 }) B D TC ad cA [.ref (ad 0), .int a1, .int a2, .int a3, .int a4, .int a5] S V L (some (.int r0)) S0 V0 L := by
  refine jM_of (plainFor_of_name (by decide)) TC_ok hI (Nat.le_of_ble_eq_true rfl) ?_
  intro p e s m args below meth c C hr hlk
  refine j_lv (lv2 := [(0, .ref (ad 0)), (1, .int a1), (2, .int a2), (3, .int a3), (4, .int a4), (5, .int a5)]) rfl ?_
  unfold fX11_feed_0 at h
  refine j_aload_n C 0 rfl dX11_feed_0 rfl ?_
  refine fg_X11_98_TC_0 C dX11_feed_1 ?_
  refine j_bipush C dX11_feed_4 cb_20 ?_
  refine j_iadd C dX11_feed_6 ?_
  refine j_sipush C dX11_feed_7 cs_600 ?_
  refine j_icmp_le (tgt := 15) C dX11_feed_10 (by decide) (fun c1 => ?_) (fun c1 => ?_)
  · have h := (if_pos c1).symm.trans h
    refine j_aload_n C 0 rfl dX11_feed_15 rfl ?_
    refine j_iload_n C 1 rfl dX11_feed_16 rfl ?_
    obtain ⟨S2, V3, h4, h⟩ := bd2_elim h
    refine j_callV (As := [.int a1]) (rest := []) C (kX11_putBytes_0 l B D ad cA hI S V L a1 _ _ h4) mw_X11_putBytes wd562 wd0 wd560 tc_0 rfl rfl ⟨rfl, rfl, by decide, by decide⟩ ⟨Nat.zero_le _, Nat.zero_le _⟩ rfl rfl (Nat.le_of_ble_eq_true rfl) dX11_feed_17 ?_
    refine j_aload_n C 0 rfl dX11_feed_20 rfl ?_
    refine j_iload_n C 2 rfl dX11_feed_21 rfl ?_
    obtain ⟨S5, V6, h7, h⟩ := bd2_elim h
    refine j_callV (As := [.int a2]) (rest := []) C (kX11_putBytes_0 l B D ad cA hI S2 V3 L a2 _ _ h7) mw_X11_putBytes wd562 wd0 wd560 tc_0 rfl rfl ⟨rfl, rfl, by decide, by decide⟩ ⟨Nat.zero_le _, Nat.zero_le _⟩ rfl rfl (Nat.le_of_ble_eq_true rfl) dX11_feed_22 ?_
    refine j_aload_n C 0 rfl dX11_feed_25 rfl ?_
    refine j_iload_n C 3 rfl dX11_feed_26 rfl ?_
    obtain ⟨S8, V9, h10, h⟩ := bd2_elim h
    refine j_callV (As := [.int a3]) (rest := []) C (kX11_putBytes_0 l B D ad cA hI S5 V6 L a3 _ _ h10) mw_X11_putBytes wd562 wd0 wd560 tc_0 rfl rfl ⟨rfl, rfl, by decide, by decide⟩ ⟨Nat.zero_le _, Nat.zero_le _⟩ rfl rfl (Nat.le_of_ble_eq_true rfl) dX11_feed_27 ?_
    refine j_aload_n C 0 rfl dX11_feed_30 rfl ?_
    refine j_iload C 4 rfl dX11_feed_31 ?_
    obtain ⟨S11, V12, h13, h⟩ := bd2_elim h
    refine j_callV (As := [.int a4]) (rest := []) C (kX11_putBytes_0 l B D ad cA hI S8 V9 L a4 _ _ h13) mw_X11_putBytes wd562 wd0 wd560 tc_0 rfl rfl ⟨rfl, rfl, by decide, by decide⟩ ⟨Nat.zero_le _, Nat.zero_le _⟩ rfl rfl (Nat.le_of_ble_eq_true rfl) dX11_feed_33 ?_
    refine j_aload_n C 0 rfl dX11_feed_36 rfl ?_
    refine j_iload C 5 rfl dX11_feed_37 ?_
    obtain ⟨S14, V15, h16, h⟩ := bd2_elim h
    refine j_callV (As := [.int a5]) (rest := []) C (kX11_putBytes_0 l B D ad cA hI S11 V12 L a5 _ _ h16) mw_X11_putBytes wd562 wd0 wd560 tc_0 rfl rfl ⟨rfl, rfl, by decide, by decide⟩ ⟨Nat.zero_le _, Nat.zero_le _⟩ rfl rfl (Nat.le_of_ble_eq_true rfl) dX11_feed_39 ?_
    refine j_aload_n C 0 rfl dX11_feed_42 rfl ?_
    refine fg_X11_98_TC_0 C dX11_feed_43 ?_
    cases h
    exact j_iret C hr hlk rfl dX11_feed_46
  · have h := (if_neg c1).symm.trans h
    refine j_iconst C dX11_feed_13 ci_m1 ?_
    cases h
    exact j_iret C hr hlk rfl dX11_feed_14
