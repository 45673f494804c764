theorem dX12_wind_0 : decode cX12_wind 0 = .ok (.aload_n 0, 1) := by decide +kernel
theorem dX12_wind_1 : decode cX12_wind 1 = .ok (.iconst 0, 1) := by decide +kernel
theorem dX12_wind_2 : decode cX12_wind 2 = .ok (.putfield 93, 3) := by decide +kernel
theorem dX12_wind_5 : decode cX12_wind 5 = .ok (.aload_n 0, 1) := by decide +kernel
theorem dX12_wind_6 : decode cX12_wind 6 = .ok (.iload_n 2, 1) := by decide +kernel
theorem dX12_wind_7 : decode cX12_wind 7 = .ok (.iconst 0, 1) := by decide +kernel
theorem dX12_wind_8 : decode cX12_wind 8 = .ok (.bipush 40, 2) := by decide +kernel
theorem dX12_wind_10 : decode cX12_wind 10 = .ok (.invokestatic 294, 3) := by decide +kernel
theorem dX12_wind_13 : decode cX12_wind 13 = .ok (.ifCond .eq 17, 3) := by decide +kernel
theorem dX12_wind_16 : decode cX12_wind 16 = .ok (.iload_n 3, 1) := by decide +kernel
theorem dX12_wind_17 : decode cX12_wind 17 = .ok (.iconst 0, 1) := by decide +kernel
theorem dX12_wind_18 : decode cX12_wind 18 = .ok (.bipush 100, 2) := by decide +kernel
theorem dX12_wind_20 : decode cX12_wind 20 = .ok (.invokestatic 294, 3) := by decide +kernel
theorem dX12_wind_23 : decode cX12_wind 23 = .ok (.ifCond .eq 7, 3) := by decide +kernel
theorem dX12_wind_26 : decode cX12_wind 26 = .ok (.iconst 1, 1) := by decide +kernel
theorem dX12_wind_27 : decode cX12_wind 27 = .ok (.goto 4, 3) := by decide +kernel
theorem dX12_wind_30 : decode cX12_wind 30 = .ok (.iconst 0, 1) := by decide +kernel
theorem dX12_wind_31 : decode cX12_wind 31 = .ok (.iconst 1, 1) := by decide +kernel
theorem dX12_wind_32 : decode cX12_wind 32 = .ok (.invokevirtual 255, 3) := by decide +kernel
theorem dX12_wind_35 : decode cX12_wind 35 = .ok (.ifCond .ne 5, 3) := by decide +kernel
theorem dX12_wind_38 : decode cX12_wind 38 = .ok (.iconst 0, 1) := by decide +kernel
theorem dX12_wind_39 : decode cX12_wind 39 = .ok (.ireturn, 1) := by decide +kernel
theorem dX12_wind_40 : decode cX12_wind 40 = .ok (.iload_n 1, 1) := by decide +kernel
theorem dX12_wind_41 : decode cX12_wind 41 = .ok (.istore 4, 2) := by decide +kernel
theorem dX12_wind_43 : decode cX12_wind 43 = .ok (.iconst 0, 1) := by decide +kernel
theorem dX12_wind_44 : decode cX12_wind 44 = .ok (.istore 5, 2) := by decide +kernel
theorem dX12_wind_46 : decode cX12_wind 46 = .ok (.iconst 0, 1) := by decide +kernel
theorem dX12_wind_47 : decode cX12_wind 47 = .ok (.istore 6, 2) := by decide +kernel
theorem dX12_wind_49 : decode cX12_wind 49 = .ok (.iload 6, 2) := by decide +kernel
theorem dX12_wind_51 : decode cX12_wind 51 = .ok (.iload_n 2, 1) := by decide +kernel
theorem dX12_wind_52 : decode cX12_wind 52 = .ok (.if_icmp .ge 83, 3) := by decide +kernel
theorem dX12_wind_55 : decode cX12_wind 55 = .ok (.iconst 0, 1) := by decide +kernel
theorem dX12_wind_56 : decode cX12_wind 56 = .ok (.istore 7, 2) := by decide +kernel
theorem dX12_wind_58 : decode cX12_wind 58 = .ok (.iload 7, 2) := by decide +kernel
theorem dX12_wind_60 : decode cX12_wind 60 = .ok (.bipush 24, 2) := by decide +kernel
theorem dX12_wind_62 : decode cX12_wind 62 = .ok (.if_icmp .ge 67, 3) := by decide +kernel
theorem dX12_wind_65 : decode cX12_wind 65 = .ok (.iload 4, 2) := by decide +kernel
theorem dX12_wind_67 : decode cX12_wind 67 = .ok (.ldc_w 392, 3) := by decide +kernel
theorem dX12_wind_70 : decode cX12_wind 70 = .ok (.imul, 1) := by decide +kernel
theorem dX12_wind_71 : decode cX12_wind 71 = .ok (.sipush 12345, 3) := by decide +kernel
theorem dX12_wind_74 : decode cX12_wind 74 = .ok (.iadd, 1) := by decide +kernel
theorem dX12_wind_75 : decode cX12_wind 75 = .ok (.istore 4, 2) := by decide +kernel
theorem dX12_wind_77 : decode cX12_wind 77 = .ok (.iload 5, 2) := by decide +kernel
theorem dX12_wind_79 : decode cX12_wind 79 = .ok (.aload_n 0, 1) := by decide +kernel
theorem dX12_wind_80 : decode cX12_wind 80 = .ok (.aload_n 0, 1) := by decide +kernel
theorem dX12_wind_81 : decode cX12_wind 81 = .ok (.getfield 60, 3) := by decide +kernel
theorem dX12_wind_84 : decode cX12_wind 84 = .ok (.aload_n 0, 1) := by decide +kernel
theorem dX12_wind_85 : decode cX12_wind 85 = .ok (.getfield 278, 3) := by decide +kernel
theorem dX12_wind_88 : decode cX12_wind 88 = .ok (.iload 7, 2) := by decide +kernel
theorem dX12_wind_90 : decode cX12_wind 90 = .ok (.iload 6, 2) := by decide +kernel
theorem dX12_wind_92 : decode cX12_wind 92 = .ok (.invokevirtual 351, 3) := by decide +kernel
theorem dX12_wind_95 : decode cX12_wind 95 = .ok (.bipush 60, 2) := by decide +kernel
theorem dX12_wind_97 : decode cX12_wind 97 = .ok (.isub, 1) := by decide +kernel
theorem dX12_wind_98 : decode cX12_wind 98 = .ok (.iload 4, 2) := by decide +kernel
theorem dX12_wind_100 : decode cX12_wind 100 = .ok (.bipush 16, 2) := by decide +kernel
theorem dX12_wind_102 : decode cX12_wind 102 = .ok (.ishr, 1) := by decide +kernel
theorem dX12_wind_103 : decode cX12_wind 103 = .ok (.sipush 32767, 3) := by decide +kernel
theorem dX12_wind_106 : decode cX12_wind 106 = .ok (.iand, 1) := by decide +kernel
theorem dX12_wind_107 : decode cX12_wind 107 = .ok (.bipush 100, 2) := by decide +kernel
theorem dX12_wind_109 : decode cX12_wind 109 = .ok (.irem, 1) := by decide +kernel
theorem dX12_wind_110 : decode cX12_wind 110 = .ok (.iload_n 3, 1) := by decide +kernel
theorem dX12_wind_111 : decode cX12_wind 111 = .ok (.if_icmp .ge 7, 3) := by decide +kernel
theorem dX12_wind_114 : decode cX12_wind 114 = .ok (.iconst 5, 1) := by decide +kernel
theorem dX12_wind_115 : decode cX12_wind 115 = .ok (.goto 4, 3) := by decide +kernel
theorem dX12_wind_118 : decode cX12_wind 118 = .ok (.iconst 0, 1) := by decide +kernel
theorem dX12_wind_119 : decode cX12_wind 119 = .ok (.isub, 1) := by decide +kernel
theorem dX12_wind_120 : decode cX12_wind 120 = .ok (.iadd, 1) := by decide +kernel
theorem dX12_wind_121 : decode cX12_wind 121 = .ok (.istore 5, 2) := by decide +kernel
theorem dX12_wind_123 : decode cX12_wind 123 = .ok (.iinc 7 1, 3) := by decide +kernel
theorem dX12_wind_126 : decode cX12_wind 126 = .ok (.goto (-68), 3) := by decide +kernel
theorem dX12_wind_129 : decode cX12_wind 129 = .ok (.iinc 6 1, 3) := by decide +kernel
theorem dX12_wind_132 : decode cX12_wind 132 = .ok (.goto (-83), 3) := by decide +kernel
theorem dX12_wind_135 : decode cX12_wind 135 = .ok (.iload 5, 2) := by decide +kernel
theorem dX12_wind_137 : decode cX12_wind 137 = .ok (.ireturn, 1) := by decide +kernel
def fX12_wind_0_L58 (E129 : Int32 → Int32 → Int32 → Int32 → Int32 → (Nat → Int32) → Option (Int32 × (Nat → Int32))) (V : Nat → Nat → Int32) : Nat → Int32 → Int32 → Int32 → Int32 → Int32 → Int32 → (Nat → Int32) → Option (Int32 × (Nat → Int32))
  | 0, _, _, _, _, _, _, _ => none
  | n + 1, x21, x22, x23, x24, x25, x26, S27 =>
    (if (24 : Int32) ≤ x26 then
    E129 x21 x22 x23 x24 x25 S27
    else
    lt (((x23 * (1103515245 : Int32)) + (12345 : Int32))) (fun x29 =>
    bd1 (fX12_swingOf_0_13 S27 V ((S27 42)) x26 x25) (fun r30 =>
    lt (((x29 >>> ((16 : Int32) &&& 31)) &&& (32767 : Int32))) (fun x32 =>
    bk (fun (x34 : Int32) (x35 : Int32) (x36 : Int32) (x37 : Int32) (x38 : Int32) (x39 : Int32) (x40 : Int32) (x41 : Int32) (S42 : Nat → Int32) =>
    lt ((x41 + (x40 - x39))) (fun x43 =>
    lt (x38 + (1 : Int32)) (fun x44 =>
    fX12_wind_0_L58 E129 V n x34 x35 x36 x43 x37 x44 S42))) (fun K119_33 =>
    (if x22 ≤ (x32 - x32 / (100 : Int32) * (100 : Int32)) then
    K119_33 x21 x22 x29 x25 x26 (0 : Int32) ((r30 - (60 : Int32))) x24 S27
    else
    K119_33 x21 x22 x29 x25 x26 (5 : Int32) ((r30 - (60 : Int32))) x24 S27))))))
def fX12_wind_0_L49 (V : Nat → Nat → Int32) : Nat → Int32 → Int32 → Int32 → Int32 → Int32 → (Nat → Int32) → Option (Int32 × (Nat → Int32))
  | 0, _, _, _, _, _, _ => none
  | n + 1, x14, x15, x16, x17, x18, S19 =>
    (if x14 ≤ x18 then
    some (x17, S19)
    else
    bk (fun (x53 : Int32) (x54 : Int32) (x55 : Int32) (x56 : Int32) (x57 : Int32) (S58 : Nat → Int32) =>
    lt (x57 + (1 : Int32)) (fun x59 =>
    fX12_wind_0_L49 V n x53 x54 x55 x56 x59 S58)) (fun X129_52 =>
    fX12_wind_0_L58 X129_52 V FU x14 x15 x16 x17 x18 (0 : Int32) S19))
def fX12_wind_0 (S : Nat → Int32) (V : Nat → Nat → Int32) (a1 : Int32) (a2 : Int32) (a3 : Int32) : Option (Int32 × (Nat → Int32)) :=
  lt (va_up S 0 (0 : Int32)) (fun S1 =>
  bd1 (fX12_within a2 (0 : Int32) (40 : Int32)) (fun r2 =>
  bk (fun (x5 : Int32) (x6 : Int32) (x7 : Int32) (x8 : Int32) (S9 : Nat → Int32) =>
  bd2 (fX12_right_0 S9 x8 (1 : Int32)) (fun r10 S11 =>
  (if r10 = 0 then
  some ((0 : Int32), S11)
  else
  fX12_wind_0_L49 V FU x6 x7 x5 (0 : Int32) (0 : Int32) S11))) (fun K31_4 =>
  bk (fun (x61 : Int32) (x62 : Int32) (x63 : Int32) (S64 : Nat → Int32) =>
  K31_4 x61 x62 x63 (0 : Int32) S64) (fun K30_60 =>
  (if r2 = 0 then
  K30_60 a1 a2 a3 S1
  else
  bd1 (fX12_within a3 (0 : Int32) (100 : Int32)) (fun r66 =>
  (if r66 = 0 then
  K30_60 a1 a2 a3 S1
  else
  K31_4 a1 a2 a3 (1 : Int32) S1)))))))
set_option maxHeartbeats 4000000 in
set_option maxRecDepth 100000 in
theorem kX12_wind_0 (l : Launch) (B : jBT) (D : va_G) (ad : Nat → Nat) (cA : Nat → ClassId) (hI : jI ad TR) (S : Nat → Int32) (V : Nat → Nat → Int32) (L : Nat → Int64) (a1 : Int32) (a2 : Int32) (a3 : Int32) (r0 : Int32) (S0 : Nat → Int32) (h : fX12_wind_0 S V a1 a2 a3 = some (r0, S0)) : jM l yX12_wind cX12_wind 8 (some .int) ({ frames := 3, cells := 0, slots := 0, locals := 73 }) B D TR ad cA [.ref (ad 0), .int a1, .int a2, .int a3] S V L (some (.int r0)) S0 V L := by
  refine jM_of (plainFor_of_name (by decide)) TR_ok hI (Nat.le_of_ble_eq_true rfl) ?_
  intro p e s m args below meth c C hr hlk
  refine j_lv (lv2 := [(0, .ref (ad 0)), (1, .int a1), (2, .int a2), (3, .int a3)]) rfl ?_
  unfold fX12_wind_0 at h
  have H_fX12_wind_0_L58 : ∀ (E129 : Int32 → Int32 → Int32 → Int32 → Int32 → (Nat → Int32) → Option (Int32 × (Nat → Int32))) (_ : ∀ (x46 : Int32) (x47 : Int32) (x48 : Int32) (x49 : Int32) (x50 : Int32) (S51 : Nat → Int32), E129 x46 x47 x48 x49 x50 S51 = some (r0, S0) → jW p l e ({ frames := 3, cells := 0, slots := 0, locals := 73 }) s m args below meth c (MQ below (jQc D TR ad cA (some (.int r0)) s.heap.size S0 V L) args s 0 0 (jA ad TR s.heap.size)) D TR ad cA (jA ad TR s.heap.size) 8 0 0 129 [(0, .ref (ad 0)), (2, .int x46), (3, .int x47), (4, .int x48), (5, .int x49), (6, .int x50)] [] S51 V L) (n : Nat) (x21 : Int32) (x22 : Int32) (x23 : Int32) (x24 : Int32) (x25 : Int32) (x26 : Int32) (S27 : Nat → Int32), fX12_wind_0_L58 E129 V n x21 x22 x23 x24 x25 x26 S27 = some (r0, S0) → jW p l e ({ frames := 3, cells := 0, slots := 0, locals := 73 }) s m args below meth c (MQ below (jQc D TR ad cA (some (.int r0)) s.heap.size S0 V L) args s 0 0 (jA ad TR s.heap.size)) D TR ad cA (jA ad TR s.heap.size) 8 0 0 58 [(0, .ref (ad 0)), (2, .int x21), (3, .int x22), (4, .int x23), (5, .int x24), (6, .int x25), (7, .int x26)] [] S27 V L := by
    intro E129 HE129
    intro n
    induction n with
    | zero =>
      intro x21 x22 x23 x24 x25 x26 S27 h
      cases (show (none : Option (Int32 × (Nat → Int32))) = some (r0, S0) from h)
    | succ n ih =>
      intro x21 x22 x23 x24 x25 x26 S27 h
      unfold fX12_wind_0_L58 at h
      refine j_iload C 6 rfl dX12_wind_58 ?_
      refine j_bipush C dX12_wind_60 cb_24 ?_
      refine j_icmp_ge (tgt := 129) C dX12_wind_62 (by decide) (fun c28 => ?_) (fun c28 => ?_)
      · have h := (if_pos c28).symm.trans h
        exact j_sub [0, 1, 2, 3, 4, 5] rfl (HE129 _ _ _ _ _ _ h)
      · have h := (if_neg c28).symm.trans h
        refine j_iload C 3 rfl dX12_wind_65 ?_
        refine j_ldcw C wd1953 dX12_wind_67 ?_
        refine j_imul C dX12_wind_70 ?_
        refine j_sipush C dX12_wind_71 cs_12345 ?_
        refine j_iadd C dX12_wind_74 ?_
        refine lt_elim h (fun x29 e_x29 h => ?_)
        refine j_top e_x29 ?_
        refine j_istore C [(4, .int x29), (0, .ref (ad 0)), (2, .int x21), (3, .int x22), (5, .int x24), (6, .int x25), (7, .int x26)] dX12_wind_75 (by decide) rfl ?_
        refine j_iload C 4 rfl dX12_wind_77 ?_
        refine j_aload_n C 1 rfl dX12_wind_79 rfl ?_
        refine j_aload_n C 1 rfl dX12_wind_80 rfl ?_
        refine fg_X12_60_TR_0 C dX12_wind_81 ?_
        refine j_aload_n C 1 rfl dX12_wind_84 rfl ?_
        refine fg_X12_278_TR_0 C dX12_wind_85 ?_
        refine j_iload C 6 rfl dX12_wind_88 ?_
        refine j_iload C 5 rfl dX12_wind_90 ?_
        obtain ⟨r30, h31, h⟩ := bd1_elim h
        refine j_callV (As := [.ref (ad 13), .int (S27 42), .int x26, .int x25]) (rest := [.int x24]) C (kX12_swingOf_0_13 l B D ad cA hI S27 V L ((S27 42)) x26 x25 _ h31) mw_X12_swingOf wd1840 wd90 wd1838 tr_0 rfl rfl ⟨rfl, rfl, by decide, by decide⟩ ⟨Nat.zero_le _, Nat.zero_le _⟩ rfl rfl (Nat.le_of_ble_eq_true rfl) dX12_wind_92 ?_
        refine j_bipush C dX12_wind_95 cb_60 ?_
        refine j_isub C dX12_wind_97 ?_
        refine j_iload C 0 rfl dX12_wind_98 ?_
        refine j_bipush C dX12_wind_100 cb_16 ?_
        refine j_ishr C dX12_wind_102 ?_
        refine j_sipush C dX12_wind_103 cs_32767 ?_
        refine j_iand C dX12_wind_106 ?_
        refine j_bipush C dX12_wind_107 cb_100 ?_
        refine lt_elim h (fun x32 e_x32 h => ?_)
        refine j_top2 e_x32 ?_
        refine j_irem C dX12_wind_109 (by decide) ?_
        refine j_iload_n C 3 rfl dX12_wind_110 rfl ?_
        refine bk_elim h (fun K119_33 e_K119_33 h => ?_)
        have HK119_33 : ∀ (x34 : Int32) (x35 : Int32) (x36 : Int32) (x37 : Int32) (x38 : Int32) (x39 : Int32) (x40 : Int32) (x41 : Int32) (S42 : Nat → Int32), K119_33 x34 x35 x36 x37 x38 x39 x40 x41 S42 = some (r0, S0) → jW p l e ({ frames := 3, cells := 0, slots := 0, locals := 73 }) s m args below meth c (MQ below (jQc D TR ad cA (some (.int r0)) s.heap.size S0 V L) args s 0 0 (jA ad TR s.heap.size)) D TR ad cA (jA ad TR s.heap.size) 8 0 0 119 [(0, .ref (ad 0)), (2, .int x34), (3, .int x35), (4, .int x36), (6, .int x37), (7, .int x38)] [.int x39, .int x40, .int x41] S42 V L := by
          subst e_K119_33
          intro x34 x35 x36 x37 x38 x39 x40 x41 S42 h
          refine j_isub C dX12_wind_119 ?_
          refine j_iadd C dX12_wind_120 ?_
          refine lt_elim h (fun x43 e_x43 h => ?_)
          refine j_top e_x43 ?_
          refine j_istore C [(5, .int x43), (0, .ref (ad 0)), (2, .int x34), (3, .int x35), (4, .int x36), (6, .int x37), (7, .int x38)] dX12_wind_121 (by decide) rfl ?_
          refine lt_elim h (fun x44 e_x44 h => ?_)
          refine j_iinc C [(7, .int x44), (5, .int x43), (0, .ref (ad 0)), (2, .int x34), (3, .int x35), (4, .int x36), (6, .int x37)] 6 dX12_wind_123 rfl ((iinc_eq ci_1).trans e_x44.symm) (by decide) rfl ?_
          refine j_goto (tgt := 58) C dX12_wind_126 (by decide) ?_
          exact j_sub [2, 3, 4, 5, 1, 6, 0] rfl (ih _ _ _ _ _ _ _ h)
        refine j_icmp_ge (tgt := 118) C dX12_wind_111 (by decide) (fun c45 => ?_) (fun c45 => ?_)
        · have h := (if_pos c45).symm.trans h
          refine j_iconst C dX12_wind_118 ci_0 ?_
          exact j_sub [1, 2, 3, 0, 5, 6] rfl (HK119_33 _ _ _ _ _ _ _ _ _ h)
        · have h := (if_neg c45).symm.trans h
          refine j_iconst C dX12_wind_114 ci_5 ?_
          refine j_goto (tgt := 119) C dX12_wind_115 (by decide) ?_
          exact j_sub [1, 2, 3, 0, 5, 6] rfl (HK119_33 _ _ _ _ _ _ _ _ _ h)
  have H_fX12_wind_0_L49 : ∀ (n : Nat) (x14 : Int32) (x15 : Int32) (x16 : Int32) (x17 : Int32) (x18 : Int32) (S19 : Nat → Int32), fX12_wind_0_L49 V n x14 x15 x16 x17 x18 S19 = some (r0, S0) → jW p l e ({ frames := 3, cells := 0, slots := 0, locals := 73 }) s m args below meth c (MQ below (jQc D TR ad cA (some (.int r0)) s.heap.size S0 V L) args s 0 0 (jA ad TR s.heap.size)) D TR ad cA (jA ad TR s.heap.size) 8 0 0 49 [(0, .ref (ad 0)), (2, .int x14), (3, .int x15), (4, .int x16), (5, .int x17), (6, .int x18)] [] S19 V L := by
    intro n
    induction n with
    | zero =>
      intro x14 x15 x16 x17 x18 S19 h
      cases (show (none : Option (Int32 × (Nat → Int32))) = some (r0, S0) from h)
    | succ n ih =>
      intro x14 x15 x16 x17 x18 S19 h
      unfold fX12_wind_0_L49 at h
      refine j_iload C 5 rfl dX12_wind_49 ?_
      refine j_iload_n C 1 rfl dX12_wind_51 rfl ?_
      refine j_icmp_ge (tgt := 135) C dX12_wind_52 (by decide) (fun c20 => ?_) (fun c20 => ?_)
      · have h := (if_pos c20).symm.trans h
        refine j_iload C 4 rfl dX12_wind_135 ?_
        cases h
        exact j_iret C hr hlk rfl dX12_wind_137
      · have h := (if_neg c20).symm.trans h
        refine j_iconst C dX12_wind_55 ci_0 ?_
        refine j_istore C [(7, .int (0 : Int32)), (0, .ref (ad 0)), (2, .int x14), (3, .int x15), (4, .int x16), (5, .int x17), (6, .int x18)] dX12_wind_56 (by decide) rfl ?_
        refine bk_elim h (fun X129_52 e_X129_52 h => ?_)
        have HX129_52 : ∀ (x53 : Int32) (x54 : Int32) (x55 : Int32) (x56 : Int32) (x57 : Int32) (S58 : Nat → Int32), X129_52 x53 x54 x55 x56 x57 S58 = some (r0, S0) → jW p l e ({ frames := 3, cells := 0, slots := 0, locals := 73 }) s m args below meth c (MQ below (jQc D TR ad cA (some (.int r0)) s.heap.size S0 V L) args s 0 0 (jA ad TR s.heap.size)) D TR ad cA (jA ad TR s.heap.size) 8 0 0 129 [(0, .ref (ad 0)), (2, .int x53), (3, .int x54), (4, .int x55), (5, .int x56), (6, .int x57)] [] S58 V L := by
          subst e_X129_52
          intro x53 x54 x55 x56 x57 S58 h
          refine lt_elim h (fun x59 e_x59 h => ?_)
          refine j_iinc C [(6, .int x59), (0, .ref (ad 0)), (2, .int x53), (3, .int x54), (4, .int x55), (5, .int x56)] 5 dX12_wind_129 rfl ((iinc_eq ci_1).trans e_x59.symm) (by decide) rfl ?_
          refine j_goto (tgt := 49) C dX12_wind_132 (by decide) ?_
          exact j_sub [1, 2, 3, 4, 5, 0] rfl (ih _ _ _ _ _ _ h)
        exact j_sub [1, 2, 3, 4, 5, 6, 0] rfl (H_fX12_wind_0_L58 _ HX129_52 FU _ _ _ _ _ _ _ h)
  refine j_aload_n C 0 rfl dX12_wind_0 rfl ?_
  refine j_iconst C dX12_wind_1 ci_0 ?_
  refine fp_X12_93_TR_0 C dX12_wind_2 ?_
  refine lt_elim h (fun S1 e_S1 h => ?_)
  refine j_S e_S1 ?_
  refine j_aload_n C 0 rfl dX12_wind_5 rfl ?_
  refine j_iload_n C 2 rfl dX12_wind_6 rfl ?_
  refine j_iconst C dX12_wind_7 ci_0 ?_
  refine j_bipush C dX12_wind_8 cb_40 ?_
  obtain ⟨r2, h3, h⟩ := bd1_elim h
  refine j_callS (As := [.int a2, .int (0 : Int32), .int (40 : Int32)]) (rest := [.ref (ad 0)]) C (kX12_within l B D ad cA hI S1 V L a2 (0 : Int32) (40 : Int32) _ h3) mw_X12_within wd1760 wd1759 ⟨rfl, rfl, by decide, by decide⟩ ⟨Nat.zero_le _, Nat.zero_le _⟩ rfl rfl (Nat.le_of_ble_eq_true rfl) dX12_wind_10 ?_
  refine bk_elim h (fun K31_4 e_K31_4 h => ?_)
  have HK31_4 : ∀ (x5 : Int32) (x6 : Int32) (x7 : Int32) (x8 : Int32) (S9 : Nat → Int32), K31_4 x5 x6 x7 x8 S9 = some (r0, S0) → jW p l e ({ frames := 3, cells := 0, slots := 0, locals := 73 }) s m args below meth c (MQ below (jQc D TR ad cA (some (.int r0)) s.heap.size S0 V L) args s 0 0 (jA ad TR s.heap.size)) D TR ad cA (jA ad TR s.heap.size) 8 0 0 31 [(0, .ref (ad 0)), (1, .int x5), (2, .int x6), (3, .int x7)] [.int x8, .ref (ad 0)] S9 V L := by
    subst e_K31_4
    intro x5 x6 x7 x8 S9 h
    refine j_iconst C dX12_wind_31 ci_1 ?_
    obtain ⟨r10, S11, h12, h⟩ := bd2_elim h
    refine j_callV (As := [.int x8, .int (1 : Int32)]) (rest := []) C (kX12_right_0 l B D ad cA hI S9 V L x8 (1 : Int32) _ _ h12) mw_X12_right wd1638 wd56 wd1636 tr_0 rfl rfl ⟨rfl, rfl, by decide, by decide⟩ ⟨Nat.zero_le _, Nat.zero_le _⟩ rfl rfl (Nat.le_of_ble_eq_true rfl) dX12_wind_32 ?_
    refine j_if_ne (tgt := 40) C dX12_wind_35 (by decide) (fun c13 => ?_) (fun c13 => ?_)
    · have h := (if_neg c13).symm.trans h
      refine j_iload_n C 1 rfl dX12_wind_40 rfl ?_
      refine j_istore C [(4, .int x5), (0, .ref (ad 0)), (1, .int x5), (2, .int x6), (3, .int x7)] dX12_wind_41 (by decide) rfl ?_
      refine j_iconst C dX12_wind_43 ci_0 ?_
      refine j_istore C [(5, .int (0 : Int32)), (4, .int x5), (0, .ref (ad 0)), (1, .int x5), (2, .int x6), (3, .int x7)] dX12_wind_44 (by decide) rfl ?_
      refine j_iconst C dX12_wind_46 ci_0 ?_
      refine j_istore C [(6, .int (0 : Int32)), (5, .int (0 : Int32)), (4, .int x5), (0, .ref (ad 0)), (1, .int x5), (2, .int x6), (3, .int x7)] dX12_wind_47 (by decide) rfl ?_
      exact j_sub [3, 5, 6, 2, 1, 0] rfl (H_fX12_wind_0_L49 FU _ _ _ _ _ _ h)
    · have h := (if_pos c13).symm.trans h
      refine j_iconst C dX12_wind_38 ci_0 ?_
      cases h
      exact j_iret C hr hlk rfl dX12_wind_39
  refine bk_elim h (fun K30_60 e_K30_60 h => ?_)
  have HK30_60 : ∀ (x61 : Int32) (x62 : Int32) (x63 : Int32) (S64 : Nat → Int32), K30_60 x61 x62 x63 S64 = some (r0, S0) → jW p l e ({ frames := 3, cells := 0, slots := 0, locals := 73 }) s m args below meth c (MQ below (jQc D TR ad cA (some (.int r0)) s.heap.size S0 V L) args s 0 0 (jA ad TR s.heap.size)) D TR ad cA (jA ad TR s.heap.size) 8 0 0 30 [(0, .ref (ad 0)), (1, .int x61), (2, .int x62), (3, .int x63)] [.ref (ad 0)] S64 V L := by
    subst e_K30_60
    intro x61 x62 x63 S64 h
    refine j_iconst C dX12_wind_30 ci_0 ?_
    exact j_sub [0, 1, 2, 3] rfl (HK31_4 _ _ _ _ _ h)
  refine j_if_eq (tgt := 30) C dX12_wind_13 (by decide) (fun c65 => ?_) (fun c65 => ?_)
  · have h := (if_pos c65).symm.trans h
    exact j_sub [0, 1, 2, 3] rfl (HK30_60 _ _ _ _ h)
  · have h := (if_neg c65).symm.trans h
    refine j_iload_n C 3 rfl dX12_wind_16 rfl ?_
    refine j_iconst C dX12_wind_17 ci_0 ?_
    refine j_bipush C dX12_wind_18 cb_100 ?_
    obtain ⟨r66, h67, h⟩ := bd1_elim h
    refine j_callS (As := [.int a3, .int (0 : Int32), .int (100 : Int32)]) (rest := [.ref (ad 0)]) C (kX12_within l B D ad cA hI S1 V L a3 (0 : Int32) (100 : Int32) _ h67) mw_X12_within wd1760 wd1759 ⟨rfl, rfl, by decide, by decide⟩ ⟨Nat.zero_le _, Nat.zero_le _⟩ rfl rfl (Nat.le_of_ble_eq_true rfl) dX12_wind_20 ?_
    refine j_if_eq (tgt := 30) C dX12_wind_23 (by decide) (fun c68 => ?_) (fun c68 => ?_)
    · have h := (if_pos c68).symm.trans h
      exact j_sub [0, 1, 2, 3] rfl (HK30_60 _ _ _ _ h)
    · have h := (if_neg c68).symm.trans h
      refine j_iconst C dX12_wind_26 ci_1 ?_
      refine j_goto (tgt := 31) C dX12_wind_27 (by decide) ?_
      exact j_sub [0, 1, 2, 3] rfl (HK31_4 _ _ _ _ _ h)
