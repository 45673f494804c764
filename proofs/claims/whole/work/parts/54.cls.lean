theorem dX10_begin_0 : decode cX10_begin 0 = .ok (.aload_n 0, 1) := by decide +kernel
theorem dX10_begin_1 : decode cX10_begin 1 = .ok (.iconst 0, 1) := by decide +kernel
theorem dX10_begin_2 : decode cX10_begin 2 = .ok (.iload_n 2, 1) := by decide +kernel
theorem dX10_begin_3 : decode cX10_begin 3 = .ok (.aload_n 1, 1) := by decide +kernel
theorem dX10_begin_4 : decode cX10_begin 4 = .ok (.arraylength, 1) := by decide +kernel
theorem dX10_begin_5 : decode cX10_begin 5 = .ok (.sipush 600, 3) := by decide +kernel
theorem dX10_begin_8 : decode cX10_begin 8 = .ok (.invokestatic 25, 3) := by decide +kernel
theorem dX10_begin_11 : decode cX10_begin 11 = .ok (.invokestatic 25, 3) := by decide +kernel
theorem dX10_begin_14 : decode cX10_begin 14 = .ok (.invokestatic 31, 3) := by decide +kernel
theorem dX10_begin_17 : decode cX10_begin 17 = .ok (.putfield 34, 3) := by decide +kernel
theorem dX10_begin_20 : decode cX10_begin 20 = .ok (.aload_n 1, 1) := by decide +kernel
theorem dX10_begin_21 : decode cX10_begin 21 = .ok (.iconst 0, 1) := by decide +kernel
theorem dX10_begin_22 : decode cX10_begin 22 = .ok (.aload_n 0, 1) := by decide +kernel
theorem dX10_begin_23 : decode cX10_begin 23 = .ok (.getfield 9, 3) := by decide +kernel
theorem dX10_begin_26 : decode cX10_begin 26 = .ok (.iconst 0, 1) := by decide +kernel
theorem dX10_begin_27 : decode cX10_begin 27 = .ok (.aload_n 0, 1) := by decide +kernel
theorem dX10_begin_28 : decode cX10_begin 28 = .ok (.getfield 34, 3) := by decide +kernel
theorem dX10_begin_31 : decode cX10_begin 31 = .ok (.invokestatic 38, 3) := by decide +kernel
theorem dX10_begin_34 : decode cX10_begin 34 = .ok (.aload_n 0, 1) := by decide +kernel
theorem dX10_begin_35 : decode cX10_begin 35 = .ok (.iconst 0, 1) := by decide +kernel
theorem dX10_begin_36 : decode cX10_begin 36 = .ok (.putfield 44, 3) := by decide +kernel
theorem dX10_begin_39 : decode cX10_begin 39 = .ok (.iconst 0, 1) := by decide +kernel
theorem dX10_begin_40 : decode cX10_begin 40 = .ok (.istore_n 3, 1) := by decide +kernel
theorem dX10_begin_41 : decode cX10_begin 41 = .ok (.iconst 0, 1) := by decide +kernel
theorem dX10_begin_42 : decode cX10_begin 42 = .ok (.istore 4, 2) := by decide +kernel
theorem dX10_begin_44 : decode cX10_begin 44 = .ok (.iload 4, 2) := by decide +kernel
theorem dX10_begin_46 : decode cX10_begin 46 = .ok (.sipush 600, 3) := by decide +kernel
theorem dX10_begin_49 : decode cX10_begin 49 = .ok (.if_icmp .ge 66, 3) := by decide +kernel
theorem dX10_begin_52 : decode cX10_begin 52 = .ok (.iload_n 3, 1) := by decide +kernel
theorem dX10_begin_53 : decode cX10_begin 53 = .ok (.aload_n 0, 1) := by decide +kernel
theorem dX10_begin_54 : decode cX10_begin 54 = .ok (.getfield 34, 3) := by decide +kernel
theorem dX10_begin_57 : decode cX10_begin 57 = .ok (.if_icmp .ge 58, 3) := by decide +kernel
theorem dX10_begin_60 : decode cX10_begin 60 = .ok (.aload_n 0, 1) := by decide +kernel
theorem dX10_begin_61 : decode cX10_begin 61 = .ok (.iload_n 3, 1) := by decide +kernel
theorem dX10_begin_62 : decode cX10_begin 62 = .ok (.invokevirtual 47, 3) := by decide +kernel
theorem dX10_begin_65 : decode cX10_begin 65 = .ok (.istore 5, 2) := by decide +kernel
theorem dX10_begin_67 : decode cX10_begin 67 = .ok (.aload_n 0, 1) := by decide +kernel
theorem dX10_begin_68 : decode cX10_begin 68 = .ok (.getfield 9, 3) := by decide +kernel
theorem dX10_begin_71 : decode cX10_begin 71 = .ok (.iload_n 3, 1) := by decide +kernel
theorem dX10_begin_72 : decode cX10_begin 72 = .ok (.baload, 1) := by decide +kernel
theorem dX10_begin_73 : decode cX10_begin 73 = .ok (.bipush 32, 2) := by decide +kernel
theorem dX10_begin_75 : decode cX10_begin 75 = .ok (.if_icmp .eq 31, 3) := by decide +kernel
theorem dX10_begin_78 : decode cX10_begin 78 = .ok (.aload_n 0, 1) := by decide +kernel
theorem dX10_begin_79 : decode cX10_begin 79 = .ok (.getfield 9, 3) := by decide +kernel
theorem dX10_begin_82 : decode cX10_begin 82 = .ok (.iload_n 3, 1) := by decide +kernel
theorem dX10_begin_83 : decode cX10_begin 83 = .ok (.baload, 1) := by decide +kernel
theorem dX10_begin_84 : decode cX10_begin 84 = .ok (.bipush 10, 2) := by decide +kernel
theorem dX10_begin_86 : decode cX10_begin 86 = .ok (.if_icmp .eq 20, 3) := by decide +kernel
theorem dX10_begin_89 : decode cX10_begin 89 = .ok (.aload_n 0, 1) := by decide +kernel
theorem dX10_begin_90 : decode cX10_begin 90 = .ok (.iload_n 3, 1) := by decide +kernel
theorem dX10_begin_91 : decode cX10_begin 91 = .ok (.iload 5, 2) := by decide +kernel
theorem dX10_begin_93 : decode cX10_begin 93 = .ok (.invokevirtual 51, 3) := by decide +kernel
theorem dX10_begin_96 : decode cX10_begin 96 = .ok (.aload_n 0, 1) := by decide +kernel
theorem dX10_begin_97 : decode cX10_begin 97 = .ok (.dup, 1) := by decide +kernel
theorem dX10_begin_98 : decode cX10_begin 98 = .ok (.getfield 44, 3) := by decide +kernel
theorem dX10_begin_101 : decode cX10_begin 101 = .ok (.iconst 1, 1) := by decide +kernel
theorem dX10_begin_102 : decode cX10_begin 102 = .ok (.iadd, 1) := by decide +kernel
theorem dX10_begin_103 : decode cX10_begin 103 = .ok (.putfield 44, 3) := by decide +kernel
theorem dX10_begin_106 : decode cX10_begin 106 = .ok (.iload 5, 2) := by decide +kernel
theorem dX10_begin_108 : decode cX10_begin 108 = .ok (.istore_n 3, 1) := by decide +kernel
theorem dX10_begin_109 : decode cX10_begin 109 = .ok (.iinc 4 1, 3) := by decide +kernel
theorem dX10_begin_112 : decode cX10_begin 112 = .ok (.goto (-68), 3) := by decide +kernel
theorem dX10_begin_115 : decode cX10_begin 115 = .ok (.aload_n 0, 1) := by decide +kernel
theorem dX10_begin_116 : decode cX10_begin 116 = .ok (.getfield 19, 3) := by decide +kernel
theorem dX10_begin_119 : decode cX10_begin 119 = .ok (.aload_n 0, 1) := by decide +kernel
theorem dX10_begin_120 : decode cX10_begin 120 = .ok (.getfield 44, 3) := by decide +kernel
theorem dX10_begin_123 : decode cX10_begin 123 = .ok (.aload_n 0, 1) := by decide +kernel
theorem dX10_begin_124 : decode cX10_begin 124 = .ok (.getfield 34, 3) := by decide +kernel
theorem dX10_begin_127 : decode cX10_begin 127 = .ok (.iastore, 1) := by decide +kernel
theorem dX10_begin_128 : decode cX10_begin 128 = .ok (.aload_n 0, 1) := by decide +kernel
theorem dX10_begin_129 : decode cX10_begin 129 = .ok (.getfield 15, 3) := by decide +kernel
theorem dX10_begin_132 : decode cX10_begin 132 = .ok (.aload_n 0, 1) := by decide +kernel
theorem dX10_begin_133 : decode cX10_begin 133 = .ok (.getfield 44, 3) := by decide +kernel
theorem dX10_begin_136 : decode cX10_begin 136 = .ok (.iconst 0, 1) := by decide +kernel
theorem dX10_begin_137 : decode cX10_begin 137 = .ok (.iastore, 1) := by decide +kernel
theorem dX10_begin_138 : decode cX10_begin 138 = .ok (.aload_n 0, 1) := by decide +kernel
theorem dX10_begin_139 : decode cX10_begin 139 = .ok (.iconst 0, 1) := by decide +kernel
theorem dX10_begin_140 : decode cX10_begin 140 = .ok (.putfield 44, 3) := by decide +kernel
theorem dX10_begin_143 : decode cX10_begin 143 = .ok (.return_, 1) := by decide +kernel
def fX10_begin_20_1_L44 (E115 : (Nat → Int32) → (Nat → Nat → Int32) → Option ((Nat → Int32) × (Nat → Nat → Int32))) : Nat → Int32 → Int32 → (Nat → Int32) → (Nat → Nat → Int32) → Option ((Nat → Int32) × (Nat → Nat → Int32))
  | 0, _, _, _, _ => none
  | n + 1, x13, x14, S15, V16 =>
    (if (600 : Int32) ≤ x14 then
    E115 S15 V16
    else
    (if (S15 2001) ≤ x13 then
    E115 S15 V16
    else
    bd1 (fX10_endOfToken_20 S15 V16 x13) (fun r19 =>
    gd (ib x13 600) (
    bk (fun (x23 : Int32) (x24 : Int32) (S25 : Nat → Int32) (V26 : Nat → Nat → Int32) =>
    lt (x23 + (1 : Int32)) (fun x27 =>
    fX10_begin_20_1_L44 E115 n x24 x27 S25 V26)) (fun K106_22 =>
    (if (V16 21 (x13).toNatClampNeg) = (32 : Int32) then
    K106_22 x14 r19 S15 V16
    else
    gd (ib x13 600) (
    (if (V16 21 (x13).toNatClampNeg) = (10 : Int32) then
    K106_22 x14 r19 S15 V16
    else
    bd1 (fX10_putToken_20 S15 V16 x13 r19) (fun V31 =>
    lt (((S15 2005) + (1 : Int32))) (fun x33 =>
    lt (va_up S15 2005 x33) (fun S34 =>
    K106_22 x14 r19 S34 V31)))))))))))
def fX10_begin_20_1 (S : Nat → Int32) (V : Nat → Nat → Int32) (a1 : Int32) : Option ((Nat → Int32) × (Nat → Nat → Int32)) :=
  bd1 (fJ9_min_7cf53 (600 : Int32) (600 : Int32)) (fun r1 =>
  bd1 (fJ9_min_7cf53 a1 r1) (fun r3 =>
  bd1 (fJ9_max_7cf53 (0 : Int32) r3) (fun r5 =>
  lt (va_up S 2001 r5) (fun S7 =>
  lt ((S7 2001)) (fun x8 =>
  gd (cpr (0 : Int32) (0 : Int32) x8 600 600) (
  gd (cpf (V 1) (0 : Int32) x8) (
  lt (va_up V 21 (va_cpy (V 1) (V 21) ((0 : Int32)).toNatClampNeg ((0 : Int32)).toNatClampNeg (x8).toNatClampNeg)) (fun V11 =>
  lt (va_up S7 2005 (0 : Int32)) (fun S12 =>
  bk (fun (S38 : Nat → Int32) (V39 : Nat → Nat → Int32) =>
  lt ((S38 2001)) (fun x40 =>
  lt ((S38 2005)) (fun x41 =>
  gd (ib x41 601) (
  lt (va_up V39 23 (upd (V39 23) (x41).toNatClampNeg x40)) (fun V43 =>
  lt ((S38 2005)) (fun x44 =>
  gd (ib x44 601) (
  lt (va_up V43 22 (upd (V43 22) (x44).toNatClampNeg (0 : Int32))) (fun V46 =>
  lt (va_up S38 2005 (0 : Int32)) (fun S47 =>
  some (S47, V46)))))))))) (fun X115_37 =>
  fX10_begin_20_1_L44 X115_37 FU (0 : Int32) (0 : Int32) S12 V11))))))))))
set_option maxHeartbeats 4000000 in
set_option maxRecDepth 100000 in
theorem kX10_begin_20_1 (l : Launch) (B : jBT) (D : va_G) (ad : Nat → Nat) (cA : Nat → ClassId) (hI : jI ad TC) (S : Nat → Int32) (V : Nat → Nat → Int32) (L : Nat → Int64) (a1 : Int32) (S0 : Nat → Int32) (V0 : Nat → Nat → Int32) (h : fX10_begin_20_1 S V a1 = some (S0, V0)) : jM l yX10_begin cX10_begin 6 none ({ frames := 7, cells := 0, slots := 0, locals := 157 }) B D TC ad cA [.ref (ad 20), .ref (ad 1), .int a1] S V L none S0 V0 L := by
  refine jM_of (plainFor_of_name (by decide)) TC_ok hI (Nat.le_of_ble_eq_true rfl) ?_
  intro p e s m args below meth c C hr hlk
  refine j_lv (lv2 := [(0, .ref (ad 20)), (1, .ref (ad 1)), (2, .int a1)]) rfl ?_
  unfold fX10_begin_20_1 at h
  have H_fX10_begin_20_1_L44 : ∀ (E115 : (Nat → Int32) → (Nat → Nat → Int32) → Option ((Nat → Int32) × (Nat → Nat → Int32))) (_ : ∀ (S35 : Nat → Int32) (V36 : Nat → Nat → Int32), E115 S35 V36 = some (S0, V0) → jW p l e ({ frames := 7, cells := 0, slots := 0, locals := 157 }) s m args below meth c (MQ below (jQc D TC ad cA none s.heap.size S0 V0 L) args s 0 0 (jA ad TC s.heap.size)) D TC ad cA (jA ad TC s.heap.size) 6 0 0 115 [(0, .ref (ad 20))] [] S35 V36 L) (n : Nat) (x13 : Int32) (x14 : Int32) (S15 : Nat → Int32) (V16 : Nat → Nat → Int32), fX10_begin_20_1_L44 E115 n x13 x14 S15 V16 = some (S0, V0) → jW p l e ({ frames := 7, cells := 0, slots := 0, locals := 157 }) s m args below meth c (MQ below (jQc D TC ad cA none s.heap.size S0 V0 L) args s 0 0 (jA ad TC s.heap.size)) D TC ad cA (jA ad TC s.heap.size) 6 0 0 44 [(0, .ref (ad 20)), (3, .int x13), (4, .int x14)] [] S15 V16 L := by
    intro E115 HE115
    intro n
    induction n with
    | zero =>
      intro x13 x14 S15 V16 h
      cases (show (none : Option ((Nat → Int32) × (Nat → Nat → Int32))) = some (S0, V0) from h)
    | succ n ih =>
      intro x13 x14 S15 V16 h
      unfold fX10_begin_20_1_L44 at h
      refine j_iload C 2 rfl dX10_begin_44 ?_
      refine j_sipush C dX10_begin_46 cs_600 ?_
      refine j_icmp_ge (tgt := 115) C dX10_begin_49 (by decide) (fun c17 => ?_) (fun c17 => ?_)
      · have h := (if_pos c17).symm.trans h
        exact j_sub [0] rfl (HE115 _ _ h)
      · have h := (if_neg c17).symm.trans h
        refine j_iload_n C 1 rfl dX10_begin_52 rfl ?_
        refine j_aload_n C 0 rfl dX10_begin_53 rfl ?_
        refine fg_X10_34_TC_20 C dX10_begin_54 ?_
        refine j_icmp_ge (tgt := 115) C dX10_begin_57 (by decide) (fun c18 => ?_) (fun c18 => ?_)
        · have h := (if_pos c18).symm.trans h
          exact j_sub [0] rfl (HE115 _ _ h)
        · have h := (if_neg c18).symm.trans h
          refine j_aload_n C 0 rfl dX10_begin_60 rfl ?_
          refine j_iload_n C 1 rfl dX10_begin_61 rfl ?_
          obtain ⟨r19, h20, h⟩ := bd1_elim h
          refine j_callV (As := [.int x13]) (rest := []) C (kX10_endOfToken_20 l B D ad cA hI S15 V16 L x13 _ h20) mw_X10_endOfToken wd775 wd9 wd773 tc_20 rfl rfl ⟨rfl, rfl, by decide, by decide⟩ ⟨Nat.zero_le _, Nat.zero_le _⟩ rfl rfl (Nat.le_of_ble_eq_true rfl) dX10_begin_62 ?_
          refine j_istore C [(5, .int r19), (0, .ref (ad 20)), (3, .int x13), (4, .int x14)] dX10_begin_65 (by decide) rfl ?_
          refine j_aload_n C 1 rfl dX10_begin_67 rfl ?_
          refine fg_X10_9_TC_20 C dX10_begin_68 ?_
          refine j_iload_n C 2 rfl dX10_begin_71 rfl ?_
          obtain ⟨g21, h⟩ := gd_elim h
          refine j_bald C tc_21 (ib_in g21) dX10_begin_72 ?_
          refine j_bipush C dX10_begin_73 cb_32 ?_
          refine bk_elim h (fun K106_22 e_K106_22 h => ?_)
          have HK106_22 : ∀ (x23 : Int32) (x24 : Int32) (S25 : Nat → Int32) (V26 : Nat → Nat → Int32), K106_22 x23 x24 S25 V26 = some (S0, V0) → jW p l e ({ frames := 7, cells := 0, slots := 0, locals := 157 }) s m args below meth c (MQ below (jQc D TC ad cA none s.heap.size S0 V0 L) args s 0 0 (jA ad TC s.heap.size)) D TC ad cA (jA ad TC s.heap.size) 6 0 0 106 [(0, .ref (ad 20)), (4, .int x23), (5, .int x24)] [] S25 V26 L := by
            subst e_K106_22
            intro x23 x24 S25 V26 h
            refine j_iload C 2 rfl dX10_begin_106 ?_
            refine j_istore_n C [(3, .int x24), (0, .ref (ad 20)), (4, .int x23), (5, .int x24)] dX10_begin_108 rfl (by decide) rfl ?_
            refine lt_elim h (fun x27 e_x27 h => ?_)
            refine j_iinc C [(4, .int x27), (3, .int x24), (0, .ref (ad 20)), (5, .int x24)] 2 dX10_begin_109 rfl ((iinc_eq ci_1).trans e_x27.symm) (by decide) rfl ?_
            refine j_goto (tgt := 44) C dX10_begin_112 (by decide) ?_
            exact j_sub [2, 1, 0] rfl (ih _ _ _ _ h)
          refine j_icmp_eq (tgt := 106) C dX10_begin_75 (by decide) (fun c28 => ?_) (fun c28 => ?_)
          · have h := (if_pos c28).symm.trans h
            exact j_sub [1, 3, 0] rfl (HK106_22 _ _ _ _ h)
          · have h := (if_neg c28).symm.trans h
            refine j_aload_n C 1 rfl dX10_begin_78 rfl ?_
            refine fg_X10_9_TC_20 C dX10_begin_79 ?_
            refine j_iload_n C 2 rfl dX10_begin_82 rfl ?_
            obtain ⟨g29, h⟩ := gd_elim h
            refine j_bald C tc_21 (ib_in g29) dX10_begin_83 ?_
            refine j_bipush C dX10_begin_84 cb_10 ?_
            refine j_icmp_eq (tgt := 106) C dX10_begin_86 (by decide) (fun c30 => ?_) (fun c30 => ?_)
            · have h := (if_pos c30).symm.trans h
              exact j_sub [1, 3, 0] rfl (HK106_22 _ _ _ _ h)
            · have h := (if_neg c30).symm.trans h
              refine j_aload_n C 1 rfl dX10_begin_89 rfl ?_
              refine j_iload_n C 2 rfl dX10_begin_90 rfl ?_
              refine j_iload C 0 rfl dX10_begin_91 ?_
              obtain ⟨V31, h32, h⟩ := bd1_elim h
              refine j_callV (As := [.int x13, .int r19]) (rest := []) C (kX10_putToken_20 l B D ad cA hI S15 V16 L x13 r19 _ h32) mw_X10_putToken wd787 wd12 wd785 tc_20 rfl rfl ⟨rfl, rfl, by decide, by decide⟩ ⟨Nat.zero_le _, Nat.zero_le _⟩ rfl rfl (Nat.le_of_ble_eq_true rfl) dX10_begin_93 ?_
              refine j_aload_n C 1 rfl dX10_begin_96 rfl ?_
              refine j_dup C dX10_begin_97 rfl ?_
              refine fg_X10_44_TC_20 C dX10_begin_98 ?_
              refine j_iconst C dX10_begin_101 ci_1 ?_
              refine j_iadd C dX10_begin_102 ?_
              refine lt_elim h (fun x33 e_x33 h => ?_)
              refine j_top e_x33 ?_
              refine fp_X10_44_TC_20 C dX10_begin_103 ?_
              refine lt_elim h (fun S34 e_S34 h => ?_)
              refine j_S e_S34 ?_
              exact j_sub [1, 3, 0] rfl (HK106_22 _ _ _ _ h)
  refine j_aload_n C 0 rfl dX10_begin_0 rfl ?_
  refine j_iconst C dX10_begin_1 ci_0 ?_
  refine j_iload_n C 2 rfl dX10_begin_2 rfl ?_
  refine j_aload_n C 1 rfl dX10_begin_3 rfl ?_
  refine j_alen (v := (600 : Int32)) C tc_1 (by decide) dX10_begin_4 ?_
  refine j_sipush C dX10_begin_5 cs_600 ?_
  obtain ⟨r1, h2, h⟩ := bd1_elim h
  refine j_callS (As := [.int (600 : Int32), .int (600 : Int32)]) (rest := [.int a1, .int (0 : Int32), .ref (ad 20)]) C (kJ9_min_7cf53 l B D ad cA hI S V L (600 : Int32) (600 : Int32) _ h2) mw_J9_min_7cf53 wd767 wd766 ⟨rfl, rfl, by decide, by decide⟩ ⟨Nat.zero_le _, Nat.zero_le _⟩ rfl rfl (Nat.le_of_ble_eq_true rfl) dX10_begin_8 ?_
  obtain ⟨r3, h4, h⟩ := bd1_elim h
  refine j_callS (As := [.int a1, .int r1]) (rest := [.int (0 : Int32), .ref (ad 20)]) C (kJ9_min_7cf53 l B D ad cA hI S V L a1 r1 _ h4) mw_J9_min_7cf53 wd767 wd766 ⟨rfl, rfl, by decide, by decide⟩ ⟨Nat.zero_le _, Nat.zero_le _⟩ rfl rfl (Nat.le_of_ble_eq_true rfl) dX10_begin_11 ?_
  obtain ⟨r5, h6, h⟩ := bd1_elim h
  refine j_callS (As := [.int (0 : Int32), .int r3]) (rest := [.ref (ad 20)]) C (kJ9_max_7cf53 l B D ad cA hI S V L (0 : Int32) r3 _ h6) mw_J9_max_7cf53 wd770 wd769 ⟨rfl, rfl, by decide, by decide⟩ ⟨Nat.zero_le _, Nat.zero_le _⟩ rfl rfl (Nat.le_of_ble_eq_true rfl) dX10_begin_14 ?_
  refine fp_X10_34_TC_20 C dX10_begin_17 ?_
  refine lt_elim h (fun S7 e_S7 h => ?_)
  refine j_S e_S7 ?_
  refine j_aload_n C 1 rfl dX10_begin_20 rfl ?_
  refine j_iconst C dX10_begin_21 ci_0 ?_
  refine j_aload_n C 0 rfl dX10_begin_22 rfl ?_
  refine fg_X10_9_TC_20 C dX10_begin_23 ?_
  refine j_iconst C dX10_begin_26 ci_0 ?_
  refine j_aload_n C 0 rfl dX10_begin_27 rfl ?_
  refine fg_X10_34_TC_20 C dX10_begin_28 ?_
  refine lt_elim h (fun x8 e_x8 h => ?_)
  refine j_top e_x8 ?_
  obtain ⟨g9, h⟩ := gd_elim h
  obtain ⟨g10, h⟩ := gd_elim h
  refine j_copy C tc_1 tc_21 wd772 wd674 wd673 wd122 rfl g9 (cpf_f g10) (by decide) (Nat.le_of_ble_eq_true rfl) dX10_begin_31 ?_
  refine lt_elim h (fun V11 e_V11 h => ?_)
  refine j_V e_V11 ?_
  refine j_aload_n C 0 rfl dX10_begin_34 rfl ?_
  refine j_iconst C dX10_begin_35 ci_0 ?_
  refine fp_X10_44_TC_20 C dX10_begin_36 ?_
  refine lt_elim h (fun S12 e_S12 h => ?_)
  refine j_S e_S12 ?_
  refine j_iconst C dX10_begin_39 ci_0 ?_
  refine j_istore_n C [(3, .int (0 : Int32)), (0, .ref (ad 20)), (1, .ref (ad 1)), (2, .int a1)] dX10_begin_40 rfl (by decide) rfl ?_
  refine j_iconst C dX10_begin_41 ci_0 ?_
  refine j_istore C [(4, .int (0 : Int32)), (3, .int (0 : Int32)), (0, .ref (ad 20)), (1, .ref (ad 1)), (2, .int a1)] dX10_begin_42 (by decide) rfl ?_
  refine bk_elim h (fun X115_37 e_X115_37 h => ?_)
  have HX115_37 : ∀ (S38 : Nat → Int32) (V39 : Nat → Nat → Int32), X115_37 S38 V39 = some (S0, V0) → jW p l e ({ frames := 7, cells := 0, slots := 0, locals := 157 }) s m args below meth c (MQ below (jQc D TC ad cA none s.heap.size S0 V0 L) args s 0 0 (jA ad TC s.heap.size)) D TC ad cA (jA ad TC s.heap.size) 6 0 0 115 [(0, .ref (ad 20))] [] S38 V39 L := by
    subst e_X115_37
    intro S38 V39 h
    refine j_aload_n C 0 rfl dX10_begin_115 rfl ?_
    refine fg_X10_19_TC_20 C dX10_begin_116 ?_
    refine j_aload_n C 0 rfl dX10_begin_119 rfl ?_
    refine fg_X10_44_TC_20 C dX10_begin_120 ?_
    refine j_aload_n C 0 rfl dX10_begin_123 rfl ?_
    refine fg_X10_34_TC_20 C dX10_begin_124 ?_
    refine lt_elim h (fun x40 e_x40 h => ?_)
    refine j_top e_x40 ?_
    refine lt_elim h (fun x41 e_x41 h => ?_)
    refine j_top2 e_x41 ?_
    obtain ⟨g42, h⟩ := gd_elim h
    refine j_iast C tc_23 (ib_in g42) dX10_begin_127 ?_
    refine lt_elim h (fun V43 e_V43 h => ?_)
    refine j_V e_V43 ?_
    refine j_aload_n C 0 rfl dX10_begin_128 rfl ?_
    refine fg_X10_15_TC_20 C dX10_begin_129 ?_
    refine j_aload_n C 0 rfl dX10_begin_132 rfl ?_
    refine fg_X10_44_TC_20 C dX10_begin_133 ?_
    refine j_iconst C dX10_begin_136 ci_0 ?_
    refine lt_elim h (fun x44 e_x44 h => ?_)
    refine j_top2 e_x44 ?_
    obtain ⟨g45, h⟩ := gd_elim h
    refine j_iast C tc_22 (ib_in g45) dX10_begin_137 ?_
    refine lt_elim h (fun V46 e_V46 h => ?_)
    refine j_V e_V46 ?_
    refine j_aload_n C 0 rfl dX10_begin_138 rfl ?_
    refine j_iconst C dX10_begin_139 ci_0 ?_
    refine fp_X10_44_TC_20 C dX10_begin_140 ?_
    refine lt_elim h (fun S47 e_S47 h => ?_)
    refine j_S e_S47 ?_
    cases h
    exact j_vret C hr hlk rfl dX10_begin_143
  exact j_sub [2, 1, 0] rfl (H_fX10_begin_20_1_L44 _ HX115_37 FU _ _ _ _ h)
def fX2_clear_12 (S : Nat → Int32) : Option ((Nat → Int32)) :=
  lt (va_up S 1200 (30 : Int32)) (fun S1 =>
  lt (va_up S1 1201 (0 : Int32)) (fun S2 =>
  lt (va_up S2 1202 (7 : Int32)) (fun S3 =>
  lt (va_up S3 1203 (200 : Int32)) (fun S4 =>
  lt (va_up S4 1204 (0 : Int32)) (fun S5 =>
  lt (va_up S5 1205 (0 : Int32)) (fun S6 =>
  lt (va_up S6 1206 (0 : Int32)) (fun S7 =>
  lt (va_up S7 1213 (0 : Int32)) (fun S8 =>
  some S8))))))))
set_option maxHeartbeats 4000000 in
set_option maxRecDepth 100000 in
theorem kX2_clear_12 (l : Launch) (B : jBT) (D : va_G) (ad : Nat → Nat) (cA : Nat → ClassId) (hI : jI ad TC) (S : Nat → Int32) (V : Nat → Nat → Int32) (L : Nat → Int64) (S0 : Nat → Int32) (h : fX2_clear_12 S = some S0) : jM l yX2_clear cX2_clear 1 none ({ frames := 0, cells := 0, slots := 0, locals := 0 }) B D TC ad cA [.ref (ad 12)] S V L none S0 V L := by
  refine jM_of (plainFor_of_name (by decide)) TC_ok hI (Nat.le_of_ble_eq_true rfl) ?_
  intro p e s m args below meth c C hr hlk
  refine j_lv (lv2 := [(0, .ref (ad 12))]) rfl ?_
  unfold fX2_clear_12 at h
  refine j_aload_n C 0 rfl dX2_clear_0 rfl ?_
  refine j_bipush C dX2_clear_1 cb_30 ?_
  refine fp_X2_33_TC_12 C dX2_clear_3 ?_
  refine lt_elim h (fun S1 e_S1 h => ?_)
  refine j_S e_S1 ?_
  refine j_aload_n C 0 rfl dX2_clear_6 rfl ?_
  refine j_iconst C dX2_clear_7 ci_0 ?_
  refine fp_X2_43_TC_12 C dX2_clear_8 ?_
  refine lt_elim h (fun S2 e_S2 h => ?_)
  refine j_S e_S2 ?_
  refine j_aload_n C 0 rfl dX2_clear_11 rfl ?_
  refine j_bipush C dX2_clear_12 cb_7 ?_
  refine fp_X2_37_TC_12 C dX2_clear_14 ?_
  refine lt_elim h (fun S3 e_S3 h => ?_)
  refine j_S e_S3 ?_
  refine j_aload_n C 0 rfl dX2_clear_17 rfl ?_
  refine j_sipush C dX2_clear_18 cs_200 ?_
  refine fp_X2_40_TC_12 C dX2_clear_21 ?_
  refine lt_elim h (fun S4 e_S4 h => ?_)
  refine j_S e_S4 ?_
  refine j_aload_n C 0 rfl dX2_clear_24 rfl ?_
  refine j_iconst C dX2_clear_25 ci_0 ?_
  refine fp_X2_46_TC_12 C dX2_clear_26 ?_
  refine lt_elim h (fun S5 e_S5 h => ?_)
  refine j_S e_S5 ?_
  refine j_aload_n C 0 rfl dX2_clear_29 rfl ?_
  refine j_iconst C dX2_clear_30 ci_0 ?_
  refine fp_X2_49_TC_12 C dX2_clear_31 ?_
  refine lt_elim h (fun S6 e_S6 h => ?_)
  refine j_S e_S6 ?_
  refine j_aload_n C 0 rfl dX2_clear_34 rfl ?_
  refine j_iconst C dX2_clear_35 ci_0 ?_
  refine fp_X2_52_TC_12 C dX2_clear_36 ?_
  refine lt_elim h (fun S7 e_S7 h => ?_)
  refine j_S e_S7 ?_
  refine j_aload_n C 0 rfl dX2_clear_39 rfl ?_
  refine j_iconst C dX2_clear_40 ci_0 ?_
  refine fp_X2_55_TC_12 C dX2_clear_41 ?_
  refine lt_elim h (fun S8 e_S8 h => ?_)
  refine j_S e_S8 ?_
  cases h
  exact j_vret C hr hlk rfl dX2_clear_44
theorem dX3_read_0 : decode cX3_read 0 = .ok (.aload_n 0, 1) := by decide +kernel
theorem dX3_read_1 : decode cX3_read 1 = .ok (.getfield 21, 3) := by decide +kernel
theorem dX3_read_4 : decode cX3_read 4 = .ok (.aload_n 1, 1) := by decide +kernel
theorem dX3_read_5 : decode cX3_read 5 = .ok (.iload_n 2, 1) := by decide +kernel
theorem dX3_read_6 : decode cX3_read 6 = .ok (.invokevirtual 34, 3) := by decide +kernel
theorem dX3_read_9 : decode cX3_read 9 = .ok (.aload_n 0, 1) := by decide +kernel
theorem dX3_read_10 : decode cX3_read 10 = .ok (.getfield 12, 3) := by decide +kernel
theorem dX3_read_13 : decode cX3_read 13 = .ok (.invokevirtual 38, 3) := by decide +kernel
theorem dX3_read_16 : decode cX3_read 16 = .ok (.aload_n 0, 1) := by decide +kernel
theorem dX3_read_17 : decode cX3_read 17 = .ok (.iconst 0, 1) := by decide +kernel
theorem dX3_read_18 : decode cX3_read 18 = .ok (.putfield 41, 3) := by decide +kernel
theorem dX3_read_21 : decode cX3_read 21 = .ok (.aload_n 0, 1) := by decide +kernel
theorem dX3_read_22 : decode cX3_read 22 = .ok (.iconst 0, 1) := by decide +kernel
theorem dX3_read_23 : decode cX3_read 23 = .ok (.putfield 45, 3) := by decide +kernel
theorem dX3_read_26 : decode cX3_read 26 = .ok (.aload_n 0, 1) := by decide +kernel
theorem dX3_read_27 : decode cX3_read 27 = .ok (.iconst 0, 1) := by decide +kernel
theorem dX3_read_28 : decode cX3_read 28 = .ok (.putfield 48, 3) := by decide +kernel
theorem dX3_read_31 : decode cX3_read 31 = .ok (.iconst 0, 1) := by decide +kernel
theorem dX3_read_32 : decode cX3_read 32 = .ok (.istore_n 3, 1) := by decide +kernel
theorem dX3_read_33 : decode cX3_read 33 = .ok (.iconst 0, 1) := by decide +kernel
theorem dX3_read_34 : decode cX3_read 34 = .ok (.istore 4, 2) := by decide +kernel
theorem dX3_read_36 : decode cX3_read 36 = .ok (.iload 4, 2) := by decide +kernel
theorem dX3_read_38 : decode cX3_read 38 = .ok (.sipush 600, 3) := by decide +kernel
theorem dX3_read_41 : decode cX3_read 41 = .ok (.if_icmp .ge 37, 3) := by decide +kernel
theorem dX3_read_44 : decode cX3_read 44 = .ok (.iload_n 3, 1) := by decide +kernel
theorem dX3_read_45 : decode cX3_read 45 = .ok (.ifCond .ne 33, 3) := by decide +kernel
theorem dX3_read_48 : decode cX3_read 48 = .ok (.aload_n 0, 1) := by decide +kernel
theorem dX3_read_49 : decode cX3_read 49 = .ok (.getfield 21, 3) := by decide +kernel
theorem dX3_read_52 : decode cX3_read 52 = .ok (.invokevirtual 51, 3) := by decide +kernel
theorem dX3_read_55 : decode cX3_read 55 = .ok (.ifCond .eq 23, 3) := by decide +kernel
theorem dX3_read_58 : decode cX3_read 58 = .ok (.aload_n 0, 1) := by decide +kernel
theorem dX3_read_59 : decode cX3_read 59 = .ok (.invokevirtual 55, 3) := by decide +kernel
theorem dX3_read_62 : decode cX3_read 62 = .ok (.istore_n 3, 1) := by decide +kernel
theorem dX3_read_63 : decode cX3_read 63 = .ok (.iload_n 3, 1) := by decide +kernel
theorem dX3_read_64 : decode cX3_read 64 = .ok (.ifCond .ne 8, 3) := by decide +kernel
theorem dX3_read_67 : decode cX3_read 67 = .ok (.aload_n 0, 1) := by decide +kernel
theorem dX3_read_68 : decode cX3_read 68 = .ok (.invokevirtual 58, 3) := by decide +kernel
theorem dX3_read_71 : decode cX3_read 71 = .ok (.istore_n 3, 1) := by decide +kernel
theorem dX3_read_72 : decode cX3_read 72 = .ok (.iinc 4 1, 3) := by decide +kernel
theorem dX3_read_75 : decode cX3_read 75 = .ok (.goto (-39), 3) := by decide +kernel
theorem dX3_read_78 : decode cX3_read 78 = .ok (.iload_n 3, 1) := by decide +kernel
theorem dX3_read_79 : decode cX3_read 79 = .ok (.ireturn, 1) := by decide +kernel
def fX3_read_11_1_L36 : Nat → Int32 → Int32 → (Nat → Int32) → (Nat → Nat → Int32) → Option (Int32 × (Nat → Int32) × (Nat → Nat → Int32))
  | 0, _, _, _, _ => none
  | n + 1, x9, x10, S11, V12 =>
    (if (600 : Int32) ≤ x10 then
    some (x9, S11, V12)
    else
    (if x9 = 0 then
    bd1 (fX10_kind_20 S11 V12) (fun r15 =>
    (if r15 = 0 then
    some (x9, S11, V12)
    else
    bd3 (fX3_readLine_11 S11 V12) (fun r18 S19 V20 =>
    bk (fun (x23 : Int32) (x24 : Int32) (S25 : Nat → Int32) (V26 : Nat → Nat → Int32) =>
    lt (x24 + (1 : Int32)) (fun x27 =>
    fX3_read_11_1_L36 n x23 x27 S25 V26)) (fun K72_22 =>
    (if r18 = 0 then
    bd2 (fX3_readEndOfLine_11 S19 V20) (fun r29 S30 =>
    K72_22 r29 x10 S30 V20)
    else
    K72_22 r18 x10 S19 V20)))))
    else
    some (x9, S11, V12)))
def fX3_read_11_1 (S : Nat → Int32) (V : Nat → Nat → Int32) (a1 : Int32) : Option (Int32 × (Nat → Int32) × (Nat → Nat → Int32)) :=
  bd2 (fX10_begin_20_1 S V a1) (fun S1 V2 =>
  bd1 (fX2_clear_12 S1) (fun S4 =>
  lt (va_up S4 1103 (0 : Int32)) (fun S6 =>
  lt (va_up S6 1104 (0 : Int32)) (fun S7 =>
  lt (va_up S7 1105 (0 : Int32)) (fun S8 =>
  fX3_read_11_1_L36 FU (0 : Int32) (0 : Int32) S8 V2)))))
set_option maxHeartbeats 4000000 in
set_option maxRecDepth 100000 in
theorem kX3_read_11_1 (l : Launch) (B : jBT) (D : va_G) (ad : Nat → Nat) (cA : Nat → ClassId) (hI : jI ad TC) (S : Nat → Int32) (V : Nat → Nat → Int32) (L : Nat → Int64) (a1 : Int32) (r0 : Int32) (S0 : Nat → Int32) (V0 : Nat → Nat → Int32) (h : fX3_read_11_1 S V a1 = some (r0, S0, V0)) : jM l yX3_read cX3_read 5 (some .int) ({ frames := 8, cells := 0, slots := 0, locals := 182 }) B D TC ad cA [.ref (ad 11), .ref (ad 1), .int a1] S V L (some (.int r0)) S0 V0 L := by
  refine jM_of (plainFor_of_name (by decide)) TC_ok hI (Nat.le_of_ble_eq_true rfl) ?_
  intro p e s m args below meth c C hr hlk
  refine j_lv (lv2 := [(0, .ref (ad 11)), (1, .ref (ad 1)), (2, .int a1)]) rfl ?_
  unfold fX3_read_11_1 at h
  have H_fX3_read_11_1_L36 : ∀ (n : Nat) (x9 : Int32) (x10 : Int32) (S11 : Nat → Int32) (V12 : Nat → Nat → Int32), fX3_read_11_1_L36 n x9 x10 S11 V12 = some (r0, S0, V0) → jW p l e ({ frames := 8, cells := 0, slots := 0, locals := 182 }) s m args below meth c (MQ below (jQc D TC ad cA (some (.int r0)) s.heap.size S0 V0 L) args s 0 0 (jA ad TC s.heap.size)) D TC ad cA (jA ad TC s.heap.size) 5 0 0 36 [(0, .ref (ad 11)), (3, .int x9), (4, .int x10)] [] S11 V12 L := by
    intro n
    induction n with
    | zero =>
      intro x9 x10 S11 V12 h
      cases (show (none : Option (Int32 × (Nat → Int32) × (Nat → Nat → Int32))) = some (r0, S0, V0) from h)
    | succ n ih =>
      intro x9 x10 S11 V12 h
      unfold fX3_read_11_1_L36 at h
      refine j_iload C 2 rfl dX3_read_36 ?_
      refine j_sipush C dX3_read_38 cs_600 ?_
      refine j_icmp_ge (tgt := 78) C dX3_read_41 (by decide) (fun c13 => ?_) (fun c13 => ?_)
      · have h := (if_pos c13).symm.trans h
        refine j_iload_n C 1 rfl dX3_read_78 rfl ?_
        cases h
        exact j_iret C hr hlk rfl dX3_read_79
      · have h := (if_neg c13).symm.trans h
        refine j_iload_n C 1 rfl dX3_read_44 rfl ?_
        refine j_if_ne (tgt := 78) C dX3_read_45 (by decide) (fun c14 => ?_) (fun c14 => ?_)
        · have h := (if_neg c14).symm.trans h
          refine j_iload_n C 1 rfl dX3_read_78 rfl ?_
          cases h
          exact j_iret C hr hlk rfl dX3_read_79
        · have h := (if_pos c14).symm.trans h
          refine j_aload_n C 0 rfl dX3_read_48 rfl ?_
          refine fg_X3_21_TC_11 C dX3_read_49 ?_
          obtain ⟨r15, h16, h⟩ := bd1_elim h
          refine j_callV (As := []) (rest := []) C (kX10_kind_20 l B D ad cA hI S11 V12 L _ h16) mw_X10_kind wd911 wd912 wd910 tc_20 rfl rfl ⟨rfl, rfl, by decide, by decide⟩ ⟨Nat.zero_le _, Nat.zero_le _⟩ rfl rfl (Nat.le_of_ble_eq_true rfl) dX3_read_52 ?_
          refine j_if_eq (tgt := 78) C dX3_read_55 (by decide) (fun c17 => ?_) (fun c17 => ?_)
          · have h := (if_pos c17).symm.trans h
            refine j_iload_n C 1 rfl dX3_read_78 rfl ?_
            cases h
            exact j_iret C hr hlk rfl dX3_read_79
          · have h := (if_neg c17).symm.trans h
            refine j_aload_n C 0 rfl dX3_read_58 rfl ?_
            obtain ⟨r18, S19, V20, h21, h⟩ := bd3_elim h
            refine j_callV (As := []) (rest := []) C (kX3_readLine_11 l B D ad cA hI S11 V12 L _ _ _ h21) mw_X3_readLine wd916 wd16 wd914 tc_11 rfl rfl ⟨rfl, rfl, by decide, by decide⟩ ⟨Nat.zero_le _, Nat.zero_le _⟩ rfl rfl (Nat.le_of_ble_eq_true rfl) dX3_read_59 ?_
            refine j_istore_n C [(3, .int r18), (0, .ref (ad 11)), (4, .int x10)] dX3_read_62 rfl (by decide) rfl ?_
            refine j_iload_n C 0 rfl dX3_read_63 rfl ?_
            refine bk_elim h (fun K72_22 e_K72_22 h => ?_)
            have HK72_22 : ∀ (x23 : Int32) (x24 : Int32) (S25 : Nat → Int32) (V26 : Nat → Nat → Int32), K72_22 x23 x24 S25 V26 = some (r0, S0, V0) → jW p l e ({ frames := 8, cells := 0, slots := 0, locals := 182 }) s m args below meth c (MQ below (jQc D TC ad cA (some (.int r0)) s.heap.size S0 V0 L) args s 0 0 (jA ad TC s.heap.size)) D TC ad cA (jA ad TC s.heap.size) 5 0 0 72 [(0, .ref (ad 11)), (3, .int x23), (4, .int x24)] [] S25 V26 L := by
              subst e_K72_22
              intro x23 x24 S25 V26 h
              refine lt_elim h (fun x27 e_x27 h => ?_)
              refine j_iinc C [(4, .int x27), (0, .ref (ad 11)), (3, .int x23)] 2 dX3_read_72 rfl ((iinc_eq ci_1).trans e_x27.symm) (by decide) rfl ?_
              refine j_goto (tgt := 36) C dX3_read_75 (by decide) ?_
              exact j_sub [1, 2, 0] rfl (ih _ _ _ _ h)
            refine j_if_ne (tgt := 72) C dX3_read_64 (by decide) (fun c28 => ?_) (fun c28 => ?_)
            · have h := (if_neg c28).symm.trans h
              exact j_sub [1, 0, 2] rfl (HK72_22 _ _ _ _ h)
            · have h := (if_pos c28).symm.trans h
              refine j_aload_n C 1 rfl dX3_read_67 rfl ?_
              obtain ⟨r29, S30, h31, h⟩ := bd2_elim h
              refine j_callV (As := []) (rest := []) C (kX3_readEndOfLine_11 l B D ad cA hI S19 V20 L _ _ h31) mw_X3_readEndOfLine wd1019 wd35 wd1017 tc_11 rfl rfl ⟨rfl, rfl, by decide, by decide⟩ ⟨Nat.zero_le _, Nat.zero_le _⟩ rfl rfl (Nat.le_of_ble_eq_true rfl) dX3_read_68 ?_
              refine j_istore_n C [(3, .int r29), (0, .ref (ad 11)), (4, .int x10)] dX3_read_71 rfl (by decide) rfl ?_
              exact j_sub [1, 0, 2] rfl (HK72_22 _ _ _ _ h)
  refine j_aload_n C 0 rfl dX3_read_0 rfl ?_
  refine fg_X3_21_TC_11 C dX3_read_1 ?_
  refine j_aload_n C 1 rfl dX3_read_4 rfl ?_
  refine j_iload_n C 2 rfl dX3_read_5 rfl ?_
  obtain ⟨S1, V2, h3, h⟩ := bd2_elim h
  refine j_callV (As := [.ref (ad 1), .int a1]) (rest := []) C (kX10_begin_20_1 l B D ad cA hI S V L a1 _ _ h3) mw_X10_begin wd763 wd764 wd762 tc_20 rfl rfl ⟨rfl, rfl, by decide, by decide⟩ ⟨Nat.zero_le _, Nat.zero_le _⟩ rfl rfl (Nat.le_of_ble_eq_true rfl) dX3_read_6 ?_
  refine j_aload_n C 0 rfl dX3_read_9 rfl ?_
  refine fg_X3_12_TC_11 C dX3_read_10 ?_
  obtain ⟨S4, h5, h⟩ := bd1_elim h
  refine j_callV (As := []) (rest := []) C (kX2_clear_12 l B D ad cA hI S1 V2 L _ h5) mw_X2_clear wd907 wd908 wd906 tc_12 rfl rfl ⟨rfl, rfl, by decide, by decide⟩ ⟨Nat.zero_le _, Nat.zero_le _⟩ rfl rfl (Nat.le_of_ble_eq_true rfl) dX3_read_13 ?_
  refine j_aload_n C 0 rfl dX3_read_16 rfl ?_
  refine j_iconst C dX3_read_17 ci_0 ?_
  refine fp_X3_41_TC_11 C rfl rfl dX3_read_18 ?_
  refine lt_elim h (fun S6 e_S6 h => ?_)
  refine j_S e_S6 ?_
  refine j_aload_n C 0 rfl dX3_read_21 rfl ?_
  refine j_iconst C dX3_read_22 ci_0 ?_
  refine fp_X3_45_TC_11 C rfl rfl dX3_read_23 ?_
  refine lt_elim h (fun S7 e_S7 h => ?_)
  refine j_S e_S7 ?_
  refine j_aload_n C 0 rfl dX3_read_26 rfl ?_
  refine j_iconst C dX3_read_27 ci_0 ?_
  refine fp_X3_48_TC_11 C rfl rfl dX3_read_28 ?_
  refine lt_elim h (fun S8 e_S8 h => ?_)
  refine j_S e_S8 ?_
  refine j_iconst C dX3_read_31 ci_0 ?_
  refine j_istore_n C [(3, .int (0 : Int32)), (0, .ref (ad 11)), (1, .ref (ad 1)), (2, .int a1)] dX3_read_32 rfl (by decide) rfl ?_
  refine j_iconst C dX3_read_33 ci_0 ?_
  refine j_istore C [(4, .int (0 : Int32)), (3, .int (0 : Int32)), (0, .ref (ad 11)), (1, .ref (ad 1)), (2, .int a1)] dX3_read_34 (by decide) rfl ?_
  exact j_sub [2, 1, 0] rfl (H_fX3_read_11_1_L36 FU _ _ _ _ h)
