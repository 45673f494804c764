theorem dX12_sublet_0 : decode cX12_sublet 0 = .ok (.aload_n 0, 1) := by decide +kernel
theorem dX12_sublet_1 : decode cX12_sublet 1 = .ok (.iconst 0, 1) := by decide +kernel
theorem dX12_sublet_2 : decode cX12_sublet 2 = .ok (.putfield 93, 3) := by decide +kernel
theorem dX12_sublet_5 : decode cX12_sublet 5 = .ok (.aload_n 0, 1) := by decide +kernel
theorem dX12_sublet_6 : decode cX12_sublet 6 = .ok (.iload_n 1, 1) := by decide +kernel
theorem dX12_sublet_7 : decode cX12_sublet 7 = .ok (.ifCond .eq 8, 3) := by decide +kernel
theorem dX12_sublet_10 : decode cX12_sublet 10 = .ok (.iload_n 1, 1) := by decide +kernel
theorem dX12_sublet_11 : decode cX12_sublet 11 = .ok (.iconst 1, 1) := by decide +kernel
theorem dX12_sublet_12 : decode cX12_sublet 12 = .ok (.if_icmp .ne 7, 3) := by decide +kernel
theorem dX12_sublet_15 : decode cX12_sublet 15 = .ok (.iconst 1, 1) := by decide +kernel
theorem dX12_sublet_16 : decode cX12_sublet 16 = .ok (.goto 4, 3) := by decide +kernel
theorem dX12_sublet_19 : decode cX12_sublet 19 = .ok (.iconst 0, 1) := by decide +kernel
theorem dX12_sublet_20 : decode cX12_sublet 20 = .ok (.iconst 1, 1) := by decide +kernel
theorem dX12_sublet_21 : decode cX12_sublet 21 = .ok (.invokevirtual 255, 3) := by decide +kernel
theorem dX12_sublet_24 : decode cX12_sublet 24 = .ok (.ifCond .ne 5, 3) := by decide +kernel
theorem dX12_sublet_27 : decode cX12_sublet 27 = .ok (.iconst 0, 1) := by decide +kernel
theorem dX12_sublet_28 : decode cX12_sublet 28 = .ok (.ireturn, 1) := by decide +kernel
theorem dX12_sublet_29 : decode cX12_sublet 29 = .ok (.iconst 0, 1) := by decide +kernel
theorem dX12_sublet_30 : decode cX12_sublet 30 = .ok (.istore_n 2, 1) := by decide +kernel
theorem dX12_sublet_31 : decode cX12_sublet 31 = .ok (.iconst 0, 1) := by decide +kernel
theorem dX12_sublet_32 : decode cX12_sublet 32 = .ok (.istore_n 3, 1) := by decide +kernel
theorem dX12_sublet_33 : decode cX12_sublet 33 = .ok (.iconst 1, 1) := by decide +kernel
theorem dX12_sublet_34 : decode cX12_sublet 34 = .ok (.istore 4, 2) := by decide +kernel
theorem dX12_sublet_36 : decode cX12_sublet 36 = .ok (.iload 4, 2) := by decide +kernel
theorem dX12_sublet_38 : decode cX12_sublet 38 = .ok (.iconst 1, 1) := by decide +kernel
theorem dX12_sublet_39 : decode cX12_sublet 39 = .ok (.aload_n 0, 1) := by decide +kernel
theorem dX12_sublet_40 : decode cX12_sublet 40 = .ok (.getfield 281, 3) := by decide +kernel
theorem dX12_sublet_43 : decode cX12_sublet 43 = .ok (.ishl, 1) := by decide +kernel
theorem dX12_sublet_44 : decode cX12_sublet 44 = .ok (.if_icmp .ge 128, 3) := by decide +kernel
theorem dX12_sublet_47 : decode cX12_sublet 47 = .ok (.iconst 0, 1) := by decide +kernel
theorem dX12_sublet_48 : decode cX12_sublet 48 = .ok (.istore 5, 2) := by decide +kernel
theorem dX12_sublet_50 : decode cX12_sublet 50 = .ok (.iconst 0, 1) := by decide +kernel
theorem dX12_sublet_51 : decode cX12_sublet 51 = .ok (.istore 6, 2) := by decide +kernel
theorem dX12_sublet_53 : decode cX12_sublet 53 = .ok (.iconst 1, 1) := by decide +kernel
theorem dX12_sublet_54 : decode cX12_sublet 54 = .ok (.istore 7, 2) := by decide +kernel
theorem dX12_sublet_56 : decode cX12_sublet 56 = .ok (.iconst 0, 1) := by decide +kernel
theorem dX12_sublet_57 : decode cX12_sublet 57 = .ok (.istore 8, 2) := by decide +kernel
theorem dX12_sublet_59 : decode cX12_sublet 59 = .ok (.iload 8, 2) := by decide +kernel
theorem dX12_sublet_61 : decode cX12_sublet 61 = .ok (.aload_n 0, 1) := by decide +kernel
theorem dX12_sublet_62 : decode cX12_sublet 62 = .ok (.getfield 281, 3) := by decide +kernel
theorem dX12_sublet_65 : decode cX12_sublet 65 = .ok (.if_icmp .ge 81, 3) := by decide +kernel
theorem dX12_sublet_68 : decode cX12_sublet 68 = .ok (.iload 4, 2) := by decide +kernel
theorem dX12_sublet_70 : decode cX12_sublet 70 = .ok (.iload 8, 2) := by decide +kernel
theorem dX12_sublet_72 : decode cX12_sublet 72 = .ok (.ishr, 1) := by decide +kernel
theorem dX12_sublet_73 : decode cX12_sublet 73 = .ok (.iconst 1, 1) := by decide +kernel
theorem dX12_sublet_74 : decode cX12_sublet 74 = .ok (.iand, 1) := by decide +kernel
theorem dX12_sublet_75 : decode cX12_sublet 75 = .ok (.ifCond .ne 6, 3) := by decide +kernel
theorem dX12_sublet_78 : decode cX12_sublet 78 = .ok (.goto 62, 3) := by decide +kernel
theorem dX12_sublet_81 : decode cX12_sublet 81 = .ok (.aload_n 0, 1) := by decide +kernel
theorem dX12_sublet_82 : decode cX12_sublet 82 = .ok (.iload 8, 2) := by decide +kernel
theorem dX12_sublet_84 : decode cX12_sublet 84 = .ok (.invokevirtual 389, 3) := by decide +kernel
theorem dX12_sublet_87 : decode cX12_sublet 87 = .ok (.istore 9, 2) := by decide +kernel
theorem dX12_sublet_89 : decode cX12_sublet 89 = .ok (.iload 7, 2) := by decide +kernel
theorem dX12_sublet_91 : decode cX12_sublet 91 = .ok (.ifCond .eq 23, 3) := by decide +kernel
theorem dX12_sublet_94 : decode cX12_sublet 94 = .ok (.iload 9, 2) := by decide +kernel
theorem dX12_sublet_96 : decode cX12_sublet 96 = .ok (.bipush 24, 2) := by decide +kernel
theorem dX12_sublet_98 : decode cX12_sublet 98 = .ok (.ishr, 1) := by decide +kernel
theorem dX12_sublet_99 : decode cX12_sublet 99 = .ok (.ifCond .ne 15, 3) := by decide +kernel
theorem dX12_sublet_102 : decode cX12_sublet 102 = .ok (.iload 9, 2) := by decide +kernel
theorem dX12_sublet_104 : decode cX12_sublet 104 = .ok (.iload 5, 2) := by decide +kernel
theorem dX12_sublet_106 : decode cX12_sublet 106 = .ok (.iand, 1) := by decide +kernel
theorem dX12_sublet_107 : decode cX12_sublet 107 = .ok (.ifCond .ne 7, 3) := by decide +kernel
theorem dX12_sublet_110 : decode cX12_sublet 110 = .ok (.iconst 1, 1) := by decide +kernel
theorem dX12_sublet_111 : decode cX12_sublet 111 = .ok (.goto 4, 3) := by decide +kernel
theorem dX12_sublet_114 : decode cX12_sublet 114 = .ok (.iconst 0, 1) := by decide +kernel
theorem dX12_sublet_115 : decode cX12_sublet 115 = .ok (.istore 7, 2) := by decide +kernel
theorem dX12_sublet_117 : decode cX12_sublet 117 = .ok (.iload 5, 2) := by decide +kernel
theorem dX12_sublet_119 : decode cX12_sublet 119 = .ok (.iload 9, 2) := by decide +kernel
theorem dX12_sublet_121 : decode cX12_sublet 121 = .ok (.ior, 1) := by decide +kernel
theorem dX12_sublet_122 : decode cX12_sublet 122 = .ok (.istore 5, 2) := by decide +kernel
theorem dX12_sublet_124 : decode cX12_sublet 124 = .ok (.iload 6, 2) := by decide +kernel
theorem dX12_sublet_126 : decode cX12_sublet 126 = .ok (.aload_n 0, 1) := by decide +kernel
theorem dX12_sublet_127 : decode cX12_sublet 127 = .ok (.getfield 84, 3) := by decide +kernel
theorem dX12_sublet_130 : decode cX12_sublet 130 = .ok (.iconst 3, 1) := by decide +kernel
theorem dX12_sublet_131 : decode cX12_sublet 131 = .ok (.iload 8, 2) := by decide +kernel
theorem dX12_sublet_133 : decode cX12_sublet 133 = .ok (.imul, 1) := by decide +kernel
theorem dX12_sublet_134 : decode cX12_sublet 134 = .ok (.iconst 2, 1) := by decide +kernel
theorem dX12_sublet_135 : decode cX12_sublet 135 = .ok (.iadd, 1) := by decide +kernel
theorem dX12_sublet_136 : decode cX12_sublet 136 = .ok (.iaload, 1) := by decide +kernel
theorem dX12_sublet_137 : decode cX12_sublet 137 = .ok (.iadd, 1) := by decide +kernel
theorem dX12_sublet_138 : decode cX12_sublet 138 = .ok (.istore 6, 2) := by decide +kernel
theorem dX12_sublet_140 : decode cX12_sublet 140 = .ok (.iinc 8 1, 3) := by decide +kernel
theorem dX12_sublet_143 : decode cX12_sublet 143 = .ok (.goto (-84), 3) := by decide +kernel
theorem dX12_sublet_146 : decode cX12_sublet 146 = .ok (.iload 7, 2) := by decide +kernel
theorem dX12_sublet_148 : decode cX12_sublet 148 = .ok (.ifCond .eq 18, 3) := by decide +kernel
theorem dX12_sublet_151 : decode cX12_sublet 151 = .ok (.iload 6, 2) := by decide +kernel
theorem dX12_sublet_153 : decode cX12_sublet 153 = .ok (.iload_n 3, 1) := by decide +kernel
theorem dX12_sublet_154 : decode cX12_sublet 154 = .ok (.if_icmp .gt 6, 3) := by decide +kernel
theorem dX12_sublet_157 : decode cX12_sublet 157 = .ok (.goto 9, 3) := by decide +kernel
theorem dX12_sublet_160 : decode cX12_sublet 160 = .ok (.iload 4, 2) := by decide +kernel
theorem dX12_sublet_162 : decode cX12_sublet 162 = .ok (.istore_n 2, 1) := by decide +kernel
theorem dX12_sublet_163 : decode cX12_sublet 163 = .ok (.iload 6, 2) := by decide +kernel
theorem dX12_sublet_165 : decode cX12_sublet 165 = .ok (.istore_n 3, 1) := by decide +kernel
theorem dX12_sublet_166 : decode cX12_sublet 166 = .ok (.iinc 4 1, 3) := by decide +kernel
theorem dX12_sublet_169 : decode cX12_sublet 169 = .ok (.goto (-133), 3) := by decide +kernel
theorem dX12_sublet_172 : decode cX12_sublet 172 = .ok (.iload_n 1, 1) := by decide +kernel
theorem dX12_sublet_173 : decode cX12_sublet 173 = .ok (.ifCond .ne 7, 3) := by decide +kernel
theorem dX12_sublet_176 : decode cX12_sublet 176 = .ok (.iload_n 3, 1) := by decide +kernel
theorem dX12_sublet_177 : decode cX12_sublet 177 = .ok (.goto 4, 3) := by decide +kernel
theorem dX12_sublet_180 : decode cX12_sublet 180 = .ok (.iload_n 2, 1) := by decide +kernel
theorem dX12_sublet_181 : decode cX12_sublet 181 = .ok (.ireturn, 1) := by decide +kernel
def fX12_sublet_0_L59 (E146 : Int32 → Int32 → Int32 → Int32 → Int32 → Int32 → (Nat → Int32) → Option (Int32 × (Nat → Int32))) (V : Nat → Nat → Int32) : Nat → Int32 → Int32 → Int32 → Int32 → Int32 → Int32 → Int32 → Int32 → (Nat → Int32) → Option (Int32 × (Nat → Int32))
  | 0, _, _, _, _, _, _, _, _, _ => none
  | n + 1, x16, x17, x18, x19, x20, x21, x22, x23, S24 =>
    (if (S24 53) ≤ x23 then
    E146 x16 x17 x18 x19 x21 x22 S24
    else
    bk (fun (x27 : Int32) (x28 : Int32) (x29 : Int32) (x30 : Int32) (x31 : Int32) (x32 : Int32) (x33 : Int32) (x34 : Int32) (S35 : Nat → Int32) =>
    lt (x34 + (1 : Int32)) (fun x36 =>
    fX12_sublet_0_L59 E146 V n x27 x28 x29 x30 x31 x32 x33 x36 S35)) (fun K140_26 =>
    (if ((x19 >>> (x23 &&& 31)) &&& (1 : Int32)) = 0 then
    K140_26 x16 x17 x18 x19 x20 x21 x22 x23 S24
    else
    bd1 (fX12_hoursOfOffer_0 S24 V x23) (fun r38 =>
    bk (fun (x41 : Int32) (x42 : Int32) (x43 : Int32) (x44 : Int32) (x45 : Int32) (x46 : Int32) (x47 : Int32) (x48 : Int32) (x49 : Int32) (S50 : Nat → Int32) =>
    lt ((x45 ||| x48)) (fun x51 =>
    lt ((((3 : Int32) * x47) + (2 : Int32))) (fun x52 =>
    gd (ib x52 24) (
    lt ((x46 + (V 21 (x52).toNatClampNeg))) (fun x54 =>
    K140_26 x41 x42 x43 x44 x51 x54 x49 x47 S50))))) (fun K115_40 =>
    bk (fun (x56 : Int32) (x57 : Int32) (x58 : Int32) (x59 : Int32) (x60 : Int32) (x61 : Int32) (x62 : Int32) (x63 : Int32) (S64 : Nat → Int32) =>
    K115_40 x56 x57 x58 x59 x60 x61 x62 x63 (0 : Int32) S64) (fun K114_55 =>
    (if x22 = 0 then
    K114_55 x16 x17 x18 x19 x20 x21 x23 r38 S24
    else
    (if (r38 >>> ((24 : Int32) &&& 31)) = 0 then
    (if (r38 &&& x20) = 0 then
    K115_40 x16 x17 x18 x19 x20 x21 x23 r38 (1 : Int32) S24
    else
    K114_55 x16 x17 x18 x19 x20 x21 x23 r38 S24)
    else
    K114_55 x16 x17 x18 x19 x20 x21 x23 r38 S24))))))))
def fX12_sublet_0_L36 (E172 : Int32 → Int32 → Int32 → (Nat → Int32) → Option (Int32 × (Nat → Int32))) (V : Nat → Nat → Int32) : Nat → Int32 → Int32 → Int32 → Int32 → (Nat → Int32) → Option (Int32 × (Nat → Int32))
  | 0, _, _, _, _, _ => none
  | n + 1, x10, x11, x12, x13, S14 =>
    (if ((1 : Int32) <<< ((S14 53) &&& 31)) ≤ x13 then
    E172 x10 x11 x12 S14
    else
    bk (fun (x76 : Int32) (x77 : Int32) (x78 : Int32) (x79 : Int32) (x80 : Int32) (x81 : Int32) (S82 : Nat → Int32) =>
    bk (fun (x84 : Int32) (x85 : Int32) (x86 : Int32) (x87 : Int32) (S88 : Nat → Int32) =>
    lt (x87 + (1 : Int32)) (fun x89 =>
    fX12_sublet_0_L36 E172 V n x84 x85 x86 x89 S88)) (fun K166_83 =>
    (if x81 = 0 then
    K166_83 x76 x77 x78 x79 S82
    else
    (if x78 < x80 then
    K166_83 x76 x79 x80 x79 S82
    else
    K166_83 x76 x77 x78 x79 S82)))) (fun X146_75 =>
    fX12_sublet_0_L59 X146_75 V FU x10 x11 x12 x13 (0 : Int32) (0 : Int32) (1 : Int32) (0 : Int32) S14))
def fX12_sublet_0 (S : Nat → Int32) (V : Nat → Nat → Int32) (a1 : Int32) : Option (Int32 × (Nat → Int32)) :=
  lt (va_up S 0 (0 : Int32)) (fun S1 =>
  bk (fun (x3 : Int32) (x4 : Int32) (S5 : Nat → Int32) =>
  bd2 (fX12_right_0 S5 x4 (1 : Int32)) (fun r6 S7 =>
  (if r6 = 0 then
  some ((0 : Int32), S7)
  else
  bk (fun (x97 : Int32) (x98 : Int32) (x99 : Int32) (S100 : Nat → Int32) =>
  (if x97 = 0 then
  some (x99, S100)
  else
  some (x98, S100))) (fun X172_96 =>
  fX12_sublet_0_L36 X172_96 V FU x3 (0 : Int32) (0 : Int32) (1 : Int32) S7)))) (fun K20_2 =>
  bk (fun (x103 : Int32) (S104 : Nat → Int32) =>
  K20_2 x103 (1 : Int32) S104) (fun K15_102 =>
  (if a1 = 0 then
  K15_102 a1 S1
  else
  (if a1 = (1 : Int32) then
  K15_102 a1 S1
  else
  K20_2 a1 (0 : Int32) S1)))))
set_option maxHeartbeats 4000000 in
set_option maxRecDepth 100000 in
theorem kX12_sublet_0 (l : Launch) (B : jBT) (D : va_G) (ad : Nat → Nat) (cA : Nat → ClassId) (hI : jI ad TR) (S : Nat → Int32) (V : Nat → Nat → Int32) (L : Nat → Int64) (a1 : Int32) (r0 : Int32) (S0 : Nat → Int32) (h : fX12_sublet_0 S V a1 = some (r0, S0)) : jM l yX12_sublet cX12_sublet 10 (some .int) ({ frames := 2, cells := 0, slots := 0, locals := 48 }) B D TR ad cA [.ref (ad 0), .int a1] S V L (some (.int r0)) S0 V L := by
  refine jM_of (plainFor_of_name (by decide)) TR_ok hI (Nat.le_of_ble_eq_true rfl) ?_
  intro p e s m args below meth c C hr hlk
  refine j_lv (lv2 := [(0, .ref (ad 0)), (1, .int a1)]) rfl ?_
  unfold fX12_sublet_0 at h
  have H_fX12_sublet_0_L59 : ∀ (E146 : Int32 → Int32 → Int32 → Int32 → Int32 → Int32 → (Nat → Int32) → Option (Int32 × (Nat → Int32))) (_ : ∀ (x68 : Int32) (x69 : Int32) (x70 : Int32) (x71 : Int32) (x72 : Int32) (x73 : Int32) (S74 : Nat → Int32), E146 x68 x69 x70 x71 x72 x73 S74 = some (r0, S0) → jW p l e ({ frames := 2, cells := 0, slots := 0, locals := 48 }) s m args below meth c (MQ below (jQc D TR ad cA (some (.int r0)) s.heap.size S0 V L) args s 0 0 (jA ad TR s.heap.size)) D TR ad cA (jA ad TR s.heap.size) 10 0 0 146 [(0, .ref (ad 0)), (1, .int x68), (2, .int x69), (3, .int x70), (4, .int x71), (6, .int x72), (7, .int x73)] [] S74 V L) (n : Nat) (x16 : Int32) (x17 : Int32) (x18 : Int32) (x19 : Int32) (x20 : Int32) (x21 : Int32) (x22 : Int32) (x23 : Int32) (S24 : Nat → Int32), fX12_sublet_0_L59 E146 V n x16 x17 x18 x19 x20 x21 x22 x23 S24 = some (r0, S0) → jW p l e ({ frames := 2, cells := 0, slots := 0, locals := 48 }) s m args below meth c (MQ below (jQc D TR ad cA (some (.int r0)) s.heap.size S0 V L) args s 0 0 (jA ad TR s.heap.size)) D TR ad cA (jA ad TR s.heap.size) 10 0 0 59 [(0, .ref (ad 0)), (1, .int x16), (2, .int x17), (3, .int x18), (4, .int x19), (5, .int x20), (6, .int x21), (7, .int x22), (8, .int x23)] [] S24 V L := by
    intro E146 HE146
    intro n
    induction n with
    | zero =>
      intro x16 x17 x18 x19 x20 x21 x22 x23 S24 h
      cases (show (none : Option (Int32 × (Nat → Int32))) = some (r0, S0) from h)
    | succ n ih =>
      intro x16 x17 x18 x19 x20 x21 x22 x23 S24 h
      unfold fX12_sublet_0_L59 at h
      refine j_iload C 8 rfl dX12_sublet_59 ?_
      refine j_aload_n C 0 rfl dX12_sublet_61 rfl ?_
      refine fg_X12_281_TR_0 C dX12_sublet_62 ?_
      refine j_icmp_ge (tgt := 146) C dX12_sublet_65 (by decide) (fun c25 => ?_) (fun c25 => ?_)
      · have h := (if_pos c25).symm.trans h
        exact j_sub [0, 1, 2, 3, 4, 6, 7] rfl (HE146 _ _ _ _ _ _ _ h)
      · have h := (if_neg c25).symm.trans h
        refine j_iload C 4 rfl dX12_sublet_68 ?_
        refine j_iload C 8 rfl dX12_sublet_70 ?_
        refine j_ishr C dX12_sublet_72 ?_
        refine j_iconst C dX12_sublet_73 ci_1 ?_
        refine j_iand C dX12_sublet_74 ?_
        refine bk_elim h (fun K140_26 e_K140_26 h => ?_)
        have HK140_26 : ∀ (x27 : Int32) (x28 : Int32) (x29 : Int32) (x30 : Int32) (x31 : Int32) (x32 : Int32) (x33 : Int32) (x34 : Int32) (S35 : Nat → Int32), K140_26 x27 x28 x29 x30 x31 x32 x33 x34 S35 = some (r0, S0) → jW p l e ({ frames := 2, cells := 0, slots := 0, locals := 48 }) s m args below meth c (MQ below (jQc D TR ad cA (some (.int r0)) s.heap.size S0 V L) args s 0 0 (jA ad TR s.heap.size)) D TR ad cA (jA ad TR s.heap.size) 10 0 0 140 [(0, .ref (ad 0)), (1, .int x27), (2, .int x28), (3, .int x29), (4, .int x30), (5, .int x31), (6, .int x32), (7, .int x33), (8, .int x34)] [] S35 V L := by
          subst e_K140_26
          intro x27 x28 x29 x30 x31 x32 x33 x34 S35 h
          refine lt_elim h (fun x36 e_x36 h => ?_)
          refine j_iinc C [(8, .int x36), (0, .ref (ad 0)), (1, .int x27), (2, .int x28), (3, .int x29), (4, .int x30), (5, .int x31), (6, .int x32), (7, .int x33)] 8 dX12_sublet_140 rfl ((iinc_eq ci_1).trans e_x36.symm) (by decide) rfl ?_
          refine j_goto (tgt := 59) C dX12_sublet_143 (by decide) ?_
          exact j_sub [1, 2, 3, 4, 5, 6, 7, 8, 0] rfl (ih _ _ _ _ _ _ _ _ _ h)
        refine j_if_ne (tgt := 81) C dX12_sublet_75 (by decide) (fun c37 => ?_) (fun c37 => ?_)
        · have h := (if_neg c37).symm.trans h
          refine j_aload_n C 0 rfl dX12_sublet_81 rfl ?_
          refine j_iload C 8 rfl dX12_sublet_82 ?_
          obtain ⟨r38, h39, h⟩ := bd1_elim h
          refine j_callV (As := [.int x23]) (rest := []) C (kX12_hoursOfOffer_0 l B D ad cA hI S24 V L x23 _ h39) mw_X12_hoursOfOffer wd1934 wd101 wd1932 tr_0 rfl rfl ⟨rfl, rfl, by decide, by decide⟩ ⟨Nat.zero_le _, Nat.zero_le _⟩ rfl rfl (Nat.le_of_ble_eq_true rfl) dX12_sublet_84 ?_
          refine j_istore C [(9, .int r38), (0, .ref (ad 0)), (1, .int x16), (2, .int x17), (3, .int x18), (4, .int x19), (5, .int x20), (6, .int x21), (7, .int x22), (8, .int x23)] dX12_sublet_87 (by decide) rfl ?_
          refine j_iload C 8 rfl dX12_sublet_89 ?_
          refine bk_elim h (fun K115_40 e_K115_40 h => ?_)
          have HK115_40 : ∀ (x41 : Int32) (x42 : Int32) (x43 : Int32) (x44 : Int32) (x45 : Int32) (x46 : Int32) (x47 : Int32) (x48 : Int32) (x49 : Int32) (S50 : Nat → Int32), K115_40 x41 x42 x43 x44 x45 x46 x47 x48 x49 S50 = some (r0, S0) → jW p l e ({ frames := 2, cells := 0, slots := 0, locals := 48 }) s m args below meth c (MQ below (jQc D TR ad cA (some (.int r0)) s.heap.size S0 V L) args s 0 0 (jA ad TR s.heap.size)) D TR ad cA (jA ad TR s.heap.size) 10 0 0 115 [(0, .ref (ad 0)), (1, .int x41), (2, .int x42), (3, .int x43), (4, .int x44), (5, .int x45), (6, .int x46), (8, .int x47), (9, .int x48)] [.int x49] S50 V L := by
            subst e_K115_40
            intro x41 x42 x43 x44 x45 x46 x47 x48 x49 S50 h
            refine j_istore C [(7, .int x49), (0, .ref (ad 0)), (1, .int x41), (2, .int x42), (3, .int x43), (4, .int x44), (5, .int x45), (6, .int x46), (8, .int x47), (9, .int x48)] dX12_sublet_115 (by decide) rfl ?_
            refine j_iload C 6 rfl dX12_sublet_117 ?_
            refine j_iload C 9 rfl dX12_sublet_119 ?_
            refine j_ior C dX12_sublet_121 ?_
            refine lt_elim h (fun x51 e_x51 h => ?_)
            refine j_top e_x51 ?_
            refine j_istore C [(5, .int x51), (7, .int x49), (0, .ref (ad 0)), (1, .int x41), (2, .int x42), (3, .int x43), (4, .int x44), (6, .int x46), (8, .int x47), (9, .int x48)] dX12_sublet_122 (by decide) rfl ?_
            refine j_iload C 7 rfl dX12_sublet_124 ?_
            refine j_aload_n C 2 rfl dX12_sublet_126 rfl ?_
            refine fg_X12_84_TR_0 C dX12_sublet_127 ?_
            refine j_iconst C dX12_sublet_130 ci_3 ?_
            refine j_iload C 8 rfl dX12_sublet_131 ?_
            refine j_imul C dX12_sublet_133 ?_
            refine j_iconst C dX12_sublet_134 ci_2 ?_
            refine j_iadd C dX12_sublet_135 ?_
            refine lt_elim h (fun x52 e_x52 h => ?_)
            refine j_top e_x52 ?_
            obtain ⟨g53, h⟩ := gd_elim h
            refine j_iald C tr_21 (ib_in g53) dX12_sublet_136 ?_
            refine j_iadd C dX12_sublet_137 ?_
            refine lt_elim h (fun x54 e_x54 h => ?_)
            refine j_top e_x54 ?_
            refine j_istore C [(6, .int x54), (5, .int x51), (7, .int x49), (0, .ref (ad 0)), (1, .int x41), (2, .int x42), (3, .int x43), (4, .int x44), (8, .int x47), (9, .int x48)] dX12_sublet_138 (by decide) rfl ?_
            exact j_sub [3, 4, 5, 6, 7, 1, 0, 2, 8] rfl (HK140_26 _ _ _ _ _ _ _ _ _ h)
          refine bk_elim h (fun K114_55 e_K114_55 h => ?_)
          have HK114_55 : ∀ (x56 : Int32) (x57 : Int32) (x58 : Int32) (x59 : Int32) (x60 : Int32) (x61 : Int32) (x62 : Int32) (x63 : Int32) (S64 : Nat → Int32), K114_55 x56 x57 x58 x59 x60 x61 x62 x63 S64 = some (r0, S0) → jW p l e ({ frames := 2, cells := 0, slots := 0, locals := 48 }) s m args below meth c (MQ below (jQc D TR ad cA (some (.int r0)) s.heap.size S0 V L) args s 0 0 (jA ad TR s.heap.size)) D TR ad cA (jA ad TR s.heap.size) 10 0 0 114 [(0, .ref (ad 0)), (1, .int x56), (2, .int x57), (3, .int x58), (4, .int x59), (5, .int x60), (6, .int x61), (8, .int x62), (9, .int x63)] [] S64 V L := by
            subst e_K114_55
            intro x56 x57 x58 x59 x60 x61 x62 x63 S64 h
            refine j_iconst C dX12_sublet_114 ci_0 ?_
            exact j_sub [0, 1, 2, 3, 4, 5, 6, 7, 8] rfl (HK115_40 _ _ _ _ _ _ _ _ _ _ h)
          refine j_if_eq (tgt := 114) C dX12_sublet_91 (by decide) (fun c65 => ?_) (fun c65 => ?_)
          · have h := (if_pos c65).symm.trans h
            exact j_sub [1, 2, 3, 4, 5, 6, 7, 9, 0] rfl (HK114_55 _ _ _ _ _ _ _ _ _ h)
          · have h := (if_neg c65).symm.trans h
            refine j_iload C 0 rfl dX12_sublet_94 ?_
            refine j_bipush C dX12_sublet_96 cb_24 ?_
            refine j_ishr C dX12_sublet_98 ?_
            refine j_if_ne (tgt := 114) C dX12_sublet_99 (by decide) (fun c66 => ?_) (fun c66 => ?_)
            · have h := (if_neg c66).symm.trans h
              exact j_sub [1, 2, 3, 4, 5, 6, 7, 9, 0] rfl (HK114_55 _ _ _ _ _ _ _ _ _ h)
            · have h := (if_pos c66).symm.trans h
              refine j_iload C 0 rfl dX12_sublet_102 ?_
              refine j_iload C 6 rfl dX12_sublet_104 ?_
              refine j_iand C dX12_sublet_106 ?_
              refine j_if_ne (tgt := 114) C dX12_sublet_107 (by decide) (fun c67 => ?_) (fun c67 => ?_)
              · have h := (if_neg c67).symm.trans h
                exact j_sub [1, 2, 3, 4, 5, 6, 7, 9, 0] rfl (HK114_55 _ _ _ _ _ _ _ _ _ h)
              · have h := (if_pos c67).symm.trans h
                refine j_iconst C dX12_sublet_110 ci_1 ?_
                refine j_goto (tgt := 115) C dX12_sublet_111 (by decide) ?_
                exact j_sub [1, 2, 3, 4, 5, 6, 7, 9, 0] rfl (HK115_40 _ _ _ _ _ _ _ _ _ _ h)
        · have h := (if_pos c37).symm.trans h
          refine j_goto (tgt := 140) C dX12_sublet_78 (by decide) ?_
          exact j_sub [0, 1, 2, 3, 4, 5, 6, 7, 8] rfl (HK140_26 _ _ _ _ _ _ _ _ _ h)
  have H_fX12_sublet_0_L36 : ∀ (E172 : Int32 → Int32 → Int32 → (Nat → Int32) → Option (Int32 × (Nat → Int32))) (_ : ∀ (x92 : Int32) (x93 : Int32) (x94 : Int32) (S95 : Nat → Int32), E172 x92 x93 x94 S95 = some (r0, S0) → jW p l e ({ frames := 2, cells := 0, slots := 0, locals := 48 }) s m args below meth c (MQ below (jQc D TR ad cA (some (.int r0)) s.heap.size S0 V L) args s 0 0 (jA ad TR s.heap.size)) D TR ad cA (jA ad TR s.heap.size) 10 0 0 172 [(1, .int x92), (2, .int x93), (3, .int x94)] [] S95 V L) (n : Nat) (x10 : Int32) (x11 : Int32) (x12 : Int32) (x13 : Int32) (S14 : Nat → Int32), fX12_sublet_0_L36 E172 V n x10 x11 x12 x13 S14 = some (r0, S0) → jW p l e ({ frames := 2, cells := 0, slots := 0, locals := 48 }) s m args below meth c (MQ below (jQc D TR ad cA (some (.int r0)) s.heap.size S0 V L) args s 0 0 (jA ad TR s.heap.size)) D TR ad cA (jA ad TR s.heap.size) 10 0 0 36 [(0, .ref (ad 0)), (1, .int x10), (2, .int x11), (3, .int x12), (4, .int x13)] [] S14 V L := by
    intro E172 HE172
    intro n
    induction n with
    | zero =>
      intro x10 x11 x12 x13 S14 h
      cases (show (none : Option (Int32 × (Nat → Int32))) = some (r0, S0) from h)
    | succ n ih =>
      intro x10 x11 x12 x13 S14 h
      unfold fX12_sublet_0_L36 at h
      refine j_iload C 4 rfl dX12_sublet_36 ?_
      refine j_iconst C dX12_sublet_38 ci_1 ?_
      refine j_aload_n C 0 rfl dX12_sublet_39 rfl ?_
      refine fg_X12_281_TR_0 C dX12_sublet_40 ?_
      refine j_ishl C dX12_sublet_43 ?_
      refine j_icmp_ge (tgt := 172) C dX12_sublet_44 (by decide) (fun c15 => ?_) (fun c15 => ?_)
      · have h := (if_pos c15).symm.trans h
        exact j_sub [1, 2, 3] rfl (HE172 _ _ _ _ h)
      · have h := (if_neg c15).symm.trans h
        refine j_iconst C dX12_sublet_47 ci_0 ?_
        refine j_istore C [(5, .int (0 : Int32)), (0, .ref (ad 0)), (1, .int x10), (2, .int x11), (3, .int x12), (4, .int x13)] dX12_sublet_48 (by decide) rfl ?_
        refine j_iconst C dX12_sublet_50 ci_0 ?_
        refine j_istore C [(6, .int (0 : Int32)), (5, .int (0 : Int32)), (0, .ref (ad 0)), (1, .int x10), (2, .int x11), (3, .int x12), (4, .int x13)] dX12_sublet_51 (by decide) rfl ?_
        refine j_iconst C dX12_sublet_53 ci_1 ?_
        refine j_istore C [(7, .int (1 : Int32)), (6, .int (0 : Int32)), (5, .int (0 : Int32)), (0, .ref (ad 0)), (1, .int x10), (2, .int x11), (3, .int x12), (4, .int x13)] dX12_sublet_54 (by decide) rfl ?_
        refine j_iconst C dX12_sublet_56 ci_0 ?_
        refine j_istore C [(8, .int (0 : Int32)), (7, .int (1 : Int32)), (6, .int (0 : Int32)), (5, .int (0 : Int32)), (0, .ref (ad 0)), (1, .int x10), (2, .int x11), (3, .int x12), (4, .int x13)] dX12_sublet_57 (by decide) rfl ?_
        refine bk_elim h (fun X146_75 e_X146_75 h => ?_)
        have HX146_75 : ∀ (x76 : Int32) (x77 : Int32) (x78 : Int32) (x79 : Int32) (x80 : Int32) (x81 : Int32) (S82 : Nat → Int32), X146_75 x76 x77 x78 x79 x80 x81 S82 = some (r0, S0) → jW p l e ({ frames := 2, cells := 0, slots := 0, locals := 48 }) s m args below meth c (MQ below (jQc D TR ad cA (some (.int r0)) s.heap.size S0 V L) args s 0 0 (jA ad TR s.heap.size)) D TR ad cA (jA ad TR s.heap.size) 10 0 0 146 [(0, .ref (ad 0)), (1, .int x76), (2, .int x77), (3, .int x78), (4, .int x79), (6, .int x80), (7, .int x81)] [] S82 V L := by
          subst e_X146_75
          intro x76 x77 x78 x79 x80 x81 S82 h
          refine j_iload C 6 rfl dX12_sublet_146 ?_
          refine bk_elim h (fun K166_83 e_K166_83 h => ?_)
          have HK166_83 : ∀ (x84 : Int32) (x85 : Int32) (x86 : Int32) (x87 : Int32) (S88 : Nat → Int32), K166_83 x84 x85 x86 x87 S88 = some (r0, S0) → jW p l e ({ frames := 2, cells := 0, slots := 0, locals := 48 }) s m args below meth c (MQ below (jQc D TR ad cA (some (.int r0)) s.heap.size S0 V L) args s 0 0 (jA ad TR s.heap.size)) D TR ad cA (jA ad TR s.heap.size) 10 0 0 166 [(0, .ref (ad 0)), (1, .int x84), (2, .int x85), (3, .int x86), (4, .int x87)] [] S88 V L := by
            subst e_K166_83
            intro x84 x85 x86 x87 S88 h
            refine lt_elim h (fun x89 e_x89 h => ?_)
            refine j_iinc C [(4, .int x89), (0, .ref (ad 0)), (1, .int x84), (2, .int x85), (3, .int x86)] 4 dX12_sublet_166 rfl ((iinc_eq ci_1).trans e_x89.symm) (by decide) rfl ?_
            refine j_goto (tgt := 36) C dX12_sublet_169 (by decide) ?_
            exact j_sub [1, 2, 3, 4, 0] rfl (ih _ _ _ _ _ h)
          refine j_if_eq (tgt := 166) C dX12_sublet_148 (by decide) (fun c90 => ?_) (fun c90 => ?_)
          · have h := (if_pos c90).symm.trans h
            exact j_sub [0, 1, 2, 3, 4] rfl (HK166_83 _ _ _ _ _ h)
          · have h := (if_neg c90).symm.trans h
            refine j_iload C 5 rfl dX12_sublet_151 ?_
            refine j_iload_n C 3 rfl dX12_sublet_153 rfl ?_
            refine j_icmp_gt (tgt := 160) C dX12_sublet_154 (by decide) (fun c91 => ?_) (fun c91 => ?_)
            · have h := (if_pos c91).symm.trans h
              refine j_iload C 4 rfl dX12_sublet_160 ?_
              refine j_istore_n C [(2, .int x79), (0, .ref (ad 0)), (1, .int x76), (3, .int x78), (4, .int x79), (6, .int x80), (7, .int x81)] dX12_sublet_162 rfl (by decide) rfl ?_
              refine j_iload C 5 rfl dX12_sublet_163 ?_
              refine j_istore_n C [(3, .int x80), (2, .int x79), (0, .ref (ad 0)), (1, .int x76), (4, .int x79), (6, .int x80), (7, .int x81)] dX12_sublet_165 rfl (by decide) rfl ?_
              exact j_sub [2, 3, 1, 0, 4] rfl (HK166_83 _ _ _ _ _ h)
            · have h := (if_neg c91).symm.trans h
              refine j_goto (tgt := 166) C dX12_sublet_157 (by decide) ?_
              exact j_sub [0, 1, 2, 3, 4] rfl (HK166_83 _ _ _ _ _ h)
        exact j_sub [4, 5, 6, 7, 8, 3, 2, 1, 0] rfl (H_fX12_sublet_0_L59 _ HX146_75 FU _ _ _ _ _ _ _ _ _ h)
  refine j_aload_n C 0 rfl dX12_sublet_0 rfl ?_
  refine j_iconst C dX12_sublet_1 ci_0 ?_
  refine fp_X12_93_TR_0 C dX12_sublet_2 ?_
  refine lt_elim h (fun S1 e_S1 h => ?_)
  refine j_S e_S1 ?_
  refine j_aload_n C 0 rfl dX12_sublet_5 rfl ?_
  refine j_iload_n C 1 rfl dX12_sublet_6 rfl ?_
  refine bk_elim h (fun K20_2 e_K20_2 h => ?_)
  have HK20_2 : ∀ (x3 : Int32) (x4 : Int32) (S5 : Nat → Int32), K20_2 x3 x4 S5 = some (r0, S0) → jW p l e ({ frames := 2, cells := 0, slots := 0, locals := 48 }) s m args below meth c (MQ below (jQc D TR ad cA (some (.int r0)) s.heap.size S0 V L) args s 0 0 (jA ad TR s.heap.size)) D TR ad cA (jA ad TR s.heap.size) 10 0 0 20 [(0, .ref (ad 0)), (1, .int x3)] [.int x4, .ref (ad 0)] S5 V L := by
    subst e_K20_2
    intro x3 x4 S5 h
    refine j_iconst C dX12_sublet_20 ci_1 ?_
    obtain ⟨r6, S7, h8, h⟩ := bd2_elim h
    refine j_callV (As := [.int x4, .int (1 : Int32)]) (rest := []) C (kX12_right_0 l B D ad cA hI S5 V L x4 (1 : Int32) _ _ h8) mw_X12_right wd1638 wd56 wd1636 tr_0 rfl rfl ⟨rfl, rfl, by decide, by decide⟩ ⟨Nat.zero_le _, Nat.zero_le _⟩ rfl rfl (Nat.le_of_ble_eq_true rfl) dX12_sublet_21 ?_
    refine j_if_ne (tgt := 29) C dX12_sublet_24 (by decide) (fun c9 => ?_) (fun c9 => ?_)
    · have h := (if_neg c9).symm.trans h
      refine j_iconst C dX12_sublet_29 ci_0 ?_
      refine j_istore_n C [(2, .int (0 : Int32)), (0, .ref (ad 0)), (1, .int x3)] dX12_sublet_30 rfl (by decide) rfl ?_
      refine j_iconst C dX12_sublet_31 ci_0 ?_
      refine j_istore_n C [(3, .int (0 : Int32)), (2, .int (0 : Int32)), (0, .ref (ad 0)), (1, .int x3)] dX12_sublet_32 rfl (by decide) rfl ?_
      refine j_iconst C dX12_sublet_33 ci_1 ?_
      refine j_istore C [(4, .int (1 : Int32)), (3, .int (0 : Int32)), (2, .int (0 : Int32)), (0, .ref (ad 0)), (1, .int x3)] dX12_sublet_34 (by decide) rfl ?_
      refine bk_elim h (fun X172_96 e_X172_96 h => ?_)
      have HX172_96 : ∀ (x97 : Int32) (x98 : Int32) (x99 : Int32) (S100 : Nat → Int32), X172_96 x97 x98 x99 S100 = some (r0, S0) → jW p l e ({ frames := 2, cells := 0, slots := 0, locals := 48 }) s m args below meth c (MQ below (jQc D TR ad cA (some (.int r0)) s.heap.size S0 V L) args s 0 0 (jA ad TR s.heap.size)) D TR ad cA (jA ad TR s.heap.size) 10 0 0 172 [(1, .int x97), (2, .int x98), (3, .int x99)] [] S100 V L := by
        subst e_X172_96
        intro x97 x98 x99 S100 h
        refine j_iload_n C 0 rfl dX12_sublet_172 rfl ?_
        refine j_if_ne (tgt := 180) C dX12_sublet_173 (by decide) (fun c101 => ?_) (fun c101 => ?_)
        · have h := (if_neg c101).symm.trans h
          refine j_iload_n C 1 rfl dX12_sublet_180 rfl ?_
          cases h
          exact j_iret C hr hlk rfl dX12_sublet_181
        · have h := (if_pos c101).symm.trans h
          refine j_iload_n C 2 rfl dX12_sublet_176 rfl ?_
          refine j_goto (tgt := 181) C dX12_sublet_177 (by decide) ?_
          cases h
          exact j_iret C hr hlk rfl dX12_sublet_181
      exact j_sub [3, 4, 2, 1, 0] rfl (H_fX12_sublet_0_L36 _ HX172_96 FU _ _ _ _ _ h)
    · have h := (if_pos c9).symm.trans h
      refine j_iconst C dX12_sublet_27 ci_0 ?_
      cases h
      exact j_iret C hr hlk rfl dX12_sublet_28
  refine bk_elim h (fun K15_102 e_K15_102 h => ?_)
  have HK15_102 : ∀ (x103 : Int32) (S104 : Nat → Int32), K15_102 x103 S104 = some (r0, S0) → jW p l e ({ frames := 2, cells := 0, slots := 0, locals := 48 }) s m args below meth c (MQ below (jQc D TR ad cA (some (.int r0)) s.heap.size S0 V L) args s 0 0 (jA ad TR s.heap.size)) D TR ad cA (jA ad TR s.heap.size) 10 0 0 15 [(0, .ref (ad 0)), (1, .int x103)] [.ref (ad 0)] S104 V L := by
    subst e_K15_102
    intro x103 S104 h
    refine j_iconst C dX12_sublet_15 ci_1 ?_
    refine j_goto (tgt := 20) C dX12_sublet_16 (by decide) ?_
    exact j_sub [0, 1] rfl (HK20_2 _ _ _ h)
  refine j_if_eq (tgt := 15) C dX12_sublet_7 (by decide) (fun c105 => ?_) (fun c105 => ?_)
  · have h := (if_pos c105).symm.trans h
    exact j_sub [0, 1] rfl (HK15_102 _ _ h)
  · have h := (if_neg c105).symm.trans h
    refine j_iload_n C 1 rfl dX12_sublet_10 rfl ?_
    refine j_iconst C dX12_sublet_11 ci_1 ?_
    refine j_icmp_ne (tgt := 19) C dX12_sublet_12 (by decide) (fun c106 => ?_) (fun c106 => ?_)
    · have h := (if_neg c106).symm.trans h
      refine j_iconst C dX12_sublet_19 ci_0 ?_
      exact j_sub [0, 1] rfl (HK20_2 _ _ _ h)
    · have h := (if_pos c106).symm.trans h
      exact j_sub [0, 1] rfl (HK15_102 _ _ h)
theorem dX12_swing_0 : decode cX12_swing 0 = .ok (.aload_n 0, 1) := by decide +kernel
theorem dX12_swing_1 : decode cX12_swing 1 = .ok (.iconst 0, 1) := by decide +kernel
theorem dX12_swing_2 : decode cX12_swing 2 = .ok (.putfield 93, 3) := by decide +kernel
theorem dX12_swing_5 : decode cX12_swing 5 = .ok (.aload_n 0, 1) := by decide +kernel
theorem dX12_swing_6 : decode cX12_swing 6 = .ok (.iload_n 1, 1) := by decide +kernel
theorem dX12_swing_7 : decode cX12_swing 7 = .ok (.invokevirtual 342, 3) := by decide +kernel
theorem dX12_swing_10 : decode cX12_swing 10 = .ok (.ifCond .eq 29, 3) := by decide +kernel
theorem dX12_swing_13 : decode cX12_swing 13 = .ok (.aload_n 0, 1) := by decide +kernel
theorem dX12_swing_14 : decode cX12_swing 14 = .ok (.iload_n 2, 1) := by decide +kernel
theorem dX12_swing_15 : decode cX12_swing 15 = .ok (.iconst 2, 1) := by decide +kernel
theorem dX12_swing_16 : decode cX12_swing 16 = .ok (.invokevirtual 358, 3) := by decide +kernel
theorem dX12_swing_19 : decode cX12_swing 19 = .ok (.ifCond .eq 20, 3) := by decide +kernel
theorem dX12_swing_22 : decode cX12_swing 22 = .ok (.aload_n 0, 1) := by decide +kernel
theorem dX12_swing_23 : decode cX12_swing 23 = .ok (.aload_n 0, 1) := by decide +kernel
theorem dX12_swing_24 : decode cX12_swing 24 = .ok (.getfield 60, 3) := by decide +kernel
theorem dX12_swing_27 : decode cX12_swing 27 = .ok (.aload_n 0, 1) := by decide +kernel
theorem dX12_swing_28 : decode cX12_swing 28 = .ok (.getfield 278, 3) := by decide +kernel
theorem dX12_swing_31 : decode cX12_swing 31 = .ok (.iload_n 1, 1) := by decide +kernel
theorem dX12_swing_32 : decode cX12_swing 32 = .ok (.iload_n 2, 1) := by decide +kernel
theorem dX12_swing_33 : decode cX12_swing 33 = .ok (.invokevirtual 351, 3) := by decide +kernel
theorem dX12_swing_36 : decode cX12_swing 36 = .ok (.goto 4, 3) := by decide +kernel
theorem dX12_swing_39 : decode cX12_swing 39 = .ok (.iconst 0, 1) := by decide +kernel
theorem dX12_swing_40 : decode cX12_swing 40 = .ok (.ireturn, 1) := by decide +kernel
def fX12_swing_0 (S : Nat → Int32) (V : Nat → Nat → Int32) (a1 : Int32) (a2 : Int32) : Option (Int32 × (Nat → Int32)) :=
  lt (va_up S 0 (0 : Int32)) (fun S1 =>
  bd2 (fX12_isHour_0 S1 a1) (fun r2 S3 =>
  (if r2 = 0 then
  some ((0 : Int32), S3)
  else
  bd2 (fX12_isDay_0 S3 a2 (2 : Int32)) (fun r6 S7 =>
  (if r6 = 0 then
  some ((0 : Int32), S7)
  else
  bd1 (fX12_swingOf_0_13 S7 V ((S7 42)) a1 a2) (fun r10 =>
  some (r10, S7)))))))
set_option maxHeartbeats 4000000 in
set_option maxRecDepth 100000 in
theorem kX12_swing_0 (l : Launch) (B : jBT) (D : va_G) (ad : Nat → Nat) (cA : Nat → ClassId) (hI : jI ad TR) (S : Nat → Int32) (V : Nat → Nat → Int32) (L : Nat → Int64) (a1 : Int32) (a2 : Int32) (r0 : Int32) (S0 : Nat → Int32) (h : fX12_swing_0 S V a1 a2 = some (r0, S0)) : jM l yX12_swing cX12_swing 3 (some .int) ({ frames := 3, cells := 0, slots := 0, locals := 73 }) B D TR ad cA [.ref (ad 0), .int a1, .int a2] S V L (some (.int r0)) S0 V L := by
  refine jM_of (plainFor_of_name (by decide)) TR_ok hI (Nat.le_of_ble_eq_true rfl) ?_
  intro p e s m args below meth c C hr hlk
  refine j_lv (lv2 := [(0, .ref (ad 0)), (1, .int a1), (2, .int a2)]) rfl ?_
  unfold fX12_swing_0 at h
  refine j_aload_n C 0 rfl dX12_swing_0 rfl ?_
  refine j_iconst C dX12_swing_1 ci_0 ?_
  refine fp_X12_93_TR_0 C dX12_swing_2 ?_
  refine lt_elim h (fun S1 e_S1 h => ?_)
  refine j_S e_S1 ?_
  refine j_aload_n C 0 rfl dX12_swing_5 rfl ?_
  refine j_iload_n C 1 rfl dX12_swing_6 rfl ?_
  obtain ⟨r2, S3, h4, h⟩ := bd2_elim h
  refine j_callV (As := [.int a1]) (rest := []) C (kX12_isHour_0 l B D ad cA hI S1 V L a1 _ _ h4) mw_X12_isHour wd1828 wd88 wd1826 tr_0 rfl rfl ⟨rfl, rfl, by decide, by decide⟩ ⟨Nat.zero_le _, Nat.zero_le _⟩ rfl rfl (Nat.le_of_ble_eq_true rfl) dX12_swing_7 ?_
  refine j_if_eq (tgt := 39) C dX12_swing_10 (by decide) (fun c5 => ?_) (fun c5 => ?_)
  · have h := (if_pos c5).symm.trans h
    refine j_iconst C dX12_swing_39 ci_0 ?_
    cases h
    exact j_iret C hr hlk rfl dX12_swing_40
  · have h := (if_neg c5).symm.trans h
    refine j_aload_n C 0 rfl dX12_swing_13 rfl ?_
    refine j_iload_n C 2 rfl dX12_swing_14 rfl ?_
    refine j_iconst C dX12_swing_15 ci_2 ?_
    obtain ⟨r6, S7, h8, h⟩ := bd2_elim h
    refine j_callV (As := [.int a2, .int (2 : Int32)]) (rest := []) C (kX12_isDay_0 l B D ad cA hI S3 V L a2 (2 : Int32) _ _ h8) mw_X12_isDay wd1836 wd89 wd1834 tr_0 rfl rfl ⟨rfl, rfl, by decide, by decide⟩ ⟨Nat.zero_le _, Nat.zero_le _⟩ rfl rfl (Nat.le_of_ble_eq_true rfl) dX12_swing_16 ?_
    refine j_if_eq (tgt := 39) C dX12_swing_19 (by decide) (fun c9 => ?_) (fun c9 => ?_)
    · have h := (if_pos c9).symm.trans h
      refine j_iconst C dX12_swing_39 ci_0 ?_
      cases h
      exact j_iret C hr hlk rfl dX12_swing_40
    · have h := (if_neg c9).symm.trans h
      refine j_aload_n C 0 rfl dX12_swing_22 rfl ?_
      refine j_aload_n C 0 rfl dX12_swing_23 rfl ?_
      refine fg_X12_60_TR_0 C dX12_swing_24 ?_
      refine j_aload_n C 0 rfl dX12_swing_27 rfl ?_
      refine fg_X12_278_TR_0 C dX12_swing_28 ?_
      refine j_iload_n C 1 rfl dX12_swing_31 rfl ?_
      refine j_iload_n C 2 rfl dX12_swing_32 rfl ?_
      obtain ⟨r10, h11, h⟩ := bd1_elim h
      refine j_callV (As := [.ref (ad 13), .int (S7 42), .int a1, .int a2]) (rest := []) C (kX12_swingOf_0_13 l B D ad cA hI S7 V L ((S7 42)) a1 a2 _ h11) mw_X12_swingOf wd1840 wd90 wd1838 tr_0 rfl rfl ⟨rfl, rfl, by decide, by decide⟩ ⟨Nat.zero_le _, Nat.zero_le _⟩ rfl rfl (Nat.le_of_ble_eq_true rfl) dX12_swing_33 ?_
      refine j_goto (tgt := 40) C dX12_swing_36 (by decide) ?_
      cases h
      exact j_iret C hr hlk rfl dX12_swing_40
theorem dX12_tenant_0 : decode cX12_tenant 0 = .ok (.aload_n 0, 1) := by decide +kernel
theorem dX12_tenant_1 : decode cX12_tenant 1 = .ok (.iconst 0, 1) := by decide +kernel
theorem dX12_tenant_2 : decode cX12_tenant 2 = .ok (.putfield 93, 3) := by decide +kernel
theorem dX12_tenant_5 : decode cX12_tenant 5 = .ok (.aload_n 0, 1) := by decide +kernel
theorem dX12_tenant_6 : decode cX12_tenant 6 = .ok (.iload_n 1, 1) := by decide +kernel
theorem dX12_tenant_7 : decode cX12_tenant 7 = .ok (.invokevirtual 335, 3) := by decide +kernel
theorem dX12_tenant_10 : decode cX12_tenant 10 = .ok (.ifCond .eq 18, 3) := by decide +kernel
theorem dX12_tenant_13 : decode cX12_tenant 13 = .ok (.aload_n 0, 1) := by decide +kernel
theorem dX12_tenant_14 : decode cX12_tenant 14 = .ok (.iload_n 2, 1) := by decide +kernel
theorem dX12_tenant_15 : decode cX12_tenant 15 = .ok (.iconst 0, 1) := by decide +kernel
theorem dX12_tenant_16 : decode cX12_tenant 16 = .ok (.bipush 6, 2) := by decide +kernel
theorem dX12_tenant_18 : decode cX12_tenant 18 = .ok (.invokestatic 294, 3) := by decide +kernel
theorem dX12_tenant_21 : decode cX12_tenant 21 = .ok (.iconst 1, 1) := by decide +kernel
theorem dX12_tenant_22 : decode cX12_tenant 22 = .ok (.invokevirtual 255, 3) := by decide +kernel
theorem dX12_tenant_25 : decode cX12_tenant 25 = .ok (.ifCond .ne 5, 3) := by decide +kernel
theorem dX12_tenant_28 : decode cX12_tenant 28 = .ok (.iconst 0, 1) := by decide +kernel
theorem dX12_tenant_29 : decode cX12_tenant 29 = .ok (.ireturn, 1) := by decide +kernel
theorem dX12_tenant_30 : decode cX12_tenant 30 = .ok (.iload_n 2, 1) := by decide +kernel
theorem dX12_tenant_31 : decode cX12_tenant 31 = .ok (.iconst 4, 1) := by decide +kernel
theorem dX12_tenant_32 : decode cX12_tenant 32 = .ok (.if_icmp .ge 16, 3) := by decide +kernel
theorem dX12_tenant_35 : decode cX12_tenant 35 = .ok (.aload_n 0, 1) := by decide +kernel
theorem dX12_tenant_36 : decode cX12_tenant 36 = .ok (.getfield 19, 3) := by decide +kernel
theorem dX12_tenant_39 : decode cX12_tenant 39 = .ok (.iconst 4, 1) := by decide +kernel
theorem dX12_tenant_40 : decode cX12_tenant 40 = .ok (.iload_n 1, 1) := by decide +kernel
theorem dX12_tenant_41 : decode cX12_tenant 41 = .ok (.imul, 1) := by decide +kernel
theorem dX12_tenant_42 : decode cX12_tenant 42 = .ok (.iload_n 2, 1) := by decide +kernel
theorem dX12_tenant_43 : decode cX12_tenant 43 = .ok (.iadd, 1) := by decide +kernel
theorem dX12_tenant_44 : decode cX12_tenant 44 = .ok (.iaload, 1) := by decide +kernel
theorem dX12_tenant_45 : decode cX12_tenant 45 = .ok (.goto 33, 3) := by decide +kernel
theorem dX12_tenant_48 : decode cX12_tenant 48 = .ok (.iload_n 2, 1) := by decide +kernel
theorem dX12_tenant_49 : decode cX12_tenant 49 = .ok (.bipush 6, 2) := by decide +kernel
theorem dX12_tenant_51 : decode cX12_tenant 51 = .ok (.if_icmp .ne 12, 3) := by decide +kernel
theorem dX12_tenant_54 : decode cX12_tenant 54 = .ok (.aload_n 0, 1) := by decide +kernel
theorem dX12_tenant_55 : decode cX12_tenant 55 = .ok (.getfield 23, 3) := by decide +kernel
theorem dX12_tenant_58 : decode cX12_tenant 58 = .ok (.iload_n 1, 1) := by decide +kernel
theorem dX12_tenant_59 : decode cX12_tenant 59 = .ok (.iaload, 1) := by decide +kernel
theorem dX12_tenant_60 : decode cX12_tenant 60 = .ok (.goto 18, 3) := by decide +kernel
theorem dX12_tenant_63 : decode cX12_tenant 63 = .ok (.aload_n 0, 1) := by decide +kernel
theorem dX12_tenant_64 : decode cX12_tenant 64 = .ok (.iload_n 1, 1) := by decide +kernel
theorem dX12_tenant_65 : decode cX12_tenant 65 = .ok (.iload_n 2, 1) := by decide +kernel
theorem dX12_tenant_66 : decode cX12_tenant 66 = .ok (.iconst 5, 1) := by decide +kernel
theorem dX12_tenant_67 : decode cX12_tenant 67 = .ok (.if_icmp .ne 7, 3) := by decide +kernel
theorem dX12_tenant_70 : decode cX12_tenant 70 = .ok (.iconst 1, 1) := by decide +kernel
theorem dX12_tenant_71 : decode cX12_tenant 71 = .ok (.goto 4, 3) := by decide +kernel
theorem dX12_tenant_74 : decode cX12_tenant 74 = .ok (.iconst 0, 1) := by decide +kernel
theorem dX12_tenant_75 : decode cX12_tenant 75 = .ok (.invokevirtual 338, 3) := by decide +kernel
theorem dX12_tenant_78 : decode cX12_tenant 78 = .ok (.ireturn, 1) := by decide +kernel
def fX12_tenant_0 (S : Nat → Int32) (V : Nat → Nat → Int32) (a1 : Int32) (a2 : Int32) : Option (Int32 × (Nat → Int32)) :=
  lt (va_up S 0 (0 : Int32)) (fun S1 =>
  bd2 (fX12_isTenant_0 S1 a1) (fun r2 S3 =>
  (if r2 = 0 then
  some ((0 : Int32), S3)
  else
  bd1 (fX12_within a2 (0 : Int32) (6 : Int32)) (fun r6 =>
  bd2 (fX12_right_0 S3 r6 (1 : Int32)) (fun r8 S9 =>
  (if r8 = 0 then
  some ((0 : Int32), S9)
  else
  (if (4 : Int32) ≤ a2 then
  (if a2 = (6 : Int32) then
  gd (ib a1 6) (
  some ((V 2 (a1).toNatClampNeg), S9))
  else
  bk (fun (x15 : Int32) (x16 : Int32) (S17 : Nat → Int32) =>
  bd1 (fX12_hoursOf_0 S17 V x16 x15) (fun r18 =>
  some (r18, S17))) (fun K75_14 =>
  (if a2 = (5 : Int32) then
  K75_14 (1 : Int32) a1 S9
  else
  K75_14 (0 : Int32) a1 S9)))
  else
  lt ((((4 : Int32) * a1) + a2)) (fun x22 =>
  gd (ib x22 24) (
  some ((V 1 (x22).toNatClampNeg), S9))))))))))
set_option maxHeartbeats 4000000 in
set_option maxRecDepth 100000 in
theorem kX12_tenant_0 (l : Launch) (B : jBT) (D : va_G) (ad : Nat → Nat) (cA : Nat → ClassId) (hI : jI ad TR) (S : Nat → Int32) (V : Nat → Nat → Int32) (L : Nat → Int64) (a1 : Int32) (a2 : Int32) (r0 : Int32) (S0 : Nat → Int32) (h : fX12_tenant_0 S V a1 a2 = some (r0, S0)) : jM l yX12_tenant cX12_tenant 3 (some .int) ({ frames := 2, cells := 0, slots := 0, locals := 43 }) B D TR ad cA [.ref (ad 0), .int a1, .int a2] S V L (some (.int r0)) S0 V L := by
  refine jM_of (plainFor_of_name (by decide)) TR_ok hI (Nat.le_of_ble_eq_true rfl) ?_
  intro p e s m args below meth c C hr hlk
  refine j_lv (lv2 := [(0, .ref (ad 0)), (1, .int a1), (2, .int a2)]) rfl ?_
  unfold fX12_tenant_0 at h
  refine j_aload_n C 0 rfl dX12_tenant_0 rfl ?_
  refine j_iconst C dX12_tenant_1 ci_0 ?_
  refine fp_X12_93_TR_0 C dX12_tenant_2 ?_
  refine lt_elim h (fun S1 e_S1 h => ?_)
  refine j_S e_S1 ?_
  refine j_aload_n C 0 rfl dX12_tenant_5 rfl ?_
  refine j_iload_n C 1 rfl dX12_tenant_6 rfl ?_
  obtain ⟨r2, S3, h4, h⟩ := bd2_elim h
  refine j_callV (As := [.int a1]) (rest := []) C (kX12_isTenant_0 l B D ad cA hI S1 V L a1 _ _ h4) mw_X12_isTenant wd1816 wd86 wd1814 tr_0 rfl rfl ⟨rfl, rfl, by decide, by decide⟩ ⟨Nat.zero_le _, Nat.zero_le _⟩ rfl rfl (Nat.le_of_ble_eq_true rfl) dX12_tenant_7 ?_
  refine j_if_eq (tgt := 28) C dX12_tenant_10 (by decide) (fun c5 => ?_) (fun c5 => ?_)
  · have h := (if_pos c5).symm.trans h
    refine j_iconst C dX12_tenant_28 ci_0 ?_
    cases h
    exact j_iret C hr hlk rfl dX12_tenant_29
  · have h := (if_neg c5).symm.trans h
    refine j_aload_n C 0 rfl dX12_tenant_13 rfl ?_
    refine j_iload_n C 2 rfl dX12_tenant_14 rfl ?_
    refine j_iconst C dX12_tenant_15 ci_0 ?_
    refine j_bipush C dX12_tenant_16 cb_6 ?_
    obtain ⟨r6, h7, h⟩ := bd1_elim h
    refine j_callS (As := [.int a2, .int (0 : Int32), .int (6 : Int32)]) (rest := [.ref (ad 0)]) C (kX12_within l B D ad cA hI S3 V L a2 (0 : Int32) (6 : Int32) _ h7) mw_X12_within wd1760 wd1759 ⟨rfl, rfl, by decide, by decide⟩ ⟨Nat.zero_le _, Nat.zero_le _⟩ rfl rfl (Nat.le_of_ble_eq_true rfl) dX12_tenant_18 ?_
    refine j_iconst C dX12_tenant_21 ci_1 ?_
    obtain ⟨r8, S9, h10, h⟩ := bd2_elim h
    refine j_callV (As := [.int r6, .int (1 : Int32)]) (rest := []) C (kX12_right_0 l B D ad cA hI S3 V L r6 (1 : Int32) _ _ h10) mw_X12_right wd1638 wd56 wd1636 tr_0 rfl rfl ⟨rfl, rfl, by decide, by decide⟩ ⟨Nat.zero_le _, Nat.zero_le _⟩ rfl rfl (Nat.le_of_ble_eq_true rfl) dX12_tenant_22 ?_
    refine j_if_ne (tgt := 30) C dX12_tenant_25 (by decide) (fun c11 => ?_) (fun c11 => ?_)
    · have h := (if_neg c11).symm.trans h
      refine j_iload_n C 2 rfl dX12_tenant_30 rfl ?_
      refine j_iconst C dX12_tenant_31 ci_4 ?_
      refine j_icmp_ge (tgt := 48) C dX12_tenant_32 (by decide) (fun c12 => ?_) (fun c12 => ?_)
      · have h := (if_pos c12).symm.trans h
        refine j_iload_n C 2 rfl dX12_tenant_48 rfl ?_
        refine j_bipush C dX12_tenant_49 cb_6 ?_
        refine j_icmp_ne (tgt := 63) C dX12_tenant_51 (by decide) (fun c13 => ?_) (fun c13 => ?_)
        · have h := (if_neg c13).symm.trans h
          refine j_aload_n C 0 rfl dX12_tenant_63 rfl ?_
          refine j_iload_n C 1 rfl dX12_tenant_64 rfl ?_
          refine j_iload_n C 2 rfl dX12_tenant_65 rfl ?_
          refine j_iconst C dX12_tenant_66 ci_5 ?_
          refine bk_elim h (fun K75_14 e_K75_14 h => ?_)
          have HK75_14 : ∀ (x15 : Int32) (x16 : Int32) (S17 : Nat → Int32), K75_14 x15 x16 S17 = some (r0, S0) → jW p l e ({ frames := 2, cells := 0, slots := 0, locals := 43 }) s m args below meth c (MQ below (jQc D TR ad cA (some (.int r0)) s.heap.size S0 V L) args s 0 0 (jA ad TR s.heap.size)) D TR ad cA (jA ad TR s.heap.size) 3 0 0 75 [] [.int x15, .int x16, .ref (ad 0)] S17 V L := by
            subst e_K75_14
            intro x15 x16 S17 h
            obtain ⟨r18, h19, h⟩ := bd1_elim h
            refine j_callV (As := [.int x16, .int x15]) (rest := []) C (kX12_hoursOf_0 l B D ad cA hI S17 V L x16 x15 _ h19) mw_X12_hoursOf wd1820 wd87 wd1818 tr_0 rfl rfl ⟨rfl, rfl, by decide, by decide⟩ ⟨Nat.zero_le _, Nat.zero_le _⟩ rfl rfl (Nat.le_of_ble_eq_true rfl) dX12_tenant_75 ?_
            cases h
            exact j_iret C hr hlk rfl dX12_tenant_78
          refine j_icmp_ne (tgt := 74) C dX12_tenant_67 (by decide) (fun c20 => ?_) (fun c20 => ?_)
          · have h := (if_neg c20).symm.trans h
            refine j_iconst C dX12_tenant_74 ci_0 ?_
            exact j_sub [] rfl (HK75_14 _ _ _ h)
          · have h := (if_pos c20).symm.trans h
            refine j_iconst C dX12_tenant_70 ci_1 ?_
            refine j_goto (tgt := 75) C dX12_tenant_71 (by decide) ?_
            exact j_sub [] rfl (HK75_14 _ _ _ h)
        · have h := (if_pos c13).symm.trans h
          refine j_aload_n C 0 rfl dX12_tenant_54 rfl ?_
          refine fg_X12_23_TR_0 C dX12_tenant_55 ?_
          refine j_iload_n C 1 rfl dX12_tenant_58 rfl ?_
          obtain ⟨g21, h⟩ := gd_elim h
          refine j_iald C tr_2 (ib_in g21) dX12_tenant_59 ?_
          refine j_goto (tgt := 78) C dX12_tenant_60 (by decide) ?_
          cases h
          exact j_iret C hr hlk rfl dX12_tenant_78
      · have h := (if_neg c12).symm.trans h
        refine j_aload_n C 0 rfl dX12_tenant_35 rfl ?_
        refine fg_X12_19_TR_0 C dX12_tenant_36 ?_
        refine j_iconst C dX12_tenant_39 ci_4 ?_
        refine j_iload_n C 1 rfl dX12_tenant_40 rfl ?_
        refine j_imul C dX12_tenant_41 ?_
        refine j_iload_n C 2 rfl dX12_tenant_42 rfl ?_
        refine j_iadd C dX12_tenant_43 ?_
        refine lt_elim h (fun x22 e_x22 h => ?_)
        refine j_top e_x22 ?_
        obtain ⟨g23, h⟩ := gd_elim h
        refine j_iald C tr_1 (ib_in g23) dX12_tenant_44 ?_
        refine j_goto (tgt := 78) C dX12_tenant_45 (by decide) ?_
        cases h
        exact j_iret C hr hlk rfl dX12_tenant_78
    · have h := (if_pos c11).symm.trans h
      refine j_iconst C dX12_tenant_28 ci_0 ?_
      cases h
      exact j_iret C hr hlk rfl dX12_tenant_29
theorem dX12_thrown_0 : decode cX12_thrown 0 = .ok (.aload_n 0, 1) := by decide +kernel
theorem dX12_thrown_1 : decode cX12_thrown 1 = .ok (.getfield 93, 3) := by decide +kernel
theorem dX12_thrown_4 : decode cX12_thrown 4 = .ok (.ireturn, 1) := by decide +kernel
def fX12_thrown_0 (S : Nat → Int32) : Option (Int32) :=
  some ((S 0))
set_option maxHeartbeats 4000000 in
set_option maxRecDepth 100000 in
theorem kX12_thrown_0 (l : Launch) (B : jBT) (D : va_G) (ad : Nat → Nat) (cA : Nat → ClassId) (hI : jI ad TR) (S : Nat → Int32) (V : Nat → Nat → Int32) (L : Nat → Int64) (r0 : Int32) (h : fX12_thrown_0 S = some r0) : jM l yX12_thrown cX12_thrown 1 (some .int) ({ frames := 0, cells := 0, slots := 0, locals := 0 }) B D TR ad cA [.ref (ad 0)] S V L (some (.int r0)) S V L := by
  refine jM_of (plainFor_of_name (by decide)) TR_ok hI (Nat.le_of_ble_eq_true rfl) ?_
  intro p e s m args below meth c C hr hlk
  refine j_lv (lv2 := [(0, .ref (ad 0))]) rfl ?_
  unfold fX12_thrown_0 at h
  refine j_aload_n C 0 rfl dX12_thrown_0 rfl ?_
  refine fg_X12_93_TR_0 C dX12_thrown_1 ?_
  cases h
  exact j_iret C hr hlk rfl dX12_thrown_4
theorem dX12_undo_0 : decode cX12_undo 0 = .ok (.aload_n 0, 1) := by decide +kernel
theorem dX12_undo_1 : decode cX12_undo 1 = .ok (.iconst 0, 1) := by decide +kernel
theorem dX12_undo_2 : decode cX12_undo 2 = .ok (.putfield 93, 3) := by decide +kernel
theorem dX12_undo_5 : decode cX12_undo 5 = .ok (.aload_n 0, 1) := by decide +kernel
theorem dX12_undo_6 : decode cX12_undo 6 = .ok (.getfield 278, 3) := by decide +kernel
theorem dX12_undo_9 : decode cX12_undo 9 = .ok (.ifCond .ne 5, 3) := by decide +kernel
theorem dX12_undo_12 : decode cX12_undo 12 = .ok (.iconst (-1), 1) := by decide +kernel
theorem dX12_undo_13 : decode cX12_undo 13 = .ok (.ireturn, 1) := by decide +kernel
theorem dX12_undo_14 : decode cX12_undo 14 = .ok (.aload_n 0, 1) := by decide +kernel
theorem dX12_undo_15 : decode cX12_undo 15 = .ok (.dup, 1) := by decide +kernel
theorem dX12_undo_16 : decode cX12_undo 16 = .ok (.getfield 278, 3) := by decide +kernel
theorem dX12_undo_19 : decode cX12_undo 19 = .ok (.iconst 1, 1) := by decide +kernel
theorem dX12_undo_20 : decode cX12_undo 20 = .ok (.isub, 1) := by decide +kernel
theorem dX12_undo_21 : decode cX12_undo 21 = .ok (.putfield 278, 3) := by decide +kernel
theorem dX12_undo_24 : decode cX12_undo 24 = .ok (.aload_n 0, 1) := by decide +kernel
theorem dX12_undo_25 : decode cX12_undo 25 = .ok (.getfield 278, 3) := by decide +kernel
theorem dX12_undo_28 : decode cX12_undo 28 = .ok (.ireturn, 1) := by decide +kernel
def fX12_undo_0 (S : Nat → Int32) : Option (Int32 × (Nat → Int32)) :=
  lt (va_up S 0 (0 : Int32)) (fun S1 =>
  (if (S1 42) = 0 then
  some ((-1 : Int32), S1)
  else
  lt (((S1 42) - (1 : Int32))) (fun x3 =>
  lt (va_up S1 42 x3) (fun S4 =>
  some ((S4 42), S4)))))
set_option maxHeartbeats 4000000 in
set_option maxRecDepth 100000 in
theorem kX12_undo_0 (l : Launch) (B : jBT) (D : va_G) (ad : Nat → Nat) (cA : Nat → ClassId) (hI : jI ad TR) (S : Nat → Int32) (V : Nat → Nat → Int32) (L : Nat → Int64) (r0 : Int32) (S0 : Nat → Int32) (h : fX12_undo_0 S = some (r0, S0)) : jM l yX12_undo cX12_undo 1 (some .int) ({ frames := 0, cells := 0, slots := 0, locals := 0 }) B D TR ad cA [.ref (ad 0)] S V L (some (.int r0)) S0 V L := by
  refine jM_of (plainFor_of_name (by decide)) TR_ok hI (Nat.le_of_ble_eq_true rfl) ?_
  intro p e s m args below meth c C hr hlk
  refine j_lv (lv2 := [(0, .ref (ad 0))]) rfl ?_
  unfold fX12_undo_0 at h
  refine j_aload_n C 0 rfl dX12_undo_0 rfl ?_
  refine j_iconst C dX12_undo_1 ci_0 ?_
  refine fp_X12_93_TR_0 C dX12_undo_2 ?_
  refine lt_elim h (fun S1 e_S1 h => ?_)
  refine j_S e_S1 ?_
  refine j_aload_n C 0 rfl dX12_undo_5 rfl ?_
  refine fg_X12_278_TR_0 C dX12_undo_6 ?_
  refine j_if_ne (tgt := 14) C dX12_undo_9 (by decide) (fun c2 => ?_) (fun c2 => ?_)
  · have h := (if_neg c2).symm.trans h
    refine j_aload_n C 0 rfl dX12_undo_14 rfl ?_
    refine j_dup C dX12_undo_15 rfl ?_
    refine fg_X12_278_TR_0 C dX12_undo_16 ?_
    refine j_iconst C dX12_undo_19 ci_1 ?_
    refine j_isub C dX12_undo_20 ?_
    refine lt_elim h (fun x3 e_x3 h => ?_)
    refine j_top e_x3 ?_
    refine fp_X12_278_TR_0 C dX12_undo_21 ?_
    refine lt_elim h (fun S4 e_S4 h => ?_)
    refine j_S e_S4 ?_
    refine j_aload_n C 0 rfl dX12_undo_24 rfl ?_
    refine fg_X12_278_TR_0 C dX12_undo_25 ?_
    cases h
    exact j_iret C hr hlk rfl dX12_undo_28
  · have h := (if_pos c2).symm.trans h
    refine j_iconst C dX12_undo_12 ci_m1 ?_
    cases h
    exact j_iret C hr hlk rfl dX12_undo_13
theorem dX12_visit_0 : decode cX12_visit 0 = .ok (.aload_n 0, 1) := by decide +kernel
theorem dX12_visit_1 : decode cX12_visit 1 = .ok (.iconst 0, 1) := by decide +kernel
theorem dX12_visit_2 : decode cX12_visit 2 = .ok (.putfield 93, 3) := by decide +kernel
theorem dX12_visit_5 : decode cX12_visit 5 = .ok (.aload_n 0, 1) := by decide +kernel
theorem dX12_visit_6 : decode cX12_visit 6 = .ok (.iload_n 1, 1) := by decide +kernel
theorem dX12_visit_7 : decode cX12_visit 7 = .ok (.invokevirtual 335, 3) := by decide +kernel
theorem dX12_visit_10 : decode cX12_visit 10 = .ok (.ifCond .eq 24, 3) := by decide +kernel
theorem dX12_visit_13 : decode cX12_visit 13 = .ok (.aload_n 0, 1) := by decide +kernel
theorem dX12_visit_14 : decode cX12_visit 14 = .ok (.aload_n 0, 1) := by decide +kernel
theorem dX12_visit_15 : decode cX12_visit 15 = .ok (.getfield 288, 3) := by decide +kernel
theorem dX12_visit_18 : decode cX12_visit 18 = .ok (.iconst 1, 1) := by decide +kernel
theorem dX12_visit_19 : decode cX12_visit 19 = .ok (.invokevirtual 255, 3) := by decide +kernel
theorem dX12_visit_22 : decode cX12_visit 22 = .ok (.ifCond .eq 12, 3) := by decide +kernel
theorem dX12_visit_25 : decode cX12_visit 25 = .ok (.aload_n 0, 1) := by decide +kernel
theorem dX12_visit_26 : decode cX12_visit 26 = .ok (.getfield 81, 3) := by decide +kernel
theorem dX12_visit_29 : decode cX12_visit 29 = .ok (.iload_n 1, 1) := by decide +kernel
theorem dX12_visit_30 : decode cX12_visit 30 = .ok (.iaload, 1) := by decide +kernel
theorem dX12_visit_31 : decode cX12_visit 31 = .ok (.goto 4, 3) := by decide +kernel
theorem dX12_visit_34 : decode cX12_visit 34 = .ok (.iconst 0, 1) := by decide +kernel
theorem dX12_visit_35 : decode cX12_visit 35 = .ok (.ireturn, 1) := by decide +kernel
def fX12_visit_0 (S : Nat → Int32) (V : Nat → Nat → Int32) (a1 : Int32) : Option (Int32 × (Nat → Int32)) :=
  lt (va_up S 0 (0 : Int32)) (fun S1 =>
  bd2 (fX12_isTenant_0 S1 a1) (fun r2 S3 =>
  (if r2 = 0 then
  some ((0 : Int32), S3)
  else
  bd2 (fX12_right_0 S3 ((S3 52)) (1 : Int32)) (fun r6 S7 =>
  (if r6 = 0 then
  some ((0 : Int32), S7)
  else
  gd (ib a1 6) (
  some ((V 20 (a1).toNatClampNeg), S7)))))))
set_option maxHeartbeats 4000000 in
set_option maxRecDepth 100000 in
theorem kX12_visit_0 (l : Launch) (B : jBT) (D : va_G) (ad : Nat → Nat) (cA : Nat → ClassId) (hI : jI ad TR) (S : Nat → Int32) (V : Nat → Nat → Int32) (L : Nat → Int64) (a1 : Int32) (r0 : Int32) (S0 : Nat → Int32) (h : fX12_visit_0 S V a1 = some (r0, S0)) : jM l yX12_visit cX12_visit 2 (some .int) ({ frames := 2, cells := 0, slots := 0, locals := 43 }) B D TR ad cA [.ref (ad 0), .int a1] S V L (some (.int r0)) S0 V L := by
  refine jM_of (plainFor_of_name (by decide)) TR_ok hI (Nat.le_of_ble_eq_true rfl) ?_
  intro p e s m args below meth c C hr hlk
  refine j_lv (lv2 := [(0, .ref (ad 0)), (1, .int a1)]) rfl ?_
  unfold fX12_visit_0 at h
  refine j_aload_n C 0 rfl dX12_visit_0 rfl ?_
  refine j_iconst C dX12_visit_1 ci_0 ?_
  refine fp_X12_93_TR_0 C dX12_visit_2 ?_
  refine lt_elim h (fun S1 e_S1 h => ?_)
  refine j_S e_S1 ?_
  refine j_aload_n C 0 rfl dX12_visit_5 rfl ?_
  refine j_iload_n C 1 rfl dX12_visit_6 rfl ?_
  obtain ⟨r2, S3, h4, h⟩ := bd2_elim h
  refine j_callV (As := [.int a1]) (rest := []) C (kX12_isTenant_0 l B D ad cA hI S1 V L a1 _ _ h4) mw_X12_isTenant wd1816 wd86 wd1814 tr_0 rfl rfl ⟨rfl, rfl, by decide, by decide⟩ ⟨Nat.zero_le _, Nat.zero_le _⟩ rfl rfl (Nat.le_of_ble_eq_true rfl) dX12_visit_7 ?_
  refine j_if_eq (tgt := 34) C dX12_visit_10 (by decide) (fun c5 => ?_) (fun c5 => ?_)
  · have h := (if_pos c5).symm.trans h
    refine j_iconst C dX12_visit_34 ci_0 ?_
    cases h
    exact j_iret C hr hlk rfl dX12_visit_35
  · have h := (if_neg c5).symm.trans h
    refine j_aload_n C 0 rfl dX12_visit_13 rfl ?_
    refine j_aload_n C 0 rfl dX12_visit_14 rfl ?_
    refine fg_X12_288_TR_0 C dX12_visit_15 ?_
    refine j_iconst C dX12_visit_18 ci_1 ?_
    obtain ⟨r6, S7, h8, h⟩ := bd2_elim h
    refine j_callV (As := [.int (S3 52), .int (1 : Int32)]) (rest := []) C (kX12_right_0 l B D ad cA hI S3 V L ((S3 52)) (1 : Int32) _ _ h8) mw_X12_right wd1638 wd56 wd1636 tr_0 rfl rfl ⟨rfl, rfl, by decide, by decide⟩ ⟨Nat.zero_le _, Nat.zero_le _⟩ rfl rfl (Nat.le_of_ble_eq_true rfl) dX12_visit_19 ?_
    refine j_if_eq (tgt := 34) C dX12_visit_22 (by decide) (fun c9 => ?_) (fun c9 => ?_)
    · have h := (if_pos c9).symm.trans h
      refine j_iconst C dX12_visit_34 ci_0 ?_
      cases h
      exact j_iret C hr hlk rfl dX12_visit_35
    · have h := (if_neg c9).symm.trans h
      refine j_aload_n C 0 rfl dX12_visit_25 rfl ?_
      refine fg_X12_81_TR_0 C dX12_visit_26 ?_
      refine j_iload_n C 1 rfl dX12_visit_29 rfl ?_
      obtain ⟨g10, h⟩ := gd_elim h
      refine j_iald C tr_20 (ib_in g10) dX12_visit_30 ?_
      refine j_goto (tgt := 35) C dX12_visit_31 (by decide) ?_
      cases h
      exact j_iret C hr hlk rfl dX12_visit_35
theorem dX12_visitOf_0 : decode cX12_visitOf 0 = .ok (.iload_n 2, 1) := by decide +kernel
theorem dX12_visitOf_1 : decode cX12_visitOf 1 = .ok (.iconst 1, 1) := by decide +kernel
theorem dX12_visitOf_2 : decode cX12_visitOf 2 = .ok (.iadd, 1) := by decide +kernel
theorem dX12_visitOf_3 : decode cX12_visitOf 3 = .ok (.istore 4, 2) := by decide +kernel
theorem dX12_visitOf_5 : decode cX12_visitOf 5 = .ok (.iload 4, 2) := by decide +kernel
theorem dX12_visitOf_7 : decode cX12_visitOf 7 = .ok (.iload_n 3, 1) := by decide +kernel
theorem dX12_visitOf_8 : decode cX12_visitOf 8 = .ok (.if_icmp .gt 43, 3) := by decide +kernel
theorem dX12_visitOf_11 : decode cX12_visitOf 11 = .ok (.aload_n 0, 1) := by decide +kernel
theorem dX12_visitOf_12 : decode cX12_visitOf 12 = .ok (.getfield 60, 3) := by decide +kernel
theorem dX12_visitOf_15 : decode cX12_visitOf 15 = .ok (.aload_n 0, 1) := by decide +kernel
theorem dX12_visitOf_16 : decode cX12_visitOf 16 = .ok (.getfield 278, 3) := by decide +kernel
theorem dX12_visitOf_19 : decode cX12_visitOf 19 = .ok (.iload 4, 2) := by decide +kernel
theorem dX12_visitOf_21 : decode cX12_visitOf 21 = .ok (.invokestatic 305, 3) := by decide +kernel
theorem dX12_visitOf_24 : decode cX12_visitOf 24 = .ok (.iload_n 1, 1) := by decide +kernel
theorem dX12_visitOf_25 : decode cX12_visitOf 25 = .ok (.ishr, 1) := by decide +kernel
theorem dX12_visitOf_26 : decode cX12_visitOf 26 = .ok (.iconst 1, 1) := by decide +kernel
theorem dX12_visitOf_27 : decode cX12_visitOf 27 = .ok (.iand, 1) := by decide +kernel
theorem dX12_visitOf_28 : decode cX12_visitOf 28 = .ok (.iconst 1, 1) := by decide +kernel
theorem dX12_visitOf_29 : decode cX12_visitOf 29 = .ok (.if_icmp .ne 16, 3) := by decide +kernel
theorem dX12_visitOf_32 : decode cX12_visitOf 32 = .ok (.aload_n 0, 1) := by decide +kernel
theorem dX12_visitOf_33 : decode cX12_visitOf 33 = .ok (.iload_n 1, 1) := by decide +kernel
theorem dX12_visitOf_34 : decode cX12_visitOf 34 = .ok (.iload 4, 2) := by decide +kernel
theorem dX12_visitOf_36 : decode cX12_visitOf 36 = .ok (.invokevirtual 376, 3) := by decide +kernel
theorem dX12_visitOf_39 : decode cX12_visitOf 39 = .ok (.ifCond .ne 6, 3) := by decide +kernel
theorem dX12_visitOf_42 : decode cX12_visitOf 42 = .ok (.iload 4, 2) := by decide +kernel
theorem dX12_visitOf_44 : decode cX12_visitOf 44 = .ok (.ireturn, 1) := by decide +kernel
theorem dX12_visitOf_45 : decode cX12_visitOf 45 = .ok (.iinc 4 1, 3) := by decide +kernel
theorem dX12_visitOf_48 : decode cX12_visitOf 48 = .ok (.goto (-43), 3) := by decide +kernel
theorem dX12_visitOf_51 : decode cX12_visitOf 51 = .ok (.iconst (-1), 1) := by decide +kernel
theorem dX12_visitOf_52 : decode cX12_visitOf 52 = .ok (.ireturn, 1) := by decide +kernel
def fX12_visitOf_0_L5 (S : Nat → Int32) (V : Nat → Nat → Int32) : Nat → Int32 → Int32 → Int32 → Option (Int32)
  | 0, _, _, _ => none
  | n + 1, x2, x3, x4 =>
    (if x3 < x4 then
    some (-1 : Int32)
    else
    bd1 (fX12_allIn_13 V ((S 42)) x4) (fun r6 =>
    bk (fun (x9 : Int32) (x10 : Int32) (x11 : Int32) =>
    lt (x11 + (1 : Int32)) (fun x12 =>
    fX12_visitOf_0_L5 S V n x9 x10 x12)) (fun K45_8 =>
    (if ((r6 >>> (x2 &&& 31)) &&& (1 : Int32)) = (1 : Int32) then
    bd1 (fX12_isTaken_0 V x2 x4) (fun r14 =>
    (if r14 = 0 then
    some x4
    else
    K45_8 x2 x3 x4))
    else
    K45_8 x2 x3 x4))))
def fX12_visitOf_0 (S : Nat → Int32) (V : Nat → Nat → Int32) (a1 : Int32) (a2 : Int32) (a3 : Int32) : Option (Int32) :=
  lt ((a2 + (1 : Int32))) (fun x1 =>
  fX12_visitOf_0_L5 S V FU a1 a3 x1)
set_option maxHeartbeats 4000000 in
set_option maxRecDepth 100000 in
theorem kX12_visitOf_0 (l : Launch) (B : jBT) (D : va_G) (ad : Nat → Nat) (cA : Nat → ClassId) (hI : jI ad TR) (S : Nat → Int32) (V : Nat → Nat → Int32) (L : Nat → Int64) (a1 : Int32) (a2 : Int32) (a3 : Int32) (r0 : Int32) (h : fX12_visitOf_0 S V a1 a2 a3 = some r0) : jM l yX12_visitOf cX12_visitOf 5 (some .int) ({ frames := 2, cells := 0, slots := 0, locals := 49 }) B D TR ad cA [.ref (ad 0), .int a1, .int a2, .int a3] S V L (some (.int r0)) S V L := by
  refine jM_of (plainFor_of_name (by decide)) TR_ok hI (Nat.le_of_ble_eq_true rfl) ?_
  intro p e s m args below meth c C hr hlk
  refine j_lv (lv2 := [(0, .ref (ad 0)), (1, .int a1), (2, .int a2), (3, .int a3)]) rfl ?_
  unfold fX12_visitOf_0 at h
  have H_fX12_visitOf_0_L5 : ∀ (n : Nat) (x2 : Int32) (x3 : Int32) (x4 : Int32), fX12_visitOf_0_L5 S V n x2 x3 x4 = some r0 → jW p l e ({ frames := 2, cells := 0, slots := 0, locals := 49 }) s m args below meth c (MQ below (jQc D TR ad cA (some (.int r0)) s.heap.size S V L) args s 0 0 (jA ad TR s.heap.size)) D TR ad cA (jA ad TR s.heap.size) 5 0 0 5 [(0, .ref (ad 0)), (1, .int x2), (3, .int x3), (4, .int x4)] [] S V L := by
    intro n
    induction n with
    | zero =>
      intro x2 x3 x4 h
      cases (show (none : Option (Int32)) = some r0 from h)
    | succ n ih =>
      intro x2 x3 x4 h
      unfold fX12_visitOf_0_L5 at h
      refine j_iload C 3 rfl dX12_visitOf_5 ?_
      refine j_iload_n C 2 rfl dX12_visitOf_7 rfl ?_
      refine j_icmp_gt (tgt := 51) C dX12_visitOf_8 (by decide) (fun c5 => ?_) (fun c5 => ?_)
      · have h := (if_pos c5).symm.trans h
        refine j_iconst C dX12_visitOf_51 ci_m1 ?_
        cases h
        exact j_iret C hr hlk rfl dX12_visitOf_52
      · have h := (if_neg c5).symm.trans h
        refine j_aload_n C 0 rfl dX12_visitOf_11 rfl ?_
        refine fg_X12_60_TR_0 C dX12_visitOf_12 ?_
        refine j_aload_n C 0 rfl dX12_visitOf_15 rfl ?_
        refine fg_X12_278_TR_0 C dX12_visitOf_16 ?_
        refine j_iload C 3 rfl dX12_visitOf_19 ?_
        obtain ⟨r6, h7, h⟩ := bd1_elim h
        refine j_callS (As := [.ref (ad 13), .int (S 42), .int x4]) (rest := []) C (kX12_allIn_13 l B D ad cA hI S V L ((S 42)) x4 _ h7) mw_X12_allIn wd1778 wd1777 ⟨rfl, rfl, by decide, by decide⟩ ⟨Nat.zero_le _, Nat.zero_le _⟩ rfl rfl (Nat.le_of_ble_eq_true rfl) dX12_visitOf_21 ?_
        refine j_iload_n C 1 rfl dX12_visitOf_24 rfl ?_
        refine j_ishr C dX12_visitOf_25 ?_
        refine j_iconst C dX12_visitOf_26 ci_1 ?_
        refine j_iand C dX12_visitOf_27 ?_
        refine j_iconst C dX12_visitOf_28 ci_1 ?_
        refine bk_elim h (fun K45_8 e_K45_8 h => ?_)
        have HK45_8 : ∀ (x9 : Int32) (x10 : Int32) (x11 : Int32), K45_8 x9 x10 x11 = some r0 → jW p l e ({ frames := 2, cells := 0, slots := 0, locals := 49 }) s m args below meth c (MQ below (jQc D TR ad cA (some (.int r0)) s.heap.size S V L) args s 0 0 (jA ad TR s.heap.size)) D TR ad cA (jA ad TR s.heap.size) 5 0 0 45 [(0, .ref (ad 0)), (1, .int x9), (3, .int x10), (4, .int x11)] [] S V L := by
          subst e_K45_8
          intro x9 x10 x11 h
          refine lt_elim h (fun x12 e_x12 h => ?_)
          refine j_iinc C [(4, .int x12), (0, .ref (ad 0)), (1, .int x9), (3, .int x10)] 3 dX12_visitOf_45 rfl ((iinc_eq ci_1).trans e_x12.symm) (by decide) rfl ?_
          refine j_goto (tgt := 5) C dX12_visitOf_48 (by decide) ?_
          exact j_sub [1, 2, 3, 0] rfl (ih _ _ _ h)
        refine j_icmp_ne (tgt := 45) C dX12_visitOf_29 (by decide) (fun c13 => ?_) (fun c13 => ?_)
        · have h := (if_neg c13).symm.trans h
          exact j_sub [0, 1, 2, 3] rfl (HK45_8 _ _ _ h)
        · have h := (if_pos c13).symm.trans h
          refine j_aload_n C 0 rfl dX12_visitOf_32 rfl ?_
          refine j_iload_n C 1 rfl dX12_visitOf_33 rfl ?_
          refine j_iload C 3 rfl dX12_visitOf_34 ?_
          obtain ⟨r14, h15, h⟩ := bd1_elim h
          refine j_callV (As := [.int x2, .int x4]) (rest := []) C (kX12_isTaken_0 l B D ad cA hI S V L x2 x4 _ h15) mw_X12_isTaken wd1906 wd99 wd1904 tr_0 rfl rfl ⟨rfl, rfl, by decide, by decide⟩ ⟨Nat.zero_le _, Nat.zero_le _⟩ rfl rfl (Nat.le_of_ble_eq_true rfl) dX12_visitOf_36 ?_
          refine j_if_ne (tgt := 45) C dX12_visitOf_39 (by decide) (fun c16 => ?_) (fun c16 => ?_)
          · have h := (if_neg c16).symm.trans h
            exact j_sub [0, 1, 2, 3] rfl (HK45_8 _ _ _ h)
          · have h := (if_pos c16).symm.trans h
            refine j_iload C 3 rfl dX12_visitOf_42 ?_
            cases h
            exact j_iret C hr hlk rfl dX12_visitOf_44
  refine j_iload_n C 2 rfl dX12_visitOf_0 rfl ?_
  refine j_iconst C dX12_visitOf_1 ci_1 ?_
  refine j_iadd C dX12_visitOf_2 ?_
  refine lt_elim h (fun x1 e_x1 h => ?_)
  refine j_top e_x1 ?_
  refine j_istore C [(4, .int x1), (0, .ref (ad 0)), (1, .int a1), (2, .int a2), (3, .int a3)] dX12_visitOf_3 (by decide) rfl ?_
  exact j_sub [1, 2, 4, 0] rfl (H_fX12_visitOf_0_L5 FU _ _ _ h)
