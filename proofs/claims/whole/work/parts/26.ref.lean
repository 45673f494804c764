def FB : Nat := 1000000000000
theorem dX12_visitsBy_0 : decode cX12_visitsBy 0 = .ok (.iconst 0, 1) := by decide +kernel
theorem dX12_visitsBy_1 : decode cX12_visitsBy 1 = .ok (.istore 4, 2) := by decide +kernel
theorem dX12_visitsBy_3 : decode cX12_visitsBy 3 = .ok (.iconst 0, 1) := by decide +kernel
theorem dX12_visitsBy_4 : decode cX12_visitsBy 4 = .ok (.istore 5, 2) := by decide +kernel
theorem dX12_visitsBy_6 : decode cX12_visitsBy 6 = .ok (.iload 5, 2) := by decide +kernel
theorem dX12_visitsBy_8 : decode cX12_visitsBy 8 = .ok (.bipush 6, 2) := by decide +kernel
theorem dX12_visitsBy_10 : decode cX12_visitsBy 10 = .ok (.if_icmp .ge 17, 3) := by decide +kernel
theorem dX12_visitsBy_13 : decode cX12_visitsBy 13 = .ok (.aload_n 0, 1) := by decide +kernel
theorem dX12_visitsBy_14 : decode cX12_visitsBy 14 = .ok (.getfield 78, 3) := by decide +kernel
theorem dX12_visitsBy_17 : decode cX12_visitsBy 17 = .ok (.iload 5, 2) := by decide +kernel
theorem dX12_visitsBy_19 : decode cX12_visitsBy 19 = .ok (.iconst (-1), 1) := by decide +kernel
theorem dX12_visitsBy_20 : decode cX12_visitsBy 20 = .ok (.iastore, 1) := by decide +kernel
theorem dX12_visitsBy_21 : decode cX12_visitsBy 21 = .ok (.iinc 5 1, 3) := by decide +kernel
theorem dX12_visitsBy_24 : decode cX12_visitsBy 24 = .ok (.goto (-18), 3) := by decide +kernel
theorem dX12_visitsBy_27 : decode cX12_visitsBy 27 = .ok (.iload 4, 2) := by decide +kernel
theorem dX12_visitsBy_29 : decode cX12_visitsBy 29 = .ok (.ifCond .lt 124, 3) := by decide +kernel
theorem dX12_visitsBy_32 : decode cX12_visitsBy 32 = .ok (.iload 4, 2) := by decide +kernel
theorem dX12_visitsBy_34 : decode cX12_visitsBy 34 = .ok (.aload_n 0, 1) := by decide +kernel
theorem dX12_visitsBy_35 : decode cX12_visitsBy 35 = .ok (.getfield 265, 3) := by decide +kernel
theorem dX12_visitsBy_38 : decode cX12_visitsBy 38 = .ok (.if_icmp .ge 115, 3) := by decide +kernel
theorem dX12_visitsBy_41 : decode cX12_visitsBy 41 = .ok (.iload_n 1, 1) := by decide +kernel
theorem dX12_visitsBy_42 : decode cX12_visitsBy 42 = .ok (.iload 4, 2) := by decide +kernel
theorem dX12_visitsBy_44 : decode cX12_visitsBy 44 = .ok (.ishr, 1) := by decide +kernel
theorem dX12_visitsBy_45 : decode cX12_visitsBy 45 = .ok (.iconst 1, 1) := by decide +kernel
theorem dX12_visitsBy_46 : decode cX12_visitsBy 46 = .ok (.iand, 1) := by decide +kernel
theorem dX12_visitsBy_47 : decode cX12_visitsBy 47 = .ok (.iconst 1, 1) := by decide +kernel
theorem dX12_visitsBy_48 : decode cX12_visitsBy 48 = .ok (.if_icmp .ne 7, 3) := by decide +kernel
theorem dX12_visitsBy_51 : decode cX12_visitsBy 51 = .ok (.iconst 1, 1) := by decide +kernel
theorem dX12_visitsBy_52 : decode cX12_visitsBy 52 = .ok (.goto 4, 3) := by decide +kernel
theorem dX12_visitsBy_55 : decode cX12_visitsBy 55 = .ok (.iconst 0, 1) := by decide +kernel
theorem dX12_visitsBy_56 : decode cX12_visitsBy 56 = .ok (.istore 5, 2) := by decide +kernel
theorem dX12_visitsBy_58 : decode cX12_visitsBy 58 = .ok (.iload 5, 2) := by decide +kernel
theorem dX12_visitsBy_60 : decode cX12_visitsBy 60 = .ok (.ifCond .eq 45, 3) := by decide +kernel
theorem dX12_visitsBy_63 : decode cX12_visitsBy 63 = .ok (.aload_n 0, 1) := by decide +kernel
theorem dX12_visitsBy_64 : decode cX12_visitsBy 64 = .ok (.getfield 78, 3) := by decide +kernel
theorem dX12_visitsBy_67 : decode cX12_visitsBy 67 = .ok (.iload 4, 2) := by decide +kernel
theorem dX12_visitsBy_69 : decode cX12_visitsBy 69 = .ok (.iaload, 1) := by decide +kernel
theorem dX12_visitsBy_70 : decode cX12_visitsBy 70 = .ok (.iconst (-1), 1) := by decide +kernel
theorem dX12_visitsBy_71 : decode cX12_visitsBy 71 = .ok (.if_icmp .ne 9, 3) := by decide +kernel
theorem dX12_visitsBy_74 : decode cX12_visitsBy 74 = .ok (.iload_n 2, 1) := by decide +kernel
theorem dX12_visitsBy_75 : decode cX12_visitsBy 75 = .ok (.iconst 1, 1) := by decide +kernel
theorem dX12_visitsBy_76 : decode cX12_visitsBy 76 = .ok (.isub, 1) := by decide +kernel
theorem dX12_visitsBy_77 : decode cX12_visitsBy 77 = .ok (.goto 10, 3) := by decide +kernel
theorem dX12_visitsBy_80 : decode cX12_visitsBy 80 = .ok (.aload_n 0, 1) := by decide +kernel
theorem dX12_visitsBy_81 : decode cX12_visitsBy 81 = .ok (.getfield 78, 3) := by decide +kernel
theorem dX12_visitsBy_84 : decode cX12_visitsBy 84 = .ok (.iload 4, 2) := by decide +kernel
theorem dX12_visitsBy_86 : decode cX12_visitsBy 86 = .ok (.iaload, 1) := by decide +kernel
theorem dX12_visitsBy_87 : decode cX12_visitsBy 87 = .ok (.istore 6, 2) := by decide +kernel
theorem dX12_visitsBy_89 : decode cX12_visitsBy 89 = .ok (.aload_n 0, 1) := by decide +kernel
theorem dX12_visitsBy_90 : decode cX12_visitsBy 90 = .ok (.getfield 78, 3) := by decide +kernel
theorem dX12_visitsBy_93 : decode cX12_visitsBy 93 = .ok (.iload 4, 2) := by decide +kernel
theorem dX12_visitsBy_95 : decode cX12_visitsBy 95 = .ok (.aload_n 0, 1) := by decide +kernel
theorem dX12_visitsBy_96 : decode cX12_visitsBy 96 = .ok (.iload 4, 2) := by decide +kernel
theorem dX12_visitsBy_98 : decode cX12_visitsBy 98 = .ok (.iload 6, 2) := by decide +kernel
theorem dX12_visitsBy_100 : decode cX12_visitsBy 100 = .ok (.iload_n 3, 1) := by decide +kernel
theorem dX12_visitsBy_101 : decode cX12_visitsBy 101 = .ok (.invokevirtual 379, 3) := by decide +kernel
theorem dX12_visitsBy_104 : decode cX12_visitsBy 104 = .ok (.iastore, 1) := by decide +kernel
theorem dX12_visitsBy_105 : decode cX12_visitsBy 105 = .ok (.iload 5, 2) := by decide +kernel
theorem dX12_visitsBy_107 : decode cX12_visitsBy 107 = .ok (.ifCond .eq 14, 3) := by decide +kernel
theorem dX12_visitsBy_110 : decode cX12_visitsBy 110 = .ok (.aload_n 0, 1) := by decide +kernel
theorem dX12_visitsBy_111 : decode cX12_visitsBy 111 = .ok (.getfield 78, 3) := by decide +kernel
theorem dX12_visitsBy_114 : decode cX12_visitsBy 114 = .ok (.iload 4, 2) := by decide +kernel
theorem dX12_visitsBy_116 : decode cX12_visitsBy 116 = .ok (.iaload, 1) := by decide +kernel
theorem dX12_visitsBy_117 : decode cX12_visitsBy 117 = .ok (.iconst (-1), 1) := by decide +kernel
theorem dX12_visitsBy_118 : decode cX12_visitsBy 118 = .ok (.if_icmp .eq 9, 3) := by decide +kernel
theorem dX12_visitsBy_121 : decode cX12_visitsBy 121 = .ok (.iinc 4 1, 3) := by decide +kernel
theorem dX12_visitsBy_124 : decode cX12_visitsBy 124 = .ok (.goto (-97), 3) := by decide +kernel
theorem dX12_visitsBy_127 : decode cX12_visitsBy 127 = .ok (.iinc 4 (-1), 3) := by decide +kernel
theorem dX12_visitsBy_130 : decode cX12_visitsBy 130 = .ok (.iload 4, 2) := by decide +kernel
theorem dX12_visitsBy_132 : decode cX12_visitsBy 132 = .ok (.ifCond .lt 18, 3) := by decide +kernel
theorem dX12_visitsBy_135 : decode cX12_visitsBy 135 = .ok (.iload_n 1, 1) := by decide +kernel
theorem dX12_visitsBy_136 : decode cX12_visitsBy 136 = .ok (.iload 4, 2) := by decide +kernel
theorem dX12_visitsBy_138 : decode cX12_visitsBy 138 = .ok (.ishr, 1) := by decide +kernel
theorem dX12_visitsBy_139 : decode cX12_visitsBy 139 = .ok (.iconst 1, 1) := by decide +kernel
theorem dX12_visitsBy_140 : decode cX12_visitsBy 140 = .ok (.iand, 1) := by decide +kernel
theorem dX12_visitsBy_141 : decode cX12_visitsBy 141 = .ok (.ifCond .ne 9, 3) := by decide +kernel
theorem dX12_visitsBy_144 : decode cX12_visitsBy 144 = .ok (.iinc 4 (-1), 3) := by decide +kernel
theorem dX12_visitsBy_147 : decode cX12_visitsBy 147 = .ok (.goto (-17), 3) := by decide +kernel
theorem dX12_visitsBy_150 : decode cX12_visitsBy 150 = .ok (.goto (-123), 3) := by decide +kernel
theorem dX12_visitsBy_153 : decode cX12_visitsBy 153 = .ok (.iload 4, 2) := by decide +kernel
theorem dX12_visitsBy_155 : decode cX12_visitsBy 155 = .ok (.ifCond .lt 7, 3) := by decide +kernel
theorem dX12_visitsBy_158 : decode cX12_visitsBy 158 = .ok (.iconst 1, 1) := by decide +kernel
theorem dX12_visitsBy_159 : decode cX12_visitsBy 159 = .ok (.goto 4, 3) := by decide +kernel
theorem dX12_visitsBy_162 : decode cX12_visitsBy 162 = .ok (.iconst 0, 1) := by decide +kernel
theorem dX12_visitsBy_163 : decode cX12_visitsBy 163 = .ok (.ireturn, 1) := by decide +kernel
def fX12_visitsBy_0_L6 (E27 : Int32 → Int32 → Int32 → Int32 → (Nat → Nat → Int32) → Option (Int32 × (Nat → Nat → Int32))) (S : Nat → Int32) : Nat → Int32 → Int32 → Int32 → Int32 → Int32 → (Nat → Nat → Int32) → Option (Int32 × (Nat → Nat → Int32))
  | 0, _, _, _, _, _, _ => none
  | n + 1, x1, x2, x3, x4, x5, V6 =>
    (if (6 : Int32) ≤ x5 then
    E27 x1 x2 x3 x4 V6
    else
    gd (ib x5 6) (
    lt (va_up V6 19 (upd (V6 19) (x5).toNatClampNeg (-1 : Int32))) (fun V9 =>
    lt (x5 + (1 : Int32)) (fun x10 =>
    fX12_visitsBy_0_L6 E27 S n x1 x2 x3 x4 x10 V9))))
def fX12_visitsBy_0_L130 (E150 : Int32 → Int32 → Int32 → Int32 → (Nat → Nat → Int32) → Option (Int32 × (Nat → Nat → Int32))) (S : Nat → Int32) : Nat → Int32 → Int32 → Int32 → Int32 → (Nat → Nat → Int32) → Option (Int32 × (Nat → Nat → Int32))
  | 0, _, _, _, _, _ => none
  | n + 1, x54, x55, x56, x57, V58 =>
    (if x57 < 0 then
    E150 x54 x55 x56 x57 V58
    else
    (if ((x54 >>> (x57 &&& 31)) &&& (1 : Int32)) = 0 then
    lt (x57 + (-1 : Int32)) (fun x61 =>
    fX12_visitsBy_0_L130 E150 S n x54 x55 x56 x61 V58)
    else
    E150 x54 x55 x56 x57 V58))
def fX12_visitsBy_0_L27 (E153 : Int32 → (Nat → Nat → Int32) → Option (Int32 × (Nat → Nat → Int32))) (S : Nat → Int32) : Nat → Int32 → Int32 → Int32 → Int32 → (Nat → Nat → Int32) → Option (Int32 × (Nat → Nat → Int32))
  | 0, _, _, _, _, _ => none
  | n + 1, x22, x23, x24, x25, V26 =>
    (if x25 < 0 then
    E153 x25 V26
    else
    (if (S 5) ≤ x25 then
    E153 x25 V26
    else
    bk (fun (x30 : Int32) (x31 : Int32) (x32 : Int32) (x33 : Int32) (x34 : Int32) (V35 : Nat → Nat → Int32) =>
    bk (fun (x37 : Int32) (x38 : Int32) (x39 : Int32) (x40 : Int32) (x41 : Int32) (V42 : Nat → Nat → Int32) =>
    bk (fun (x44 : Int32) (x45 : Int32) (x46 : Int32) (x47 : Int32) (V48 : Nat → Nat → Int32) =>
    lt (x47 + (1 : Int32)) (fun x49 =>
    fX12_visitsBy_0_L27 E153 S n x44 x45 x46 x49 V48)) (fun K121_43 =>
    (if x41 = 0 then
    K121_43 x37 x38 x39 x40 V42
    else
    gd (ib x40 6) (
    (if (V42 19 (x40).toNatClampNeg) = (-1 : Int32) then
    lt (x40 + (-1 : Int32)) (fun x53 =>
    bk (fun (x68 : Int32) (x69 : Int32) (x70 : Int32) (x71 : Int32) (V72 : Nat → Nat → Int32) =>
    fX12_visitsBy_0_L27 E153 S n x68 x69 x70 x71 V72) (fun X150_67 =>
    fX12_visitsBy_0_L130 X150_67 S FB x37 x38 x39 x53 V42))
    else
    K121_43 x37 x38 x39 x40 V42))))) (fun K105_36 =>
    (if x34 = 0 then
    K105_36 x30 x31 x32 x33 x34 V35
    else
    gd (ib x33 6) (
    bk (fun (x76 : Int32) (x77 : Int32) (x78 : Int32) (x79 : Int32) (x80 : Int32) (x81 : Int32) (V82 : Nat → Nat → Int32) =>
    bd1 (fX12_visitOf_0 S V82 x79 x81 x78) (fun r83 =>
    gd (ib x79 6) (
    lt (va_up V82 19 (upd (V82 19) (x79).toNatClampNeg r83)) (fun V86 =>
    K105_36 x76 x77 x78 x79 x80 V86)))) (fun K87_75 =>
    (if (V35 19 (x33).toNatClampNeg) = (-1 : Int32) then
    K87_75 x30 x31 x32 x33 x34 ((x31 - (1 : Int32))) V35
    else
    gd (ib x33 6) (
    K87_75 x30 x31 x32 x33 x34 ((V35 19 (x33).toNatClampNeg)) V35))))))) (fun K56_29 =>
    (if ((x22 >>> (x25 &&& 31)) &&& (1 : Int32)) = (1 : Int32) then
    K56_29 x22 x23 x24 x25 (1 : Int32) V26
    else
    K56_29 x22 x23 x24 x25 (0 : Int32) V26))))
def fX12_visitsBy_0 (S : Nat → Int32) (V : Nat → Nat → Int32) (a1 : Int32) (a2 : Int32) (a3 : Int32) : Option (Int32 × (Nat → Nat → Int32)) :=
  bk (fun (x17 : Int32) (x18 : Int32) (x19 : Int32) (x20 : Int32) (V21 : Nat → Nat → Int32) =>
  bk (fun (x93 : Int32) (V94 : Nat → Nat → Int32) =>
  (if x93 < 0 then
  some ((0 : Int32), V94)
  else
  some ((1 : Int32), V94))) (fun X153_92 =>
  fX12_visitsBy_0_L27 X153_92 S FB x17 x18 x19 x20 V21)) (fun X27_16 =>
  fX12_visitsBy_0_L6 X27_16 S FB a1 a2 a3 (0 : Int32) (0 : Int32) V)
set_option maxHeartbeats 4000000 in
set_option maxRecDepth 100000 in
theorem kX12_visitsBy_0 (l : Launch) (B : jBT) (D : va_G) (ad : Nat → Nat) (cA : Nat → ClassId) (hI : jI ad TR) (S : Nat → Int32) (V : Nat → Nat → Int32) (L : Nat → Int64) (a1 : Int32) (a2 : Int32) (a3 : Int32) (r0 : Int32) (V0 : Nat → Nat → Int32) (h : fX12_visitsBy_0 S V a1 a2 a3 = some (r0, V0)) : jM l yX12_visitsBy cX12_visitsBy 7 (some .boolean) ({ frames := 3, cells := 0, slots := 0, locals := 73 }) B D TR ad cA [.ref (ad 0), .int a1, .int a2, .int a3] S V L (some (.int r0)) S V0 L := by
  refine jM_of (plainFor_of_name (by decide)) TR_ok hI (Nat.le_of_ble_eq_true rfl) ?_
  intro p e s m args below meth c C hr hlk
  refine j_lv (lv2 := [(0, .ref (ad 0)), (1, .int a1), (2, .int a2), (3, .int a3)]) rfl ?_
  unfold fX12_visitsBy_0 at h
  have H_fX12_visitsBy_0_L6 : ∀ (E27 : Int32 → Int32 → Int32 → Int32 → (Nat → Nat → Int32) → Option (Int32 × (Nat → Nat → Int32))) (_ : ∀ (x11 : Int32) (x12 : Int32) (x13 : Int32) (x14 : Int32) (V15 : Nat → Nat → Int32), E27 x11 x12 x13 x14 V15 = some (r0, V0) → jW p l e ({ frames := 3, cells := 0, slots := 0, locals := 73 }) s m args below meth c (MQ below (jQc D TR ad cA (some (.int r0)) s.heap.size S V0 L) args s 0 0 (jA ad TR s.heap.size)) D TR ad cA (jA ad TR s.heap.size) 7 0 0 27 [(0, .ref (ad 0)), (1, .int x11), (2, .int x12), (3, .int x13), (4, .int x14)] [] S V15 L) (n : Nat) (x1 : Int32) (x2 : Int32) (x3 : Int32) (x4 : Int32) (x5 : Int32) (V6 : Nat → Nat → Int32), fX12_visitsBy_0_L6 E27 S n x1 x2 x3 x4 x5 V6 = some (r0, V0) → jW p l e ({ frames := 3, cells := 0, slots := 0, locals := 73 }) s m args below meth c (MQ below (jQc D TR ad cA (some (.int r0)) s.heap.size S V0 L) args s 0 0 (jA ad TR s.heap.size)) D TR ad cA (jA ad TR s.heap.size) 7 0 0 6 [(0, .ref (ad 0)), (1, .int x1), (2, .int x2), (3, .int x3), (4, .int x4), (5, .int x5)] [] S V6 L := by
    intro E27 HE27
    intro n
    induction n with
    | zero =>
      intro x1 x2 x3 x4 x5 V6 h
      cases (show (none : Option (Int32 × (Nat → Nat → Int32))) = some (r0, V0) from h)
    | succ n ih =>
      intro x1 x2 x3 x4 x5 V6 h
      unfold fX12_visitsBy_0_L6 at h
      refine j_iload C 5 rfl dX12_visitsBy_6 ?_
      refine j_bipush C dX12_visitsBy_8 cb_6 ?_
      refine j_icmp_ge (tgt := 27) C dX12_visitsBy_10 (by decide) (fun c7 => ?_) (fun c7 => ?_)
      · have h := (if_pos c7).symm.trans h
        exact j_sub [0, 1, 2, 3, 4] rfl (HE27 _ _ _ _ _ h)
      · have h := (if_neg c7).symm.trans h
        refine j_aload_n C 0 rfl dX12_visitsBy_13 rfl ?_
        refine fg_X12_78_TR_0 C dX12_visitsBy_14 ?_
        refine j_iload C 5 rfl dX12_visitsBy_17 ?_
        refine j_iconst C dX12_visitsBy_19 ci_m1 ?_
        obtain ⟨g8, h⟩ := gd_elim h
        refine j_iast C tr_19 (ib_in g8) dX12_visitsBy_20 ?_
        refine lt_elim h (fun V9 e_V9 h => ?_)
        refine j_V e_V9 ?_
        refine lt_elim h (fun x10 e_x10 h => ?_)
        refine j_iinc C [(5, .int x10), (0, .ref (ad 0)), (1, .int x1), (2, .int x2), (3, .int x3), (4, .int x4)] 5 dX12_visitsBy_21 rfl ((iinc_eq ci_1).trans e_x10.symm) (by decide) rfl ?_
        refine j_goto (tgt := 6) C dX12_visitsBy_24 (by decide) ?_
        exact j_sub [1, 2, 3, 4, 5, 0] rfl (ih _ _ _ _ _ _ h)
  have H_fX12_visitsBy_0_L130 : ∀ (E150 : Int32 → Int32 → Int32 → Int32 → (Nat → Nat → Int32) → Option (Int32 × (Nat → Nat → Int32))) (_ : ∀ (x62 : Int32) (x63 : Int32) (x64 : Int32) (x65 : Int32) (V66 : Nat → Nat → Int32), E150 x62 x63 x64 x65 V66 = some (r0, V0) → jW p l e ({ frames := 3, cells := 0, slots := 0, locals := 73 }) s m args below meth c (MQ below (jQc D TR ad cA (some (.int r0)) s.heap.size S V0 L) args s 0 0 (jA ad TR s.heap.size)) D TR ad cA (jA ad TR s.heap.size) 7 0 0 150 [(0, .ref (ad 0)), (1, .int x62), (2, .int x63), (3, .int x64), (4, .int x65)] [] S V66 L) (n : Nat) (x54 : Int32) (x55 : Int32) (x56 : Int32) (x57 : Int32) (V58 : Nat → Nat → Int32), fX12_visitsBy_0_L130 E150 S n x54 x55 x56 x57 V58 = some (r0, V0) → jW p l e ({ frames := 3, cells := 0, slots := 0, locals := 73 }) s m args below meth c (MQ below (jQc D TR ad cA (some (.int r0)) s.heap.size S V0 L) args s 0 0 (jA ad TR s.heap.size)) D TR ad cA (jA ad TR s.heap.size) 7 0 0 130 [(0, .ref (ad 0)), (1, .int x54), (2, .int x55), (3, .int x56), (4, .int x57)] [] S V58 L := by
    intro E150 HE150
    intro n
    induction n with
    | zero =>
      intro x54 x55 x56 x57 V58 h
      cases (show (none : Option (Int32 × (Nat → Nat → Int32))) = some (r0, V0) from h)
    | succ n ih =>
      intro x54 x55 x56 x57 V58 h
      unfold fX12_visitsBy_0_L130 at h
      refine j_iload C 4 rfl dX12_visitsBy_130 ?_
      refine j_if_lt (tgt := 150) C dX12_visitsBy_132 (by decide) (fun c59 => ?_) (fun c59 => ?_)
      · have h := (if_pos c59).symm.trans h
        exact j_sub [0, 1, 2, 3, 4] rfl (HE150 _ _ _ _ _ h)
      · have h := (if_neg c59).symm.trans h
        refine j_iload_n C 1 rfl dX12_visitsBy_135 rfl ?_
        refine j_iload C 4 rfl dX12_visitsBy_136 ?_
        refine j_ishr C dX12_visitsBy_138 ?_
        refine j_iconst C dX12_visitsBy_139 ci_1 ?_
        refine j_iand C dX12_visitsBy_140 ?_
        refine j_if_ne (tgt := 150) C dX12_visitsBy_141 (by decide) (fun c60 => ?_) (fun c60 => ?_)
        · have h := (if_neg c60).symm.trans h
          exact j_sub [0, 1, 2, 3, 4] rfl (HE150 _ _ _ _ _ h)
        · have h := (if_pos c60).symm.trans h
          refine lt_elim h (fun x61 e_x61 h => ?_)
          refine j_iinc C [(4, .int x61), (0, .ref (ad 0)), (1, .int x54), (2, .int x55), (3, .int x56)] 4 dX12_visitsBy_144 rfl ((iinc_eq ci_m1).trans e_x61.symm) (by decide) rfl ?_
          refine j_goto (tgt := 130) C dX12_visitsBy_147 (by decide) ?_
          exact j_sub [1, 2, 3, 4, 0] rfl (ih _ _ _ _ _ h)
  have H_fX12_visitsBy_0_L27 : ∀ (E153 : Int32 → (Nat → Nat → Int32) → Option (Int32 × (Nat → Nat → Int32))) (_ : ∀ (x90 : Int32) (V91 : Nat → Nat → Int32), E153 x90 V91 = some (r0, V0) → jW p l e ({ frames := 3, cells := 0, slots := 0, locals := 73 }) s m args below meth c (MQ below (jQc D TR ad cA (some (.int r0)) s.heap.size S V0 L) args s 0 0 (jA ad TR s.heap.size)) D TR ad cA (jA ad TR s.heap.size) 7 0 0 153 [(4, .int x90)] [] S V91 L) (n : Nat) (x22 : Int32) (x23 : Int32) (x24 : Int32) (x25 : Int32) (V26 : Nat → Nat → Int32), fX12_visitsBy_0_L27 E153 S n x22 x23 x24 x25 V26 = some (r0, V0) → jW p l e ({ frames := 3, cells := 0, slots := 0, locals := 73 }) s m args below meth c (MQ below (jQc D TR ad cA (some (.int r0)) s.heap.size S V0 L) args s 0 0 (jA ad TR s.heap.size)) D TR ad cA (jA ad TR s.heap.size) 7 0 0 27 [(0, .ref (ad 0)), (1, .int x22), (2, .int x23), (3, .int x24), (4, .int x25)] [] S V26 L := by
    intro E153 HE153
    intro n
    induction n with
    | zero =>
      intro x22 x23 x24 x25 V26 h
      cases (show (none : Option (Int32 × (Nat → Nat → Int32))) = some (r0, V0) from h)
    | succ n ih =>
      intro x22 x23 x24 x25 V26 h
      unfold fX12_visitsBy_0_L27 at h
      refine j_iload C 4 rfl dX12_visitsBy_27 ?_
      refine j_if_lt (tgt := 153) C dX12_visitsBy_29 (by decide) (fun c27 => ?_) (fun c27 => ?_)
      · have h := (if_pos c27).symm.trans h
        exact j_sub [4] rfl (HE153 _ _ h)
      · have h := (if_neg c27).symm.trans h
        refine j_iload C 4 rfl dX12_visitsBy_32 ?_
        refine j_aload_n C 0 rfl dX12_visitsBy_34 rfl ?_
        refine fg_X12_265_TR_0 C dX12_visitsBy_35 ?_
        refine j_icmp_ge (tgt := 153) C dX12_visitsBy_38 (by decide) (fun c28 => ?_) (fun c28 => ?_)
        · have h := (if_pos c28).symm.trans h
          exact j_sub [4] rfl (HE153 _ _ h)
        · have h := (if_neg c28).symm.trans h
          refine j_iload_n C 1 rfl dX12_visitsBy_41 rfl ?_
          refine j_iload C 4 rfl dX12_visitsBy_42 ?_
          refine j_ishr C dX12_visitsBy_44 ?_
          refine j_iconst C dX12_visitsBy_45 ci_1 ?_
          refine j_iand C dX12_visitsBy_46 ?_
          refine j_iconst C dX12_visitsBy_47 ci_1 ?_
          refine bk_elim h (fun K56_29 e_K56_29 h => ?_)
          have HK56_29 : ∀ (x30 : Int32) (x31 : Int32) (x32 : Int32) (x33 : Int32) (x34 : Int32) (V35 : Nat → Nat → Int32), K56_29 x30 x31 x32 x33 x34 V35 = some (r0, V0) → jW p l e ({ frames := 3, cells := 0, slots := 0, locals := 73 }) s m args below meth c (MQ below (jQc D TR ad cA (some (.int r0)) s.heap.size S V0 L) args s 0 0 (jA ad TR s.heap.size)) D TR ad cA (jA ad TR s.heap.size) 7 0 0 56 [(0, .ref (ad 0)), (1, .int x30), (2, .int x31), (3, .int x32), (4, .int x33)] [.int x34] S V35 L := by
            subst e_K56_29
            intro x30 x31 x32 x33 x34 V35 h
            refine j_istore C [(5, .int x34), (0, .ref (ad 0)), (1, .int x30), (2, .int x31), (3, .int x32), (4, .int x33)] dX12_visitsBy_56 (by decide) rfl ?_
            refine j_iload C 0 rfl dX12_visitsBy_58 ?_
            refine bk_elim h (fun K105_36 e_K105_36 h => ?_)
            have HK105_36 : ∀ (x37 : Int32) (x38 : Int32) (x39 : Int32) (x40 : Int32) (x41 : Int32) (V42 : Nat → Nat → Int32), K105_36 x37 x38 x39 x40 x41 V42 = some (r0, V0) → jW p l e ({ frames := 3, cells := 0, slots := 0, locals := 73 }) s m args below meth c (MQ below (jQc D TR ad cA (some (.int r0)) s.heap.size S V0 L) args s 0 0 (jA ad TR s.heap.size)) D TR ad cA (jA ad TR s.heap.size) 7 0 0 105 [(0, .ref (ad 0)), (1, .int x37), (2, .int x38), (3, .int x39), (4, .int x40), (5, .int x41)] [] S V42 L := by
              subst e_K105_36
              intro x37 x38 x39 x40 x41 V42 h
              refine j_iload C 5 rfl dX12_visitsBy_105 ?_
              refine bk_elim h (fun K121_43 e_K121_43 h => ?_)
              have HK121_43 : ∀ (x44 : Int32) (x45 : Int32) (x46 : Int32) (x47 : Int32) (V48 : Nat → Nat → Int32), K121_43 x44 x45 x46 x47 V48 = some (r0, V0) → jW p l e ({ frames := 3, cells := 0, slots := 0, locals := 73 }) s m args below meth c (MQ below (jQc D TR ad cA (some (.int r0)) s.heap.size S V0 L) args s 0 0 (jA ad TR s.heap.size)) D TR ad cA (jA ad TR s.heap.size) 7 0 0 121 [(0, .ref (ad 0)), (1, .int x44), (2, .int x45), (3, .int x46), (4, .int x47)] [] S V48 L := by
                subst e_K121_43
                intro x44 x45 x46 x47 V48 h
                refine lt_elim h (fun x49 e_x49 h => ?_)
                refine j_iinc C [(4, .int x49), (0, .ref (ad 0)), (1, .int x44), (2, .int x45), (3, .int x46)] 4 dX12_visitsBy_121 rfl ((iinc_eq ci_1).trans e_x49.symm) (by decide) rfl ?_
                refine j_goto (tgt := 27) C dX12_visitsBy_124 (by decide) ?_
                exact j_sub [1, 2, 3, 4, 0] rfl (ih _ _ _ _ _ h)
              refine j_if_eq (tgt := 121) C dX12_visitsBy_107 (by decide) (fun c50 => ?_) (fun c50 => ?_)
              · have h := (if_pos c50).symm.trans h
                exact j_sub [0, 1, 2, 3, 4] rfl (HK121_43 _ _ _ _ _ h)
              · have h := (if_neg c50).symm.trans h
                refine j_aload_n C 0 rfl dX12_visitsBy_110 rfl ?_
                refine fg_X12_78_TR_0 C dX12_visitsBy_111 ?_
                refine j_iload C 4 rfl dX12_visitsBy_114 ?_
                obtain ⟨g51, h⟩ := gd_elim h
                refine j_iald C tr_19 (ib_in g51) dX12_visitsBy_116 ?_
                refine j_iconst C dX12_visitsBy_117 ci_m1 ?_
                refine j_icmp_eq (tgt := 127) C dX12_visitsBy_118 (by decide) (fun c52 => ?_) (fun c52 => ?_)
                · have h := (if_pos c52).symm.trans h
                  refine lt_elim h (fun x53 e_x53 h => ?_)
                  refine j_iinc C [(4, .int x53), (0, .ref (ad 0)), (1, .int x37), (2, .int x38), (3, .int x39), (5, .int x41)] 4 dX12_visitsBy_127 rfl ((iinc_eq ci_m1).trans e_x53.symm) (by decide) rfl ?_
                  refine bk_elim h (fun X150_67 e_X150_67 h => ?_)
                  have HX150_67 : ∀ (x68 : Int32) (x69 : Int32) (x70 : Int32) (x71 : Int32) (V72 : Nat → Nat → Int32), X150_67 x68 x69 x70 x71 V72 = some (r0, V0) → jW p l e ({ frames := 3, cells := 0, slots := 0, locals := 73 }) s m args below meth c (MQ below (jQc D TR ad cA (some (.int r0)) s.heap.size S V0 L) args s 0 0 (jA ad TR s.heap.size)) D TR ad cA (jA ad TR s.heap.size) 7 0 0 150 [(0, .ref (ad 0)), (1, .int x68), (2, .int x69), (3, .int x70), (4, .int x71)] [] S V72 L := by
                    subst e_X150_67
                    intro x68 x69 x70 x71 V72 h
                    refine j_goto (tgt := 27) C dX12_visitsBy_150 (by decide) ?_
                    exact j_sub [0, 1, 2, 3, 4] rfl (ih _ _ _ _ _ h)
                  exact j_sub [1, 2, 3, 4, 0] rfl (H_fX12_visitsBy_0_L130 _ HX150_67 FB _ _ _ _ _ h)
                · have h := (if_neg c52).symm.trans h
                  exact j_sub [0, 1, 2, 3, 4] rfl (HK121_43 _ _ _ _ _ h)
            refine j_if_eq (tgt := 105) C dX12_visitsBy_60 (by decide) (fun c73 => ?_) (fun c73 => ?_)
            · have h := (if_pos c73).symm.trans h
              exact j_sub [1, 2, 3, 4, 5, 0] rfl (HK105_36 _ _ _ _ _ _ h)
            · have h := (if_neg c73).symm.trans h
              refine j_aload_n C 1 rfl dX12_visitsBy_63 rfl ?_
              refine fg_X12_78_TR_0 C dX12_visitsBy_64 ?_
              refine j_iload C 5 rfl dX12_visitsBy_67 ?_
              obtain ⟨g74, h⟩ := gd_elim h
              refine j_iald C tr_19 (ib_in g74) dX12_visitsBy_69 ?_
              refine j_iconst C dX12_visitsBy_70 ci_m1 ?_
              refine bk_elim h (fun K87_75 e_K87_75 h => ?_)
              have HK87_75 : ∀ (x76 : Int32) (x77 : Int32) (x78 : Int32) (x79 : Int32) (x80 : Int32) (x81 : Int32) (V82 : Nat → Nat → Int32), K87_75 x76 x77 x78 x79 x80 x81 V82 = some (r0, V0) → jW p l e ({ frames := 3, cells := 0, slots := 0, locals := 73 }) s m args below meth c (MQ below (jQc D TR ad cA (some (.int r0)) s.heap.size S V0 L) args s 0 0 (jA ad TR s.heap.size)) D TR ad cA (jA ad TR s.heap.size) 7 0 0 87 [(0, .ref (ad 0)), (1, .int x76), (2, .int x77), (3, .int x78), (4, .int x79), (5, .int x80)] [.int x81] S V82 L := by
                subst e_K87_75
                intro x76 x77 x78 x79 x80 x81 V82 h
                refine j_istore C [(6, .int x81), (0, .ref (ad 0)), (1, .int x76), (2, .int x77), (3, .int x78), (4, .int x79), (5, .int x80)] dX12_visitsBy_87 (by decide) rfl ?_
                refine j_aload_n C 1 rfl dX12_visitsBy_89 rfl ?_
                refine fg_X12_78_TR_0 C dX12_visitsBy_90 ?_
                refine j_iload C 5 rfl dX12_visitsBy_93 ?_
                refine j_aload_n C 1 rfl dX12_visitsBy_95 rfl ?_
                refine j_iload C 5 rfl dX12_visitsBy_96 ?_
                refine j_iload C 0 rfl dX12_visitsBy_98 ?_
                refine j_iload_n C 4 rfl dX12_visitsBy_100 rfl ?_
                obtain ⟨r83, h84, h⟩ := bd1_elim h
                refine j_callV (As := [.int x79, .int x81, .int x78]) (rest := [.int x79, .ref (ad 19)]) C (kX12_visitOf_0 l B D ad cA hI S V82 L x79 x81 x78 _ h84) mw_X12_visitOf wd1902 wd98 wd1900 tr_0 rfl rfl ⟨rfl, rfl, by decide, by decide⟩ ⟨Nat.zero_le _, Nat.zero_le _⟩ rfl rfl (Nat.le_of_ble_eq_true rfl) dX12_visitsBy_101 ?_
                obtain ⟨g85, h⟩ := gd_elim h
                refine j_iast C tr_19 (ib_in g85) dX12_visitsBy_104 ?_
                refine lt_elim h (fun V86 e_V86 h => ?_)
                refine j_V e_V86 ?_
                exact j_sub [1, 2, 3, 4, 5, 6] rfl (HK105_36 _ _ _ _ _ _ h)
              refine j_icmp_ne (tgt := 80) C dX12_visitsBy_71 (by decide) (fun c87 => ?_) (fun c87 => ?_)
              · have h := (if_neg c87).symm.trans h
                refine j_aload_n C 1 rfl dX12_visitsBy_80 rfl ?_
                refine fg_X12_78_TR_0 C dX12_visitsBy_81 ?_
                refine j_iload C 5 rfl dX12_visitsBy_84 ?_
                obtain ⟨g88, h⟩ := gd_elim h
                refine j_iald C tr_19 (ib_in g88) dX12_visitsBy_86 ?_
                exact j_sub [1, 2, 3, 4, 5, 0] rfl (HK87_75 _ _ _ _ _ _ _ h)
              · have h := (if_pos c87).symm.trans h
                refine j_iload_n C 3 rfl dX12_visitsBy_74 rfl ?_
                refine j_iconst C dX12_visitsBy_75 ci_1 ?_
                refine j_isub C dX12_visitsBy_76 ?_
                refine j_goto (tgt := 87) C dX12_visitsBy_77 (by decide) ?_
                exact j_sub [1, 2, 3, 4, 5, 0] rfl (HK87_75 _ _ _ _ _ _ _ h)
          refine j_icmp_ne (tgt := 55) C dX12_visitsBy_48 (by decide) (fun c89 => ?_) (fun c89 => ?_)
          · have h := (if_neg c89).symm.trans h
            refine j_iconst C dX12_visitsBy_55 ci_0 ?_
            exact j_sub [0, 1, 2, 3, 4] rfl (HK56_29 _ _ _ _ _ _ h)
          · have h := (if_pos c89).symm.trans h
            refine j_iconst C dX12_visitsBy_51 ci_1 ?_
            refine j_goto (tgt := 56) C dX12_visitsBy_52 (by decide) ?_
            exact j_sub [0, 1, 2, 3, 4] rfl (HK56_29 _ _ _ _ _ _ h)
  refine j_iconst C dX12_visitsBy_0 ci_0 ?_
  refine j_istore C [(4, .int (0 : Int32)), (0, .ref (ad 0)), (1, .int a1), (2, .int a2), (3, .int a3)] dX12_visitsBy_1 (by decide) rfl ?_
  refine j_iconst C dX12_visitsBy_3 ci_0 ?_
  refine j_istore C [(5, .int (0 : Int32)), (4, .int (0 : Int32)), (0, .ref (ad 0)), (1, .int a1), (2, .int a2), (3, .int a3)] dX12_visitsBy_4 (by decide) rfl ?_
  refine bk_elim h (fun X27_16 e_X27_16 h => ?_)
  have HX27_16 : ∀ (x17 : Int32) (x18 : Int32) (x19 : Int32) (x20 : Int32) (V21 : Nat → Nat → Int32), X27_16 x17 x18 x19 x20 V21 = some (r0, V0) → jW p l e ({ frames := 3, cells := 0, slots := 0, locals := 73 }) s m args below meth c (MQ below (jQc D TR ad cA (some (.int r0)) s.heap.size S V0 L) args s 0 0 (jA ad TR s.heap.size)) D TR ad cA (jA ad TR s.heap.size) 7 0 0 27 [(0, .ref (ad 0)), (1, .int x17), (2, .int x18), (3, .int x19), (4, .int x20)] [] S V21 L := by
    subst e_X27_16
    intro x17 x18 x19 x20 V21 h
    refine bk_elim h (fun X153_92 e_X153_92 h => ?_)
    have HX153_92 : ∀ (x93 : Int32) (V94 : Nat → Nat → Int32), X153_92 x93 V94 = some (r0, V0) → jW p l e ({ frames := 3, cells := 0, slots := 0, locals := 73 }) s m args below meth c (MQ below (jQc D TR ad cA (some (.int r0)) s.heap.size S V0 L) args s 0 0 (jA ad TR s.heap.size)) D TR ad cA (jA ad TR s.heap.size) 7 0 0 153 [(4, .int x93)] [] S V94 L := by
      subst e_X153_92
      intro x93 V94 h
      refine j_iload C 0 rfl dX12_visitsBy_153 ?_
      refine j_if_lt (tgt := 162) C dX12_visitsBy_155 (by decide) (fun c95 => ?_) (fun c95 => ?_)
      · have h := (if_pos c95).symm.trans h
        refine j_iconst C dX12_visitsBy_162 ci_0 ?_
        cases h
        exact j_zret C hr hlk rfl rfl dX12_visitsBy_163
      · have h := (if_neg c95).symm.trans h
        refine j_iconst C dX12_visitsBy_158 ci_1 ?_
        refine j_goto (tgt := 163) C dX12_visitsBy_159 (by decide) ?_
        cases h
        exact j_zret C hr hlk rfl rfl dX12_visitsBy_163
    exact j_sub [0, 1, 2, 3, 4] rfl (H_fX12_visitsBy_0_L27 _ HX153_92 FB _ _ _ _ _ h)
  exact j_sub [2, 3, 4, 5, 1, 0] rfl (H_fX12_visitsBy_0_L6 _ HX27_16 FB _ _ _ _ _ _ h)
def fX12_copies_0_19_20_L2 : Nat → Int32 → (Nat → Nat → Int32) → Option ((Nat → Nat → Int32))
  | 0, _, _ => none
  | n + 1, x1, V2 =>
    (if (6 : Int32) ≤ x1 then
    some V2
    else
    gd (ib x1 6) (
    lt ((V2 19 (x1).toNatClampNeg)) (fun x5 =>
    gd (ib x1 6) (
    lt (va_up V2 20 (upd (V2 20) (x1).toNatClampNeg x5)) (fun V7 =>
    lt (x1 + (1 : Int32)) (fun x8 =>
    fX12_copies_0_19_20_L2 n x8 V7))))))
def fX12_copies_0_19_20 (V : Nat → Nat → Int32) : Option ((Nat → Nat → Int32)) :=
  fX12_copies_0_19_20_L2 FU (0 : Int32) V
set_option maxHeartbeats 4000000 in
set_option maxRecDepth 100000 in
theorem kX12_copies_0_19_20 (l : Launch) (B : jBT) (D : va_G) (ad : Nat → Nat) (cA : Nat → ClassId) (hI : jI ad TR) (S : Nat → Int32) (V : Nat → Nat → Int32) (L : Nat → Int64) (V0 : Nat → Nat → Int32) (h : fX12_copies_0_19_20 V = some V0) : jM l yX12_copies cX12_copies 4 none ({ frames := 0, cells := 0, slots := 0, locals := 0 }) B D TR ad cA [.ref (ad 0), .ref (ad 19), .ref (ad 20)] S V L none S V0 L := by
  refine jM_of (plainFor_of_name (by decide)) TR_ok hI (Nat.le_of_ble_eq_true rfl) ?_
  intro p e s m args below meth c C hr hlk
  refine j_lv (lv2 := [(0, .ref (ad 0)), (1, .ref (ad 19)), (2, .ref (ad 20))]) rfl ?_
  unfold fX12_copies_0_19_20 at h
  have H_fX12_copies_0_19_20_L2 : ∀ (n : Nat) (x1 : Int32) (V2 : Nat → Nat → Int32), fX12_copies_0_19_20_L2 n x1 V2 = some V0 → jW p l e ({ frames := 0, cells := 0, slots := 0, locals := 0 }) s m args below meth c (MQ below (jQc D TR ad cA none s.heap.size S V0 L) args s 0 0 (jA ad TR s.heap.size)) D TR ad cA (jA ad TR s.heap.size) 4 0 0 2 [(1, .ref (ad 19)), (2, .ref (ad 20)), (3, .int x1)] [] S V2 L := by
    intro n
    induction n with
    | zero =>
      intro x1 V2 h
      cases (show (none : Option ((Nat → Nat → Int32))) = some V0 from h)
    | succ n ih =>
      intro x1 V2 h
      unfold fX12_copies_0_19_20_L2 at h
      refine j_iload_n C 2 rfl dX12_copies_2 rfl ?_
      refine j_aload_n C 0 rfl dX12_copies_3 rfl ?_
      refine j_alen (v := (6 : Int32)) C tr_19 (by decide) dX12_copies_4 ?_
      refine j_icmp_ge (tgt := 20) C dX12_copies_5 (by decide) (fun c3 => ?_) (fun c3 => ?_)
      · have h := (if_pos c3).symm.trans h
        cases h
        exact j_vret C hr hlk rfl dX12_copies_20
      · have h := (if_neg c3).symm.trans h
        refine j_aload_n C 1 rfl dX12_copies_8 rfl ?_
        refine j_iload_n C 2 rfl dX12_copies_9 rfl ?_
        refine j_aload_n C 0 rfl dX12_copies_10 rfl ?_
        refine j_iload_n C 2 rfl dX12_copies_11 rfl ?_
        obtain ⟨g4, h⟩ := gd_elim h
        refine j_iald C tr_19 (ib_in g4) dX12_copies_12 ?_
        refine lt_elim h (fun x5 e_x5 h => ?_)
        refine j_top e_x5 ?_
        obtain ⟨g6, h⟩ := gd_elim h
        refine j_iast C tr_20 (ib_in g6) dX12_copies_13 ?_
        refine lt_elim h (fun V7 e_V7 h => ?_)
        refine j_V e_V7 ?_
        refine lt_elim h (fun x8 e_x8 h => ?_)
        refine j_iinc C [(3, .int x8), (1, .ref (ad 19)), (2, .ref (ad 20))] 2 dX12_copies_14 rfl ((iinc_eq ci_1).trans e_x8.symm) (by decide) rfl ?_
        refine j_goto (tgt := 2) C dX12_copies_17 (by decide) ?_
        exact j_sub [1, 2, 0] rfl (ih _ _ h)
  refine j_iconst C dX12_copies_0 ci_0 ?_
  refine j_istore_n C [(3, .int (0 : Int32)), (0, .ref (ad 0)), (1, .ref (ad 19)), (2, .ref (ad 20))] dX12_copies_1 rfl (by decide) rfl ?_
  exact j_sub [2, 3, 0] rfl (H_fX12_copies_0_19_20_L2 FU _ _ h)
theorem dX12_visits_0 : decode cX12_visits 0 = .ok (.aload_n 0, 1) := by decide +kernel
theorem dX12_visits_1 : decode cX12_visits 1 = .ok (.iconst 0, 1) := by decide +kernel
theorem dX12_visits_2 : decode cX12_visits 2 = .ok (.putfield 93, 3) := by decide +kernel
theorem dX12_visits_5 : decode cX12_visits 5 = .ok (.aload_n 0, 1) := by decide +kernel
theorem dX12_visits_6 : decode cX12_visits 6 = .ok (.iload_n 2, 1) := by decide +kernel
theorem dX12_visits_7 : decode cX12_visits 7 = .ok (.invokevirtual 342, 3) := by decide +kernel
theorem dX12_visits_10 : decode cX12_visits 10 = .ok (.ifCond .eq 30, 3) := by decide +kernel
theorem dX12_visits_13 : decode cX12_visits 13 = .ok (.aload_n 0, 1) := by decide +kernel
theorem dX12_visits_14 : decode cX12_visits 14 = .ok (.iload_n 1, 1) := by decide +kernel
theorem dX12_visits_15 : decode cX12_visits 15 = .ok (.ifCond .le 17, 3) := by decide +kernel
theorem dX12_visits_18 : decode cX12_visits 18 = .ok (.iload_n 1, 1) := by decide +kernel
theorem dX12_visits_19 : decode cX12_visits 19 = .ok (.iconst 1, 1) := by decide +kernel
theorem dX12_visits_20 : decode cX12_visits 20 = .ok (.aload_n 0, 1) := by decide +kernel
theorem dX12_visits_21 : decode cX12_visits 21 = .ok (.getfield 265, 3) := by decide +kernel
theorem dX12_visits_24 : decode cX12_visits 24 = .ok (.ishl, 1) := by decide +kernel
theorem dX12_visits_25 : decode cX12_visits 25 = .ok (.if_icmp .ge 7, 3) := by decide +kernel
theorem dX12_visits_28 : decode cX12_visits 28 = .ok (.iconst 1, 1) := by decide +kernel
theorem dX12_visits_29 : decode cX12_visits 29 = .ok (.goto 4, 3) := by decide +kernel
theorem dX12_visits_32 : decode cX12_visits 32 = .ok (.iconst 0, 1) := by decide +kernel
theorem dX12_visits_33 : decode cX12_visits 33 = .ok (.iconst 2, 1) := by decide +kernel
theorem dX12_visits_34 : decode cX12_visits 34 = .ok (.invokevirtual 255, 3) := by decide +kernel
theorem dX12_visits_37 : decode cX12_visits 37 = .ok (.ifCond .ne 5, 3) := by decide +kernel
theorem dX12_visits_40 : decode cX12_visits 40 = .ok (.iconst 0, 1) := by decide +kernel
theorem dX12_visits_41 : decode cX12_visits 41 = .ok (.ireturn, 1) := by decide +kernel
theorem dX12_visits_42 : decode cX12_visits 42 = .ok (.iload_n 2, 1) := by decide +kernel
theorem dX12_visits_43 : decode cX12_visits 43 = .ok (.istore_n 3, 1) := by decide +kernel
theorem dX12_visits_44 : decode cX12_visits 44 = .ok (.iload_n 3, 1) := by decide +kernel
theorem dX12_visits_45 : decode cX12_visits 45 = .ok (.bipush 24, 2) := by decide +kernel
theorem dX12_visits_47 : decode cX12_visits 47 = .ok (.if_icmp .ge 41, 3) := by decide +kernel
theorem dX12_visits_50 : decode cX12_visits 50 = .ok (.aload_n 0, 1) := by decide +kernel
theorem dX12_visits_51 : decode cX12_visits 51 = .ok (.iload_n 1, 1) := by decide +kernel
theorem dX12_visits_52 : decode cX12_visits 52 = .ok (.iload_n 2, 1) := by decide +kernel
theorem dX12_visits_53 : decode cX12_visits 53 = .ok (.iload_n 3, 1) := by decide +kernel
theorem dX12_visits_54 : decode cX12_visits 54 = .ok (.invokevirtual 382, 3) := by decide +kernel
theorem dX12_visits_57 : decode cX12_visits 57 = .ok (.ifCond .ne 6, 3) := by decide +kernel
theorem dX12_visits_60 : decode cX12_visits 60 = .ok (.goto 22, 3) := by decide +kernel
theorem dX12_visits_63 : decode cX12_visits 63 = .ok (.aload_n 0, 1) := by decide +kernel
theorem dX12_visits_64 : decode cX12_visits 64 = .ok (.aload_n 0, 1) := by decide +kernel
theorem dX12_visits_65 : decode cX12_visits 65 = .ok (.getfield 78, 3) := by decide +kernel
theorem dX12_visits_68 : decode cX12_visits 68 = .ok (.aload_n 0, 1) := by decide +kernel
theorem dX12_visits_69 : decode cX12_visits 69 = .ok (.getfield 81, 3) := by decide +kernel
theorem dX12_visits_72 : decode cX12_visits 72 = .ok (.invokevirtual 274, 3) := by decide +kernel
theorem dX12_visits_75 : decode cX12_visits 75 = .ok (.aload_n 0, 1) := by decide +kernel
theorem dX12_visits_76 : decode cX12_visits 76 = .ok (.iconst 1, 1) := by decide +kernel
theorem dX12_visits_77 : decode cX12_visits 77 = .ok (.putfield 288, 3) := by decide +kernel
theorem dX12_visits_80 : decode cX12_visits 80 = .ok (.iload_n 3, 1) := by decide +kernel
theorem dX12_visits_81 : decode cX12_visits 81 = .ok (.ireturn, 1) := by decide +kernel
theorem dX12_visits_82 : decode cX12_visits 82 = .ok (.iinc 3 1, 3) := by decide +kernel
theorem dX12_visits_85 : decode cX12_visits 85 = .ok (.goto (-41), 3) := by decide +kernel
theorem dX12_visits_88 : decode cX12_visits 88 = .ok (.iconst (-1), 1) := by decide +kernel
theorem dX12_visits_89 : decode cX12_visits 89 = .ok (.ireturn, 1) := by decide +kernel
def fX12_visits_0_L44 (E63 : Int32 → (Nat → Int32) → (Nat → Nat → Int32) → Option (Int32 × (Nat → Int32) × (Nat → Nat → Int32))) : Nat → Int32 → Int32 → Int32 → (Nat → Int32) → (Nat → Nat → Int32) → Option (Int32 × (Nat → Int32) × (Nat → Nat → Int32))
  | 0, _, _, _, _, _ => none
  | n + 1, x16, x17, x18, S19, V20 =>
    (if (24 : Int32) ≤ x18 then
    some ((-1 : Int32), S19, V20)
    else
    bd2 (fX12_visitsBy_0 S19 V20 x16 x17 x18) (fun r22 V23 =>
    (if r22 = 0 then
    lt (x18 + (1 : Int32)) (fun x26 =>
    fX12_visits_0_L44 E63 n x16 x17 x26 S19 V23)
    else
    E63 x18 S19 V23)))
def fX12_visits_0 (S : Nat → Int32) (V : Nat → Nat → Int32) (a1 : Int32) (a2 : Int32) : Option (Int32 × (Nat → Int32) × (Nat → Nat → Int32)) :=
  lt (va_up S 0 (0 : Int32)) (fun S1 =>
  bd2 (fX12_isHour_0 S1 a2) (fun r2 S3 =>
  (if r2 = 0 then
  some ((0 : Int32), S3, V)
  else
  bk (fun (x7 : Int32) (x8 : Int32) (x9 : Int32) (S10 : Nat → Int32) (V11 : Nat → Nat → Int32) =>
  bd2 (fX12_right_0 S10 x9 (2 : Int32)) (fun r12 S13 =>
  (if r12 = 0 then
  some ((0 : Int32), S13, V11)
  else
  bk (fun (x31 : Int32) (S32 : Nat → Int32) (V33 : Nat → Nat → Int32) =>
  bd1 (fX12_copies_0_19_20 V33) (fun V34 =>
  lt (va_up S32 52 (1 : Int32)) (fun S36 =>
  some (x31, S36, V34)))) (fun X63_30 =>
  fX12_visits_0_L44 X63_30 FU x7 x8 x8 S13 V11)))) (fun K33_6 =>
  bk (fun (x38 : Int32) (x39 : Int32) (S40 : Nat → Int32) (V41 : Nat → Nat → Int32) =>
  K33_6 x38 x39 (0 : Int32) S40 V41) (fun K32_37 =>
  (if a1 ≤ 0 then
  K32_37 a1 a2 S3 V
  else
  (if ((1 : Int32) <<< ((S3 5) &&& 31)) ≤ a1 then
  K32_37 a1 a2 S3 V
  else
  K33_6 a1 a2 (1 : Int32) S3 V)))))))
set_option maxHeartbeats 4000000 in
set_option maxRecDepth 100000 in
theorem kX12_visits_0 (l : Launch) (B : jBT) (D : va_G) (ad : Nat → Nat) (cA : Nat → ClassId) (hI : jI ad TR) (S : Nat → Int32) (V : Nat → Nat → Int32) (L : Nat → Int64) (a1 : Int32) (a2 : Int32) (r0 : Int32) (S0 : Nat → Int32) (V0 : Nat → Nat → Int32) (h : fX12_visits_0 S V a1 a2 = some (r0, S0, V0)) : jM l yX12_visits cX12_visits 4 (some .int) ({ frames := 4, cells := 0, slots := 0, locals := 99 }) B D TR ad cA [.ref (ad 0), .int a1, .int a2] S V L (some (.int r0)) S0 V0 L := by
  refine jM_of (plainFor_of_name (by decide)) TR_ok hI (Nat.le_of_ble_eq_true rfl) ?_
  intro p e s m args below meth c C hr hlk
  refine j_lv (lv2 := [(0, .ref (ad 0)), (1, .int a1), (2, .int a2)]) rfl ?_
  unfold fX12_visits_0 at h
  have H_fX12_visits_0_L44 : ∀ (E63 : Int32 → (Nat → Int32) → (Nat → Nat → Int32) → Option (Int32 × (Nat → Int32) × (Nat → Nat → Int32))) (_ : ∀ (x27 : Int32) (S28 : Nat → Int32) (V29 : Nat → Nat → Int32), E63 x27 S28 V29 = some (r0, S0, V0) → jW p l e ({ frames := 4, cells := 0, slots := 0, locals := 99 }) s m args below meth c (MQ below (jQc D TR ad cA (some (.int r0)) s.heap.size S0 V0 L) args s 0 0 (jA ad TR s.heap.size)) D TR ad cA (jA ad TR s.heap.size) 4 0 0 63 [(0, .ref (ad 0)), (3, .int x27)] [] S28 V29 L) (n : Nat) (x16 : Int32) (x17 : Int32) (x18 : Int32) (S19 : Nat → Int32) (V20 : Nat → Nat → Int32), fX12_visits_0_L44 E63 n x16 x17 x18 S19 V20 = some (r0, S0, V0) → jW p l e ({ frames := 4, cells := 0, slots := 0, locals := 99 }) s m args below meth c (MQ below (jQc D TR ad cA (some (.int r0)) s.heap.size S0 V0 L) args s 0 0 (jA ad TR s.heap.size)) D TR ad cA (jA ad TR s.heap.size) 4 0 0 44 [(0, .ref (ad 0)), (1, .int x16), (2, .int x17), (3, .int x18)] [] S19 V20 L := by
    intro E63 HE63
    intro n
    induction n with
    | zero =>
      intro x16 x17 x18 S19 V20 h
      cases (show (none : Option (Int32 × (Nat → Int32) × (Nat → Nat → Int32))) = some (r0, S0, V0) from h)
    | succ n ih =>
      intro x16 x17 x18 S19 V20 h
      unfold fX12_visits_0_L44 at h
      refine j_iload_n C 3 rfl dX12_visits_44 rfl ?_
      refine j_bipush C dX12_visits_45 cb_24 ?_
      refine j_icmp_ge (tgt := 88) C dX12_visits_47 (by decide) (fun c21 => ?_) (fun c21 => ?_)
      · have h := (if_pos c21).symm.trans h
        refine j_iconst C dX12_visits_88 ci_m1 ?_
        cases h
        exact j_iret C hr hlk rfl dX12_visits_89
      · have h := (if_neg c21).symm.trans h
        refine j_aload_n C 0 rfl dX12_visits_50 rfl ?_
        refine j_iload_n C 1 rfl dX12_visits_51 rfl ?_
        refine j_iload_n C 2 rfl dX12_visits_52 rfl ?_
        refine j_iload_n C 3 rfl dX12_visits_53 rfl ?_
        obtain ⟨r22, V23, h24, h⟩ := bd2_elim h
        refine j_callV (As := [.int x16, .int x17, .int x18]) (rest := []) C (kX12_visitsBy_0 l B D ad cA hI S19 V20 L x16 x17 x18 _ _ h24) mw_X12_visitsBy wd1898 wd97 wd1896 tr_0 rfl rfl ⟨rfl, rfl, by decide, by decide⟩ ⟨Nat.zero_le _, Nat.zero_le _⟩ rfl rfl (Nat.le_of_ble_eq_true rfl) dX12_visits_54 ?_
        refine j_if_ne (tgt := 63) C dX12_visits_57 (by decide) (fun c25 => ?_) (fun c25 => ?_)
        · have h := (if_neg c25).symm.trans h
          exact j_sub [0, 3] rfl (HE63 _ _ _ h)
        · have h := (if_pos c25).symm.trans h
          refine j_goto (tgt := 82) C dX12_visits_60 (by decide) ?_
          refine lt_elim h (fun x26 e_x26 h => ?_)
          refine j_iinc C [(3, .int x26), (0, .ref (ad 0)), (1, .int x16), (2, .int x17)] 3 dX12_visits_82 rfl ((iinc_eq ci_1).trans e_x26.symm) (by decide) rfl ?_
          refine j_goto (tgt := 44) C dX12_visits_85 (by decide) ?_
          exact j_sub [1, 2, 3, 0] rfl (ih _ _ _ _ _ h)
  refine j_aload_n C 0 rfl dX12_visits_0 rfl ?_
  refine j_iconst C dX12_visits_1 ci_0 ?_
  refine fp_X12_93_TR_0 C dX12_visits_2 ?_
  refine lt_elim h (fun S1 e_S1 h => ?_)
  refine j_S e_S1 ?_
  refine j_aload_n C 0 rfl dX12_visits_5 rfl ?_
  refine j_iload_n C 2 rfl dX12_visits_6 rfl ?_
  obtain ⟨r2, S3, h4, h⟩ := bd2_elim h
  refine j_callV (As := [.int a2]) (rest := []) C (kX12_isHour_0 l B D ad cA hI S1 V L a2 _ _ h4) mw_X12_isHour wd1828 wd88 wd1826 tr_0 rfl rfl ⟨rfl, rfl, by decide, by decide⟩ ⟨Nat.zero_le _, Nat.zero_le _⟩ rfl rfl (Nat.le_of_ble_eq_true rfl) dX12_visits_7 ?_
  refine j_if_eq (tgt := 40) C dX12_visits_10 (by decide) (fun c5 => ?_) (fun c5 => ?_)
  · have h := (if_pos c5).symm.trans h
    refine j_iconst C dX12_visits_40 ci_0 ?_
    cases h
    exact j_iret C hr hlk rfl dX12_visits_41
  · have h := (if_neg c5).symm.trans h
    refine j_aload_n C 0 rfl dX12_visits_13 rfl ?_
    refine j_iload_n C 1 rfl dX12_visits_14 rfl ?_
    refine bk_elim h (fun K33_6 e_K33_6 h => ?_)
    have HK33_6 : ∀ (x7 : Int32) (x8 : Int32) (x9 : Int32) (S10 : Nat → Int32) (V11 : Nat → Nat → Int32), K33_6 x7 x8 x9 S10 V11 = some (r0, S0, V0) → jW p l e ({ frames := 4, cells := 0, slots := 0, locals := 99 }) s m args below meth c (MQ below (jQc D TR ad cA (some (.int r0)) s.heap.size S0 V0 L) args s 0 0 (jA ad TR s.heap.size)) D TR ad cA (jA ad TR s.heap.size) 4 0 0 33 [(0, .ref (ad 0)), (1, .int x7), (2, .int x8)] [.int x9, .ref (ad 0)] S10 V11 L := by
      subst e_K33_6
      intro x7 x8 x9 S10 V11 h
      refine j_iconst C dX12_visits_33 ci_2 ?_
      obtain ⟨r12, S13, h14, h⟩ := bd2_elim h
      refine j_callV (As := [.int x9, .int (2 : Int32)]) (rest := []) C (kX12_right_0 l B D ad cA hI S10 V11 L x9 (2 : Int32) _ _ h14) mw_X12_right wd1638 wd56 wd1636 tr_0 rfl rfl ⟨rfl, rfl, by decide, by decide⟩ ⟨Nat.zero_le _, Nat.zero_le _⟩ rfl rfl (Nat.le_of_ble_eq_true rfl) dX12_visits_34 ?_
      refine j_if_ne (tgt := 42) C dX12_visits_37 (by decide) (fun c15 => ?_) (fun c15 => ?_)
      · have h := (if_neg c15).symm.trans h
        refine j_iload_n C 2 rfl dX12_visits_42 rfl ?_
        refine j_istore_n C [(3, .int x8), (0, .ref (ad 0)), (1, .int x7), (2, .int x8)] dX12_visits_43 rfl (by decide) rfl ?_
        refine bk_elim h (fun X63_30 e_X63_30 h => ?_)
        have HX63_30 : ∀ (x31 : Int32) (S32 : Nat → Int32) (V33 : Nat → Nat → Int32), X63_30 x31 S32 V33 = some (r0, S0, V0) → jW p l e ({ frames := 4, cells := 0, slots := 0, locals := 99 }) s m args below meth c (MQ below (jQc D TR ad cA (some (.int r0)) s.heap.size S0 V0 L) args s 0 0 (jA ad TR s.heap.size)) D TR ad cA (jA ad TR s.heap.size) 4 0 0 63 [(0, .ref (ad 0)), (3, .int x31)] [] S32 V33 L := by
          subst e_X63_30
          intro x31 S32 V33 h
          refine j_aload_n C 0 rfl dX12_visits_63 rfl ?_
          refine j_aload_n C 0 rfl dX12_visits_64 rfl ?_
          refine fg_X12_78_TR_0 C dX12_visits_65 ?_
          refine j_aload_n C 0 rfl dX12_visits_68 rfl ?_
          refine fg_X12_81_TR_0 C dX12_visits_69 ?_
          obtain ⟨V34, h35, h⟩ := bd1_elim h
          refine j_callV (As := [.ref (ad 19), .ref (ad 20)]) (rest := []) C (kX12_copies_0_19_20 l B D ad cA hI S32 V33 L _ h35) mw_X12_copies wd1749 wd79 wd1747 tr_0 rfl rfl ⟨rfl, rfl, by decide, by decide⟩ ⟨Nat.zero_le _, Nat.zero_le _⟩ rfl rfl (Nat.le_of_ble_eq_true rfl) dX12_visits_72 ?_
          refine j_aload_n C 0 rfl dX12_visits_75 rfl ?_
          refine j_iconst C dX12_visits_76 ci_1 ?_
          refine fp_X12_288_TR_0 C rfl rfl dX12_visits_77 ?_
          refine lt_elim h (fun S36 e_S36 h => ?_)
          refine j_S e_S36 ?_
          refine j_iload_n C 1 rfl dX12_visits_80 rfl ?_
          cases h
          exact j_iret C hr hlk rfl dX12_visits_81
        exact j_sub [1, 2, 3, 0] rfl (H_fX12_visits_0_L44 _ HX63_30 FU _ _ _ _ _ h)
      · have h := (if_pos c15).symm.trans h
        refine j_iconst C dX12_visits_40 ci_0 ?_
        cases h
        exact j_iret C hr hlk rfl dX12_visits_41
    refine bk_elim h (fun K32_37 e_K32_37 h => ?_)
    have HK32_37 : ∀ (x38 : Int32) (x39 : Int32) (S40 : Nat → Int32) (V41 : Nat → Nat → Int32), K32_37 x38 x39 S40 V41 = some (r0, S0, V0) → jW p l e ({ frames := 4, cells := 0, slots := 0, locals := 99 }) s m args below meth c (MQ below (jQc D TR ad cA (some (.int r0)) s.heap.size S0 V0 L) args s 0 0 (jA ad TR s.heap.size)) D TR ad cA (jA ad TR s.heap.size) 4 0 0 32 [(0, .ref (ad 0)), (1, .int x38), (2, .int x39)] [.ref (ad 0)] S40 V41 L := by
      subst e_K32_37
      intro x38 x39 S40 V41 h
      refine j_iconst C dX12_visits_32 ci_0 ?_
      exact j_sub [0, 1, 2] rfl (HK33_6 _ _ _ _ _ h)
    refine j_if_le (tgt := 32) C dX12_visits_15 (by decide) (fun c42 => ?_) (fun c42 => ?_)
    · have h := (if_pos c42).symm.trans h
      exact j_sub [0, 1, 2] rfl (HK32_37 _ _ _ _ h)
    · have h := (if_neg c42).symm.trans h
      refine j_iload_n C 1 rfl dX12_visits_18 rfl ?_
      refine j_iconst C dX12_visits_19 ci_1 ?_
      refine j_aload_n C 0 rfl dX12_visits_20 rfl ?_
      refine fg_X12_265_TR_0 C dX12_visits_21 ?_
      refine j_ishl C dX12_visits_24 ?_
      refine j_icmp_ge (tgt := 32) C dX12_visits_25 (by decide) (fun c43 => ?_) (fun c43 => ?_)
      · have h := (if_pos c43).symm.trans h
        exact j_sub [0, 1, 2] rfl (HK32_37 _ _ _ _ h)
      · have h := (if_neg c43).symm.trans h
        refine j_iconst C dX12_visits_28 ci_1 ?_
        refine j_goto (tgt := 33) C dX12_visits_29 (by decide) ?_
        exact j_sub [0, 1, 2] rfl (HK33_6 _ _ _ _ _ h)
theorem dX12_wedding_0 : decode cX12_wedding 0 = .ok (.aload_n 0, 1) := by decide +kernel
theorem dX12_wedding_1 : decode cX12_wedding 1 = .ok (.iconst 0, 1) := by decide +kernel
theorem dX12_wedding_2 : decode cX12_wedding 2 = .ok (.putfield 93, 3) := by decide +kernel
theorem dX12_wedding_5 : decode cX12_wedding 5 = .ok (.aload_n 0, 1) := by decide +kernel
theorem dX12_wedding_6 : decode cX12_wedding 6 = .ok (.iload_n 1, 1) := by decide +kernel
theorem dX12_wedding_7 : decode cX12_wedding 7 = .ok (.iconst 1, 1) := by decide +kernel
theorem dX12_wedding_8 : decode cX12_wedding 8 = .ok (.invokevirtual 358, 3) := by decide +kernel
theorem dX12_wedding_11 : decode cX12_wedding 11 = .ok (.ifCond .ne 5, 3) := by decide +kernel
theorem dX12_wedding_14 : decode cX12_wedding 14 = .ok (.iconst 0, 1) := by decide +kernel
theorem dX12_wedding_15 : decode cX12_wedding 15 = .ok (.ireturn, 1) := by decide +kernel
theorem dX12_wedding_16 : decode cX12_wedding 16 = .ok (.iload_n 1, 1) := by decide +kernel
theorem dX12_wedding_17 : decode cX12_wedding 17 = .ok (.istore_n 2, 1) := by decide +kernel
theorem dX12_wedding_18 : decode cX12_wedding 18 = .ok (.iload_n 2, 1) := by decide +kernel
theorem dX12_wedding_19 : decode cX12_wedding 19 = .ok (.sipush 10000, 3) := by decide +kernel
theorem dX12_wedding_22 : decode cX12_wedding 22 = .ok (.if_icmp .ge 58, 3) := by decide +kernel
theorem dX12_wedding_25 : decode cX12_wedding 25 = .ok (.iload_n 2, 1) := by decide +kernel
theorem dX12_wedding_26 : decode cX12_wedding 26 = .ok (.bipush 7, 2) := by decide +kernel
theorem dX12_wedding_28 : decode cX12_wedding 28 = .ok (.irem, 1) := by decide +kernel
theorem dX12_wedding_29 : decode cX12_wedding 29 = .ok (.bipush 6, 2) := by decide +kernel
theorem dX12_wedding_31 : decode cX12_wedding 31 = .ok (.if_icmp .eq 6, 3) := by decide +kernel
theorem dX12_wedding_34 : decode cX12_wedding 34 = .ok (.goto 40, 3) := by decide +kernel
theorem dX12_wedding_37 : decode cX12_wedding 37 = .ok (.iconst 0, 1) := by decide +kernel
theorem dX12_wedding_38 : decode cX12_wedding 38 = .ok (.istore_n 3, 1) := by decide +kernel
theorem dX12_wedding_39 : decode cX12_wedding 39 = .ok (.iload_n 3, 1) := by decide +kernel
theorem dX12_wedding_40 : decode cX12_wedding 40 = .ok (.bipush 24, 2) := by decide +kernel
theorem dX12_wedding_42 : decode cX12_wedding 42 = .ok (.if_icmp .ge 32, 3) := by decide +kernel
theorem dX12_wedding_45 : decode cX12_wedding 45 = .ok (.aload_n 0, 1) := by decide +kernel
theorem dX12_wedding_46 : decode cX12_wedding 46 = .ok (.aload_n 0, 1) := by decide +kernel
theorem dX12_wedding_47 : decode cX12_wedding 47 = .ok (.getfield 60, 3) := by decide +kernel
theorem dX12_wedding_50 : decode cX12_wedding 50 = .ok (.aload_n 0, 1) := by decide +kernel
theorem dX12_wedding_51 : decode cX12_wedding 51 = .ok (.getfield 278, 3) := by decide +kernel
theorem dX12_wedding_54 : decode cX12_wedding 54 = .ok (.iload_n 3, 1) := by decide +kernel
theorem dX12_wedding_55 : decode cX12_wedding 55 = .ok (.iload_n 2, 1) := by decide +kernel
theorem dX12_wedding_56 : decode cX12_wedding 56 = .ok (.invokevirtual 351, 3) := by decide +kernel
theorem dX12_wedding_59 : decode cX12_wedding 59 = .ok (.aload_n 0, 1) := by decide +kernel
theorem dX12_wedding_60 : decode cX12_wedding 60 = .ok (.getfield 16, 3) := by decide +kernel
theorem dX12_wedding_63 : decode cX12_wedding 63 = .ok (.if_icmp .le 5, 3) := by decide +kernel
theorem dX12_wedding_66 : decode cX12_wedding 66 = .ok (.iload_n 2, 1) := by decide +kernel
theorem dX12_wedding_67 : decode cX12_wedding 67 = .ok (.ireturn, 1) := by decide +kernel
theorem dX12_wedding_68 : decode cX12_wedding 68 = .ok (.iinc 3 1, 3) := by decide +kernel
theorem dX12_wedding_71 : decode cX12_wedding 71 = .ok (.goto (-32), 3) := by decide +kernel
theorem dX12_wedding_74 : decode cX12_wedding 74 = .ok (.iinc 2 1, 3) := by decide +kernel
theorem dX12_wedding_77 : decode cX12_wedding 77 = .ok (.goto (-59), 3) := by decide +kernel
theorem dX12_wedding_80 : decode cX12_wedding 80 = .ok (.iconst (-1), 1) := by decide +kernel
theorem dX12_wedding_81 : decode cX12_wedding 81 = .ok (.ireturn, 1) := by decide +kernel
def fX12_wedding_0_L39 (E74 : Int32 → (Nat → Int32) → Option (Int32 × (Nat → Int32))) (V : Nat → Nat → Int32) : Nat → Int32 → Int32 → (Nat → Int32) → Option (Int32 × (Nat → Int32))
  | 0, _, _, _ => none
  | n + 1, x14, x15, S16 =>
    (if (24 : Int32) ≤ x15 then
    E74 x14 S16
    else
    bd1 (fX12_swingOf_0_13 S16 V ((S16 42)) x15 x14) (fun r18 =>
    (if r18 ≤ (S16 4) then
    lt (x15 + (1 : Int32)) (fun x21 =>
    fX12_wedding_0_L39 E74 V n x14 x21 S16)
    else
    some (x14, S16))))
def fX12_wedding_0_L18 (V : Nat → Nat → Int32) : Nat → Int32 → (Nat → Int32) → Option (Int32 × (Nat → Int32))
  | 0, _, _ => none
  | n + 1, x6, S7 =>
    (if (10000 : Int32) ≤ x6 then
    some ((-1 : Int32), S7)
    else
    bk (fun (x10 : Int32) (S11 : Nat → Int32) =>
    lt (x10 + (1 : Int32)) (fun x12 =>
    fX12_wedding_0_L18 V n x12 S11)) (fun K74_9 =>
    (if (x6 - x6 / (7 : Int32) * (7 : Int32)) = (6 : Int32) then
    fX12_wedding_0_L39 K74_9 V FU x6 (0 : Int32) S7
    else
    K74_9 x6 S7)))
def fX12_wedding_0 (S : Nat → Int32) (V : Nat → Nat → Int32) (a1 : Int32) : Option (Int32 × (Nat → Int32)) :=
  lt (va_up S 0 (0 : Int32)) (fun S1 =>
  bd2 (fX12_isDay_0 S1 a1 (1 : Int32)) (fun r2 S3 =>
  (if r2 = 0 then
  some ((0 : Int32), S3)
  else
  fX12_wedding_0_L18 V FU a1 S3)))
set_option maxHeartbeats 4000000 in
set_option maxRecDepth 100000 in
theorem kX12_wedding_0 (l : Launch) (B : jBT) (D : va_G) (ad : Nat → Nat) (cA : Nat → ClassId) (hI : jI ad TR) (S : Nat → Int32) (V : Nat → Nat → Int32) (L : Nat → Int64) (a1 : Int32) (r0 : Int32) (S0 : Nat → Int32) (h : fX12_wedding_0 S V a1 = some (r0, S0)) : jM l yX12_wedding cX12_wedding 4 (some .int) ({ frames := 3, cells := 0, slots := 0, locals := 73 }) B D TR ad cA [.ref (ad 0), .int a1] S V L (some (.int r0)) S0 V L := by
  refine jM_of (plainFor_of_name (by decide)) TR_ok hI (Nat.le_of_ble_eq_true rfl) ?_
  intro p e s m args below meth c C hr hlk
  refine j_lv (lv2 := [(0, .ref (ad 0)), (1, .int a1)]) rfl ?_
  unfold fX12_wedding_0 at h
  have H_fX12_wedding_0_L39 : ∀ (E74 : Int32 → (Nat → Int32) → Option (Int32 × (Nat → Int32))) (_ : ∀ (x22 : Int32) (S23 : Nat → Int32), E74 x22 S23 = some (r0, S0) → jW p l e ({ frames := 3, cells := 0, slots := 0, locals := 73 }) s m args below meth c (MQ below (jQc D TR ad cA (some (.int r0)) s.heap.size S0 V L) args s 0 0 (jA ad TR s.heap.size)) D TR ad cA (jA ad TR s.heap.size) 4 0 0 74 [(0, .ref (ad 0)), (2, .int x22)] [] S23 V L) (n : Nat) (x14 : Int32) (x15 : Int32) (S16 : Nat → Int32), fX12_wedding_0_L39 E74 V n x14 x15 S16 = some (r0, S0) → jW p l e ({ frames := 3, cells := 0, slots := 0, locals := 73 }) s m args below meth c (MQ below (jQc D TR ad cA (some (.int r0)) s.heap.size S0 V L) args s 0 0 (jA ad TR s.heap.size)) D TR ad cA (jA ad TR s.heap.size) 4 0 0 39 [(0, .ref (ad 0)), (2, .int x14), (3, .int x15)] [] S16 V L := by
    intro E74 HE74
    intro n
    induction n with
    | zero =>
      intro x14 x15 S16 h
      cases (show (none : Option (Int32 × (Nat → Int32))) = some (r0, S0) from h)
    | succ n ih =>
      intro x14 x15 S16 h
      unfold fX12_wedding_0_L39 at h
      refine j_iload_n C 2 rfl dX12_wedding_39 rfl ?_
      refine j_bipush C dX12_wedding_40 cb_24 ?_
      refine j_icmp_ge (tgt := 74) C dX12_wedding_42 (by decide) (fun c17 => ?_) (fun c17 => ?_)
      · have h := (if_pos c17).symm.trans h
        exact j_sub [0, 1] rfl (HE74 _ _ h)
      · have h := (if_neg c17).symm.trans h
        refine j_aload_n C 0 rfl dX12_wedding_45 rfl ?_
        refine j_aload_n C 0 rfl dX12_wedding_46 rfl ?_
        refine fg_X12_60_TR_0 C dX12_wedding_47 ?_
        refine j_aload_n C 0 rfl dX12_wedding_50 rfl ?_
        refine fg_X12_278_TR_0 C dX12_wedding_51 ?_
        refine j_iload_n C 2 rfl dX12_wedding_54 rfl ?_
        refine j_iload_n C 1 rfl dX12_wedding_55 rfl ?_
        obtain ⟨r18, h19, h⟩ := bd1_elim h
        refine j_callV (As := [.ref (ad 13), .int (S16 42), .int x15, .int x14]) (rest := []) C (kX12_swingOf_0_13 l B D ad cA hI S16 V L ((S16 42)) x15 x14 _ h19) mw_X12_swingOf wd1840 wd90 wd1838 tr_0 rfl rfl ⟨rfl, rfl, by decide, by decide⟩ ⟨Nat.zero_le _, Nat.zero_le _⟩ rfl rfl (Nat.le_of_ble_eq_true rfl) dX12_wedding_56 ?_
        refine j_aload_n C 0 rfl dX12_wedding_59 rfl ?_
        refine fg_X12_16_TR_0 C dX12_wedding_60 ?_
        refine j_icmp_le (tgt := 68) C dX12_wedding_63 (by decide) (fun c20 => ?_) (fun c20 => ?_)
        · have h := (if_pos c20).symm.trans h
          refine lt_elim h (fun x21 e_x21 h => ?_)
          refine j_iinc C [(3, .int x21), (0, .ref (ad 0)), (2, .int x14)] 2 dX12_wedding_68 rfl ((iinc_eq ci_1).trans e_x21.symm) (by decide) rfl ?_
          refine j_goto (tgt := 39) C dX12_wedding_71 (by decide) ?_
          exact j_sub [1, 2, 0] rfl (ih _ _ _ h)
        · have h := (if_neg c20).symm.trans h
          refine j_iload_n C 1 rfl dX12_wedding_66 rfl ?_
          cases h
          exact j_iret C hr hlk rfl dX12_wedding_67
  have H_fX12_wedding_0_L18 : ∀ (n : Nat) (x6 : Int32) (S7 : Nat → Int32), fX12_wedding_0_L18 V n x6 S7 = some (r0, S0) → jW p l e ({ frames := 3, cells := 0, slots := 0, locals := 73 }) s m args below meth c (MQ below (jQc D TR ad cA (some (.int r0)) s.heap.size S0 V L) args s 0 0 (jA ad TR s.heap.size)) D TR ad cA (jA ad TR s.heap.size) 4 0 0 18 [(0, .ref (ad 0)), (2, .int x6)] [] S7 V L := by
    intro n
    induction n with
    | zero =>
      intro x6 S7 h
      cases (show (none : Option (Int32 × (Nat → Int32))) = some (r0, S0) from h)
    | succ n ih =>
      intro x6 S7 h
      unfold fX12_wedding_0_L18 at h
      refine j_iload_n C 1 rfl dX12_wedding_18 rfl ?_
      refine j_sipush C dX12_wedding_19 cs_10000 ?_
      refine j_icmp_ge (tgt := 80) C dX12_wedding_22 (by decide) (fun c8 => ?_) (fun c8 => ?_)
      · have h := (if_pos c8).symm.trans h
        refine j_iconst C dX12_wedding_80 ci_m1 ?_
        cases h
        exact j_iret C hr hlk rfl dX12_wedding_81
      · have h := (if_neg c8).symm.trans h
        refine j_iload_n C 1 rfl dX12_wedding_25 rfl ?_
        refine j_bipush C dX12_wedding_26 cb_7 ?_
        refine j_irem C dX12_wedding_28 (by decide) ?_
        refine j_bipush C dX12_wedding_29 cb_6 ?_
        refine bk_elim h (fun K74_9 e_K74_9 h => ?_)
        have HK74_9 : ∀ (x10 : Int32) (S11 : Nat → Int32), K74_9 x10 S11 = some (r0, S0) → jW p l e ({ frames := 3, cells := 0, slots := 0, locals := 73 }) s m args below meth c (MQ below (jQc D TR ad cA (some (.int r0)) s.heap.size S0 V L) args s 0 0 (jA ad TR s.heap.size)) D TR ad cA (jA ad TR s.heap.size) 4 0 0 74 [(0, .ref (ad 0)), (2, .int x10)] [] S11 V L := by
          subst e_K74_9
          intro x10 S11 h
          refine lt_elim h (fun x12 e_x12 h => ?_)
          refine j_iinc C [(2, .int x12), (0, .ref (ad 0))] 1 dX12_wedding_74 rfl ((iinc_eq ci_1).trans e_x12.symm) (by decide) rfl ?_
          refine j_goto (tgt := 18) C dX12_wedding_77 (by decide) ?_
          exact j_sub [1, 0] rfl (ih _ _ h)
        refine j_icmp_eq (tgt := 37) C dX12_wedding_31 (by decide) (fun c13 => ?_) (fun c13 => ?_)
        · have h := (if_pos c13).symm.trans h
          refine j_iconst C dX12_wedding_37 ci_0 ?_
          refine j_istore_n C [(3, .int (0 : Int32)), (0, .ref (ad 0)), (2, .int x6)] dX12_wedding_38 rfl (by decide) rfl ?_
          exact j_sub [1, 2, 0] rfl (H_fX12_wedding_0_L39 _ HK74_9 FU _ _ _ h)
        · have h := (if_neg c13).symm.trans h
          refine j_goto (tgt := 74) C dX12_wedding_34 (by decide) ?_
          exact j_sub [0, 1] rfl (HK74_9 _ _ h)
  refine j_aload_n C 0 rfl dX12_wedding_0 rfl ?_
  refine j_iconst C dX12_wedding_1 ci_0 ?_
  refine fp_X12_93_TR_0 C dX12_wedding_2 ?_
  refine lt_elim h (fun S1 e_S1 h => ?_)
  refine j_S e_S1 ?_
  refine j_aload_n C 0 rfl dX12_wedding_5 rfl ?_
  refine j_iload_n C 1 rfl dX12_wedding_6 rfl ?_
  refine j_iconst C dX12_wedding_7 ci_1 ?_
  obtain ⟨r2, S3, h4, h⟩ := bd2_elim h
  refine j_callV (As := [.int a1, .int (1 : Int32)]) (rest := []) C (kX12_isDay_0 l B D ad cA hI S1 V L a1 (1 : Int32) _ _ h4) mw_X12_isDay wd1836 wd89 wd1834 tr_0 rfl rfl ⟨rfl, rfl, by decide, by decide⟩ ⟨Nat.zero_le _, Nat.zero_le _⟩ rfl rfl (Nat.le_of_ble_eq_true rfl) dX12_wedding_8 ?_
  refine j_if_ne (tgt := 16) C dX12_wedding_11 (by decide) (fun c5 => ?_) (fun c5 => ?_)
  · have h := (if_neg c5).symm.trans h
    refine j_iload_n C 1 rfl dX12_wedding_16 rfl ?_
    refine j_istore_n C [(2, .int a1), (0, .ref (ad 0)), (1, .int a1)] dX12_wedding_17 rfl (by decide) rfl ?_
    exact j_sub [1, 0] rfl (H_fX12_wedding_0_L18 FU _ _ h)
  · have h := (if_pos c5).symm.trans h
    refine j_iconst C dX12_wedding_14 ci_0 ?_
    cases h
    exact j_iret C hr hlk rfl dX12_wedding_15
