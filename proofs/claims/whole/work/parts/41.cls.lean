theorem dJ9_min_7cf53_0 : decode cJ9_min_7cf53 0 = .ok (.iload_n 0, 1) := by decide +kernel
theorem dJ9_min_7cf53_1 : decode cJ9_min_7cf53 1 = .ok (.iload_n 1, 1) := by decide +kernel
theorem dJ9_min_7cf53_2 : decode cJ9_min_7cf53 2 = .ok (.if_icmp .gt 7, 3) := by decide +kernel
theorem dJ9_min_7cf53_5 : decode cJ9_min_7cf53 5 = .ok (.iload_n 0, 1) := by decide +kernel
theorem dJ9_min_7cf53_6 : decode cJ9_min_7cf53 6 = .ok (.goto 4, 3) := by decide +kernel
theorem dJ9_min_7cf53_9 : decode cJ9_min_7cf53 9 = .ok (.iload_n 1, 1) := by decide +kernel
theorem dJ9_min_7cf53_10 : decode cJ9_min_7cf53 10 = .ok (.ireturn, 1) := by decide +kernel
def fJ9_min_7cf53 (a1 : Int32) (a2 : Int32) : Option (Int32) :=
  (if a2 < a1 then
  some a2
  else
  some a1)
set_option maxHeartbeats 4000000 in
set_option maxRecDepth 100000 in
theorem kJ9_min_7cf53 (l : Launch) (B : jBT) (D : va_G) (ad : Nat → Nat) (cA : Nat → ClassId) (hI : jI ad TC) (S : Nat → Int32) (V : Nat → Nat → Int32) (L : Nat → Int64) (a1 : Int32) (a2 : Int32) (r0 : Int32) (h : fJ9_min_7cf53 a1 a2 = some r0) : jM l yJ9_min_7cf53 cJ9_min_7cf53 2 (some .int) ({ frames := 0, cells := 0, slots := 0, locals := 0 }) B D TC ad cA [.int a1, .int a2] S V L (some (.int r0)) S V L := by
  refine jM_of (by decide +kernel) TC_ok hI (Nat.le_of_ble_eq_true rfl) ?_
  intro p e s m args below meth c C hr hlk
  refine j_lv (lv2 := [(0, .int a1), (1, .int a2)]) rfl ?_
  unfold fJ9_min_7cf53 at h
  refine j_iload_n C 0 rfl dJ9_min_7cf53_0 rfl ?_
  refine j_iload_n C 1 rfl dJ9_min_7cf53_1 rfl ?_
  refine j_icmp_gt (tgt := 9) C dJ9_min_7cf53_2 (by decide) (fun c1 => ?_) (fun c1 => ?_)
  · have h := (if_pos c1).symm.trans h
    refine j_iload_n C 1 rfl dJ9_min_7cf53_9 rfl ?_
    cases h
    exact j_iret C hr hlk rfl dJ9_min_7cf53_10
  · have h := (if_neg c1).symm.trans h
    refine j_iload_n C 0 rfl dJ9_min_7cf53_5 rfl ?_
    refine j_goto (tgt := 10) C dJ9_min_7cf53_6 (by decide) ?_
    cases h
    exact j_iret C hr hlk rfl dJ9_min_7cf53_10
theorem dX0_gather_0 : decode cX0_gather 0 = .ok (.aload_n 0, 1) := by decide +kernel
theorem dX0_gather_1 : decode cX0_gather 1 = .ok (.iconst 0, 1) := by decide +kernel
theorem dX0_gather_2 : decode cX0_gather 2 = .ok (.putfield 52, 3) := by decide +kernel
theorem dX0_gather_5 : decode cX0_gather 5 = .ok (.iconst 0, 1) := by decide +kernel
theorem dX0_gather_6 : decode cX0_gather 6 = .ok (.istore_n 2, 1) := by decide +kernel
theorem dX0_gather_7 : decode cX0_gather 7 = .ok (.iload_n 2, 1) := by decide +kernel
theorem dX0_gather_8 : decode cX0_gather 8 = .ok (.bipush 6, 2) := by decide +kernel
theorem dX0_gather_10 : decode cX0_gather 10 = .ok (.if_icmp .ge 45, 3) := by decide +kernel
theorem dX0_gather_13 : decode cX0_gather 13 = .ok (.iload_n 1, 1) := by decide +kernel
theorem dX0_gather_14 : decode cX0_gather 14 = .ok (.iload_n 2, 1) := by decide +kernel
theorem dX0_gather_15 : decode cX0_gather 15 = .ok (.ishr, 1) := by decide +kernel
theorem dX0_gather_16 : decode cX0_gather 16 = .ok (.iconst 1, 1) := by decide +kernel
theorem dX0_gather_17 : decode cX0_gather 17 = .ok (.iand, 1) := by decide +kernel
theorem dX0_gather_18 : decode cX0_gather 18 = .ok (.ifCond .eq 31, 3) := by decide +kernel
theorem dX0_gather_21 : decode cX0_gather 21 = .ok (.aload_n 0, 1) := by decide +kernel
theorem dX0_gather_22 : decode cX0_gather 22 = .ok (.getfield 52, 3) := by decide +kernel
theorem dX0_gather_25 : decode cX0_gather 25 = .ok (.iconst 4, 1) := by decide +kernel
theorem dX0_gather_26 : decode cX0_gather 26 = .ok (.if_icmp .ge 23, 3) := by decide +kernel
theorem dX0_gather_29 : decode cX0_gather 29 = .ok (.aload_n 0, 1) := by decide +kernel
theorem dX0_gather_30 : decode cX0_gather 30 = .ok (.getfield 9, 3) := by decide +kernel
theorem dX0_gather_33 : decode cX0_gather 33 = .ok (.aload_n 0, 1) := by decide +kernel
theorem dX0_gather_34 : decode cX0_gather 34 = .ok (.getfield 52, 3) := by decide +kernel
theorem dX0_gather_37 : decode cX0_gather 37 = .ok (.iload_n 2, 1) := by decide +kernel
theorem dX0_gather_38 : decode cX0_gather 38 = .ok (.iastore, 1) := by decide +kernel
theorem dX0_gather_39 : decode cX0_gather 39 = .ok (.aload_n 0, 1) := by decide +kernel
theorem dX0_gather_40 : decode cX0_gather 40 = .ok (.dup, 1) := by decide +kernel
theorem dX0_gather_41 : decode cX0_gather 41 = .ok (.getfield 52, 3) := by decide +kernel
theorem dX0_gather_44 : decode cX0_gather 44 = .ok (.iconst 1, 1) := by decide +kernel
theorem dX0_gather_45 : decode cX0_gather 45 = .ok (.iadd, 1) := by decide +kernel
theorem dX0_gather_46 : decode cX0_gather 46 = .ok (.putfield 52, 3) := by decide +kernel
theorem dX0_gather_49 : decode cX0_gather 49 = .ok (.iinc 2 1, 3) := by decide +kernel
theorem dX0_gather_52 : decode cX0_gather 52 = .ok (.goto (-45), 3) := by decide +kernel
theorem dX0_gather_55 : decode cX0_gather 55 = .ok (.aload_n 0, 1) := by decide +kernel
theorem dX0_gather_56 : decode cX0_gather 56 = .ok (.getfield 24, 3) := by decide +kernel
theorem dX0_gather_59 : decode cX0_gather 59 = .ok (.aload_n 0, 1) := by decide +kernel
theorem dX0_gather_60 : decode cX0_gather 60 = .ok (.getfield 52, 3) := by decide +kernel
theorem dX0_gather_63 : decode cX0_gather 63 = .ok (.iconst 0, 1) := by decide +kernel
theorem dX0_gather_64 : decode cX0_gather 64 = .ok (.iastore, 1) := by decide +kernel
theorem dX0_gather_65 : decode cX0_gather 65 = .ok (.aload_n 0, 1) := by decide +kernel
theorem dX0_gather_66 : decode cX0_gather 66 = .ok (.getfield 52, 3) := by decide +kernel
theorem dX0_gather_69 : decode cX0_gather 69 = .ok (.iconst 1, 1) := by decide +kernel
theorem dX0_gather_70 : decode cX0_gather 70 = .ok (.isub, 1) := by decide +kernel
theorem dX0_gather_71 : decode cX0_gather 71 = .ok (.istore_n 2, 1) := by decide +kernel
theorem dX0_gather_72 : decode cX0_gather 72 = .ok (.iload_n 2, 1) := by decide +kernel
theorem dX0_gather_73 : decode cX0_gather 73 = .ok (.ifCond .lt 100, 3) := by decide +kernel
theorem dX0_gather_76 : decode cX0_gather 76 = .ok (.aload_n 0, 1) := by decide +kernel
theorem dX0_gather_77 : decode cX0_gather 77 = .ok (.getfield 36, 3) := by decide +kernel
theorem dX0_gather_80 : decode cX0_gather 80 = .ok (.getfield 76, 3) := by decide +kernel
theorem dX0_gather_83 : decode cX0_gather 83 = .ok (.aload_n 0, 1) := by decide +kernel
theorem dX0_gather_84 : decode cX0_gather 84 = .ok (.getfield 9, 3) := by decide +kernel
theorem dX0_gather_87 : decode cX0_gather 87 = .ok (.iload_n 2, 1) := by decide +kernel
theorem dX0_gather_88 : decode cX0_gather 88 = .ok (.iaload, 1) := by decide +kernel
theorem dX0_gather_89 : decode cX0_gather 89 = .ok (.iaload, 1) := by decide +kernel
theorem dX0_gather_90 : decode cX0_gather 90 = .ok (.istore_n 3, 1) := by decide +kernel
theorem dX0_gather_91 : decode cX0_gather 91 = .ok (.iconst 0, 1) := by decide +kernel
theorem dX0_gather_92 : decode cX0_gather 92 = .ok (.istore 4, 2) := by decide +kernel
theorem dX0_gather_94 : decode cX0_gather 94 = .ok (.iload 4, 2) := by decide +kernel
theorem dX0_gather_96 : decode cX0_gather 96 = .ok (.iload_n 2, 1) := by decide +kernel
theorem dX0_gather_97 : decode cX0_gather 97 = .ok (.if_icmp .ge 34, 3) := by decide +kernel
theorem dX0_gather_100 : decode cX0_gather 100 = .ok (.iload_n 3, 1) := by decide +kernel
theorem dX0_gather_101 : decode cX0_gather 101 = .ok (.iconst 3, 1) := by decide +kernel
theorem dX0_gather_102 : decode cX0_gather 102 = .ok (.aload_n 0, 1) := by decide +kernel
theorem dX0_gather_103 : decode cX0_gather 103 = .ok (.getfield 36, 3) := by decide +kernel
theorem dX0_gather_106 : decode cX0_gather 106 = .ok (.aload_n 0, 1) := by decide +kernel
theorem dX0_gather_107 : decode cX0_gather 107 = .ok (.getfield 9, 3) := by decide +kernel
theorem dX0_gather_110 : decode cX0_gather 110 = .ok (.iload_n 2, 1) := by decide +kernel
theorem dX0_gather_111 : decode cX0_gather 111 = .ok (.iaload, 1) := by decide +kernel
theorem dX0_gather_112 : decode cX0_gather 112 = .ok (.aload_n 0, 1) := by decide +kernel
theorem dX0_gather_113 : decode cX0_gather 113 = .ok (.getfield 9, 3) := by decide +kernel
theorem dX0_gather_116 : decode cX0_gather 116 = .ok (.iload 4, 2) := by decide +kernel
theorem dX0_gather_118 : decode cX0_gather 118 = .ok (.iaload, 1) := by decide +kernel
theorem dX0_gather_119 : decode cX0_gather 119 = .ok (.invokevirtual 79, 3) := by decide +kernel
theorem dX0_gather_122 : decode cX0_gather 122 = .ok (.imul, 1) := by decide +kernel
theorem dX0_gather_123 : decode cX0_gather 123 = .ok (.iadd, 1) := by decide +kernel
theorem dX0_gather_124 : decode cX0_gather 124 = .ok (.istore_n 3, 1) := by decide +kernel
theorem dX0_gather_125 : decode cX0_gather 125 = .ok (.iinc 4 1, 3) := by decide +kernel
theorem dX0_gather_128 : decode cX0_gather 128 = .ok (.goto (-34), 3) := by decide +kernel
theorem dX0_gather_131 : decode cX0_gather 131 = .ok (.aload_n 0, 1) := by decide +kernel
theorem dX0_gather_132 : decode cX0_gather 132 = .ok (.getfield 24, 3) := by decide +kernel
theorem dX0_gather_135 : decode cX0_gather 135 = .ok (.iload_n 2, 1) := by decide +kernel
theorem dX0_gather_136 : decode cX0_gather 136 = .ok (.aload_n 0, 1) := by decide +kernel
theorem dX0_gather_137 : decode cX0_gather 137 = .ok (.getfield 24, 3) := by decide +kernel
theorem dX0_gather_140 : decode cX0_gather 140 = .ok (.iload_n 2, 1) := by decide +kernel
theorem dX0_gather_141 : decode cX0_gather 141 = .ok (.iconst 1, 1) := by decide +kernel
theorem dX0_gather_142 : decode cX0_gather 142 = .ok (.iadd, 1) := by decide +kernel
theorem dX0_gather_143 : decode cX0_gather 143 = .ok (.iaload, 1) := by decide +kernel
theorem dX0_gather_144 : decode cX0_gather 144 = .ok (.iload_n 3, 1) := by decide +kernel
theorem dX0_gather_145 : decode cX0_gather 145 = .ok (.bipush 12, 2) := by decide +kernel
theorem dX0_gather_147 : decode cX0_gather 147 = .ok (.aload_n 0, 1) := by decide +kernel
theorem dX0_gather_148 : decode cX0_gather 148 = .ok (.getfield 36, 3) := by decide +kernel
theorem dX0_gather_151 : decode cX0_gather 151 = .ok (.getfield 83, 3) := by decide +kernel
theorem dX0_gather_154 : decode cX0_gather 154 = .ok (.aload_n 0, 1) := by decide +kernel
theorem dX0_gather_155 : decode cX0_gather 155 = .ok (.getfield 9, 3) := by decide +kernel
theorem dX0_gather_158 : decode cX0_gather 158 = .ok (.iload_n 2, 1) := by decide +kernel
theorem dX0_gather_159 : decode cX0_gather 159 = .ok (.iaload, 1) := by decide +kernel
theorem dX0_gather_160 : decode cX0_gather 160 = .ok (.iaload, 1) := by decide +kernel
theorem dX0_gather_161 : decode cX0_gather 161 = .ok (.invokestatic 86, 3) := by decide +kernel
theorem dX0_gather_164 : decode cX0_gather 164 = .ok (.imul, 1) := by decide +kernel
theorem dX0_gather_165 : decode cX0_gather 165 = .ok (.iadd, 1) := by decide +kernel
theorem dX0_gather_166 : decode cX0_gather 166 = .ok (.iastore, 1) := by decide +kernel
theorem dX0_gather_167 : decode cX0_gather 167 = .ok (.iinc 2 (-1), 3) := by decide +kernel
theorem dX0_gather_170 : decode cX0_gather 170 = .ok (.goto (-98), 3) := by decide +kernel
theorem dX0_gather_173 : decode cX0_gather 173 = .ok (.return_, 1) := by decide +kernel
def fX0_gather_49_L7 (E55 : (Nat → Int32) → (Nat → Nat → Int32) → Option ((Nat → Int32) × (Nat → Nat → Int32))) : Nat → Int32 → Int32 → (Nat → Int32) → (Nat → Nat → Int32) → Option ((Nat → Int32) × (Nat → Nat → Int32))
  | 0, _, _, _, _ => none
  | n + 1, x2, x3, S4, V5 =>
    (if (6 : Int32) ≤ x3 then
    E55 S4 V5
    else
    bk (fun (x8 : Int32) (x9 : Int32) (S10 : Nat → Int32) (V11 : Nat → Nat → Int32) =>
    lt (x9 + (1 : Int32)) (fun x12 =>
    fX0_gather_49_L7 E55 n x8 x12 S10 V11)) (fun K49_7 =>
    (if ((x2 >>> (x3 &&& 31)) &&& (1 : Int32)) = 0 then
    K49_7 x2 x3 S4 V5
    else
    (if (4 : Int32) ≤ (S4 4903) then
    K49_7 x2 x3 S4 V5
    else
    lt ((S4 4903)) (fun x15 =>
    gd (ib x15 4) (
    lt (va_up V5 50 (upd (V5 50) (x15).toNatClampNeg x3)) (fun V17 =>
    lt (((S4 4903) + (1 : Int32))) (fun x18 =>
    lt (va_up S4 4903 x18) (fun S19 =>
    K49_7 x2 x3 S19 V17)))))))))
def fX0_gather_49_L94 (E131 : Int32 → Int32 → (Nat → Int32) → (Nat → Nat → Int32) → Option ((Nat → Int32) × (Nat → Nat → Int32))) : Nat → Int32 → Int32 → Int32 → (Nat → Int32) → (Nat → Nat → Int32) → Option ((Nat → Int32) × (Nat → Nat → Int32))
  | 0, _, _, _, _, _ => none
  | n + 1, x37, x38, x39, S40, V41 =>
    (if x37 ≤ x39 then
    E131 x37 x38 S40 V41
    else
    gd (ib x37 4) (
    gd (ib x39 4) (
    bd1 (fX2_quarrelsOf_3 V41 ((V41 50 (x37).toNatClampNeg)) ((V41 50 (x39).toNatClampNeg))) (fun r45 =>
    lt ((x38 + ((3 : Int32) * r45))) (fun x47 =>
    lt (x39 + (1 : Int32)) (fun x48 =>
    fX0_gather_49_L94 E131 n x37 x47 x48 S40 V41))))))
def fX0_gather_49_L72 : Nat → Int32 → (Nat → Int32) → (Nat → Nat → Int32) → Option ((Nat → Int32) × (Nat → Nat → Int32))
  | 0, _, _, _ => none
  | n + 1, x29, S30, V31 =>
    (if x29 < 0 then
    some (S30, V31)
    else
    gd (ib x29 4) (
    lt ((V31 50 (x29).toNatClampNeg)) (fun x34 =>
    gd (ib x34 6) (
    lt ((V31 4 (x34).toNatClampNeg)) (fun x36 =>
    bk (fun (x54 : Int32) (x55 : Int32) (S56 : Nat → Int32) (V57 : Nat → Nat → Int32) =>
    lt ((x54 + (1 : Int32))) (fun x58 =>
    gd (ib x58 5) (
    gd (ib x54 4) (
    lt ((V57 50 (x54).toNatClampNeg)) (fun x61 =>
    gd (ib x61 6) (
    bd1 (fJ9_min_7cf53 (12 : Int32) ((V57 6 (x61).toNatClampNeg))) (fun r63 =>
    lt (((V57 54 (x58).toNatClampNeg) + (x55 * r63))) (fun x65 =>
    gd (ib x54 5) (
    lt (va_up V57 54 (upd (V57 54) (x54).toNatClampNeg x65)) (fun V67 =>
    lt (x54 + (-1 : Int32)) (fun x68 =>
    fX0_gather_49_L72 n x68 S56 V67))))))))))) (fun X131_53 =>
    fX0_gather_49_L94 X131_53 FU x29 x36 (0 : Int32) S30 V31))))))
def fX0_gather_49 (S : Nat → Int32) (V : Nat → Nat → Int32) (a1 : Int32) : Option ((Nat → Int32) × (Nat → Nat → Int32)) :=
  lt (va_up S 4903 (0 : Int32)) (fun S1 =>
  bk (fun (S23 : Nat → Int32) (V24 : Nat → Nat → Int32) =>
  lt ((S23 4903)) (fun x25 =>
  gd (ib x25 5) (
  lt (va_up V24 54 (upd (V24 54) (x25).toNatClampNeg (0 : Int32))) (fun V27 =>
  lt (((S23 4903) - (1 : Int32))) (fun x28 =>
  fX0_gather_49_L72 FU x28 S23 V27))))) (fun X55_22 =>
  fX0_gather_49_L7 X55_22 FU a1 (0 : Int32) S1 V))
set_option maxHeartbeats 4000000 in
set_option maxRecDepth 100000 in
theorem kX0_gather_49 (l : Launch) (B : jBT) (D : va_G) (ad : Nat → Nat) (cA : Nat → ClassId) (hI : jI ad TC) (S : Nat → Int32) (V : Nat → Nat → Int32) (L : Nat → Int64) (a1 : Int32) (S0 : Nat → Int32) (V0 : Nat → Nat → Int32) (h : fX0_gather_49 S V a1 = some (S0, V0)) : jM l yX0_gather cX0_gather 5 none ({ frames := 1, cells := 0, slots := 0, locals := 22 }) B D TC ad cA [.ref (ad 49), .int a1] S V L none S0 V0 L := by
  refine jM_of (plainFor_of_name (by decide)) TC_ok hI (Nat.le_of_ble_eq_true rfl) ?_
  intro p e s m args below meth c C hr hlk
  refine j_lv (lv2 := [(0, .ref (ad 49)), (1, .int a1)]) rfl ?_
  unfold fX0_gather_49 at h
  have H_fX0_gather_49_L7 : ∀ (E55 : (Nat → Int32) → (Nat → Nat → Int32) → Option ((Nat → Int32) × (Nat → Nat → Int32))) (_ : ∀ (S20 : Nat → Int32) (V21 : Nat → Nat → Int32), E55 S20 V21 = some (S0, V0) → jW p l e ({ frames := 1, cells := 0, slots := 0, locals := 22 }) s m args below meth c (MQ below (jQc D TC ad cA none s.heap.size S0 V0 L) args s 0 0 (jA ad TC s.heap.size)) D TC ad cA (jA ad TC s.heap.size) 5 0 0 55 [(0, .ref (ad 49))] [] S20 V21 L) (n : Nat) (x2 : Int32) (x3 : Int32) (S4 : Nat → Int32) (V5 : Nat → Nat → Int32), fX0_gather_49_L7 E55 n x2 x3 S4 V5 = some (S0, V0) → jW p l e ({ frames := 1, cells := 0, slots := 0, locals := 22 }) s m args below meth c (MQ below (jQc D TC ad cA none s.heap.size S0 V0 L) args s 0 0 (jA ad TC s.heap.size)) D TC ad cA (jA ad TC s.heap.size) 5 0 0 7 [(0, .ref (ad 49)), (1, .int x2), (2, .int x3)] [] S4 V5 L := by
    intro E55 HE55
    intro n
    induction n with
    | zero =>
      intro x2 x3 S4 V5 h
      cases (show (none : Option ((Nat → Int32) × (Nat → Nat → Int32))) = some (S0, V0) from h)
    | succ n ih =>
      intro x2 x3 S4 V5 h
      unfold fX0_gather_49_L7 at h
      refine j_iload_n C 2 rfl dX0_gather_7 rfl ?_
      refine j_bipush C dX0_gather_8 cb_6 ?_
      refine j_icmp_ge (tgt := 55) C dX0_gather_10 (by decide) (fun c6 => ?_) (fun c6 => ?_)
      · have h := (if_pos c6).symm.trans h
        exact j_sub [0] rfl (HE55 _ _ h)
      · have h := (if_neg c6).symm.trans h
        refine j_iload_n C 1 rfl dX0_gather_13 rfl ?_
        refine j_iload_n C 2 rfl dX0_gather_14 rfl ?_
        refine j_ishr C dX0_gather_15 ?_
        refine j_iconst C dX0_gather_16 ci_1 ?_
        refine j_iand C dX0_gather_17 ?_
        refine bk_elim h (fun K49_7 e_K49_7 h => ?_)
        have HK49_7 : ∀ (x8 : Int32) (x9 : Int32) (S10 : Nat → Int32) (V11 : Nat → Nat → Int32), K49_7 x8 x9 S10 V11 = some (S0, V0) → jW p l e ({ frames := 1, cells := 0, slots := 0, locals := 22 }) s m args below meth c (MQ below (jQc D TC ad cA none s.heap.size S0 V0 L) args s 0 0 (jA ad TC s.heap.size)) D TC ad cA (jA ad TC s.heap.size) 5 0 0 49 [(0, .ref (ad 49)), (1, .int x8), (2, .int x9)] [] S10 V11 L := by
          subst e_K49_7
          intro x8 x9 S10 V11 h
          refine lt_elim h (fun x12 e_x12 h => ?_)
          refine j_iinc C [(2, .int x12), (0, .ref (ad 49)), (1, .int x8)] 2 dX0_gather_49 rfl ((iinc_eq ci_1).trans e_x12.symm) (by decide) rfl ?_
          refine j_goto (tgt := 7) C dX0_gather_52 (by decide) ?_
          exact j_sub [1, 2, 0] rfl (ih _ _ _ _ h)
        refine j_if_eq (tgt := 49) C dX0_gather_18 (by decide) (fun c13 => ?_) (fun c13 => ?_)
        · have h := (if_pos c13).symm.trans h
          exact j_sub [0, 1, 2] rfl (HK49_7 _ _ _ _ h)
        · have h := (if_neg c13).symm.trans h
          refine j_aload_n C 0 rfl dX0_gather_21 rfl ?_
          refine fg_X0_52_TC_49 C dX0_gather_22 ?_
          refine j_iconst C dX0_gather_25 ci_4 ?_
          refine j_icmp_ge (tgt := 49) C dX0_gather_26 (by decide) (fun c14 => ?_) (fun c14 => ?_)
          · have h := (if_pos c14).symm.trans h
            exact j_sub [0, 1, 2] rfl (HK49_7 _ _ _ _ h)
          · have h := (if_neg c14).symm.trans h
            refine j_aload_n C 0 rfl dX0_gather_29 rfl ?_
            refine fg_X0_9_TC_49 C dX0_gather_30 ?_
            refine j_aload_n C 0 rfl dX0_gather_33 rfl ?_
            refine fg_X0_52_TC_49 C dX0_gather_34 ?_
            refine j_iload_n C 2 rfl dX0_gather_37 rfl ?_
            refine lt_elim h (fun x15 e_x15 h => ?_)
            refine j_top2 e_x15 ?_
            obtain ⟨g16, h⟩ := gd_elim h
            refine j_iast C tc_50 (ib_in g16) dX0_gather_38 ?_
            refine lt_elim h (fun V17 e_V17 h => ?_)
            refine j_V e_V17 ?_
            refine j_aload_n C 0 rfl dX0_gather_39 rfl ?_
            refine j_dup C dX0_gather_40 rfl ?_
            refine fg_X0_52_TC_49 C dX0_gather_41 ?_
            refine j_iconst C dX0_gather_44 ci_1 ?_
            refine j_iadd C dX0_gather_45 ?_
            refine lt_elim h (fun x18 e_x18 h => ?_)
            refine j_top e_x18 ?_
            refine fp_X0_52_TC_49 C dX0_gather_46 ?_
            refine lt_elim h (fun S19 e_S19 h => ?_)
            refine j_S e_S19 ?_
            exact j_sub [0, 1, 2] rfl (HK49_7 _ _ _ _ h)
  have H_fX0_gather_49_L94 : ∀ (E131 : Int32 → Int32 → (Nat → Int32) → (Nat → Nat → Int32) → Option ((Nat → Int32) × (Nat → Nat → Int32))) (_ : ∀ (x49 : Int32) (x50 : Int32) (S51 : Nat → Int32) (V52 : Nat → Nat → Int32), E131 x49 x50 S51 V52 = some (S0, V0) → jW p l e ({ frames := 1, cells := 0, slots := 0, locals := 22 }) s m args below meth c (MQ below (jQc D TC ad cA none s.heap.size S0 V0 L) args s 0 0 (jA ad TC s.heap.size)) D TC ad cA (jA ad TC s.heap.size) 5 0 0 131 [(0, .ref (ad 49)), (2, .int x49), (3, .int x50)] [] S51 V52 L) (n : Nat) (x37 : Int32) (x38 : Int32) (x39 : Int32) (S40 : Nat → Int32) (V41 : Nat → Nat → Int32), fX0_gather_49_L94 E131 n x37 x38 x39 S40 V41 = some (S0, V0) → jW p l e ({ frames := 1, cells := 0, slots := 0, locals := 22 }) s m args below meth c (MQ below (jQc D TC ad cA none s.heap.size S0 V0 L) args s 0 0 (jA ad TC s.heap.size)) D TC ad cA (jA ad TC s.heap.size) 5 0 0 94 [(0, .ref (ad 49)), (2, .int x37), (3, .int x38), (4, .int x39)] [] S40 V41 L := by
    intro E131 HE131
    intro n
    induction n with
    | zero =>
      intro x37 x38 x39 S40 V41 h
      cases (show (none : Option ((Nat → Int32) × (Nat → Nat → Int32))) = some (S0, V0) from h)
    | succ n ih =>
      intro x37 x38 x39 S40 V41 h
      unfold fX0_gather_49_L94 at h
      refine j_iload C 3 rfl dX0_gather_94 ?_
      refine j_iload_n C 1 rfl dX0_gather_96 rfl ?_
      refine j_icmp_ge (tgt := 131) C dX0_gather_97 (by decide) (fun c42 => ?_) (fun c42 => ?_)
      · have h := (if_pos c42).symm.trans h
        exact j_sub [0, 1, 2] rfl (HE131 _ _ _ _ h)
      · have h := (if_neg c42).symm.trans h
        refine j_iload_n C 2 rfl dX0_gather_100 rfl ?_
        refine j_iconst C dX0_gather_101 ci_3 ?_
        refine j_aload_n C 0 rfl dX0_gather_102 rfl ?_
        refine fg_X0_36_TC_49 C dX0_gather_103 ?_
        refine j_aload_n C 0 rfl dX0_gather_106 rfl ?_
        refine fg_X0_9_TC_49 C dX0_gather_107 ?_
        refine j_iload_n C 1 rfl dX0_gather_110 rfl ?_
        obtain ⟨g43, h⟩ := gd_elim h
        refine j_iald C tc_50 (ib_in g43) dX0_gather_111 ?_
        refine j_aload_n C 0 rfl dX0_gather_112 rfl ?_
        refine fg_X0_9_TC_49 C dX0_gather_113 ?_
        refine j_iload C 3 rfl dX0_gather_116 ?_
        obtain ⟨g44, h⟩ := gd_elim h
        refine j_iald C tc_50 (ib_in g44) dX0_gather_118 ?_
        obtain ⟨r45, h46, h⟩ := bd1_elim h
        refine j_callV (As := [.int (V41 50 (x37).toNatClampNeg), .int (V41 50 (x39).toNatClampNeg)]) (rest := [.int (3 : Int32), .int x38]) C (kX2_quarrelsOf_3 l B D ad cA hI S40 V41 L ((V41 50 (x37).toNatClampNeg)) ((V41 50 (x39).toNatClampNeg)) _ h46) mw_X2_quarrelsOf wd620 wd621 wd1194 tc_3 rfl rfl ⟨rfl, rfl, by decide, by decide⟩ ⟨Nat.zero_le _, Nat.zero_le _⟩ rfl rfl (Nat.le_of_ble_eq_true rfl) dX0_gather_119 ?_
        refine j_imul C dX0_gather_122 ?_
        refine j_iadd C dX0_gather_123 ?_
        refine lt_elim h (fun x47 e_x47 h => ?_)
        refine j_top e_x47 ?_
        refine j_istore_n C [(3, .int x47), (0, .ref (ad 49)), (2, .int x37), (4, .int x39)] dX0_gather_124 rfl (by decide) rfl ?_
        refine lt_elim h (fun x48 e_x48 h => ?_)
        refine j_iinc C [(4, .int x48), (3, .int x47), (0, .ref (ad 49)), (2, .int x37)] 3 dX0_gather_125 rfl ((iinc_eq ci_1).trans e_x48.symm) (by decide) rfl ?_
        refine j_goto (tgt := 94) C dX0_gather_128 (by decide) ?_
        exact j_sub [2, 3, 1, 0] rfl (ih _ _ _ _ _ h)
  have H_fX0_gather_49_L72 : ∀ (n : Nat) (x29 : Int32) (S30 : Nat → Int32) (V31 : Nat → Nat → Int32), fX0_gather_49_L72 n x29 S30 V31 = some (S0, V0) → jW p l e ({ frames := 1, cells := 0, slots := 0, locals := 22 }) s m args below meth c (MQ below (jQc D TC ad cA none s.heap.size S0 V0 L) args s 0 0 (jA ad TC s.heap.size)) D TC ad cA (jA ad TC s.heap.size) 5 0 0 72 [(0, .ref (ad 49)), (2, .int x29)] [] S30 V31 L := by
    intro n
    induction n with
    | zero =>
      intro x29 S30 V31 h
      cases (show (none : Option ((Nat → Int32) × (Nat → Nat → Int32))) = some (S0, V0) from h)
    | succ n ih =>
      intro x29 S30 V31 h
      unfold fX0_gather_49_L72 at h
      refine j_iload_n C 1 rfl dX0_gather_72 rfl ?_
      refine j_if_lt (tgt := 173) C dX0_gather_73 (by decide) (fun c32 => ?_) (fun c32 => ?_)
      · have h := (if_pos c32).symm.trans h
        cases h
        exact j_vret C hr hlk rfl dX0_gather_173
      · have h := (if_neg c32).symm.trans h
        refine j_aload_n C 0 rfl dX0_gather_76 rfl ?_
        refine fg_X0_36_TC_49 C dX0_gather_77 ?_
        refine fg_X0_76_TC_3 C dX0_gather_80 ?_
        refine j_aload_n C 0 rfl dX0_gather_83 rfl ?_
        refine fg_X0_9_TC_49 C dX0_gather_84 ?_
        refine j_iload_n C 1 rfl dX0_gather_87 rfl ?_
        obtain ⟨g33, h⟩ := gd_elim h
        refine j_iald C tc_50 (ib_in g33) dX0_gather_88 ?_
        refine lt_elim h (fun x34 e_x34 h => ?_)
        refine j_top e_x34 ?_
        obtain ⟨g35, h⟩ := gd_elim h
        refine j_iald C tc_4 (ib_in g35) dX0_gather_89 ?_
        refine lt_elim h (fun x36 e_x36 h => ?_)
        refine j_top e_x36 ?_
        refine j_istore_n C [(3, .int x36), (0, .ref (ad 49)), (2, .int x29)] dX0_gather_90 rfl (by decide) rfl ?_
        refine j_iconst C dX0_gather_91 ci_0 ?_
        refine j_istore C [(4, .int (0 : Int32)), (3, .int x36), (0, .ref (ad 49)), (2, .int x29)] dX0_gather_92 (by decide) rfl ?_
        refine bk_elim h (fun X131_53 e_X131_53 h => ?_)
        have HX131_53 : ∀ (x54 : Int32) (x55 : Int32) (S56 : Nat → Int32) (V57 : Nat → Nat → Int32), X131_53 x54 x55 S56 V57 = some (S0, V0) → jW p l e ({ frames := 1, cells := 0, slots := 0, locals := 22 }) s m args below meth c (MQ below (jQc D TC ad cA none s.heap.size S0 V0 L) args s 0 0 (jA ad TC s.heap.size)) D TC ad cA (jA ad TC s.heap.size) 5 0 0 131 [(0, .ref (ad 49)), (2, .int x54), (3, .int x55)] [] S56 V57 L := by
          subst e_X131_53
          intro x54 x55 S56 V57 h
          refine j_aload_n C 0 rfl dX0_gather_131 rfl ?_
          refine fg_X0_24_TC_49 C dX0_gather_132 ?_
          refine j_iload_n C 1 rfl dX0_gather_135 rfl ?_
          refine j_aload_n C 0 rfl dX0_gather_136 rfl ?_
          refine fg_X0_24_TC_49 C dX0_gather_137 ?_
          refine j_iload_n C 1 rfl dX0_gather_140 rfl ?_
          refine j_iconst C dX0_gather_141 ci_1 ?_
          refine j_iadd C dX0_gather_142 ?_
          refine lt_elim h (fun x58 e_x58 h => ?_)
          refine j_top e_x58 ?_
          obtain ⟨g59, h⟩ := gd_elim h
          refine j_iald C tc_54 (ib_in g59) dX0_gather_143 ?_
          refine j_iload_n C 2 rfl dX0_gather_144 rfl ?_
          refine j_bipush C dX0_gather_145 cb_12 ?_
          refine j_aload_n C 0 rfl dX0_gather_147 rfl ?_
          refine fg_X0_36_TC_49 C dX0_gather_148 ?_
          refine fg_X0_83_TC_3 C dX0_gather_151 ?_
          refine j_aload_n C 0 rfl dX0_gather_154 rfl ?_
          refine fg_X0_9_TC_49 C dX0_gather_155 ?_
          refine j_iload_n C 1 rfl dX0_gather_158 rfl ?_
          obtain ⟨g60, h⟩ := gd_elim h
          refine j_iald C tc_50 (ib_in g60) dX0_gather_159 ?_
          refine lt_elim h (fun x61 e_x61 h => ?_)
          refine j_top e_x61 ?_
          obtain ⟨g62, h⟩ := gd_elim h
          refine j_iald C tc_6 (ib_in g62) dX0_gather_160 ?_
          obtain ⟨r63, h64, h⟩ := bd1_elim h
          refine j_callS (As := [.int (12 : Int32), .int (V57 6 (x61).toNatClampNeg)]) (rest := [.int x55, .int (V57 54 (x58).toNatClampNeg), .int x54, .ref (ad 54)]) C (kJ9_min_7cf53 l B D ad cA hI S56 V57 L (12 : Int32) ((V57 6 (x61).toNatClampNeg)) _ h64) mw_J9_min_7cf53 wd767 wd1195 ⟨rfl, rfl, by decide, by decide⟩ ⟨Nat.zero_le _, Nat.zero_le _⟩ rfl rfl (Nat.le_of_ble_eq_true rfl) dX0_gather_161 ?_
          refine j_imul C dX0_gather_164 ?_
          refine j_iadd C dX0_gather_165 ?_
          refine lt_elim h (fun x65 e_x65 h => ?_)
          refine j_top e_x65 ?_
          obtain ⟨g66, h⟩ := gd_elim h
          refine j_iast C tc_54 (ib_in g66) dX0_gather_166 ?_
          refine lt_elim h (fun V67 e_V67 h => ?_)
          refine j_V e_V67 ?_
          refine lt_elim h (fun x68 e_x68 h => ?_)
          refine j_iinc C [(2, .int x68), (0, .ref (ad 49)), (3, .int x55)] 1 dX0_gather_167 rfl ((iinc_eq ci_m1).trans e_x68.symm) (by decide) rfl ?_
          refine j_goto (tgt := 72) C dX0_gather_170 (by decide) ?_
          exact j_sub [1, 0] rfl (ih _ _ _ h)
        exact j_sub [2, 3, 1, 0] rfl (H_fX0_gather_49_L94 _ HX131_53 FU _ _ _ _ _ h)
  refine j_aload_n C 0 rfl dX0_gather_0 rfl ?_
  refine j_iconst C dX0_gather_1 ci_0 ?_
  refine fp_X0_52_TC_49 C dX0_gather_2 ?_
  refine lt_elim h (fun S1 e_S1 h => ?_)
  refine j_S e_S1 ?_
  refine j_iconst C dX0_gather_5 ci_0 ?_
  refine j_istore_n C [(2, .int (0 : Int32)), (0, .ref (ad 49)), (1, .int a1)] dX0_gather_6 rfl (by decide) rfl ?_
  refine bk_elim h (fun X55_22 e_X55_22 h => ?_)
  have HX55_22 : ∀ (S23 : Nat → Int32) (V24 : Nat → Nat → Int32), X55_22 S23 V24 = some (S0, V0) → jW p l e ({ frames := 1, cells := 0, slots := 0, locals := 22 }) s m args below meth c (MQ below (jQc D TC ad cA none s.heap.size S0 V0 L) args s 0 0 (jA ad TC s.heap.size)) D TC ad cA (jA ad TC s.heap.size) 5 0 0 55 [(0, .ref (ad 49))] [] S23 V24 L := by
    subst e_X55_22
    intro S23 V24 h
    refine j_aload_n C 0 rfl dX0_gather_55 rfl ?_
    refine fg_X0_24_TC_49 C dX0_gather_56 ?_
    refine j_aload_n C 0 rfl dX0_gather_59 rfl ?_
    refine fg_X0_52_TC_49 C dX0_gather_60 ?_
    refine j_iconst C dX0_gather_63 ci_0 ?_
    refine lt_elim h (fun x25 e_x25 h => ?_)
    refine j_top2 e_x25 ?_
    obtain ⟨g26, h⟩ := gd_elim h
    refine j_iast C tc_54 (ib_in g26) dX0_gather_64 ?_
    refine lt_elim h (fun V27 e_V27 h => ?_)
    refine j_V e_V27 ?_
    refine j_aload_n C 0 rfl dX0_gather_65 rfl ?_
    refine fg_X0_52_TC_49 C dX0_gather_66 ?_
    refine j_iconst C dX0_gather_69 ci_1 ?_
    refine j_isub C dX0_gather_70 ?_
    refine lt_elim h (fun x28 e_x28 h => ?_)
    refine j_top e_x28 ?_
    refine j_istore_n C [(2, .int x28), (0, .ref (ad 49))] dX0_gather_71 rfl (by decide) rfl ?_
    exact j_sub [1, 0] rfl (H_fX0_gather_49_L72 FU _ _ _ h)
  exact j_sub [1, 2, 0] rfl (H_fX0_gather_49_L7 _ HX55_22 FU _ _ _ _ h)
theorem dX2_weightOf_0 : decode cX2_weightOf 0 = .ok (.iload_n 1, 1) := by decide +kernel
theorem dX2_weightOf_1 : decode cX2_weightOf 1 = .ok (.iconst (-1), 1) := by decide +kernel
theorem dX2_weightOf_2 : decode cX2_weightOf 2 = .ok (.if_icmp .ne 7, 3) := by decide +kernel
theorem dX2_weightOf_5 : decode cX2_weightOf 5 = .ok (.iconst 0, 1) := by decide +kernel
theorem dX2_weightOf_6 : decode cX2_weightOf 6 = .ok (.goto 9, 3) := by decide +kernel
theorem dX2_weightOf_9 : decode cX2_weightOf 9 = .ok (.aload_n 0, 1) := by decide +kernel
theorem dX2_weightOf_10 : decode cX2_weightOf 10 = .ok (.getfield 9, 3) := by decide +kernel
theorem dX2_weightOf_13 : decode cX2_weightOf 13 = .ok (.iload_n 1, 1) := by decide +kernel
theorem dX2_weightOf_14 : decode cX2_weightOf 14 = .ok (.iaload, 1) := by decide +kernel
theorem dX2_weightOf_15 : decode cX2_weightOf 15 = .ok (.ireturn, 1) := by decide +kernel
def fX2_weightOf_3 (V : Nat → Nat → Int32) (a1 : Int32) : Option (Int32) :=
  (if a1 = (-1 : Int32) then
  some (0 : Int32)
  else
  gd (ib a1 6) (
  some ((V 4 (a1).toNatClampNeg))))
set_option maxHeartbeats 4000000 in
set_option maxRecDepth 100000 in
theorem kX2_weightOf_3 (l : Launch) (B : jBT) (D : va_G) (ad : Nat → Nat) (cA : Nat → ClassId) (hI : jI ad TC) (S : Nat → Int32) (V : Nat → Nat → Int32) (L : Nat → Int64) (a1 : Int32) (r0 : Int32) (h : fX2_weightOf_3 V a1 = some r0) : jM l yX2_weightOf cX2_weightOf 2 (some .int) ({ frames := 0, cells := 0, slots := 0, locals := 0 }) B D TC ad cA [.ref (ad 3), .int a1] S V L (some (.int r0)) S V L := by
  refine jM_of (plainFor_of_name (by decide)) TC_ok hI (Nat.le_of_ble_eq_true rfl) ?_
  intro p e s m args below meth c C hr hlk
  refine j_lv (lv2 := [(0, .ref (ad 3)), (1, .int a1)]) rfl ?_
  unfold fX2_weightOf_3 at h
  refine j_iload_n C 1 rfl dX2_weightOf_0 rfl ?_
  refine j_iconst C dX2_weightOf_1 ci_m1 ?_
  refine j_icmp_ne (tgt := 9) C dX2_weightOf_2 (by decide) (fun c1 => ?_) (fun c1 => ?_)
  · have h := (if_neg c1).symm.trans h
    refine j_aload_n C 0 rfl dX2_weightOf_9 rfl ?_
    refine fg_X2_9_TC_3 C dX2_weightOf_10 ?_
    refine j_iload_n C 1 rfl dX2_weightOf_13 rfl ?_
    obtain ⟨g2, h⟩ := gd_elim h
    refine j_iald C tc_4 (ib_in g2) dX2_weightOf_14 ?_
    cases h
    exact j_iret C hr hlk rfl dX2_weightOf_15
  · have h := (if_pos c1).symm.trans h
    refine j_iconst C dX2_weightOf_5 ci_0 ?_
    refine j_goto (tgt := 15) C dX2_weightOf_6 (by decide) ?_
    cases h
    exact j_iret C hr hlk rfl dX2_weightOf_15
theorem dJ9_max_7cf53_0 : decode cJ9_max_7cf53 0 = .ok (.iload_n 0, 1) := by decide +kernel
theorem dJ9_max_7cf53_1 : decode cJ9_max_7cf53 1 = .ok (.iload_n 1, 1) := by decide +kernel
theorem dJ9_max_7cf53_2 : decode cJ9_max_7cf53 2 = .ok (.if_icmp .lt 7, 3) := by decide +kernel
theorem dJ9_max_7cf53_5 : decode cJ9_max_7cf53 5 = .ok (.iload_n 0, 1) := by decide +kernel
theorem dJ9_max_7cf53_6 : decode cJ9_max_7cf53 6 = .ok (.goto 4, 3) := by decide +kernel
theorem dJ9_max_7cf53_9 : decode cJ9_max_7cf53 9 = .ok (.iload_n 1, 1) := by decide +kernel
theorem dJ9_max_7cf53_10 : decode cJ9_max_7cf53 10 = .ok (.ireturn, 1) := by decide +kernel
def fJ9_max_7cf53 (a1 : Int32) (a2 : Int32) : Option (Int32) :=
  (if a1 < a2 then
  some a2
  else
  some a1)
set_option maxHeartbeats 4000000 in
set_option maxRecDepth 100000 in
theorem kJ9_max_7cf53 (l : Launch) (B : jBT) (D : va_G) (ad : Nat → Nat) (cA : Nat → ClassId) (hI : jI ad TC) (S : Nat → Int32) (V : Nat → Nat → Int32) (L : Nat → Int64) (a1 : Int32) (a2 : Int32) (r0 : Int32) (h : fJ9_max_7cf53 a1 a2 = some r0) : jM l yJ9_max_7cf53 cJ9_max_7cf53 2 (some .int) ({ frames := 0, cells := 0, slots := 0, locals := 0 }) B D TC ad cA [.int a1, .int a2] S V L (some (.int r0)) S V L := by
  refine jM_of (by decide +kernel) TC_ok hI (Nat.le_of_ble_eq_true rfl) ?_
  intro p e s m args below meth c C hr hlk
  refine j_lv (lv2 := [(0, .int a1), (1, .int a2)]) rfl ?_
  unfold fJ9_max_7cf53 at h
  refine j_iload_n C 0 rfl dJ9_max_7cf53_0 rfl ?_
  refine j_iload_n C 1 rfl dJ9_max_7cf53_1 rfl ?_
  refine j_icmp_lt (tgt := 9) C dJ9_max_7cf53_2 (by decide) (fun c1 => ?_) (fun c1 => ?_)
  · have h := (if_pos c1).symm.trans h
    refine j_iload_n C 1 rfl dJ9_max_7cf53_9 rfl ?_
    cases h
    exact j_iret C hr hlk rfl dJ9_max_7cf53_10
  · have h := (if_neg c1).symm.trans h
    refine j_iload_n C 0 rfl dJ9_max_7cf53_5 rfl ?_
    refine j_goto (tgt := 10) C dJ9_max_7cf53_6 (by decide) ?_
    cases h
    exact j_iret C hr hlk rfl dJ9_max_7cf53_10
theorem dX2_swingOf_0 : decode cX2_swingOf 0 = .ok (.aload_n 0, 1) := by decide +kernel
theorem dX2_swingOf_1 : decode cX2_swingOf 1 = .ok (.iload_n 1, 1) := by decide +kernel
theorem dX2_swingOf_2 : decode cX2_swingOf 2 = .ok (.invokevirtual 74, 3) := by decide +kernel
theorem dX2_swingOf_5 : decode cX2_swingOf 5 = .ok (.aload_n 0, 1) := by decide +kernel
theorem dX2_swingOf_6 : decode cX2_swingOf 6 = .ok (.iload_n 2, 1) := by decide +kernel
theorem dX2_swingOf_7 : decode cX2_swingOf 7 = .ok (.invokevirtual 74, 3) := by decide +kernel
theorem dX2_swingOf_10 : decode cX2_swingOf 10 = .ok (.iadd, 1) := by decide +kernel
theorem dX2_swingOf_11 : decode cX2_swingOf 11 = .ok (.aload_n 0, 1) := by decide +kernel
theorem dX2_swingOf_12 : decode cX2_swingOf 12 = .ok (.iload_n 3, 1) := by decide +kernel
theorem dX2_swingOf_13 : decode cX2_swingOf 13 = .ok (.invokevirtual 74, 3) := by decide +kernel
theorem dX2_swingOf_16 : decode cX2_swingOf 16 = .ok (.iadd, 1) := by decide +kernel
theorem dX2_swingOf_17 : decode cX2_swingOf 17 = .ok (.istore 5, 2) := by decide +kernel
theorem dX2_swingOf_19 : decode cX2_swingOf 19 = .ok (.aload_n 0, 1) := by decide +kernel
theorem dX2_swingOf_20 : decode cX2_swingOf 20 = .ok (.iload_n 1, 1) := by decide +kernel
theorem dX2_swingOf_21 : decode cX2_swingOf 21 = .ok (.iload_n 2, 1) := by decide +kernel
theorem dX2_swingOf_22 : decode cX2_swingOf 22 = .ok (.invokevirtual 77, 3) := by decide +kernel
theorem dX2_swingOf_25 : decode cX2_swingOf 25 = .ok (.aload_n 0, 1) := by decide +kernel
theorem dX2_swingOf_26 : decode cX2_swingOf 26 = .ok (.iload_n 1, 1) := by decide +kernel
theorem dX2_swingOf_27 : decode cX2_swingOf 27 = .ok (.iload_n 3, 1) := by decide +kernel
theorem dX2_swingOf_28 : decode cX2_swingOf 28 = .ok (.invokevirtual 77, 3) := by decide +kernel
theorem dX2_swingOf_31 : decode cX2_swingOf 31 = .ok (.iadd, 1) := by decide +kernel
theorem dX2_swingOf_32 : decode cX2_swingOf 32 = .ok (.aload_n 0, 1) := by decide +kernel
theorem dX2_swingOf_33 : decode cX2_swingOf 33 = .ok (.iload_n 2, 1) := by decide +kernel
theorem dX2_swingOf_34 : decode cX2_swingOf 34 = .ok (.iload_n 3, 1) := by decide +kernel
theorem dX2_swingOf_35 : decode cX2_swingOf 35 = .ok (.invokevirtual 77, 3) := by decide +kernel
theorem dX2_swingOf_38 : decode cX2_swingOf 38 = .ok (.iadd, 1) := by decide +kernel
theorem dX2_swingOf_39 : decode cX2_swingOf 39 = .ok (.istore 6, 2) := by decide +kernel
theorem dX2_swingOf_41 : decode cX2_swingOf 41 = .ok (.iconst 2, 1) := by decide +kernel
theorem dX2_swingOf_42 : decode cX2_swingOf 42 = .ok (.iconst 2, 1) := by decide +kernel
theorem dX2_swingOf_43 : decode cX2_swingOf 43 = .ok (.aload_n 0, 1) := by decide +kernel
theorem dX2_swingOf_44 : decode cX2_swingOf 44 = .ok (.getfield 33, 3) := by decide +kernel
theorem dX2_swingOf_47 : decode cX2_swingOf 47 = .ok (.imul, 1) := by decide +kernel
theorem dX2_swingOf_48 : decode cX2_swingOf 48 = .ok (.iload 5, 2) := by decide +kernel
theorem dX2_swingOf_50 : decode cX2_swingOf 50 = .ok (.iadd, 1) := by decide +kernel
theorem dX2_swingOf_51 : decode cX2_swingOf 51 = .ok (.iconst 3, 1) := by decide +kernel
theorem dX2_swingOf_52 : decode cX2_swingOf 52 = .ok (.iload 6, 2) := by decide +kernel
theorem dX2_swingOf_54 : decode cX2_swingOf 54 = .ok (.imul, 1) := by decide +kernel
theorem dX2_swingOf_55 : decode cX2_swingOf 55 = .ok (.iadd, 1) := by decide +kernel
theorem dX2_swingOf_56 : decode cX2_swingOf 56 = .ok (.iload 4, 2) := by decide +kernel
theorem dX2_swingOf_58 : decode cX2_swingOf 58 = .ok (.isub, 1) := by decide +kernel
theorem dX2_swingOf_59 : decode cX2_swingOf 59 = .ok (.invokestatic 64, 3) := by decide +kernel
theorem dX2_swingOf_62 : decode cX2_swingOf 62 = .ok (.ireturn, 1) := by decide +kernel
def fX2_swingOf_3 (S : Nat → Int32) (V : Nat → Nat → Int32) (a1 : Int32) (a2 : Int32) (a3 : Int32) (a4 : Int32) : Option (Int32) :=
  bd1 (fX2_weightOf_3 V a1) (fun r1 =>
  bd1 (fX2_weightOf_3 V a2) (fun r3 =>
  bd1 (fX2_weightOf_3 V a3) (fun r5 =>
  lt (((r1 + r3) + r5)) (fun x7 =>
  bd1 (fX2_quarrelsOf_3 V a1 a2) (fun r8 =>
  bd1 (fX2_quarrelsOf_3 V a1 a3) (fun r10 =>
  bd1 (fX2_quarrelsOf_3 V a2 a3) (fun r12 =>
  lt (((r8 + r10) + r12)) (fun x14 =>
  bd1 (fJ9_max_7cf53 (2 : Int32) ((((((2 : Int32) * (S 300)) + x7) + ((3 : Int32) * x14)) - a4))) (fun r15 =>
  some r15)))))))))
set_option maxHeartbeats 4000000 in
set_option maxRecDepth 100000 in
theorem kX2_swingOf_3 (l : Launch) (B : jBT) (D : va_G) (ad : Nat → Nat) (cA : Nat → ClassId) (hI : jI ad TC) (S : Nat → Int32) (V : Nat → Nat → Int32) (L : Nat → Int64) (a1 : Int32) (a2 : Int32) (a3 : Int32) (a4 : Int32) (r0 : Int32) (h : fX2_swingOf_3 S V a1 a2 a3 a4 = some r0) : jM l yX2_swingOf cX2_swingOf 7 (some .int) ({ frames := 1, cells := 0, slots := 0, locals := 22 }) B D TC ad cA [.ref (ad 3), .int a1, .int a2, .int a3, .int a4] S V L (some (.int r0)) S V L := by
  refine jM_of (plainFor_of_name (by decide)) TC_ok hI (Nat.le_of_ble_eq_true rfl) ?_
  intro p e s m args below meth c C hr hlk
  refine j_lv (lv2 := [(0, .ref (ad 3)), (1, .int a1), (2, .int a2), (3, .int a3), (4, .int a4)]) rfl ?_
  unfold fX2_swingOf_3 at h
  refine j_aload_n C 0 rfl dX2_swingOf_0 rfl ?_
  refine j_iload_n C 1 rfl dX2_swingOf_1 rfl ?_
  obtain ⟨r1, h2, h⟩ := bd1_elim h
  refine j_callV (As := [.int a1]) (rest := []) C (kX2_weightOf_3 l B D ad cA hI S V L a1 _ h2) mw_X2_weightOf wd616 wd617 wd1145 tc_3 rfl rfl ⟨rfl, rfl, by decide, by decide⟩ ⟨Nat.zero_le _, Nat.zero_le _⟩ rfl rfl (Nat.le_of_ble_eq_true rfl) dX2_swingOf_2 ?_
  refine j_aload_n C 0 rfl dX2_swingOf_5 rfl ?_
  refine j_iload_n C 2 rfl dX2_swingOf_6 rfl ?_
  obtain ⟨r3, h4, h⟩ := bd1_elim h
  refine j_callV (As := [.int a2]) (rest := [.int r1]) C (kX2_weightOf_3 l B D ad cA hI S V L a2 _ h4) mw_X2_weightOf wd616 wd617 wd1145 tc_3 rfl rfl ⟨rfl, rfl, by decide, by decide⟩ ⟨Nat.zero_le _, Nat.zero_le _⟩ rfl rfl (Nat.le_of_ble_eq_true rfl) dX2_swingOf_7 ?_
  refine j_iadd C dX2_swingOf_10 ?_
  refine j_aload_n C 0 rfl dX2_swingOf_11 rfl ?_
  refine j_iload_n C 3 rfl dX2_swingOf_12 rfl ?_
  obtain ⟨r5, h6, h⟩ := bd1_elim h
  refine j_callV (As := [.int a3]) (rest := [.int (r1 + r3)]) C (kX2_weightOf_3 l B D ad cA hI S V L a3 _ h6) mw_X2_weightOf wd616 wd617 wd1145 tc_3 rfl rfl ⟨rfl, rfl, by decide, by decide⟩ ⟨Nat.zero_le _, Nat.zero_le _⟩ rfl rfl (Nat.le_of_ble_eq_true rfl) dX2_swingOf_13 ?_
  refine j_iadd C dX2_swingOf_16 ?_
  refine lt_elim h (fun x7 e_x7 h => ?_)
  refine j_top e_x7 ?_
  refine j_istore C [(5, .int x7), (0, .ref (ad 3)), (1, .int a1), (2, .int a2), (3, .int a3), (4, .int a4)] dX2_swingOf_17 (by decide) rfl ?_
  refine j_aload_n C 1 rfl dX2_swingOf_19 rfl ?_
  refine j_iload_n C 2 rfl dX2_swingOf_20 rfl ?_
  refine j_iload_n C 3 rfl dX2_swingOf_21 rfl ?_
  obtain ⟨r8, h9, h⟩ := bd1_elim h
  refine j_callV (As := [.int a1, .int a2]) (rest := []) C (kX2_quarrelsOf_3 l B D ad cA hI S V L a1 a2 _ h9) mw_X2_quarrelsOf wd620 wd621 wd1146 tc_3 rfl rfl ⟨rfl, rfl, by decide, by decide⟩ ⟨Nat.zero_le _, Nat.zero_le _⟩ rfl rfl (Nat.le_of_ble_eq_true rfl) dX2_swingOf_22 ?_
  refine j_aload_n C 1 rfl dX2_swingOf_25 rfl ?_
  refine j_iload_n C 2 rfl dX2_swingOf_26 rfl ?_
  refine j_iload_n C 4 rfl dX2_swingOf_27 rfl ?_
  obtain ⟨r10, h11, h⟩ := bd1_elim h
  refine j_callV (As := [.int a1, .int a3]) (rest := [.int r8]) C (kX2_quarrelsOf_3 l B D ad cA hI S V L a1 a3 _ h11) mw_X2_quarrelsOf wd620 wd621 wd1146 tc_3 rfl rfl ⟨rfl, rfl, by decide, by decide⟩ ⟨Nat.zero_le _, Nat.zero_le _⟩ rfl rfl (Nat.le_of_ble_eq_true rfl) dX2_swingOf_28 ?_
  refine j_iadd C dX2_swingOf_31 ?_
  refine j_aload_n C 1 rfl dX2_swingOf_32 rfl ?_
  refine j_iload_n C 3 rfl dX2_swingOf_33 rfl ?_
  refine j_iload_n C 4 rfl dX2_swingOf_34 rfl ?_
  obtain ⟨r12, h13, h⟩ := bd1_elim h
  refine j_callV (As := [.int a2, .int a3]) (rest := [.int (r8 + r10)]) C (kX2_quarrelsOf_3 l B D ad cA hI S V L a2 a3 _ h13) mw_X2_quarrelsOf wd620 wd621 wd1146 tc_3 rfl rfl ⟨rfl, rfl, by decide, by decide⟩ ⟨Nat.zero_le _, Nat.zero_le _⟩ rfl rfl (Nat.le_of_ble_eq_true rfl) dX2_swingOf_35 ?_
  refine j_iadd C dX2_swingOf_38 ?_
  refine lt_elim h (fun x14 e_x14 h => ?_)
  refine j_top e_x14 ?_
  refine j_istore C [(6, .int x14), (5, .int x7), (0, .ref (ad 3)), (1, .int a1), (2, .int a2), (3, .int a3), (4, .int a4)] dX2_swingOf_39 (by decide) rfl ?_
  refine j_iconst C dX2_swingOf_41 ci_2 ?_
  refine j_iconst C dX2_swingOf_42 ci_2 ?_
  refine j_aload_n C 2 rfl dX2_swingOf_43 rfl ?_
  refine fg_X2_33_TC_3 C dX2_swingOf_44 ?_
  refine j_imul C dX2_swingOf_47 ?_
  refine j_iload C 1 rfl dX2_swingOf_48 ?_
  refine j_iadd C dX2_swingOf_50 ?_
  refine j_iconst C dX2_swingOf_51 ci_3 ?_
  refine j_iload C 0 rfl dX2_swingOf_52 ?_
  refine j_imul C dX2_swingOf_54 ?_
  refine j_iadd C dX2_swingOf_55 ?_
  refine j_iload C 6 rfl dX2_swingOf_56 ?_
  refine j_isub C dX2_swingOf_58 ?_
  obtain ⟨r15, h16, h⟩ := bd1_elim h
  refine j_callS (As := [.int (2 : Int32), .int (((((2 : Int32) * (S 300)) + x7) + ((3 : Int32) * x14)) - a4)]) (rest := []) C (kJ9_max_7cf53 l B D ad cA hI S V L (2 : Int32) ((((((2 : Int32) * (S 300)) + x7) + ((3 : Int32) * x14)) - a4)) _ h16) mw_J9_max_7cf53 wd770 wd1131 ⟨rfl, rfl, by decide, by decide⟩ ⟨Nat.zero_le _, Nat.zero_le _⟩ rfl rfl (Nat.le_of_ble_eq_true rfl) dX2_swingOf_59 ?_
  cases h
  exact j_iret C hr hlk rfl dX2_swingOf_62
theorem dX0_halfOf_0 : decode cX0_halfOf 0 = .ok (.iload_n 0, 1) := by decide +kernel
theorem dX0_halfOf_1 : decode cX0_halfOf 1 = .ok (.bipush 8, 2) := by decide +kernel
theorem dX0_halfOf_3 : decode cX0_halfOf 3 = .ok (.idiv, 1) := by decide +kernel
theorem dX0_halfOf_4 : decode cX0_halfOf 4 = .ok (.ireturn, 1) := by decide +kernel
def fX0_halfOf (a1 : Int32) : Option (Int32) :=
  some ((a1 / (8 : Int32)))
set_option maxHeartbeats 4000000 in
set_option maxRecDepth 100000 in
theorem kX0_halfOf (l : Launch) (B : jBT) (D : va_G) (ad : Nat → Nat) (cA : Nat → ClassId) (hI : jI ad TC) (S : Nat → Int32) (V : Nat → Nat → Int32) (L : Nat → Int64) (a1 : Int32) (r0 : Int32) (h : fX0_halfOf a1 = some r0) : jM l yX0_halfOf cX0_halfOf 1 (some .int) ({ frames := 0, cells := 0, slots := 0, locals := 0 }) B D TC ad cA [.int a1] S V L (some (.int r0)) S V L := by
  refine jM_of (plainFor_of_name (by decide)) TC_ok hI (Nat.le_of_ble_eq_true rfl) ?_
  intro p e s m args below meth c C hr hlk
  refine j_lv (lv2 := [(0, .int a1)]) rfl ?_
  unfold fX0_halfOf at h
  refine j_iload_n C 0 rfl dX0_halfOf_0 rfl ?_
  refine j_bipush C dX0_halfOf_1 cb_8 ?_
  refine j_idiv C dX0_halfOf_3 (by decide) ?_
  cases h
  exact j_iret C hr hlk rfl dX0_halfOf_4
theorem dX0_fits_0 : decode cX0_fits 0 = .ok (.iload_n 1, 1) := by decide +kernel
theorem dX0_fits_1 : decode cX0_fits 1 = .ok (.bipush 16, 2) := by decide +kernel
theorem dX0_fits_3 : decode cX0_fits 3 = .ok (.imul, 1) := by decide +kernel
theorem dX0_fits_4 : decode cX0_fits 4 = .ok (.iload_n 2, 1) := by decide +kernel
theorem dX0_fits_5 : decode cX0_fits 5 = .ok (.iadd, 1) := by decide +kernel
theorem dX0_fits_6 : decode cX0_fits 6 = .ok (.istore_n 3, 1) := by decide +kernel
theorem dX0_fits_7 : decode cX0_fits 7 = .ok (.aload_n 0, 1) := by decide +kernel
theorem dX0_fits_8 : decode cX0_fits 8 = .ok (.getfield 15, 3) := by decide +kernel
theorem dX0_fits_11 : decode cX0_fits 11 = .ok (.iload_n 3, 1) := by decide +kernel
theorem dX0_fits_12 : decode cX0_fits 12 = .ok (.iaload, 1) := by decide +kernel
theorem dX0_fits_13 : decode cX0_fits 13 = .ok (.ifCond .ne 5, 3) := by decide +kernel
theorem dX0_fits_16 : decode cX0_fits 16 = .ok (.iconst 0, 1) := by decide +kernel
theorem dX0_fits_17 : decode cX0_fits 17 = .ok (.ireturn, 1) := by decide +kernel
theorem dX0_fits_18 : decode cX0_fits 18 = .ok (.iconst 0, 1) := by decide +kernel
theorem dX0_fits_19 : decode cX0_fits 19 = .ok (.istore 4, 2) := by decide +kernel
theorem dX0_fits_21 : decode cX0_fits 21 = .ok (.iload 4, 2) := by decide +kernel
theorem dX0_fits_23 : decode cX0_fits 23 = .ok (.iload_n 1, 1) := by decide +kernel
theorem dX0_fits_24 : decode cX0_fits 24 = .ok (.if_icmp .ge 101, 3) := by decide +kernel
theorem dX0_fits_27 : decode cX0_fits 27 = .ok (.iload 4, 2) := by decide +kernel
theorem dX0_fits_29 : decode cX0_fits 29 = .ok (.bipush 16, 2) := by decide +kernel
theorem dX0_fits_31 : decode cX0_fits 31 = .ok (.imul, 1) := by decide +kernel
theorem dX0_fits_32 : decode cX0_fits 32 = .ok (.aload_n 0, 1) := by decide +kernel
theorem dX0_fits_33 : decode cX0_fits 33 = .ok (.getfield 27, 3) := by decide +kernel
theorem dX0_fits_36 : decode cX0_fits 36 = .ok (.iload 4, 2) := by decide +kernel
theorem dX0_fits_38 : decode cX0_fits 38 = .ok (.iaload, 1) := by decide +kernel
theorem dX0_fits_39 : decode cX0_fits 39 = .ok (.iadd, 1) := by decide +kernel
theorem dX0_fits_40 : decode cX0_fits 40 = .ok (.istore 5, 2) := by decide +kernel
theorem dX0_fits_42 : decode cX0_fits 42 = .ok (.aload_n 0, 1) := by decide +kernel
theorem dX0_fits_43 : decode cX0_fits 43 = .ok (.getfield 15, 3) := by decide +kernel
theorem dX0_fits_46 : decode cX0_fits 46 = .ok (.iload_n 3, 1) := by decide +kernel
theorem dX0_fits_47 : decode cX0_fits 47 = .ok (.iaload, 1) := by decide +kernel
theorem dX0_fits_48 : decode cX0_fits 48 = .ok (.aload_n 0, 1) := by decide +kernel
theorem dX0_fits_49 : decode cX0_fits 49 = .ok (.getfield 15, 3) := by decide +kernel
theorem dX0_fits_52 : decode cX0_fits 52 = .ok (.iload 5, 2) := by decide +kernel
theorem dX0_fits_54 : decode cX0_fits 54 = .ok (.iaload, 1) := by decide +kernel
theorem dX0_fits_55 : decode cX0_fits 55 = .ok (.iand, 1) := by decide +kernel
theorem dX0_fits_56 : decode cX0_fits 56 = .ok (.istore 6, 2) := by decide +kernel
theorem dX0_fits_58 : decode cX0_fits 58 = .ok (.iload 6, 2) := by decide +kernel
theorem dX0_fits_60 : decode cX0_fits 60 = .ok (.ifCond .eq 59, 3) := by decide +kernel
theorem dX0_fits_63 : decode cX0_fits 63 = .ok (.iload_n 2, 1) := by decide +kernel
theorem dX0_fits_64 : decode cX0_fits 64 = .ok (.invokestatic 95, 3) := by decide +kernel
theorem dX0_fits_67 : decode cX0_fits 67 = .ok (.aload_n 0, 1) := by decide +kernel
theorem dX0_fits_68 : decode cX0_fits 68 = .ok (.getfield 27, 3) := by decide +kernel
theorem dX0_fits_71 : decode cX0_fits 71 = .ok (.iload 4, 2) := by decide +kernel
theorem dX0_fits_73 : decode cX0_fits 73 = .ok (.iaload, 1) := by decide +kernel
theorem dX0_fits_74 : decode cX0_fits 74 = .ok (.invokestatic 95, 3) := by decide +kernel
theorem dX0_fits_77 : decode cX0_fits 77 = .ok (.if_icmp .ne 5, 3) := by decide +kernel
theorem dX0_fits_80 : decode cX0_fits 80 = .ok (.iconst 0, 1) := by decide +kernel
theorem dX0_fits_81 : decode cX0_fits 81 = .ok (.ireturn, 1) := by decide +kernel
theorem dX0_fits_82 : decode cX0_fits 82 = .ok (.aload_n 0, 1) := by decide +kernel
theorem dX0_fits_83 : decode cX0_fits 83 = .ok (.getfield 21, 3) := by decide +kernel
theorem dX0_fits_86 : decode cX0_fits 86 = .ok (.iload_n 3, 1) := by decide +kernel
theorem dX0_fits_87 : decode cX0_fits 87 = .ok (.iconst 4, 1) := by decide +kernel
theorem dX0_fits_88 : decode cX0_fits 88 = .ok (.imul, 1) := by decide +kernel
theorem dX0_fits_89 : decode cX0_fits 89 = .ok (.iload 4, 2) := by decide +kernel
theorem dX0_fits_91 : decode cX0_fits 91 = .ok (.iadd, 1) := by decide +kernel
theorem dX0_fits_92 : decode cX0_fits 92 = .ok (.iaload, 1) := by decide +kernel
theorem dX0_fits_93 : decode cX0_fits 93 = .ok (.aload_n 0, 1) := by decide +kernel
theorem dX0_fits_94 : decode cX0_fits 94 = .ok (.getfield 21, 3) := by decide +kernel
theorem dX0_fits_97 : decode cX0_fits 97 = .ok (.iload 5, 2) := by decide +kernel
theorem dX0_fits_99 : decode cX0_fits 99 = .ok (.iconst 4, 1) := by decide +kernel
theorem dX0_fits_100 : decode cX0_fits 100 = .ok (.imul, 1) := by decide +kernel
theorem dX0_fits_101 : decode cX0_fits 101 = .ok (.iload_n 1, 1) := by decide +kernel
theorem dX0_fits_102 : decode cX0_fits 102 = .ok (.iadd, 1) := by decide +kernel
theorem dX0_fits_103 : decode cX0_fits 103 = .ok (.iaload, 1) := by decide +kernel
theorem dX0_fits_104 : decode cX0_fits 104 = .ok (.iand, 1) := by decide +kernel
theorem dX0_fits_105 : decode cX0_fits 105 = .ok (.istore 7, 2) := by decide +kernel
theorem dX0_fits_107 : decode cX0_fits 107 = .ok (.iload 6, 2) := by decide +kernel
theorem dX0_fits_109 : decode cX0_fits 109 = .ok (.iload 7, 2) := by decide +kernel
theorem dX0_fits_111 : decode cX0_fits 111 = .ok (.iconst (-1), 1) := by decide +kernel
theorem dX0_fits_112 : decode cX0_fits 112 = .ok (.ixor, 1) := by decide +kernel
theorem dX0_fits_113 : decode cX0_fits 113 = .ok (.iand, 1) := by decide +kernel
theorem dX0_fits_114 : decode cX0_fits 114 = .ok (.ifCond .eq 5, 3) := by decide +kernel
theorem dX0_fits_117 : decode cX0_fits 117 = .ok (.iconst 0, 1) := by decide +kernel
theorem dX0_fits_118 : decode cX0_fits 118 = .ok (.ireturn, 1) := by decide +kernel
theorem dX0_fits_119 : decode cX0_fits 119 = .ok (.iinc 4 1, 3) := by decide +kernel
theorem dX0_fits_122 : decode cX0_fits 122 = .ok (.goto (-101), 3) := by decide +kernel
theorem dX0_fits_125 : decode cX0_fits 125 = .ok (.iconst 1, 1) := by decide +kernel
theorem dX0_fits_126 : decode cX0_fits 126 = .ok (.ireturn, 1) := by decide +kernel
def fX0_fits_49_L21 (V : Nat → Nat → Int32) : Nat → Int32 → Int32 → Int32 → Int32 → Option (Int32)
  | 0, _, _, _, _ => none
  | n + 1, x4, x5, x6, x7 =>
    (if x4 ≤ x7 then
    some (1 : Int32)
    else
    gd (ib x7 4) (
    lt (((x7 * (16 : Int32)) + (V 55 (x7).toNatClampNeg))) (fun x10 =>
    gd (ib x6 64) (
    gd (ib x10 64) (
    lt (((V 51 (x6).toNatClampNeg) &&& (V 51 (x10).toNatClampNeg))) (fun x13 =>
    bk (fun (x15 : Int32) (x16 : Int32) (x17 : Int32) (x18 : Int32) =>
    lt (x18 + (1 : Int32)) (fun x19 =>
    fX0_fits_49_L21 V n x15 x16 x17 x19)) (fun K119_14 =>
    (if x13 = 0 then
    K119_14 x4 x5 x6 x7
    else
    bd1 (fX0_halfOf x5) (fun r21 =>
    gd (ib x7 4) (
    bd1 (fX0_halfOf ((V 55 (x7).toNatClampNeg))) (fun r24 =>
    (if r21 = r24 then
    some (0 : Int32)
    else
    lt (((x6 * (4 : Int32)) + x7)) (fun x27 =>
    gd (ib x27 256) (
    lt (((x10 * (4 : Int32)) + x4)) (fun x29 =>
    gd (ib x29 256) (
    lt (((V 53 (x27).toNatClampNeg) &&& (V 53 (x29).toNatClampNeg))) (fun x31 =>
    (if (x13 &&& (x31 ^^^ (-1 : Int32))) = 0 then
    K119_14 x4 x5 x6 x7
    else
    some (0 : Int32)))))))))))))))))))
def fX0_fits_49 (V : Nat → Nat → Int32) (a1 : Int32) (a2 : Int32) : Option (Int32) :=
  lt (((a1 * (16 : Int32)) + a2)) (fun x1 =>
  gd (ib x1 64) (
  (if (V 51 (x1).toNatClampNeg) = 0 then
  some (0 : Int32)
  else
  fX0_fits_49_L21 V FU a1 a2 x1 (0 : Int32))))
set_option maxHeartbeats 4000000 in
set_option maxRecDepth 100000 in
theorem kX0_fits_49 (l : Launch) (B : jBT) (D : va_G) (ad : Nat → Nat) (cA : Nat → ClassId) (hI : jI ad TC) (S : Nat → Int32) (V : Nat → Nat → Int32) (L : Nat → Int64) (a1 : Int32) (a2 : Int32) (r0 : Int32) (h : fX0_fits_49 V a1 a2 = some r0) : jM l yX0_fits cX0_fits 8 (some .boolean) ({ frames := 1, cells := 0, slots := 0, locals := 20 }) B D TC ad cA [.ref (ad 49), .int a1, .int a2] S V L (some (.int r0)) S V L := by
  refine jM_of (plainFor_of_name (by decide)) TC_ok hI (Nat.le_of_ble_eq_true rfl) ?_
  intro p e s m args below meth c C hr hlk
  refine j_lv (lv2 := [(0, .ref (ad 49)), (1, .int a1), (2, .int a2)]) rfl ?_
  unfold fX0_fits_49 at h
  have H_fX0_fits_49_L21 : ∀ (n : Nat) (x4 : Int32) (x5 : Int32) (x6 : Int32) (x7 : Int32), fX0_fits_49_L21 V n x4 x5 x6 x7 = some r0 → jW p l e ({ frames := 1, cells := 0, slots := 0, locals := 20 }) s m args below meth c (MQ below (jQc D TC ad cA (some (.int r0)) s.heap.size S V L) args s 0 0 (jA ad TC s.heap.size)) D TC ad cA (jA ad TC s.heap.size) 8 0 0 21 [(0, .ref (ad 49)), (1, .int x4), (2, .int x5), (3, .int x6), (4, .int x7)] [] S V L := by
    intro n
    induction n with
    | zero =>
      intro x4 x5 x6 x7 h
      cases (show (none : Option (Int32)) = some r0 from h)
    | succ n ih =>
      intro x4 x5 x6 x7 h
      unfold fX0_fits_49_L21 at h
      refine j_iload C 4 rfl dX0_fits_21 ?_
      refine j_iload_n C 1 rfl dX0_fits_23 rfl ?_
      refine j_icmp_ge (tgt := 125) C dX0_fits_24 (by decide) (fun c8 => ?_) (fun c8 => ?_)
      · have h := (if_pos c8).symm.trans h
        refine j_iconst C dX0_fits_125 ci_1 ?_
        cases h
        exact j_zret C hr hlk rfl rfl dX0_fits_126
      · have h := (if_neg c8).symm.trans h
        refine j_iload C 4 rfl dX0_fits_27 ?_
        refine j_bipush C dX0_fits_29 cb_16 ?_
        refine j_imul C dX0_fits_31 ?_
        refine j_aload_n C 0 rfl dX0_fits_32 rfl ?_
        refine fg_X0_27_TC_49 C dX0_fits_33 ?_
        refine j_iload C 4 rfl dX0_fits_36 ?_
        obtain ⟨g9, h⟩ := gd_elim h
        refine j_iald C tc_55 (ib_in g9) dX0_fits_38 ?_
        refine j_iadd C dX0_fits_39 ?_
        refine lt_elim h (fun x10 e_x10 h => ?_)
        refine j_top e_x10 ?_
        refine j_istore C [(5, .int x10), (0, .ref (ad 49)), (1, .int x4), (2, .int x5), (3, .int x6), (4, .int x7)] dX0_fits_40 (by decide) rfl ?_
        refine j_aload_n C 1 rfl dX0_fits_42 rfl ?_
        refine fg_X0_15_TC_49 C dX0_fits_43 ?_
        refine j_iload_n C 4 rfl dX0_fits_46 rfl ?_
        obtain ⟨g11, h⟩ := gd_elim h
        refine j_iald C tc_51 (ib_in g11) dX0_fits_47 ?_
        refine j_aload_n C 1 rfl dX0_fits_48 rfl ?_
        refine fg_X0_15_TC_49 C dX0_fits_49 ?_
        refine j_iload C 0 rfl dX0_fits_52 ?_
        obtain ⟨g12, h⟩ := gd_elim h
        refine j_iald C tc_51 (ib_in g12) dX0_fits_54 ?_
        refine j_iand C dX0_fits_55 ?_
        refine lt_elim h (fun x13 e_x13 h => ?_)
        refine j_top e_x13 ?_
        refine j_istore C [(6, .int x13), (5, .int x10), (0, .ref (ad 49)), (1, .int x4), (2, .int x5), (3, .int x6), (4, .int x7)] dX0_fits_56 (by decide) rfl ?_
        refine j_iload C 0 rfl dX0_fits_58 ?_
        refine bk_elim h (fun K119_14 e_K119_14 h => ?_)
        have HK119_14 : ∀ (x15 : Int32) (x16 : Int32) (x17 : Int32) (x18 : Int32), K119_14 x15 x16 x17 x18 = some r0 → jW p l e ({ frames := 1, cells := 0, slots := 0, locals := 20 }) s m args below meth c (MQ below (jQc D TC ad cA (some (.int r0)) s.heap.size S V L) args s 0 0 (jA ad TC s.heap.size)) D TC ad cA (jA ad TC s.heap.size) 8 0 0 119 [(0, .ref (ad 49)), (1, .int x15), (2, .int x16), (3, .int x17), (4, .int x18)] [] S V L := by
          subst e_K119_14
          intro x15 x16 x17 x18 h
          refine lt_elim h (fun x19 e_x19 h => ?_)
          refine j_iinc C [(4, .int x19), (0, .ref (ad 49)), (1, .int x15), (2, .int x16), (3, .int x17)] 4 dX0_fits_119 rfl ((iinc_eq ci_1).trans e_x19.symm) (by decide) rfl ?_
          refine j_goto (tgt := 21) C dX0_fits_122 (by decide) ?_
          exact j_sub [1, 2, 3, 4, 0] rfl (ih _ _ _ _ h)
        refine j_if_eq (tgt := 119) C dX0_fits_60 (by decide) (fun c20 => ?_) (fun c20 => ?_)
        · have h := (if_pos c20).symm.trans h
          exact j_sub [2, 3, 4, 5, 6] rfl (HK119_14 _ _ _ _ h)
        · have h := (if_neg c20).symm.trans h
          refine j_iload_n C 4 rfl dX0_fits_63 rfl ?_
          obtain ⟨r21, h22, h⟩ := bd1_elim h
          refine j_callS (As := [.int x5]) (rest := []) C (kX0_halfOf l B D ad cA hI S V L x5 _ h22) mw_X0_halfOf wd1204 wd1203 ⟨rfl, rfl, by decide, by decide⟩ ⟨Nat.zero_le _, Nat.zero_le _⟩ rfl rfl (Nat.le_of_ble_eq_true rfl) dX0_fits_64 ?_
          refine j_aload_n C 2 rfl dX0_fits_67 rfl ?_
          refine fg_X0_27_TC_49 C dX0_fits_68 ?_
          refine j_iload C 6 rfl dX0_fits_71 ?_
          obtain ⟨g23, h⟩ := gd_elim h
          refine j_iald C tc_55 (ib_in g23) dX0_fits_73 ?_
          obtain ⟨r24, h25, h⟩ := bd1_elim h
          refine j_callS (As := [.int (V 55 (x7).toNatClampNeg)]) (rest := [.int r21]) C (kX0_halfOf l B D ad cA hI S V L ((V 55 (x7).toNatClampNeg)) _ h25) mw_X0_halfOf wd1204 wd1203 ⟨rfl, rfl, by decide, by decide⟩ ⟨Nat.zero_le _, Nat.zero_le _⟩ rfl rfl (Nat.le_of_ble_eq_true rfl) dX0_fits_74 ?_
          refine j_icmp_ne (tgt := 82) C dX0_fits_77 (by decide) (fun c26 => ?_) (fun c26 => ?_)
          · have h := (if_neg c26).symm.trans h
            refine j_aload_n C 2 rfl dX0_fits_82 rfl ?_
            refine fg_X0_21_TC_49 C dX0_fits_83 ?_
            refine j_iload_n C 5 rfl dX0_fits_86 rfl ?_
            refine j_iconst C dX0_fits_87 ci_4 ?_
            refine j_imul C dX0_fits_88 ?_
            refine j_iload C 6 rfl dX0_fits_89 ?_
            refine j_iadd C dX0_fits_91 ?_
            refine lt_elim h (fun x27 e_x27 h => ?_)
            refine j_top e_x27 ?_
            obtain ⟨g28, h⟩ := gd_elim h
            refine j_iald C tc_53 (ib_in g28) dX0_fits_92 ?_
            refine j_aload_n C 2 rfl dX0_fits_93 rfl ?_
            refine fg_X0_21_TC_49 C dX0_fits_94 ?_
            refine j_iload C 1 rfl dX0_fits_97 ?_
            refine j_iconst C dX0_fits_99 ci_4 ?_
            refine j_imul C dX0_fits_100 ?_
            refine j_iload_n C 3 rfl dX0_fits_101 rfl ?_
            refine j_iadd C dX0_fits_102 ?_
            refine lt_elim h (fun x29 e_x29 h => ?_)
            refine j_top e_x29 ?_
            obtain ⟨g30, h⟩ := gd_elim h
            refine j_iald C tc_53 (ib_in g30) dX0_fits_103 ?_
            refine j_iand C dX0_fits_104 ?_
            refine lt_elim h (fun x31 e_x31 h => ?_)
            refine j_top e_x31 ?_
            refine j_istore C [(7, .int x31), (6, .int x13), (5, .int x10), (0, .ref (ad 49)), (1, .int x4), (2, .int x5), (3, .int x6), (4, .int x7)] dX0_fits_105 (by decide) rfl ?_
            refine j_iload C 1 rfl dX0_fits_107 ?_
            refine j_iload C 0 rfl dX0_fits_109 ?_
            refine j_iconst C dX0_fits_111 ci_m1 ?_
            refine j_ixor C dX0_fits_112 ?_
            refine j_iand C dX0_fits_113 ?_
            refine j_if_eq (tgt := 119) C dX0_fits_114 (by decide) (fun c32 => ?_) (fun c32 => ?_)
            · have h := (if_pos c32).symm.trans h
              exact j_sub [3, 4, 5, 6, 7] rfl (HK119_14 _ _ _ _ h)
            · have h := (if_neg c32).symm.trans h
              refine j_iconst C dX0_fits_117 ci_0 ?_
              cases h
              exact j_zret C hr hlk rfl rfl dX0_fits_118
          · have h := (if_pos c26).symm.trans h
            refine j_iconst C dX0_fits_80 ci_0 ?_
            cases h
            exact j_zret C hr hlk rfl rfl dX0_fits_81
  refine j_iload_n C 1 rfl dX0_fits_0 rfl ?_
  refine j_bipush C dX0_fits_1 cb_16 ?_
  refine j_imul C dX0_fits_3 ?_
  refine j_iload_n C 2 rfl dX0_fits_4 rfl ?_
  refine j_iadd C dX0_fits_5 ?_
  refine lt_elim h (fun x1 e_x1 h => ?_)
  refine j_top e_x1 ?_
  refine j_istore_n C [(3, .int x1), (0, .ref (ad 49)), (1, .int a1), (2, .int a2)] dX0_fits_6 rfl (by decide) rfl ?_
  refine j_aload_n C 1 rfl dX0_fits_7 rfl ?_
  refine fg_X0_15_TC_49 C dX0_fits_8 ?_
  refine j_iload_n C 0 rfl dX0_fits_11 rfl ?_
  obtain ⟨g2, h⟩ := gd_elim h
  refine j_iald C tc_51 (ib_in g2) dX0_fits_12 ?_
  refine j_if_ne (tgt := 18) C dX0_fits_13 (by decide) (fun c3 => ?_) (fun c3 => ?_)
  · have h := (if_neg c3).symm.trans h
    refine j_iconst C dX0_fits_18 ci_0 ?_
    refine j_istore C [(4, .int (0 : Int32)), (3, .int x1), (0, .ref (ad 49)), (1, .int a1), (2, .int a2)] dX0_fits_19 (by decide) rfl ?_
    exact j_sub [2, 3, 4, 1, 0] rfl (H_fX0_fits_49_L21 FU _ _ _ _ h)
  · have h := (if_pos c3).symm.trans h
    refine j_iconst C dX0_fits_16 ci_0 ?_
    cases h
    exact j_zret C hr hlk rfl rfl dX0_fits_17
theorem dJ9_abs_0f7a4_0 : decode cJ9_abs_0f7a4 0 = .ok (.iload_n 0, 1) := by decide +kernel
theorem dJ9_abs_0f7a4_1 : decode cJ9_abs_0f7a4 1 = .ok (.ifCond .ge 8, 3) := by decide +kernel
theorem dJ9_abs_0f7a4_4 : decode cJ9_abs_0f7a4 4 = .ok (.iload_n 0, 1) := by decide +kernel
theorem dJ9_abs_0f7a4_5 : decode cJ9_abs_0f7a4 5 = .ok (.ineg, 1) := by decide +kernel
theorem dJ9_abs_0f7a4_6 : decode cJ9_abs_0f7a4 6 = .ok (.goto 4, 3) := by decide +kernel
theorem dJ9_abs_0f7a4_9 : decode cJ9_abs_0f7a4 9 = .ok (.iload_n 0, 1) := by decide +kernel
theorem dJ9_abs_0f7a4_10 : decode cJ9_abs_0f7a4 10 = .ok (.ireturn, 1) := by decide +kernel
def fJ9_abs_0f7a4 (a1 : Int32) : Option (Int32) :=
  (if 0 ≤ a1 then
  some a1
  else
  some ((-a1)))
set_option maxHeartbeats 4000000 in
set_option maxRecDepth 100000 in
theorem kJ9_abs_0f7a4 (l : Launch) (B : jBT) (D : va_G) (ad : Nat → Nat) (cA : Nat → ClassId) (hI : jI ad TC) (S : Nat → Int32) (V : Nat → Nat → Int32) (L : Nat → Int64) (a1 : Int32) (r0 : Int32) (h : fJ9_abs_0f7a4 a1 = some r0) : jM l yJ9_abs_0f7a4 cJ9_abs_0f7a4 1 (some .int) ({ frames := 0, cells := 0, slots := 0, locals := 0 }) B D TC ad cA [.int a1] S V L (some (.int r0)) S V L := by
  refine jM_of (by decide +kernel) TC_ok hI (Nat.le_of_ble_eq_true rfl) ?_
  intro p e s m args below meth c C hr hlk
  refine j_lv (lv2 := [(0, .int a1)]) rfl ?_
  unfold fJ9_abs_0f7a4 at h
  refine j_iload_n C 0 rfl dJ9_abs_0f7a4_0 rfl ?_
  refine j_if_ge (tgt := 9) C dJ9_abs_0f7a4_1 (by decide) (fun c1 => ?_) (fun c1 => ?_)
  · have h := (if_pos c1).symm.trans h
    refine j_iload_n C 0 rfl dJ9_abs_0f7a4_9 rfl ?_
    cases h
    exact j_iret C hr hlk rfl dJ9_abs_0f7a4_10
  · have h := (if_neg c1).symm.trans h
    refine j_iload_n C 0 rfl dJ9_abs_0f7a4_4 rfl ?_
    refine j_ineg C dJ9_abs_0f7a4_5 ?_
    refine j_goto (tgt := 10) C dJ9_abs_0f7a4_6 (by decide) ?_
    cases h
    exact j_iret C hr hlk rfl dJ9_abs_0f7a4_10
theorem dX0_keepIfRulesHold_0 : decode cX0_keepIfRulesHold 0 = .ok (.iconst 0, 1) := by decide +kernel
theorem dX0_keepIfRulesHold_1 : decode cX0_keepIfRulesHold 1 = .ok (.istore_n 2, 1) := by decide +kernel
theorem dX0_keepIfRulesHold_2 : decode cX0_keepIfRulesHold 2 = .ok (.iload_n 2, 1) := by decide +kernel
theorem dX0_keepIfRulesHold_3 : decode cX0_keepIfRulesHold 3 = .ok (.aload_n 0, 1) := by decide +kernel
theorem dX0_keepIfRulesHold_4 : decode cX0_keepIfRulesHold 4 = .ok (.getfield 52, 3) := by decide +kernel
theorem dX0_keepIfRulesHold_7 : decode cX0_keepIfRulesHold 7 = .ok (.if_icmp .ge 93, 3) := by decide +kernel
theorem dX0_keepIfRulesHold_10 : decode cX0_keepIfRulesHold 10 = .ok (.iload_n 2, 1) := by decide +kernel
theorem dX0_keepIfRulesHold_11 : decode cX0_keepIfRulesHold 11 = .ok (.bipush 16, 2) := by decide +kernel
theorem dX0_keepIfRulesHold_13 : decode cX0_keepIfRulesHold 13 = .ok (.imul, 1) := by decide +kernel
theorem dX0_keepIfRulesHold_14 : decode cX0_keepIfRulesHold 14 = .ok (.aload_n 0, 1) := by decide +kernel
theorem dX0_keepIfRulesHold_15 : decode cX0_keepIfRulesHold 15 = .ok (.getfield 27, 3) := by decide +kernel
theorem dX0_keepIfRulesHold_18 : decode cX0_keepIfRulesHold 18 = .ok (.iload_n 2, 1) := by decide +kernel
theorem dX0_keepIfRulesHold_19 : decode cX0_keepIfRulesHold 19 = .ok (.iaload, 1) := by decide +kernel
theorem dX0_keepIfRulesHold_20 : decode cX0_keepIfRulesHold 20 = .ok (.iadd, 1) := by decide +kernel
theorem dX0_keepIfRulesHold_21 : decode cX0_keepIfRulesHold 21 = .ok (.istore_n 3, 1) := by decide +kernel
theorem dX0_keepIfRulesHold_22 : decode cX0_keepIfRulesHold 22 = .ok (.aload_n 0, 1) := by decide +kernel
theorem dX0_keepIfRulesHold_23 : decode cX0_keepIfRulesHold 23 = .ok (.getfield 15, 3) := by decide +kernel
theorem dX0_keepIfRulesHold_26 : decode cX0_keepIfRulesHold 26 = .ok (.iload_n 3, 1) := by decide +kernel
theorem dX0_keepIfRulesHold_27 : decode cX0_keepIfRulesHold 27 = .ok (.iaload, 1) := by decide +kernel
theorem dX0_keepIfRulesHold_28 : decode cX0_keepIfRulesHold 28 = .ok (.istore 4, 2) := by decide +kernel
theorem dX0_keepIfRulesHold_30 : decode cX0_keepIfRulesHold 30 = .ok (.iconst 0, 1) := by decide +kernel
theorem dX0_keepIfRulesHold_31 : decode cX0_keepIfRulesHold 31 = .ok (.istore 5, 2) := by decide +kernel
theorem dX0_keepIfRulesHold_33 : decode cX0_keepIfRulesHold 33 = .ok (.iload 5, 2) := by decide +kernel
theorem dX0_keepIfRulesHold_35 : decode cX0_keepIfRulesHold 35 = .ok (.aload_n 0, 1) := by decide +kernel
theorem dX0_keepIfRulesHold_36 : decode cX0_keepIfRulesHold 36 = .ok (.getfield 52, 3) := by decide +kernel
theorem dX0_keepIfRulesHold_39 : decode cX0_keepIfRulesHold 39 = .ok (.if_icmp .ge 40, 3) := by decide +kernel
theorem dX0_keepIfRulesHold_42 : decode cX0_keepIfRulesHold 42 = .ok (.iload 5, 2) := by decide +kernel
theorem dX0_keepIfRulesHold_44 : decode cX0_keepIfRulesHold 44 = .ok (.iload_n 2, 1) := by decide +kernel
theorem dX0_keepIfRulesHold_45 : decode cX0_keepIfRulesHold 45 = .ok (.if_icmp .eq 28, 3) := by decide +kernel
theorem dX0_keepIfRulesHold_48 : decode cX0_keepIfRulesHold 48 = .ok (.iload 4, 2) := by decide +kernel
theorem dX0_keepIfRulesHold_50 : decode cX0_keepIfRulesHold 50 = .ok (.aload_n 0, 1) := by decide +kernel
theorem dX0_keepIfRulesHold_51 : decode cX0_keepIfRulesHold 51 = .ok (.getfield 15, 3) := by decide +kernel
theorem dX0_keepIfRulesHold_54 : decode cX0_keepIfRulesHold 54 = .ok (.iload 5, 2) := by decide +kernel
theorem dX0_keepIfRulesHold_56 : decode cX0_keepIfRulesHold 56 = .ok (.bipush 16, 2) := by decide +kernel
theorem dX0_keepIfRulesHold_58 : decode cX0_keepIfRulesHold 58 = .ok (.imul, 1) := by decide +kernel
theorem dX0_keepIfRulesHold_59 : decode cX0_keepIfRulesHold 59 = .ok (.aload_n 0, 1) := by decide +kernel
theorem dX0_keepIfRulesHold_60 : decode cX0_keepIfRulesHold 60 = .ok (.getfield 27, 3) := by decide +kernel
theorem dX0_keepIfRulesHold_63 : decode cX0_keepIfRulesHold 63 = .ok (.iload 5, 2) := by decide +kernel
theorem dX0_keepIfRulesHold_65 : decode cX0_keepIfRulesHold 65 = .ok (.iaload, 1) := by decide +kernel
theorem dX0_keepIfRulesHold_66 : decode cX0_keepIfRulesHold 66 = .ok (.iadd, 1) := by decide +kernel
theorem dX0_keepIfRulesHold_67 : decode cX0_keepIfRulesHold 67 = .ok (.iaload, 1) := by decide +kernel
theorem dX0_keepIfRulesHold_68 : decode cX0_keepIfRulesHold 68 = .ok (.iconst (-1), 1) := by decide +kernel
theorem dX0_keepIfRulesHold_69 : decode cX0_keepIfRulesHold 69 = .ok (.ixor, 1) := by decide +kernel
theorem dX0_keepIfRulesHold_70 : decode cX0_keepIfRulesHold 70 = .ok (.iand, 1) := by decide +kernel
theorem dX0_keepIfRulesHold_71 : decode cX0_keepIfRulesHold 71 = .ok (.istore 4, 2) := by decide +kernel
theorem dX0_keepIfRulesHold_73 : decode cX0_keepIfRulesHold 73 = .ok (.iinc 5 1, 3) := by decide +kernel
theorem dX0_keepIfRulesHold_76 : decode cX0_keepIfRulesHold 76 = .ok (.goto (-43), 3) := by decide +kernel
theorem dX0_keepIfRulesHold_79 : decode cX0_keepIfRulesHold 79 = .ok (.iload 4, 2) := by decide +kernel
theorem dX0_keepIfRulesHold_81 : decode cX0_keepIfRulesHold 81 = .ok (.aload_n 0, 1) := by decide +kernel
theorem dX0_keepIfRulesHold_82 : decode cX0_keepIfRulesHold 82 = .ok (.getfield 18, 3) := by decide +kernel
theorem dX0_keepIfRulesHold_85 : decode cX0_keepIfRulesHold 85 = .ok (.iload_n 3, 1) := by decide +kernel
theorem dX0_keepIfRulesHold_86 : decode cX0_keepIfRulesHold 86 = .ok (.iaload, 1) := by decide +kernel
theorem dX0_keepIfRulesHold_87 : decode cX0_keepIfRulesHold 87 = .ok (.iconst (-1), 1) := by decide +kernel
theorem dX0_keepIfRulesHold_88 : decode cX0_keepIfRulesHold 88 = .ok (.ixor, 1) := by decide +kernel
theorem dX0_keepIfRulesHold_89 : decode cX0_keepIfRulesHold 89 = .ok (.iand, 1) := by decide +kernel
theorem dX0_keepIfRulesHold_90 : decode cX0_keepIfRulesHold 90 = .ok (.ifCond .eq 4, 3) := by decide +kernel
theorem dX0_keepIfRulesHold_93 : decode cX0_keepIfRulesHold 93 = .ok (.return_, 1) := by decide +kernel
theorem dX0_keepIfRulesHold_94 : decode cX0_keepIfRulesHold 94 = .ok (.iinc 2 1, 3) := by decide +kernel
theorem dX0_keepIfRulesHold_97 : decode cX0_keepIfRulesHold 97 = .ok (.goto (-95), 3) := by decide +kernel
theorem dX0_keepIfRulesHold_100 : decode cX0_keepIfRulesHold 100 = .ok (.aload_n 0, 1) := by decide +kernel
theorem dX0_keepIfRulesHold_101 : decode cX0_keepIfRulesHold 101 = .ok (.iload_n 1, 1) := by decide +kernel
theorem dX0_keepIfRulesHold_102 : decode cX0_keepIfRulesHold 102 = .ok (.invokestatic 132, 3) := by decide +kernel
theorem dX0_keepIfRulesHold_105 : decode cX0_keepIfRulesHold 105 = .ok (.putfield 61, 3) := by decide +kernel
theorem dX0_keepIfRulesHold_108 : decode cX0_keepIfRulesHold 108 = .ok (.aload_n 0, 1) := by decide +kernel
theorem dX0_keepIfRulesHold_109 : decode cX0_keepIfRulesHold 109 = .ok (.getfield 27, 3) := by decide +kernel
theorem dX0_keepIfRulesHold_112 : decode cX0_keepIfRulesHold 112 = .ok (.iconst 0, 1) := by decide +kernel
theorem dX0_keepIfRulesHold_113 : decode cX0_keepIfRulesHold 113 = .ok (.aload_n 0, 1) := by decide +kernel
theorem dX0_keepIfRulesHold_114 : decode cX0_keepIfRulesHold 114 = .ok (.getfield 30, 3) := by decide +kernel
theorem dX0_keepIfRulesHold_117 : decode cX0_keepIfRulesHold 117 = .ok (.iconst 0, 1) := by decide +kernel
theorem dX0_keepIfRulesHold_118 : decode cX0_keepIfRulesHold 118 = .ok (.aload_n 0, 1) := by decide +kernel
theorem dX0_keepIfRulesHold_119 : decode cX0_keepIfRulesHold 119 = .ok (.getfield 52, 3) := by decide +kernel
theorem dX0_keepIfRulesHold_122 : decode cX0_keepIfRulesHold 122 = .ok (.invokestatic 135, 3) := by decide +kernel
theorem dX0_keepIfRulesHold_125 : decode cX0_keepIfRulesHold 125 = .ok (.return_, 1) := by decide +kernel
def fX0_keepIfRulesHold_49_L33 (E79 : Int32 → Int32 → Int32 → Int32 → (Nat → Int32) → (Nat → Nat → Int32) → Option ((Nat → Int32) × (Nat → Nat → Int32))) : Nat → Int32 → Int32 → Int32 → Int32 → Int32 → (Nat → Int32) → (Nat → Nat → Int32) → Option ((Nat → Int32) × (Nat → Nat → Int32))
  | 0, _, _, _, _, _, _, _ => none
  | n + 1, x10, x11, x12, x13, x14, S15, V16 =>
    (if (S15 4903) ≤ x14 then
    E79 x10 x11 x12 x13 S15 V16
    else
    bk (fun (x19 : Int32) (x20 : Int32) (x21 : Int32) (x22 : Int32) (x23 : Int32) (S24 : Nat → Int32) (V25 : Nat → Nat → Int32) =>
    lt (x23 + (1 : Int32)) (fun x26 =>
    fX0_keepIfRulesHold_49_L33 E79 n x19 x20 x21 x22 x26 S24 V25)) (fun K73_18 =>
    (if x14 = x11 then
    K73_18 x10 x11 x12 x13 x14 S15 V16
    else
    gd (ib x14 4) (
    lt (((x14 * (16 : Int32)) + (V16 55 (x14).toNatClampNeg))) (fun x29 =>
    gd (ib x29 64) (
    lt ((x13 &&& ((V16 51 (x29).toNatClampNeg) ^^^ (-1 : Int32)))) (fun x31 =>
    K73_18 x10 x11 x12 x31 x14 S15 V16)))))))
def fX0_keepIfRulesHold_49_L2 (E100 : Int32 → (Nat → Int32) → (Nat → Nat → Int32) → Option ((Nat → Int32) × (Nat → Nat → Int32))) : Nat → Int32 → Int32 → (Nat → Int32) → (Nat → Nat → Int32) → Option ((Nat → Int32) × (Nat → Nat → Int32))
  | 0, _, _, _, _ => none
  | n + 1, x1, x2, S3, V4 =>
    (if (S3 4903) ≤ x2 then
    E100 x1 S3 V4
    else
    gd (ib x2 4) (
    lt (((x2 * (16 : Int32)) + (V4 55 (x2).toNatClampNeg))) (fun x7 =>
    gd (ib x7 64) (
    lt ((V4 51 (x7).toNatClampNeg)) (fun x9 =>
    bk (fun (x39 : Int32) (x40 : Int32) (x41 : Int32) (x42 : Int32) (S43 : Nat → Int32) (V44 : Nat → Nat → Int32) =>
    gd (ib x41 64) (
    (if (x42 &&& ((V44 52 (x41).toNatClampNeg) ^^^ (-1 : Int32))) = 0 then
    lt (x40 + (1 : Int32)) (fun x47 =>
    fX0_keepIfRulesHold_49_L2 E100 n x39 x47 S43 V44)
    else
    some (S43, V44)))) (fun X79_38 =>
    fX0_keepIfRulesHold_49_L33 X79_38 FU x1 x2 x7 x9 (0 : Int32) S3 V4))))))
def fX0_keepIfRulesHold_49 (S : Nat → Int32) (V : Nat → Nat → Int32) (a1 : Int32) : Option ((Nat → Int32) × (Nat → Nat → Int32)) :=
  bk (fun (x52 : Int32) (S53 : Nat → Int32) (V54 : Nat → Nat → Int32) =>
  bd1 (fJ9_abs_0f7a4 x52) (fun r55 =>
  lt (va_up S53 4910 r55) (fun S57 =>
  lt ((S57 4903)) (fun x58 =>
  gd (cpr (0 : Int32) (0 : Int32) x58 4 4) (
  lt (va_up V54 56 (va_cpy (V54 55) (V54 56) ((0 : Int32)).toNatClampNeg ((0 : Int32)).toNatClampNeg (x58).toNatClampNeg)) (fun V60 =>
  some (S57, V60))))))) (fun X100_51 =>
  fX0_keepIfRulesHold_49_L2 X100_51 FU a1 (0 : Int32) S V)
set_option maxHeartbeats 4000000 in
set_option maxRecDepth 100000 in
theorem kX0_keepIfRulesHold_49 (l : Launch) (B : jBT) (D : va_G) (ad : Nat → Nat) (cA : Nat → ClassId) (hI : jI ad TC) (S : Nat → Int32) (V : Nat → Nat → Int32) (L : Nat → Int64) (a1 : Int32) (S0 : Nat → Int32) (V0 : Nat → Nat → Int32) (h : fX0_keepIfRulesHold_49 S V a1 = some (S0, V0)) : jM l yX0_keepIfRulesHold cX0_keepIfRulesHold 6 none ({ frames := 1, cells := 0, slots := 0, locals := 60 }) B D TC ad cA [.ref (ad 49), .int a1] S V L none S0 V0 L := by
  refine jM_of (plainFor_of_name (by decide)) TC_ok hI (Nat.le_of_ble_eq_true rfl) ?_
  intro p e s m args below meth c C hr hlk
  refine j_lv (lv2 := [(0, .ref (ad 49)), (1, .int a1)]) rfl ?_
  unfold fX0_keepIfRulesHold_49 at h
  have H_fX0_keepIfRulesHold_49_L33 : ∀ (E79 : Int32 → Int32 → Int32 → Int32 → (Nat → Int32) → (Nat → Nat → Int32) → Option ((Nat → Int32) × (Nat → Nat → Int32))) (_ : ∀ (x32 : Int32) (x33 : Int32) (x34 : Int32) (x35 : Int32) (S36 : Nat → Int32) (V37 : Nat → Nat → Int32), E79 x32 x33 x34 x35 S36 V37 = some (S0, V0) → jW p l e ({ frames := 1, cells := 0, slots := 0, locals := 60 }) s m args below meth c (MQ below (jQc D TC ad cA none s.heap.size S0 V0 L) args s 0 0 (jA ad TC s.heap.size)) D TC ad cA (jA ad TC s.heap.size) 6 0 0 79 [(0, .ref (ad 49)), (1, .int x32), (2, .int x33), (3, .int x34), (4, .int x35)] [] S36 V37 L) (n : Nat) (x10 : Int32) (x11 : Int32) (x12 : Int32) (x13 : Int32) (x14 : Int32) (S15 : Nat → Int32) (V16 : Nat → Nat → Int32), fX0_keepIfRulesHold_49_L33 E79 n x10 x11 x12 x13 x14 S15 V16 = some (S0, V0) → jW p l e ({ frames := 1, cells := 0, slots := 0, locals := 60 }) s m args below meth c (MQ below (jQc D TC ad cA none s.heap.size S0 V0 L) args s 0 0 (jA ad TC s.heap.size)) D TC ad cA (jA ad TC s.heap.size) 6 0 0 33 [(0, .ref (ad 49)), (1, .int x10), (2, .int x11), (3, .int x12), (4, .int x13), (5, .int x14)] [] S15 V16 L := by
    intro E79 HE79
    intro n
    induction n with
    | zero =>
      intro x10 x11 x12 x13 x14 S15 V16 h
      cases (show (none : Option ((Nat → Int32) × (Nat → Nat → Int32))) = some (S0, V0) from h)
    | succ n ih =>
      intro x10 x11 x12 x13 x14 S15 V16 h
      unfold fX0_keepIfRulesHold_49_L33 at h
      refine j_iload C 5 rfl dX0_keepIfRulesHold_33 ?_
      refine j_aload_n C 0 rfl dX0_keepIfRulesHold_35 rfl ?_
      refine fg_X0_52_TC_49 C dX0_keepIfRulesHold_36 ?_
      refine j_icmp_ge (tgt := 79) C dX0_keepIfRulesHold_39 (by decide) (fun c17 => ?_) (fun c17 => ?_)
      · have h := (if_pos c17).symm.trans h
        exact j_sub [0, 1, 2, 3, 4] rfl (HE79 _ _ _ _ _ _ h)
      · have h := (if_neg c17).symm.trans h
        refine j_iload C 5 rfl dX0_keepIfRulesHold_42 ?_
        refine j_iload_n C 2 rfl dX0_keepIfRulesHold_44 rfl ?_
        refine bk_elim h (fun K73_18 e_K73_18 h => ?_)
        have HK73_18 : ∀ (x19 : Int32) (x20 : Int32) (x21 : Int32) (x22 : Int32) (x23 : Int32) (S24 : Nat → Int32) (V25 : Nat → Nat → Int32), K73_18 x19 x20 x21 x22 x23 S24 V25 = some (S0, V0) → jW p l e ({ frames := 1, cells := 0, slots := 0, locals := 60 }) s m args below meth c (MQ below (jQc D TC ad cA none s.heap.size S0 V0 L) args s 0 0 (jA ad TC s.heap.size)) D TC ad cA (jA ad TC s.heap.size) 6 0 0 73 [(0, .ref (ad 49)), (1, .int x19), (2, .int x20), (3, .int x21), (4, .int x22), (5, .int x23)] [] S24 V25 L := by
          subst e_K73_18
          intro x19 x20 x21 x22 x23 S24 V25 h
          refine lt_elim h (fun x26 e_x26 h => ?_)
          refine j_iinc C [(5, .int x26), (0, .ref (ad 49)), (1, .int x19), (2, .int x20), (3, .int x21), (4, .int x22)] 5 dX0_keepIfRulesHold_73 rfl ((iinc_eq ci_1).trans e_x26.symm) (by decide) rfl ?_
          refine j_goto (tgt := 33) C dX0_keepIfRulesHold_76 (by decide) ?_
          exact j_sub [1, 2, 3, 4, 5, 0] rfl (ih _ _ _ _ _ _ _ h)
        refine j_icmp_eq (tgt := 73) C dX0_keepIfRulesHold_45 (by decide) (fun c27 => ?_) (fun c27 => ?_)
        · have h := (if_pos c27).symm.trans h
          exact j_sub [0, 1, 2, 3, 4, 5] rfl (HK73_18 _ _ _ _ _ _ _ h)
        · have h := (if_neg c27).symm.trans h
          refine j_iload C 4 rfl dX0_keepIfRulesHold_48 ?_
          refine j_aload_n C 0 rfl dX0_keepIfRulesHold_50 rfl ?_
          refine fg_X0_15_TC_49 C dX0_keepIfRulesHold_51 ?_
          refine j_iload C 5 rfl dX0_keepIfRulesHold_54 ?_
          refine j_bipush C dX0_keepIfRulesHold_56 cb_16 ?_
          refine j_imul C dX0_keepIfRulesHold_58 ?_
          refine j_aload_n C 0 rfl dX0_keepIfRulesHold_59 rfl ?_
          refine fg_X0_27_TC_49 C dX0_keepIfRulesHold_60 ?_
          refine j_iload C 5 rfl dX0_keepIfRulesHold_63 ?_
          obtain ⟨g28, h⟩ := gd_elim h
          refine j_iald C tc_55 (ib_in g28) dX0_keepIfRulesHold_65 ?_
          refine j_iadd C dX0_keepIfRulesHold_66 ?_
          refine lt_elim h (fun x29 e_x29 h => ?_)
          refine j_top e_x29 ?_
          obtain ⟨g30, h⟩ := gd_elim h
          refine j_iald C tc_51 (ib_in g30) dX0_keepIfRulesHold_67 ?_
          refine j_iconst C dX0_keepIfRulesHold_68 ci_m1 ?_
          refine j_ixor C dX0_keepIfRulesHold_69 ?_
          refine j_iand C dX0_keepIfRulesHold_70 ?_
          refine lt_elim h (fun x31 e_x31 h => ?_)
          refine j_top e_x31 ?_
          refine j_istore C [(4, .int x31), (0, .ref (ad 49)), (1, .int x10), (2, .int x11), (3, .int x12), (5, .int x14)] dX0_keepIfRulesHold_71 (by decide) rfl ?_
          exact j_sub [1, 2, 3, 4, 0, 5] rfl (HK73_18 _ _ _ _ _ _ _ h)
  have H_fX0_keepIfRulesHold_49_L2 : ∀ (E100 : Int32 → (Nat → Int32) → (Nat → Nat → Int32) → Option ((Nat → Int32) × (Nat → Nat → Int32))) (_ : ∀ (x48 : Int32) (S49 : Nat → Int32) (V50 : Nat → Nat → Int32), E100 x48 S49 V50 = some (S0, V0) → jW p l e ({ frames := 1, cells := 0, slots := 0, locals := 60 }) s m args below meth c (MQ below (jQc D TC ad cA none s.heap.size S0 V0 L) args s 0 0 (jA ad TC s.heap.size)) D TC ad cA (jA ad TC s.heap.size) 6 0 0 100 [(0, .ref (ad 49)), (1, .int x48)] [] S49 V50 L) (n : Nat) (x1 : Int32) (x2 : Int32) (S3 : Nat → Int32) (V4 : Nat → Nat → Int32), fX0_keepIfRulesHold_49_L2 E100 n x1 x2 S3 V4 = some (S0, V0) → jW p l e ({ frames := 1, cells := 0, slots := 0, locals := 60 }) s m args below meth c (MQ below (jQc D TC ad cA none s.heap.size S0 V0 L) args s 0 0 (jA ad TC s.heap.size)) D TC ad cA (jA ad TC s.heap.size) 6 0 0 2 [(0, .ref (ad 49)), (1, .int x1), (2, .int x2)] [] S3 V4 L := by
    intro E100 HE100
    intro n
    induction n with
    | zero =>
      intro x1 x2 S3 V4 h
      cases (show (none : Option ((Nat → Int32) × (Nat → Nat → Int32))) = some (S0, V0) from h)
    | succ n ih =>
      intro x1 x2 S3 V4 h
      unfold fX0_keepIfRulesHold_49_L2 at h
      refine j_iload_n C 2 rfl dX0_keepIfRulesHold_2 rfl ?_
      refine j_aload_n C 0 rfl dX0_keepIfRulesHold_3 rfl ?_
      refine fg_X0_52_TC_49 C dX0_keepIfRulesHold_4 ?_
      refine j_icmp_ge (tgt := 100) C dX0_keepIfRulesHold_7 (by decide) (fun c5 => ?_) (fun c5 => ?_)
      · have h := (if_pos c5).symm.trans h
        exact j_sub [0, 1] rfl (HE100 _ _ _ h)
      · have h := (if_neg c5).symm.trans h
        refine j_iload_n C 2 rfl dX0_keepIfRulesHold_10 rfl ?_
        refine j_bipush C dX0_keepIfRulesHold_11 cb_16 ?_
        refine j_imul C dX0_keepIfRulesHold_13 ?_
        refine j_aload_n C 0 rfl dX0_keepIfRulesHold_14 rfl ?_
        refine fg_X0_27_TC_49 C dX0_keepIfRulesHold_15 ?_
        refine j_iload_n C 2 rfl dX0_keepIfRulesHold_18 rfl ?_
        obtain ⟨g6, h⟩ := gd_elim h
        refine j_iald C tc_55 (ib_in g6) dX0_keepIfRulesHold_19 ?_
        refine j_iadd C dX0_keepIfRulesHold_20 ?_
        refine lt_elim h (fun x7 e_x7 h => ?_)
        refine j_top e_x7 ?_
        refine j_istore_n C [(3, .int x7), (0, .ref (ad 49)), (1, .int x1), (2, .int x2)] dX0_keepIfRulesHold_21 rfl (by decide) rfl ?_
        refine j_aload_n C 1 rfl dX0_keepIfRulesHold_22 rfl ?_
        refine fg_X0_15_TC_49 C dX0_keepIfRulesHold_23 ?_
        refine j_iload_n C 0 rfl dX0_keepIfRulesHold_26 rfl ?_
        obtain ⟨g8, h⟩ := gd_elim h
        refine j_iald C tc_51 (ib_in g8) dX0_keepIfRulesHold_27 ?_
        refine lt_elim h (fun x9 e_x9 h => ?_)
        refine j_top e_x9 ?_
        refine j_istore C [(4, .int x9), (3, .int x7), (0, .ref (ad 49)), (1, .int x1), (2, .int x2)] dX0_keepIfRulesHold_28 (by decide) rfl ?_
        refine j_iconst C dX0_keepIfRulesHold_30 ci_0 ?_
        refine j_istore C [(5, .int (0 : Int32)), (4, .int x9), (3, .int x7), (0, .ref (ad 49)), (1, .int x1), (2, .int x2)] dX0_keepIfRulesHold_31 (by decide) rfl ?_
        refine bk_elim h (fun X79_38 e_X79_38 h => ?_)
        have HX79_38 : ∀ (x39 : Int32) (x40 : Int32) (x41 : Int32) (x42 : Int32) (S43 : Nat → Int32) (V44 : Nat → Nat → Int32), X79_38 x39 x40 x41 x42 S43 V44 = some (S0, V0) → jW p l e ({ frames := 1, cells := 0, slots := 0, locals := 60 }) s m args below meth c (MQ below (jQc D TC ad cA none s.heap.size S0 V0 L) args s 0 0 (jA ad TC s.heap.size)) D TC ad cA (jA ad TC s.heap.size) 6 0 0 79 [(0, .ref (ad 49)), (1, .int x39), (2, .int x40), (3, .int x41), (4, .int x42)] [] S43 V44 L := by
          subst e_X79_38
          intro x39 x40 x41 x42 S43 V44 h
          refine j_iload C 4 rfl dX0_keepIfRulesHold_79 ?_
          refine j_aload_n C 0 rfl dX0_keepIfRulesHold_81 rfl ?_
          refine fg_X0_18_TC_49 C dX0_keepIfRulesHold_82 ?_
          refine j_iload_n C 3 rfl dX0_keepIfRulesHold_85 rfl ?_
          obtain ⟨g45, h⟩ := gd_elim h
          refine j_iald C tc_52 (ib_in g45) dX0_keepIfRulesHold_86 ?_
          refine j_iconst C dX0_keepIfRulesHold_87 ci_m1 ?_
          refine j_ixor C dX0_keepIfRulesHold_88 ?_
          refine j_iand C dX0_keepIfRulesHold_89 ?_
          refine j_if_eq (tgt := 94) C dX0_keepIfRulesHold_90 (by decide) (fun c46 => ?_) (fun c46 => ?_)
          · have h := (if_pos c46).symm.trans h
            refine lt_elim h (fun x47 e_x47 h => ?_)
            refine j_iinc C [(2, .int x47), (0, .ref (ad 49)), (1, .int x39), (3, .int x41), (4, .int x42)] 2 dX0_keepIfRulesHold_94 rfl ((iinc_eq ci_1).trans e_x47.symm) (by decide) rfl ?_
            refine j_goto (tgt := 2) C dX0_keepIfRulesHold_97 (by decide) ?_
            exact j_sub [1, 2, 0] rfl (ih _ _ _ _ h)
          · have h := (if_neg c46).symm.trans h
            cases h
            exact j_vret C hr hlk rfl dX0_keepIfRulesHold_93
        exact j_sub [3, 4, 5, 2, 1, 0] rfl (H_fX0_keepIfRulesHold_49_L33 _ HX79_38 FU _ _ _ _ _ _ _ h)
  refine j_iconst C dX0_keepIfRulesHold_0 ci_0 ?_
  refine j_istore_n C [(2, .int (0 : Int32)), (0, .ref (ad 49)), (1, .int a1)] dX0_keepIfRulesHold_1 rfl (by decide) rfl ?_
  refine bk_elim h (fun X100_51 e_X100_51 h => ?_)
  have HX100_51 : ∀ (x52 : Int32) (S53 : Nat → Int32) (V54 : Nat → Nat → Int32), X100_51 x52 S53 V54 = some (S0, V0) → jW p l e ({ frames := 1, cells := 0, slots := 0, locals := 60 }) s m args below meth c (MQ below (jQc D TC ad cA none s.heap.size S0 V0 L) args s 0 0 (jA ad TC s.heap.size)) D TC ad cA (jA ad TC s.heap.size) 6 0 0 100 [(0, .ref (ad 49)), (1, .int x52)] [] S53 V54 L := by
    subst e_X100_51
    intro x52 S53 V54 h
    refine j_aload_n C 0 rfl dX0_keepIfRulesHold_100 rfl ?_
    refine j_iload_n C 1 rfl dX0_keepIfRulesHold_101 rfl ?_
    obtain ⟨r55, h56, h⟩ := bd1_elim h
    refine j_callS (As := [.int x52]) (rest := [.ref (ad 49)]) C (kJ9_abs_0f7a4 l B D ad cA hI S53 V54 L x52 _ h56) mw_J9_abs_0f7a4 wd1225 wd1224 ⟨rfl, rfl, by decide, by decide⟩ ⟨Nat.zero_le _, Nat.zero_le _⟩ rfl rfl (Nat.le_of_ble_eq_true rfl) dX0_keepIfRulesHold_102 ?_
    refine fp_X0_61_TC_49 C dX0_keepIfRulesHold_105 ?_
    refine lt_elim h (fun S57 e_S57 h => ?_)
    refine j_S e_S57 ?_
    refine j_aload_n C 0 rfl dX0_keepIfRulesHold_108 rfl ?_
    refine fg_X0_27_TC_49 C dX0_keepIfRulesHold_109 ?_
    refine j_iconst C dX0_keepIfRulesHold_112 ci_0 ?_
    refine j_aload_n C 0 rfl dX0_keepIfRulesHold_113 rfl ?_
    refine fg_X0_30_TC_49 C dX0_keepIfRulesHold_114 ?_
    refine j_iconst C dX0_keepIfRulesHold_117 ci_0 ?_
    refine j_aload_n C 0 rfl dX0_keepIfRulesHold_118 rfl ?_
    refine fg_X0_52_TC_49 C dX0_keepIfRulesHold_119 ?_
    refine lt_elim h (fun x58 e_x58 h => ?_)
    refine j_top e_x58 ?_
    obtain ⟨g59, h⟩ := gd_elim h
    refine j_copy C tc_55 tc_56 wd1227 wd674 wd673 wd122 rfl g59 (fun _ _ => rfl) (by decide) (Nat.le_of_ble_eq_true rfl) dX0_keepIfRulesHold_122 ?_
    refine lt_elim h (fun V60 e_V60 h => ?_)
    refine j_V e_V60 ?_
    cases h
    exact j_vret C hr hlk rfl dX0_keepIfRulesHold_125
  exact j_sub [1, 2, 0] rfl (H_fX0_keepIfRulesHold_49_L2 _ HX100_51 FU _ _ _ _ h)
theorem dX0_placeFrom_0 : decode cX0_placeFrom 0 = .ok (.iload_n 2, 1) := by decide +kernel
theorem dX0_placeFrom_1 : decode cX0_placeFrom 1 = .ok (.aload_n 0, 1) := by decide +kernel
theorem dX0_placeFrom_2 : decode cX0_placeFrom 2 = .ok (.getfield 61, 3) := by decide +kernel
theorem dX0_placeFrom_5 : decode cX0_placeFrom 5 = .ok (.if_icmp .ge 19, 3) := by decide +kernel
theorem dX0_placeFrom_8 : decode cX0_placeFrom 8 = .ok (.iload_n 2, 1) := by decide +kernel
theorem dX0_placeFrom_9 : decode cX0_placeFrom 9 = .ok (.aload_n 0, 1) := by decide +kernel
theorem dX0_placeFrom_10 : decode cX0_placeFrom 10 = .ok (.getfield 24, 3) := by decide +kernel
theorem dX0_placeFrom_13 : decode cX0_placeFrom 13 = .ok (.iload_n 1, 1) := by decide +kernel
theorem dX0_placeFrom_14 : decode cX0_placeFrom 14 = .ok (.iaload, 1) := by decide +kernel
theorem dX0_placeFrom_15 : decode cX0_placeFrom 15 = .ok (.iadd, 1) := by decide +kernel
theorem dX0_placeFrom_16 : decode cX0_placeFrom 16 = .ok (.ineg, 1) := by decide +kernel
theorem dX0_placeFrom_17 : decode cX0_placeFrom 17 = .ok (.aload_n 0, 1) := by decide +kernel
theorem dX0_placeFrom_18 : decode cX0_placeFrom 18 = .ok (.getfield 61, 3) := by decide +kernel
theorem dX0_placeFrom_21 : decode cX0_placeFrom 21 = .ok (.if_icmp .lt 4, 3) := by decide +kernel
theorem dX0_placeFrom_24 : decode cX0_placeFrom 24 = .ok (.return_, 1) := by decide +kernel
theorem dX0_placeFrom_25 : decode cX0_placeFrom 25 = .ok (.iload_n 1, 1) := by decide +kernel
theorem dX0_placeFrom_26 : decode cX0_placeFrom 26 = .ok (.aload_n 0, 1) := by decide +kernel
theorem dX0_placeFrom_27 : decode cX0_placeFrom 27 = .ok (.getfield 52, 3) := by decide +kernel
theorem dX0_placeFrom_30 : decode cX0_placeFrom 30 = .ok (.if_icmp .lt 9, 3) := by decide +kernel
theorem dX0_placeFrom_33 : decode cX0_placeFrom 33 = .ok (.aload_n 0, 1) := by decide +kernel
theorem dX0_placeFrom_34 : decode cX0_placeFrom 34 = .ok (.iload_n 2, 1) := by decide +kernel
theorem dX0_placeFrom_35 : decode cX0_placeFrom 35 = .ok (.invokevirtual 118, 3) := by decide +kernel
theorem dX0_placeFrom_38 : decode cX0_placeFrom 38 = .ok (.return_, 1) := by decide +kernel
theorem dX0_placeFrom_39 : decode cX0_placeFrom 39 = .ok (.iconst 0, 1) := by decide +kernel
theorem dX0_placeFrom_40 : decode cX0_placeFrom 40 = .ok (.istore_n 3, 1) := by decide +kernel
theorem dX0_placeFrom_41 : decode cX0_placeFrom 41 = .ok (.iload_n 3, 1) := by decide +kernel
theorem dX0_placeFrom_42 : decode cX0_placeFrom 42 = .ok (.bipush 16, 2) := by decide +kernel
theorem dX0_placeFrom_44 : decode cX0_placeFrom 44 = .ok (.if_icmp .ge 47, 3) := by decide +kernel
theorem dX0_placeFrom_47 : decode cX0_placeFrom 47 = .ok (.aload_n 0, 1) := by decide +kernel
theorem dX0_placeFrom_48 : decode cX0_placeFrom 48 = .ok (.getfield 61, 3) := by decide +kernel
theorem dX0_placeFrom_51 : decode cX0_placeFrom 51 = .ok (.ifCond .le 40, 3) := by decide +kernel
theorem dX0_placeFrom_54 : decode cX0_placeFrom 54 = .ok (.aload_n 0, 1) := by decide +kernel
theorem dX0_placeFrom_55 : decode cX0_placeFrom 55 = .ok (.iload_n 1, 1) := by decide +kernel
theorem dX0_placeFrom_56 : decode cX0_placeFrom 56 = .ok (.iload_n 3, 1) := by decide +kernel
theorem dX0_placeFrom_57 : decode cX0_placeFrom 57 = .ok (.invokevirtual 121, 3) := by decide +kernel
theorem dX0_placeFrom_60 : decode cX0_placeFrom 60 = .ok (.ifCond .eq 25, 3) := by decide +kernel
theorem dX0_placeFrom_63 : decode cX0_placeFrom 63 = .ok (.aload_n 0, 1) := by decide +kernel
theorem dX0_placeFrom_64 : decode cX0_placeFrom 64 = .ok (.getfield 27, 3) := by decide +kernel
theorem dX0_placeFrom_67 : decode cX0_placeFrom 67 = .ok (.iload_n 1, 1) := by decide +kernel
theorem dX0_placeFrom_68 : decode cX0_placeFrom 68 = .ok (.iload_n 3, 1) := by decide +kernel
theorem dX0_placeFrom_69 : decode cX0_placeFrom 69 = .ok (.iastore, 1) := by decide +kernel
theorem dX0_placeFrom_70 : decode cX0_placeFrom 70 = .ok (.aload_n 0, 1) := by decide +kernel
theorem dX0_placeFrom_71 : decode cX0_placeFrom 71 = .ok (.iload_n 1, 1) := by decide +kernel
theorem dX0_placeFrom_72 : decode cX0_placeFrom 72 = .ok (.iconst 1, 1) := by decide +kernel
theorem dX0_placeFrom_73 : decode cX0_placeFrom 73 = .ok (.iadd, 1) := by decide +kernel
theorem dX0_placeFrom_74 : decode cX0_placeFrom 74 = .ok (.iload_n 2, 1) := by decide +kernel
theorem dX0_placeFrom_75 : decode cX0_placeFrom 75 = .ok (.aload_n 0, 1) := by decide +kernel
theorem dX0_placeFrom_76 : decode cX0_placeFrom 76 = .ok (.iload_n 1, 1) := by decide +kernel
theorem dX0_placeFrom_77 : decode cX0_placeFrom 77 = .ok (.iload_n 3, 1) := by decide +kernel
theorem dX0_placeFrom_78 : decode cX0_placeFrom 78 = .ok (.invokevirtual 124, 3) := by decide +kernel
theorem dX0_placeFrom_81 : decode cX0_placeFrom 81 = .ok (.iadd, 1) := by decide +kernel
theorem dX0_placeFrom_82 : decode cX0_placeFrom 82 = .ok (.invokevirtual 70, 3) := by decide +kernel
theorem dX0_placeFrom_85 : decode cX0_placeFrom 85 = .ok (.iinc 3 1, 3) := by decide +kernel
theorem dX0_placeFrom_88 : decode cX0_placeFrom 88 = .ok (.goto (-47), 3) := by decide +kernel
theorem dX0_placeFrom_91 : decode cX0_placeFrom 91 = .ok (.return_, 1) := by decide +kernel
def fX0_placeFrom_49_L41 (REC : (Nat → Int32) → (Nat → Nat → Int32) → Int32 → Int32 → Option ((Nat → Int32) × (Nat → Nat → Int32))) : Nat → Int32 → Int32 → Int32 → (Nat → Int32) → (Nat → Nat → Int32) → Option ((Nat → Int32) × (Nat → Nat → Int32))
  | 0, _, _, _, _, _ => none
  | n + 1, x5, x6, x7, S8, V9 =>
    (if (16 : Int32) ≤ x7 then
    some (S8, V9)
    else
    (if (S8 4910) ≤ 0 then
    some (S8, V9)
    else
    bd1 (fX0_fits_49 V9 x5 x7) (fun r12 =>
    bk (fun (x15 : Int32) (x16 : Int32) (x17 : Int32) (S18 : Nat → Int32) (V19 : Nat → Nat → Int32) =>
    lt (x17 + (1 : Int32)) (fun x20 =>
    fX0_placeFrom_49_L41 REC n x15 x16 x20 S18 V19)) (fun K85_14 =>
    (if r12 = 0 then
    K85_14 x5 x6 x7 S8 V9
    else
    gd (ib x5 4) (
    lt (va_up V9 55 (upd (V9 55) (x5).toNatClampNeg x7)) (fun V23 =>
    bd1 (fX0_adds_49 V23 x5 x7) (fun r24 =>
    bd2 (REC S8 V23 ((x5 + (1 : Int32))) ((x6 + r24))) (fun S26 V27 =>
    K85_14 x5 x6 x7 S26 V27)))))))))
def DP : Nat := 8
def fX0_placeFrom_49_b (REC : (Nat → Int32) → (Nat → Nat → Int32) → Int32 → Int32 → Option ((Nat → Int32) × (Nat → Nat → Int32))) (S : Nat → Int32) (V : Nat → Nat → Int32) (a1 : Int32) (a2 : Int32) : Option ((Nat → Int32) × (Nat → Nat → Int32)) :=
  (if (S 4910) ≤ a2 then
  some (S, V)
  else
  gd (ib a1 5) (
  (if (-(a2 + (V 54 (a1).toNatClampNeg))) < (S 4910) then
  (if a1 < (S 4903) then
  fX0_placeFrom_49_L41 REC FU a1 a2 (0 : Int32) S V
  else
  bd2 (fX0_keepIfRulesHold_49 S V a2) (fun S29 V30 =>
  some (S29, V30)))
  else
  some (S, V))))
def fX0_placeFrom_49 : Nat → (Nat → Int32) → (Nat → Nat → Int32) → Int32 → Int32 → Option ((Nat → Int32) × (Nat → Nat → Int32))
  | 0 => fun _ _ _ _ => none
  | d + 1 => fX0_placeFrom_49_b (fX0_placeFrom_49 d)
def rmR (d : Nat) : Room := { frames := 2 + d, cells := 0, slots := 0, locals := 85 + 23 * d }
set_option maxHeartbeats 4000000 in
set_option maxRecDepth 100000 in
theorem kX0_placeFrom_49_b (d : Nat) (l : Launch) (B : jBT) (D : va_G) (ad : Nat → Nat) (cA : Nat → ClassId) (hI : jI ad TC) (REC : (Nat → Int32) → (Nat → Nat → Int32) → Int32 → Int32 → Option ((Nat → Int32) × (Nat → Nat → Int32))) (hREC : ∀ (S : Nat → Int32) (V : Nat → Nat → Int32) (L : Nat → Int64) (a1 : Int32) (a2 : Int32) (S0 : Nat → Int32) (V0 : Nat → Nat → Int32), REC S V a1 a2 = some (S0, V0) → jM l yX0_placeFrom cX0_placeFrom 4 none (rmR d) B D TC ad cA [.ref (ad 49), .int a1, .int a2] S V L none S0 V0 L) (S : Nat → Int32) (V : Nat → Nat → Int32) (L : Nat → Int64) (a1 : Int32) (a2 : Int32) (S0 : Nat → Int32) (V0 : Nat → Nat → Int32) (h : fX0_placeFrom_49_b REC S V a1 a2 = some (S0, V0)) : jM l yX0_placeFrom cX0_placeFrom 4 none (rmR (d + 1)) B D TC ad cA [.ref (ad 49), .int a1, .int a2] S V L none S0 V0 L := by
  refine jM_of (plainFor_of_name (by decide)) TC_ok hI (Nat.le_of_ble_eq_true rfl) ?_
  intro p e s m args below meth c C hr hlk
  refine j_lv (lv2 := [(0, .ref (ad 49)), (1, .int a1), (2, .int a2)]) rfl ?_
  unfold fX0_placeFrom_49_b at h
  have H_fX0_placeFrom_49_L41 : ∀ (n : Nat) (x5 : Int32) (x6 : Int32) (x7 : Int32) (S8 : Nat → Int32) (V9 : Nat → Nat → Int32), fX0_placeFrom_49_L41 REC n x5 x6 x7 S8 V9 = some (S0, V0) → jW p l e (rmR (d + 1)) s m args below meth c (MQ below (jQc D TC ad cA none s.heap.size S0 V0 L) args s 0 0 (jA ad TC s.heap.size)) D TC ad cA (jA ad TC s.heap.size) 4 0 0 41 [(0, .ref (ad 49)), (1, .int x5), (2, .int x6), (3, .int x7)] [] S8 V9 L := by
    intro n
    induction n with
    | zero =>
      intro x5 x6 x7 S8 V9 h
      cases (show (none : Option ((Nat → Int32) × (Nat → Nat → Int32))) = some (S0, V0) from h)
    | succ n ih =>
      intro x5 x6 x7 S8 V9 h
      unfold fX0_placeFrom_49_L41 at h
      refine j_iload_n C 3 rfl dX0_placeFrom_41 rfl ?_
      refine j_bipush C dX0_placeFrom_42 cb_16 ?_
      refine j_icmp_ge (tgt := 91) C dX0_placeFrom_44 (by decide) (fun c10 => ?_) (fun c10 => ?_)
      · have h := (if_pos c10).symm.trans h
        cases h
        exact j_vret C hr hlk rfl dX0_placeFrom_91
      · have h := (if_neg c10).symm.trans h
        refine j_aload_n C 0 rfl dX0_placeFrom_47 rfl ?_
        refine fg_X0_61_TC_49 C dX0_placeFrom_48 ?_
        refine j_if_le (tgt := 91) C dX0_placeFrom_51 (by decide) (fun c11 => ?_) (fun c11 => ?_)
        · have h := (if_pos c11).symm.trans h
          cases h
          exact j_vret C hr hlk rfl dX0_placeFrom_91
        · have h := (if_neg c11).symm.trans h
          refine j_aload_n C 0 rfl dX0_placeFrom_54 rfl ?_
          refine j_iload_n C 1 rfl dX0_placeFrom_55 rfl ?_
          refine j_iload_n C 3 rfl dX0_placeFrom_56 rfl ?_
          obtain ⟨r12, h13, h⟩ := bd1_elim h
          refine j_callV (As := [.int x5, .int x7]) (rest := []) C (kX0_fits_49 l B D ad cA hI S8 V9 L x5 x7 _ h13) mw_X0_fits wd1230 wd44 wd1228 tc_49 rfl rfl ⟨rfl, rfl, by (unfold rmR; dsimp only; omega), by (unfold rmR; dsimp only; omega)⟩ ⟨Nat.zero_le _, Nat.zero_le _⟩ rfl rfl (Nat.le_of_ble_eq_true rfl) dX0_placeFrom_57 ?_
          refine bk_elim h (fun K85_14 e_K85_14 h => ?_)
          have HK85_14 : ∀ (x15 : Int32) (x16 : Int32) (x17 : Int32) (S18 : Nat → Int32) (V19 : Nat → Nat → Int32), K85_14 x15 x16 x17 S18 V19 = some (S0, V0) → jW p l e (rmR (d + 1)) s m args below meth c (MQ below (jQc D TC ad cA none s.heap.size S0 V0 L) args s 0 0 (jA ad TC s.heap.size)) D TC ad cA (jA ad TC s.heap.size) 4 0 0 85 [(0, .ref (ad 49)), (1, .int x15), (2, .int x16), (3, .int x17)] [] S18 V19 L := by
            subst e_K85_14
            intro x15 x16 x17 S18 V19 h
            refine lt_elim h (fun x20 e_x20 h => ?_)
            refine j_iinc C [(3, .int x20), (0, .ref (ad 49)), (1, .int x15), (2, .int x16)] 3 dX0_placeFrom_85 rfl ((iinc_eq ci_1).trans e_x20.symm) (by decide) rfl ?_
            refine j_goto (tgt := 41) C dX0_placeFrom_88 (by decide) ?_
            exact j_sub [1, 2, 3, 0] rfl (ih _ _ _ _ _ h)
          refine j_if_eq (tgt := 85) C dX0_placeFrom_60 (by decide) (fun c21 => ?_) (fun c21 => ?_)
          · have h := (if_pos c21).symm.trans h
            exact j_sub [0, 1, 2, 3] rfl (HK85_14 _ _ _ _ _ h)
          · have h := (if_neg c21).symm.trans h
            refine j_aload_n C 0 rfl dX0_placeFrom_63 rfl ?_
            refine fg_X0_27_TC_49 C dX0_placeFrom_64 ?_
            refine j_iload_n C 1 rfl dX0_placeFrom_67 rfl ?_
            refine j_iload_n C 3 rfl dX0_placeFrom_68 rfl ?_
            obtain ⟨g22, h⟩ := gd_elim h
            refine j_iast C tc_55 (ib_in g22) dX0_placeFrom_69 ?_
            refine lt_elim h (fun V23 e_V23 h => ?_)
            refine j_V e_V23 ?_
            refine j_aload_n C 0 rfl dX0_placeFrom_70 rfl ?_
            refine j_iload_n C 1 rfl dX0_placeFrom_71 rfl ?_
            refine j_iconst C dX0_placeFrom_72 ci_1 ?_
            refine j_iadd C dX0_placeFrom_73 ?_
            refine j_iload_n C 2 rfl dX0_placeFrom_74 rfl ?_
            refine j_aload_n C 0 rfl dX0_placeFrom_75 rfl ?_
            refine j_iload_n C 1 rfl dX0_placeFrom_76 rfl ?_
            refine j_iload_n C 3 rfl dX0_placeFrom_77 rfl ?_
            obtain ⟨r24, h25, h⟩ := bd1_elim h
            refine j_callV (As := [.int x5, .int x7]) (rest := [.int x6, .int (x5 + (1 : Int32)), .ref (ad 49)]) C (kX0_adds_49 l B D ad cA hI S8 V23 L x5 x7 _ h25) mw_X0_adds wd1234 wd45 wd1232 tc_49 rfl rfl ⟨rfl, rfl, by (unfold rmR; dsimp only; omega), by (unfold rmR; dsimp only; omega)⟩ ⟨Nat.zero_le _, Nat.zero_le _⟩ rfl rfl (Nat.le_of_ble_eq_true rfl) dX0_placeFrom_78 ?_
            refine j_iadd C dX0_placeFrom_81 ?_
            obtain ⟨S26, V27, h28, h⟩ := bd2_elim h
            refine j_callV (As := [.int (x5 + (1 : Int32)), .int (x6 + r24)]) (rest := []) C (hREC S8 V23 L ((x5 + (1 : Int32))) ((x6 + r24)) _ _ h28) mw_X0_placeFrom wd1218 wd42 wd1216 tc_49 rfl rfl ⟨rfl, rfl, by (unfold rmR; dsimp only; omega), by (unfold rmR; dsimp only; omega)⟩ ⟨Nat.zero_le _, Nat.zero_le _⟩ rfl rfl (Nat.le_of_ble_eq_true rfl) dX0_placeFrom_82 ?_
            exact j_sub [0, 1, 2, 3] rfl (HK85_14 _ _ _ _ _ h)
  refine j_iload_n C 2 rfl dX0_placeFrom_0 rfl ?_
  refine j_aload_n C 0 rfl dX0_placeFrom_1 rfl ?_
  refine fg_X0_61_TC_49 C dX0_placeFrom_2 ?_
  refine j_icmp_ge (tgt := 24) C dX0_placeFrom_5 (by decide) (fun c1 => ?_) (fun c1 => ?_)
  · have h := (if_pos c1).symm.trans h
    cases h
    exact j_vret C hr hlk rfl dX0_placeFrom_24
  · have h := (if_neg c1).symm.trans h
    refine j_iload_n C 2 rfl dX0_placeFrom_8 rfl ?_
    refine j_aload_n C 0 rfl dX0_placeFrom_9 rfl ?_
    refine fg_X0_24_TC_49 C dX0_placeFrom_10 ?_
    refine j_iload_n C 1 rfl dX0_placeFrom_13 rfl ?_
    obtain ⟨g2, h⟩ := gd_elim h
    refine j_iald C tc_54 (ib_in g2) dX0_placeFrom_14 ?_
    refine j_iadd C dX0_placeFrom_15 ?_
    refine j_ineg C dX0_placeFrom_16 ?_
    refine j_aload_n C 0 rfl dX0_placeFrom_17 rfl ?_
    refine fg_X0_61_TC_49 C dX0_placeFrom_18 ?_
    refine j_icmp_lt (tgt := 25) C dX0_placeFrom_21 (by decide) (fun c3 => ?_) (fun c3 => ?_)
    · have h := (if_pos c3).symm.trans h
      refine j_iload_n C 1 rfl dX0_placeFrom_25 rfl ?_
      refine j_aload_n C 0 rfl dX0_placeFrom_26 rfl ?_
      refine fg_X0_52_TC_49 C dX0_placeFrom_27 ?_
      refine j_icmp_lt (tgt := 39) C dX0_placeFrom_30 (by decide) (fun c4 => ?_) (fun c4 => ?_)
      · have h := (if_pos c4).symm.trans h
        refine j_iconst C dX0_placeFrom_39 ci_0 ?_
        refine j_istore_n C [(3, .int (0 : Int32)), (0, .ref (ad 49)), (1, .int a1), (2, .int a2)] dX0_placeFrom_40 rfl (by decide) rfl ?_
        exact j_sub [1, 2, 3, 0] rfl (H_fX0_placeFrom_49_L41 FU _ _ _ _ _ h)
      · have h := (if_neg c4).symm.trans h
        refine j_aload_n C 0 rfl dX0_placeFrom_33 rfl ?_
        refine j_iload_n C 2 rfl dX0_placeFrom_34 rfl ?_
        obtain ⟨S29, V30, h31, h⟩ := bd2_elim h
        refine j_callV (As := [.int a2]) (rest := []) C (kX0_keepIfRulesHold_49 l B D ad cA hI S V L a2 _ _ h31) mw_X0_keepIfRulesHold wd1222 wd43 wd1220 tc_49 rfl rfl ⟨rfl, rfl, by (unfold rmR; dsimp only; omega), by (unfold rmR; dsimp only; omega)⟩ ⟨Nat.zero_le _, Nat.zero_le _⟩ rfl rfl (Nat.le_of_ble_eq_true rfl) dX0_placeFrom_35 ?_
        cases h
        exact j_vret C hr hlk rfl dX0_placeFrom_38
    · have h := (if_neg c3).symm.trans h
      cases h
      exact j_vret C hr hlk rfl dX0_placeFrom_24
theorem kX0_placeFrom_49 (d : Nat) (l : Launch) (B : jBT) (D : va_G) (ad : Nat → Nat) (cA : Nat → ClassId) (hI : jI ad TC) : ∀ (S : Nat → Int32) (V : Nat → Nat → Int32) (L : Nat → Int64) (a1 : Int32) (a2 : Int32) (S0 : Nat → Int32) (V0 : Nat → Nat → Int32), fX0_placeFrom_49 d S V a1 a2 = some (S0, V0) → jM l yX0_placeFrom cX0_placeFrom 4 none (rmR d) B D TC ad cA [.ref (ad 49), .int a1, .int a2] S V L none S0 V0 L := by
  induction d with
  | zero =>
    intro S V L a1 a2 S0 V0 h
    cases (show (none : Option ((Nat → Int32) × (Nat → Nat → Int32))) = some (S0, V0) from h)
  | succ d ih => exact fun S V L a1 a2 S0 V0 h => kX0_placeFrom_49_b d l B D ad cA hI (fX0_placeFrom_49 d) ih S V L a1 a2 S0 V0 h
theorem dJ7_fill_53178_0 : decode cJ7_fill_53178 0 = .ok (.iconst 0, 1) := by decide +kernel
theorem dJ7_fill_53178_1 : decode cJ7_fill_53178 1 = .ok (.istore_n 2, 1) := by decide +kernel
theorem dJ7_fill_53178_2 : decode cJ7_fill_53178 2 = .ok (.aload_n 0, 1) := by decide +kernel
theorem dJ7_fill_53178_3 : decode cJ7_fill_53178 3 = .ok (.arraylength, 1) := by decide +kernel
theorem dJ7_fill_53178_4 : decode cJ7_fill_53178 4 = .ok (.istore_n 3, 1) := by decide +kernel
theorem dJ7_fill_53178_5 : decode cJ7_fill_53178 5 = .ok (.iload_n 2, 1) := by decide +kernel
theorem dJ7_fill_53178_6 : decode cJ7_fill_53178 6 = .ok (.iload_n 3, 1) := by decide +kernel
theorem dJ7_fill_53178_7 : decode cJ7_fill_53178 7 = .ok (.if_icmp .ge 13, 3) := by decide +kernel
theorem dJ7_fill_53178_10 : decode cJ7_fill_53178 10 = .ok (.aload_n 0, 1) := by decide +kernel
theorem dJ7_fill_53178_11 : decode cJ7_fill_53178 11 = .ok (.iload_n 2, 1) := by decide +kernel
theorem dJ7_fill_53178_12 : decode cJ7_fill_53178 12 = .ok (.iload_n 1, 1) := by decide +kernel
theorem dJ7_fill_53178_13 : decode cJ7_fill_53178 13 = .ok (.iastore, 1) := by decide +kernel
theorem dJ7_fill_53178_14 : decode cJ7_fill_53178 14 = .ok (.iinc 2 1, 3) := by decide +kernel
theorem dJ7_fill_53178_17 : decode cJ7_fill_53178 17 = .ok (.goto (-12), 3) := by decide +kernel
theorem dJ7_fill_53178_20 : decode cJ7_fill_53178 20 = .ok (.return_, 1) := by decide +kernel
def fJ7_fill_53178_57_L5 : Nat → Int32 → Int32 → Int32 → (Nat → Nat → Int32) → Option ((Nat → Nat → Int32))
  | 0, _, _, _, _ => none
  | n + 1, x1, x2, x3, V4 =>
    (if x3 ≤ x2 then
    some V4
    else
    gd (ib x2 6) (
    lt (va_up V4 57 (upd (V4 57) (x2).toNatClampNeg x1)) (fun V7 =>
    lt (x2 + (1 : Int32)) (fun x8 =>
    fJ7_fill_53178_57_L5 n x1 x8 x3 V7))))
def fJ7_fill_53178_57 (V : Nat → Nat → Int32) (a1 : Int32) : Option ((Nat → Nat → Int32)) :=
  fJ7_fill_53178_57_L5 FU a1 (0 : Int32) (6 : Int32) V
set_option maxHeartbeats 4000000 in
set_option maxRecDepth 100000 in
theorem kJ7_fill_53178_57 (l : Launch) (B : jBT) (D : va_G) (ad : Nat → Nat) (cA : Nat → ClassId) (hI : jI ad TC) (S : Nat → Int32) (V : Nat → Nat → Int32) (L : Nat → Int64) (a1 : Int32) (V0 : Nat → Nat → Int32) (h : fJ7_fill_53178_57 V a1 = some V0) : jM l yJ7_fill_53178 cJ7_fill_53178 4 none ({ frames := 0, cells := 0, slots := 0, locals := 0 }) B D TC ad cA [.ref (ad 57), .int a1] S V L none S V0 L := by
  refine jM_of (plainFor_of_name (by decide)) TC_ok hI (Nat.le_of_ble_eq_true rfl) ?_
  intro p e s m args below meth c C hr hlk
  refine j_lv (lv2 := [(0, .ref (ad 57)), (1, .int a1)]) rfl ?_
  unfold fJ7_fill_53178_57 at h
  have H_fJ7_fill_53178_57_L5 : ∀ (n : Nat) (x1 : Int32) (x2 : Int32) (x3 : Int32) (V4 : Nat → Nat → Int32), fJ7_fill_53178_57_L5 n x1 x2 x3 V4 = some V0 → jW p l e ({ frames := 0, cells := 0, slots := 0, locals := 0 }) s m args below meth c (MQ below (jQc D TC ad cA none s.heap.size S V0 L) args s 0 0 (jA ad TC s.heap.size)) D TC ad cA (jA ad TC s.heap.size) 4 0 0 5 [(0, .ref (ad 57)), (1, .int x1), (2, .int x2), (3, .int x3)] [] S V4 L := by
    intro n
    induction n with
    | zero =>
      intro x1 x2 x3 V4 h
      cases (show (none : Option ((Nat → Nat → Int32))) = some V0 from h)
    | succ n ih =>
      intro x1 x2 x3 V4 h
      unfold fJ7_fill_53178_57_L5 at h
      refine j_iload_n C 2 rfl dJ7_fill_53178_5 rfl ?_
      refine j_iload_n C 3 rfl dJ7_fill_53178_6 rfl ?_
      refine j_icmp_ge (tgt := 20) C dJ7_fill_53178_7 (by decide) (fun c5 => ?_) (fun c5 => ?_)
      · have h := (if_pos c5).symm.trans h
        cases h
        exact j_vret C hr hlk rfl dJ7_fill_53178_20
      · have h := (if_neg c5).symm.trans h
        refine j_aload_n C 0 rfl dJ7_fill_53178_10 rfl ?_
        refine j_iload_n C 2 rfl dJ7_fill_53178_11 rfl ?_
        refine j_iload_n C 1 rfl dJ7_fill_53178_12 rfl ?_
        obtain ⟨g6, h⟩ := gd_elim h
        refine j_iast C tc_57 (ib_in g6) dJ7_fill_53178_13 ?_
        refine lt_elim h (fun V7 e_V7 h => ?_)
        refine j_V e_V7 ?_
        refine lt_elim h (fun x8 e_x8 h => ?_)
        refine j_iinc C [(2, .int x8), (0, .ref (ad 57)), (1, .int x1), (3, .int x3)] 2 dJ7_fill_53178_14 rfl ((iinc_eq ci_1).trans e_x8.symm) (by decide) rfl ?_
        refine j_goto (tgt := 5) C dJ7_fill_53178_17 (by decide) ?_
        exact j_sub [1, 2, 0, 3] rfl (ih _ _ _ _ h)
  refine j_iconst C dJ7_fill_53178_0 ci_0 ?_
  refine j_istore_n C [(2, .int (0 : Int32)), (0, .ref (ad 57)), (1, .int a1)] dJ7_fill_53178_1 rfl (by decide) rfl ?_
  refine j_aload_n C 1 rfl dJ7_fill_53178_2 rfl ?_
  refine j_alen (v := (6 : Int32)) C tc_57 (by decide) dJ7_fill_53178_3 ?_
  refine j_istore_n C [(3, .int (6 : Int32)), (2, .int (0 : Int32)), (0, .ref (ad 57)), (1, .int a1)] dJ7_fill_53178_4 rfl (by decide) rfl ?_
  exact j_sub [2, 3, 1, 0] rfl (H_fJ7_fill_53178_57_L5 FU _ _ _ _ h)
theorem dX0_fromOf_0 : decode cX0_fromOf 0 = .ok (.iload_n 0, 1) := by decide +kernel
theorem dX0_fromOf_1 : decode cX0_fromOf 1 = .ok (.bipush 8, 2) := by decide +kernel
theorem dX0_fromOf_3 : decode cX0_fromOf 3 = .ok (.irem, 1) := by decide +kernel
theorem dX0_fromOf_4 : decode cX0_fromOf 4 = .ok (.iconst 3, 1) := by decide +kernel
theorem dX0_fromOf_5 : decode cX0_fromOf 5 = .ok (.imul, 1) := by decide +kernel
theorem dX0_fromOf_6 : decode cX0_fromOf 6 = .ok (.ireturn, 1) := by decide +kernel
def fX0_fromOf (a1 : Int32) : Option (Int32) :=
  some (((a1 - a1 / (8 : Int32) * (8 : Int32)) * (3 : Int32)))
set_option maxHeartbeats 4000000 in
set_option maxRecDepth 100000 in
theorem kX0_fromOf (l : Launch) (B : jBT) (D : va_G) (ad : Nat → Nat) (cA : Nat → ClassId) (hI : jI ad TC) (S : Nat → Int32) (V : Nat → Nat → Int32) (L : Nat → Int64) (a1 : Int32) (r0 : Int32) (h : fX0_fromOf a1 = some r0) : jM l yX0_fromOf cX0_fromOf 1 (some .int) ({ frames := 0, cells := 0, slots := 0, locals := 0 }) B D TC ad cA [.int a1] S V L (some (.int r0)) S V L := by
  refine jM_of (plainFor_of_name (by decide)) TC_ok hI (Nat.le_of_ble_eq_true rfl) ?_
  intro p e s m args below meth c C hr hlk
  refine j_lv (lv2 := [(0, .int a1)]) rfl ?_
  unfold fX0_fromOf at h
  refine j_iload_n C 0 rfl dX0_fromOf_0 rfl ?_
  refine j_bipush C dX0_fromOf_1 cb_8 ?_
  refine j_irem C dX0_fromOf_3 (by decide) ?_
  refine j_iconst C dX0_fromOf_4 ci_3 ?_
  refine j_imul C dX0_fromOf_5 ?_
  cases h
  exact j_iret C hr hlk rfl dX0_fromOf_6
theorem dX0_keep_0 : decode cX0_keep 0 = .ok (.aload_n 0, 1) := by decide +kernel
theorem dX0_keep_1 : decode cX0_keep 1 = .ok (.getfield 33, 3) := by decide +kernel
theorem dX0_keep_4 : decode cX0_keep 4 = .ok (.iconst (-1), 1) := by decide +kernel
theorem dX0_keep_5 : decode cX0_keep 5 = .ok (.invokestatic 141, 3) := by decide +kernel
theorem dX0_keep_8 : decode cX0_keep 8 = .ok (.iconst 0, 1) := by decide +kernel
theorem dX0_keep_9 : decode cX0_keep 9 = .ok (.istore_n 1, 1) := by decide +kernel
theorem dX0_keep_10 : decode cX0_keep 10 = .ok (.iload_n 1, 1) := by decide +kernel
theorem dX0_keep_11 : decode cX0_keep 11 = .ok (.aload_n 0, 1) := by decide +kernel
theorem dX0_keep_12 : decode cX0_keep 12 = .ok (.getfield 52, 3) := by decide +kernel
theorem dX0_keep_15 : decode cX0_keep 15 = .ok (.if_icmp .ge 42, 3) := by decide +kernel
theorem dX0_keep_18 : decode cX0_keep 18 = .ok (.aload_n 0, 1) := by decide +kernel
theorem dX0_keep_19 : decode cX0_keep 19 = .ok (.getfield 33, 3) := by decide +kernel
theorem dX0_keep_22 : decode cX0_keep 22 = .ok (.aload_n 0, 1) := by decide +kernel
theorem dX0_keep_23 : decode cX0_keep 23 = .ok (.getfield 9, 3) := by decide +kernel
theorem dX0_keep_26 : decode cX0_keep 26 = .ok (.iload_n 1, 1) := by decide +kernel
theorem dX0_keep_27 : decode cX0_keep 27 = .ok (.iaload, 1) := by decide +kernel
theorem dX0_keep_28 : decode cX0_keep 28 = .ok (.bipush 24, 2) := by decide +kernel
theorem dX0_keep_30 : decode cX0_keep 30 = .ok (.aload_n 0, 1) := by decide +kernel
theorem dX0_keep_31 : decode cX0_keep 31 = .ok (.getfield 30, 3) := by decide +kernel
theorem dX0_keep_34 : decode cX0_keep 34 = .ok (.iload_n 1, 1) := by decide +kernel
theorem dX0_keep_35 : decode cX0_keep 35 = .ok (.iaload, 1) := by decide +kernel
theorem dX0_keep_36 : decode cX0_keep 36 = .ok (.invokestatic 95, 3) := by decide +kernel
theorem dX0_keep_39 : decode cX0_keep 39 = .ok (.imul, 1) := by decide +kernel
theorem dX0_keep_40 : decode cX0_keep 40 = .ok (.aload_n 0, 1) := by decide +kernel
theorem dX0_keep_41 : decode cX0_keep 41 = .ok (.getfield 30, 3) := by decide +kernel
theorem dX0_keep_44 : decode cX0_keep 44 = .ok (.iload_n 1, 1) := by decide +kernel
theorem dX0_keep_45 : decode cX0_keep 45 = .ok (.iaload, 1) := by decide +kernel
theorem dX0_keep_46 : decode cX0_keep 46 = .ok (.invokestatic 91, 3) := by decide +kernel
theorem dX0_keep_49 : decode cX0_keep 49 = .ok (.iadd, 1) := by decide +kernel
theorem dX0_keep_50 : decode cX0_keep 50 = .ok (.iastore, 1) := by decide +kernel
theorem dX0_keep_51 : decode cX0_keep 51 = .ok (.iinc 1 1, 3) := by decide +kernel
theorem dX0_keep_54 : decode cX0_keep 54 = .ok (.goto (-44), 3) := by decide +kernel
theorem dX0_keep_57 : decode cX0_keep 57 = .ok (.aload_n 0, 1) := by decide +kernel
theorem dX0_keep_58 : decode cX0_keep 58 = .ok (.iconst 1, 1) := by decide +kernel
theorem dX0_keep_59 : decode cX0_keep 59 = .ok (.putfield 44, 3) := by decide +kernel
theorem dX0_keep_62 : decode cX0_keep 62 = .ok (.return_, 1) := by decide +kernel
def fX0_keep_49_L10 (E57 : (Nat → Int32) → (Nat → Nat → Int32) → Option ((Nat → Int32) × (Nat → Nat → Int32))) : Nat → Int32 → (Nat → Int32) → (Nat → Nat → Int32) → Option ((Nat → Int32) × (Nat → Nat → Int32))
  | 0, _, _, _ => none
  | n + 1, x3, S4, V5 =>
    (if (S4 4903) ≤ x3 then
    E57 S4 V5
    else
    gd (ib x3 4) (
    gd (ib x3 4) (
    bd1 (fX0_halfOf ((V5 56 (x3).toNatClampNeg))) (fun r9 =>
    gd (ib x3 4) (
    bd1 (fX0_fromOf ((V5 56 (x3).toNatClampNeg))) (fun r12 =>
    lt ((((24 : Int32) * r9) + r12)) (fun x14 =>
    lt ((V5 50 (x3).toNatClampNeg)) (fun x15 =>
    gd (ib x15 6) (
    lt (va_up V5 57 (upd (V5 57) (x15).toNatClampNeg x14)) (fun V17 =>
    lt (x3 + (1 : Int32)) (fun x18 =>
    fX0_keep_49_L10 E57 n x18 S4 V17)))))))))))
def fX0_keep_49 (S : Nat → Int32) (V : Nat → Nat → Int32) : Option ((Nat → Int32) × (Nat → Nat → Int32)) :=
  bd1 (fJ7_fill_53178_57 V (-1 : Int32)) (fun V1 =>
  bk (fun (S22 : Nat → Int32) (V23 : Nat → Nat → Int32) =>
  lt (va_up S22 4911 (1 : Int32)) (fun S24 =>
  some (S24, V23))) (fun X57_21 =>
  fX0_keep_49_L10 X57_21 FU (0 : Int32) S V1))
set_option maxHeartbeats 4000000 in
set_option maxRecDepth 100000 in
theorem kX0_keep_49 (l : Launch) (B : jBT) (D : va_G) (ad : Nat → Nat) (cA : Nat → ClassId) (hI : jI ad TC) (S : Nat → Int32) (V : Nat → Nat → Int32) (L : Nat → Int64) (S0 : Nat → Int32) (V0 : Nat → Nat → Int32) (h : fX0_keep_49 S V = some (S0, V0)) : jM l yX0_keep cX0_keep 2 none ({ frames := 1, cells := 0, slots := 0, locals := 23 }) B D TC ad cA [.ref (ad 49)] S V L none S0 V0 L := by
  refine jM_of (plainFor_of_name (by decide)) TC_ok hI (Nat.le_of_ble_eq_true rfl) ?_
  intro p e s m args below meth c C hr hlk
  refine j_lv (lv2 := [(0, .ref (ad 49))]) rfl ?_
  unfold fX0_keep_49 at h
  have H_fX0_keep_49_L10 : ∀ (E57 : (Nat → Int32) → (Nat → Nat → Int32) → Option ((Nat → Int32) × (Nat → Nat → Int32))) (_ : ∀ (S19 : Nat → Int32) (V20 : Nat → Nat → Int32), E57 S19 V20 = some (S0, V0) → jW p l e ({ frames := 1, cells := 0, slots := 0, locals := 23 }) s m args below meth c (MQ below (jQc D TC ad cA none s.heap.size S0 V0 L) args s 0 0 (jA ad TC s.heap.size)) D TC ad cA (jA ad TC s.heap.size) 2 0 0 57 [(0, .ref (ad 49))] [] S19 V20 L) (n : Nat) (x3 : Int32) (S4 : Nat → Int32) (V5 : Nat → Nat → Int32), fX0_keep_49_L10 E57 n x3 S4 V5 = some (S0, V0) → jW p l e ({ frames := 1, cells := 0, slots := 0, locals := 23 }) s m args below meth c (MQ below (jQc D TC ad cA none s.heap.size S0 V0 L) args s 0 0 (jA ad TC s.heap.size)) D TC ad cA (jA ad TC s.heap.size) 2 0 0 10 [(0, .ref (ad 49)), (1, .int x3)] [] S4 V5 L := by
    intro E57 HE57
    intro n
    induction n with
    | zero =>
      intro x3 S4 V5 h
      cases (show (none : Option ((Nat → Int32) × (Nat → Nat → Int32))) = some (S0, V0) from h)
    | succ n ih =>
      intro x3 S4 V5 h
      unfold fX0_keep_49_L10 at h
      refine j_iload_n C 1 rfl dX0_keep_10 rfl ?_
      refine j_aload_n C 0 rfl dX0_keep_11 rfl ?_
      refine fg_X0_52_TC_49 C dX0_keep_12 ?_
      refine j_icmp_ge (tgt := 57) C dX0_keep_15 (by decide) (fun c6 => ?_) (fun c6 => ?_)
      · have h := (if_pos c6).symm.trans h
        exact j_sub [0] rfl (HE57 _ _ h)
      · have h := (if_neg c6).symm.trans h
        refine j_aload_n C 0 rfl dX0_keep_18 rfl ?_
        refine fg_X0_33_TC_49 C dX0_keep_19 ?_
        refine j_aload_n C 0 rfl dX0_keep_22 rfl ?_
        refine fg_X0_9_TC_49 C dX0_keep_23 ?_
        refine j_iload_n C 1 rfl dX0_keep_26 rfl ?_
        obtain ⟨g7, h⟩ := gd_elim h
        refine j_iald C tc_50 (ib_in g7) dX0_keep_27 ?_
        refine j_bipush C dX0_keep_28 cb_24 ?_
        refine j_aload_n C 0 rfl dX0_keep_30 rfl ?_
        refine fg_X0_30_TC_49 C dX0_keep_31 ?_
        refine j_iload_n C 1 rfl dX0_keep_34 rfl ?_
        obtain ⟨g8, h⟩ := gd_elim h
        refine j_iald C tc_56 (ib_in g8) dX0_keep_35 ?_
        obtain ⟨r9, h10, h⟩ := bd1_elim h
        refine j_callS (As := [.int (V5 56 (x3).toNatClampNeg)]) (rest := [.int (24 : Int32), .int (V5 50 (x3).toNatClampNeg), .ref (ad 57)]) C (kX0_halfOf l B D ad cA hI S4 V5 L ((V5 56 (x3).toNatClampNeg)) _ h10) mw_X0_halfOf wd1204 wd1203 ⟨rfl, rfl, by decide, by decide⟩ ⟨Nat.zero_le _, Nat.zero_le _⟩ rfl rfl (Nat.le_of_ble_eq_true rfl) dX0_keep_36 ?_
        refine j_imul C dX0_keep_39 ?_
        refine j_aload_n C 0 rfl dX0_keep_40 rfl ?_
        refine fg_X0_30_TC_49 C dX0_keep_41 ?_
        refine j_iload_n C 1 rfl dX0_keep_44 rfl ?_
        obtain ⟨g11, h⟩ := gd_elim h
        refine j_iald C tc_56 (ib_in g11) dX0_keep_45 ?_
        obtain ⟨r12, h13, h⟩ := bd1_elim h
        refine j_callS (As := [.int (V5 56 (x3).toNatClampNeg)]) (rest := [.int ((24 : Int32) * r9), .int (V5 50 (x3).toNatClampNeg), .ref (ad 57)]) C (kX0_fromOf l B D ad cA hI S4 V5 L ((V5 56 (x3).toNatClampNeg)) _ h13) mw_X0_fromOf wd1201 wd1200 ⟨rfl, rfl, by decide, by decide⟩ ⟨Nat.zero_le _, Nat.zero_le _⟩ rfl rfl (Nat.le_of_ble_eq_true rfl) dX0_keep_46 ?_
        refine j_iadd C dX0_keep_49 ?_
        refine lt_elim h (fun x14 e_x14 h => ?_)
        refine j_top e_x14 ?_
        refine lt_elim h (fun x15 e_x15 h => ?_)
        refine j_top2 e_x15 ?_
        obtain ⟨g16, h⟩ := gd_elim h
        refine j_iast C tc_57 (ib_in g16) dX0_keep_50 ?_
        refine lt_elim h (fun V17 e_V17 h => ?_)
        refine j_V e_V17 ?_
        refine lt_elim h (fun x18 e_x18 h => ?_)
        refine j_iinc C [(1, .int x18), (0, .ref (ad 49))] 1 dX0_keep_51 rfl ((iinc_eq ci_1).trans e_x18.symm) (by decide) rfl ?_
        refine j_goto (tgt := 10) C dX0_keep_54 (by decide) ?_
        exact j_sub [1, 0] rfl (ih _ _ _ h)
  refine j_aload_n C 0 rfl dX0_keep_0 rfl ?_
  refine fg_X0_33_TC_49 C dX0_keep_1 ?_
  refine j_iconst C dX0_keep_4 ci_m1 ?_
  obtain ⟨V1, h2, h⟩ := bd1_elim h
  refine j_callS (As := [.ref (ad 57), .int (-1 : Int32)]) (rest := []) C (kJ7_fill_53178_57 l B D ad cA hI S V L (-1 : Int32) _ h2) mw_J7_fill_53178 wd340 wd1241 ⟨rfl, rfl, by decide, by decide⟩ ⟨Nat.zero_le _, Nat.zero_le _⟩ rfl rfl (Nat.le_of_ble_eq_true rfl) dX0_keep_5 ?_
  refine j_iconst C dX0_keep_8 ci_0 ?_
  refine j_istore_n C [(1, .int (0 : Int32)), (0, .ref (ad 49))] dX0_keep_9 rfl (by decide) rfl ?_
  refine bk_elim h (fun X57_21 e_X57_21 h => ?_)
  have HX57_21 : ∀ (S22 : Nat → Int32) (V23 : Nat → Nat → Int32), X57_21 S22 V23 = some (S0, V0) → jW p l e ({ frames := 1, cells := 0, slots := 0, locals := 23 }) s m args below meth c (MQ below (jQc D TC ad cA none s.heap.size S0 V0 L) args s 0 0 (jA ad TC s.heap.size)) D TC ad cA (jA ad TC s.heap.size) 2 0 0 57 [(0, .ref (ad 49))] [] S22 V23 L := by
    subst e_X57_21
    intro S22 V23 h
    refine j_aload_n C 0 rfl dX0_keep_57 rfl ?_
    refine j_iconst C dX0_keep_58 ci_1 ?_
    refine fp_X0_44_TC_49 C rfl rfl dX0_keep_59 ?_
    refine lt_elim h (fun S24 e_S24 h => ?_)
    refine j_S e_S24 ?_
    cases h
    exact j_vret C hr hlk rfl dX0_keep_62
  exact j_sub [1, 0] rfl (H_fX0_keep_49_L10 _ HX57_21 FU _ _ _ h)
theorem dX2_breathLets_0 : decode cX2_breathLets 0 = .ok (.iload_n 2, 1) := by decide +kernel
theorem dX2_breathLets_1 : decode cX2_breathLets 1 = .ok (.iconst 2, 1) := by decide +kernel
theorem dX2_breathLets_2 : decode cX2_breathLets 2 = .ok (.if_icmp .eq 23, 3) := by decide +kernel
theorem dX2_breathLets_5 : decode cX2_breathLets 5 = .ok (.aload_n 0, 1) := by decide +kernel
theorem dX2_breathLets_6 : decode cX2_breathLets 6 = .ok (.getfield 15, 3) := by decide +kernel
theorem dX2_breathLets_9 : decode cX2_breathLets 9 = .ok (.iload_n 1, 1) := by decide +kernel
theorem dX2_breathLets_10 : decode cX2_breathLets 10 = .ok (.iaload, 1) := by decide +kernel
theorem dX2_breathLets_11 : decode cX2_breathLets 11 = .ok (.iconst 2, 1) := by decide +kernel
theorem dX2_breathLets_12 : decode cX2_breathLets 12 = .ok (.if_icmp .eq 13, 3) := by decide +kernel
theorem dX2_breathLets_15 : decode cX2_breathLets 15 = .ok (.aload_n 0, 1) := by decide +kernel
theorem dX2_breathLets_16 : decode cX2_breathLets 16 = .ok (.getfield 15, 3) := by decide +kernel
theorem dX2_breathLets_19 : decode cX2_breathLets 19 = .ok (.iload_n 1, 1) := by decide +kernel
theorem dX2_breathLets_20 : decode cX2_breathLets 20 = .ok (.iaload, 1) := by decide +kernel
theorem dX2_breathLets_21 : decode cX2_breathLets 21 = .ok (.iload_n 2, 1) := by decide +kernel
theorem dX2_breathLets_22 : decode cX2_breathLets 22 = .ok (.if_icmp .ne 7, 3) := by decide +kernel
theorem dX2_breathLets_25 : decode cX2_breathLets 25 = .ok (.iconst 1, 1) := by decide +kernel
theorem dX2_breathLets_26 : decode cX2_breathLets 26 = .ok (.goto 4, 3) := by decide +kernel
theorem dX2_breathLets_29 : decode cX2_breathLets 29 = .ok (.iconst 0, 1) := by decide +kernel
theorem dX2_breathLets_30 : decode cX2_breathLets 30 = .ok (.ireturn, 1) := by decide +kernel
def fX2_breathLets_3 (V : Nat → Nat → Int32) (a1 : Int32) (a2 : Int32) : Option (Int32) :=
  (if a2 = (2 : Int32) then
  some (1 : Int32)
  else
  gd (ib a1 6) (
  (if (V 5 (a1).toNatClampNeg) = (2 : Int32) then
  some (1 : Int32)
  else
  gd (ib a1 6) (
  (if (V 5 (a1).toNatClampNeg) = a2 then
  some (1 : Int32)
  else
  some (0 : Int32))))))
set_option maxHeartbeats 4000000 in
set_option maxRecDepth 100000 in
theorem kX2_breathLets_3 (l : Launch) (B : jBT) (D : va_G) (ad : Nat → Nat) (cA : Nat → ClassId) (hI : jI ad TC) (S : Nat → Int32) (V : Nat → Nat → Int32) (L : Nat → Int64) (a1 : Int32) (a2 : Int32) (r0 : Int32) (h : fX2_breathLets_3 V a1 a2 = some r0) : jM l yX2_breathLets cX2_breathLets 3 (some .boolean) ({ frames := 0, cells := 0, slots := 0, locals := 0 }) B D TC ad cA [.ref (ad 3), .int a1, .int a2] S V L (some (.int r0)) S V L := by
  refine jM_of (plainFor_of_name (by decide)) TC_ok hI (Nat.le_of_ble_eq_true rfl) ?_
  intro p e s m args below meth c C hr hlk
  refine j_lv (lv2 := [(0, .ref (ad 3)), (1, .int a1), (2, .int a2)]) rfl ?_
  unfold fX2_breathLets_3 at h
  refine j_iload_n C 2 rfl dX2_breathLets_0 rfl ?_
  refine j_iconst C dX2_breathLets_1 ci_2 ?_
  refine j_icmp_eq (tgt := 25) C dX2_breathLets_2 (by decide) (fun c1 => ?_) (fun c1 => ?_)
  · have h := (if_pos c1).symm.trans h
    refine j_iconst C dX2_breathLets_25 ci_1 ?_
    refine j_goto (tgt := 30) C dX2_breathLets_26 (by decide) ?_
    cases h
    exact j_zret C hr hlk rfl rfl dX2_breathLets_30
  · have h := (if_neg c1).symm.trans h
    refine j_aload_n C 0 rfl dX2_breathLets_5 rfl ?_
    refine fg_X2_15_TC_3 C dX2_breathLets_6 ?_
    refine j_iload_n C 1 rfl dX2_breathLets_9 rfl ?_
    obtain ⟨g2, h⟩ := gd_elim h
    refine j_iald C tc_5 (ib_in g2) dX2_breathLets_10 ?_
    refine j_iconst C dX2_breathLets_11 ci_2 ?_
    refine j_icmp_eq (tgt := 25) C dX2_breathLets_12 (by decide) (fun c3 => ?_) (fun c3 => ?_)
    · have h := (if_pos c3).symm.trans h
      refine j_iconst C dX2_breathLets_25 ci_1 ?_
      refine j_goto (tgt := 30) C dX2_breathLets_26 (by decide) ?_
      cases h
      exact j_zret C hr hlk rfl rfl dX2_breathLets_30
    · have h := (if_neg c3).symm.trans h
      refine j_aload_n C 0 rfl dX2_breathLets_15 rfl ?_
      refine fg_X2_15_TC_3 C dX2_breathLets_16 ?_
      refine j_iload_n C 1 rfl dX2_breathLets_19 rfl ?_
      obtain ⟨g4, h⟩ := gd_elim h
      refine j_iald C tc_5 (ib_in g4) dX2_breathLets_20 ?_
      refine j_iload_n C 2 rfl dX2_breathLets_21 rfl ?_
      refine j_icmp_ne (tgt := 29) C dX2_breathLets_22 (by decide) (fun c5 => ?_) (fun c5 => ?_)
      · have h := (if_neg c5).symm.trans h
        refine j_iconst C dX2_breathLets_29 ci_0 ?_
        cases h
        exact j_zret C hr hlk rfl rfl dX2_breathLets_30
      · have h := (if_pos c5).symm.trans h
        refine j_iconst C dX2_breathLets_25 ci_1 ?_
        refine j_goto (tgt := 30) C dX2_breathLets_26 (by decide) ?_
        cases h
        exact j_zret C hr hlk rfl rfl dX2_breathLets_30
theorem dX8_joined_0 : decode cX8_joined 0 = .ok (.iload_n 0, 1) := by decide +kernel
theorem dX8_joined_1 : decode cX8_joined 1 = .ok (.tableswitch 109 1 8 #[47, 61, 109, 75, 86, 97, 101, 105], 47) := by decide +kernel
theorem dX8_joined_48 : decode cX8_joined 48 = .ok (.iload_n 1, 1) := by decide +kernel
theorem dX8_joined_49 : decode cX8_joined 49 = .ok (.ifCond .ne 7, 3) := by decide +kernel
theorem dX8_joined_52 : decode cX8_joined 52 = .ok (.iload_n 2, 1) := by decide +kernel
theorem dX8_joined_53 : decode cX8_joined 53 = .ok (.ifCond .eq 7, 3) := by decide +kernel
theorem dX8_joined_56 : decode cX8_joined 56 = .ok (.iconst 1, 1) := by decide +kernel
theorem dX8_joined_57 : decode cX8_joined 57 = .ok (.goto 4, 3) := by decide +kernel
theorem dX8_joined_60 : decode cX8_joined 60 = .ok (.iconst 0, 1) := by decide +kernel
theorem dX8_joined_61 : decode cX8_joined 61 = .ok (.ireturn, 1) := by decide +kernel
theorem dX8_joined_62 : decode cX8_joined 62 = .ok (.iload_n 1, 1) := by decide +kernel
theorem dX8_joined_63 : decode cX8_joined 63 = .ok (.ifCond .eq 11, 3) := by decide +kernel
theorem dX8_joined_66 : decode cX8_joined 66 = .ok (.iload_n 2, 1) := by decide +kernel
theorem dX8_joined_67 : decode cX8_joined 67 = .ok (.ifCond .eq 7, 3) := by decide +kernel
theorem dX8_joined_70 : decode cX8_joined 70 = .ok (.iconst 1, 1) := by decide +kernel
theorem dX8_joined_71 : decode cX8_joined 71 = .ok (.goto 4, 3) := by decide +kernel
theorem dX8_joined_74 : decode cX8_joined 74 = .ok (.iconst 0, 1) := by decide +kernel
theorem dX8_joined_75 : decode cX8_joined 75 = .ok (.ireturn, 1) := by decide +kernel
theorem dX8_joined_76 : decode cX8_joined 76 = .ok (.iload_n 1, 1) := by decide +kernel
theorem dX8_joined_77 : decode cX8_joined 77 = .ok (.iload_n 2, 1) := by decide +kernel
theorem dX8_joined_78 : decode cX8_joined 78 = .ok (.if_icmp .ge 7, 3) := by decide +kernel
theorem dX8_joined_81 : decode cX8_joined 81 = .ok (.iconst 1, 1) := by decide +kernel
theorem dX8_joined_82 : decode cX8_joined 82 = .ok (.goto 4, 3) := by decide +kernel
theorem dX8_joined_85 : decode cX8_joined 85 = .ok (.iconst 0, 1) := by decide +kernel
theorem dX8_joined_86 : decode cX8_joined 86 = .ok (.ireturn, 1) := by decide +kernel
theorem dX8_joined_87 : decode cX8_joined 87 = .ok (.iload_n 1, 1) := by decide +kernel
theorem dX8_joined_88 : decode cX8_joined 88 = .ok (.iload_n 2, 1) := by decide +kernel
theorem dX8_joined_89 : decode cX8_joined 89 = .ok (.if_icmp .ne 7, 3) := by decide +kernel
theorem dX8_joined_92 : decode cX8_joined 92 = .ok (.iconst 1, 1) := by decide +kernel
theorem dX8_joined_93 : decode cX8_joined 93 = .ok (.goto 4, 3) := by decide +kernel
theorem dX8_joined_96 : decode cX8_joined 96 = .ok (.iconst 0, 1) := by decide +kernel
theorem dX8_joined_97 : decode cX8_joined 97 = .ok (.ireturn, 1) := by decide +kernel
theorem dX8_joined_98 : decode cX8_joined 98 = .ok (.iload_n 1, 1) := by decide +kernel
theorem dX8_joined_99 : decode cX8_joined 99 = .ok (.iload_n 2, 1) := by decide +kernel
theorem dX8_joined_100 : decode cX8_joined 100 = .ok (.iadd, 1) := by decide +kernel
theorem dX8_joined_101 : decode cX8_joined 101 = .ok (.ireturn, 1) := by decide +kernel
theorem dX8_joined_102 : decode cX8_joined 102 = .ok (.iload_n 1, 1) := by decide +kernel
theorem dX8_joined_103 : decode cX8_joined 103 = .ok (.iload_n 2, 1) := by decide +kernel
theorem dX8_joined_104 : decode cX8_joined 104 = .ok (.isub, 1) := by decide +kernel
theorem dX8_joined_105 : decode cX8_joined 105 = .ok (.ireturn, 1) := by decide +kernel
theorem dX8_joined_106 : decode cX8_joined 106 = .ok (.iload_n 1, 1) := by decide +kernel
theorem dX8_joined_107 : decode cX8_joined 107 = .ok (.iload_n 2, 1) := by decide +kernel
theorem dX8_joined_108 : decode cX8_joined 108 = .ok (.imul, 1) := by decide +kernel
theorem dX8_joined_109 : decode cX8_joined 109 = .ok (.ireturn, 1) := by decide +kernel
theorem dX8_joined_110 : decode cX8_joined 110 = .ok (.iload_n 2, 1) := by decide +kernel
theorem dX8_joined_111 : decode cX8_joined 111 = .ok (.ifCond .ne 7, 3) := by decide +kernel
theorem dX8_joined_114 : decode cX8_joined 114 = .ok (.iconst 0, 1) := by decide +kernel
theorem dX8_joined_115 : decode cX8_joined 115 = .ok (.goto 6, 3) := by decide +kernel
theorem dX8_joined_118 : decode cX8_joined 118 = .ok (.iload_n 1, 1) := by decide +kernel
theorem dX8_joined_119 : decode cX8_joined 119 = .ok (.iload_n 2, 1) := by decide +kernel
theorem dX8_joined_120 : decode cX8_joined 120 = .ok (.idiv, 1) := by decide +kernel
theorem dX8_joined_121 : decode cX8_joined 121 = .ok (.ireturn, 1) := by decide +kernel
def fX8_joined (a1 : Int32) (a2 : Int32) (a3 : Int32) : Option (Int32) :=
  (if a1 = (1 : Int32) then
  (if a2 = 0 then
  (if a3 = 0 then
  some (0 : Int32)
  else
  some (1 : Int32))
  else
  some (1 : Int32))
  else
  (if a1 = (2 : Int32) then
  (if a2 = 0 then
  some (0 : Int32)
  else
  (if a3 = 0 then
  some (0 : Int32)
  else
  some (1 : Int32)))
  else
  (if a1 = (3 : Int32) then
  (if a3 = 0 then
  some (0 : Int32)
  else
  gd (nz a3) (
  some ((a2 / a3))))
  else
  (if a1 = (4 : Int32) then
  (if a3 ≤ a2 then
  some (0 : Int32)
  else
  some (1 : Int32))
  else
  (if a1 = (5 : Int32) then
  (if a2 = a3 then
  some (1 : Int32)
  else
  some (0 : Int32))
  else
  (if a1 = (6 : Int32) then
  some ((a2 + a3))
  else
  (if a1 = (7 : Int32) then
  some ((a2 - a3))
  else
  (if a1 = (8 : Int32) then
  some ((a2 * a3))
  else
  (if a3 = 0 then
  some (0 : Int32)
  else
  gd (nz a3) (
  some ((a2 / a3))))))))))))
set_option maxHeartbeats 4000000 in
set_option maxRecDepth 100000 in
theorem kX8_joined (l : Launch) (B : jBT) (D : va_G) (ad : Nat → Nat) (cA : Nat → ClassId) (hI : jI ad TC) (S : Nat → Int32) (V : Nat → Nat → Int32) (L : Nat → Int64) (a1 : Int32) (a2 : Int32) (a3 : Int32) (r0 : Int32) (h : fX8_joined a1 a2 a3 = some r0) : jM l yX8_joined cX8_joined 3 (some .int) ({ frames := 0, cells := 0, slots := 0, locals := 0 }) B D TC ad cA [.int a1, .int a2, .int a3] S V L (some (.int r0)) S V L := by
  refine jM_of (plainFor_of_name (by decide)) TC_ok hI (Nat.le_of_ble_eq_true rfl) ?_
  intro p e s m args below meth c C hr hlk
  refine j_lv (lv2 := [(0, .int a1), (1, .int a2), (2, .int a3)]) rfl ?_
  unfold fX8_joined at h
  refine j_iload_n C 0 rfl dX8_joined_0 rfl ?_
  by_cases c1 : a1 = (1 : Int32)
  · have h := (if_pos c1).symm.trans h
    refine j_tableIn (tgt := 48) C dX8_joined_1 (by rw [c1]; decide) (by rw [c1]; decide) (by rw [c1]; rfl) (by decide) ?_
    refine j_iload_n C 1 rfl dX8_joined_48 rfl ?_
    refine j_if_ne (tgt := 56) C dX8_joined_49 (by decide) (fun c2 => ?_) (fun c2 => ?_)
    · have h := (if_neg c2).symm.trans h
      refine j_iconst C dX8_joined_56 ci_1 ?_
      refine j_goto (tgt := 61) C dX8_joined_57 (by decide) ?_
      cases h
      exact j_iret C hr hlk rfl dX8_joined_61
    · have h := (if_pos c2).symm.trans h
      refine j_iload_n C 2 rfl dX8_joined_52 rfl ?_
      refine j_if_eq (tgt := 60) C dX8_joined_53 (by decide) (fun c3 => ?_) (fun c3 => ?_)
      · have h := (if_pos c3).symm.trans h
        refine j_iconst C dX8_joined_60 ci_0 ?_
        cases h
        exact j_iret C hr hlk rfl dX8_joined_61
      · have h := (if_neg c3).symm.trans h
        refine j_iconst C dX8_joined_56 ci_1 ?_
        refine j_goto (tgt := 61) C dX8_joined_57 (by decide) ?_
        cases h
        exact j_iret C hr hlk rfl dX8_joined_61
  have h := (if_neg c1).symm.trans h
  have n_c1 := ne_toInt (z := 1) (by decide) c1
  by_cases c4 : a1 = (2 : Int32)
  · have h := (if_pos c4).symm.trans h
    refine j_tableIn (tgt := 62) C dX8_joined_1 (by rw [c4]; decide) (by rw [c4]; decide) (by rw [c4]; rfl) (by decide) ?_
    refine j_iload_n C 1 rfl dX8_joined_62 rfl ?_
    refine j_if_eq (tgt := 74) C dX8_joined_63 (by decide) (fun c5 => ?_) (fun c5 => ?_)
    · have h := (if_pos c5).symm.trans h
      refine j_iconst C dX8_joined_74 ci_0 ?_
      cases h
      exact j_iret C hr hlk rfl dX8_joined_75
    · have h := (if_neg c5).symm.trans h
      refine j_iload_n C 2 rfl dX8_joined_66 rfl ?_
      refine j_if_eq (tgt := 74) C dX8_joined_67 (by decide) (fun c6 => ?_) (fun c6 => ?_)
      · have h := (if_pos c6).symm.trans h
        refine j_iconst C dX8_joined_74 ci_0 ?_
        cases h
        exact j_iret C hr hlk rfl dX8_joined_75
      · have h := (if_neg c6).symm.trans h
        refine j_iconst C dX8_joined_70 ci_1 ?_
        refine j_goto (tgt := 75) C dX8_joined_71 (by decide) ?_
        cases h
        exact j_iret C hr hlk rfl dX8_joined_75
  have h := (if_neg c4).symm.trans h
  have n_c4 := ne_toInt (z := 2) (by decide) c4
  by_cases c7 : a1 = (3 : Int32)
  · have h := (if_pos c7).symm.trans h
    refine j_tableIn (tgt := 110) C dX8_joined_1 (by rw [c7]; decide) (by rw [c7]; decide) (by rw [c7]; rfl) (by decide) ?_
    refine j_iload_n C 2 rfl dX8_joined_110 rfl ?_
    refine j_if_ne (tgt := 118) C dX8_joined_111 (by decide) (fun c8 => ?_) (fun c8 => ?_)
    · have h := (if_neg c8).symm.trans h
      refine j_iload_n C 1 rfl dX8_joined_118 rfl ?_
      refine j_iload_n C 2 rfl dX8_joined_119 rfl ?_
      obtain ⟨g9, h⟩ := gd_elim h
      refine j_idiv C dX8_joined_120 (nz_ne g9) ?_
      cases h
      exact j_iret C hr hlk rfl dX8_joined_121
    · have h := (if_pos c8).symm.trans h
      refine j_iconst C dX8_joined_114 ci_0 ?_
      refine j_goto (tgt := 121) C dX8_joined_115 (by decide) ?_
      cases h
      exact j_iret C hr hlk rfl dX8_joined_121
  have h := (if_neg c7).symm.trans h
  have n_c7 := ne_toInt (z := 3) (by decide) c7
  by_cases c10 : a1 = (4 : Int32)
  · have h := (if_pos c10).symm.trans h
    refine j_tableIn (tgt := 76) C dX8_joined_1 (by rw [c10]; decide) (by rw [c10]; decide) (by rw [c10]; rfl) (by decide) ?_
    refine j_iload_n C 1 rfl dX8_joined_76 rfl ?_
    refine j_iload_n C 2 rfl dX8_joined_77 rfl ?_
    refine j_icmp_ge (tgt := 85) C dX8_joined_78 (by decide) (fun c11 => ?_) (fun c11 => ?_)
    · have h := (if_pos c11).symm.trans h
      refine j_iconst C dX8_joined_85 ci_0 ?_
      cases h
      exact j_iret C hr hlk rfl dX8_joined_86
    · have h := (if_neg c11).symm.trans h
      refine j_iconst C dX8_joined_81 ci_1 ?_
      refine j_goto (tgt := 86) C dX8_joined_82 (by decide) ?_
      cases h
      exact j_iret C hr hlk rfl dX8_joined_86
  have h := (if_neg c10).symm.trans h
  have n_c10 := ne_toInt (z := 4) (by decide) c10
  by_cases c12 : a1 = (5 : Int32)
  · have h := (if_pos c12).symm.trans h
    refine j_tableIn (tgt := 87) C dX8_joined_1 (by rw [c12]; decide) (by rw [c12]; decide) (by rw [c12]; rfl) (by decide) ?_
    refine j_iload_n C 1 rfl dX8_joined_87 rfl ?_
    refine j_iload_n C 2 rfl dX8_joined_88 rfl ?_
    refine j_icmp_ne (tgt := 96) C dX8_joined_89 (by decide) (fun c13 => ?_) (fun c13 => ?_)
    · have h := (if_neg c13).symm.trans h
      refine j_iconst C dX8_joined_96 ci_0 ?_
      cases h
      exact j_iret C hr hlk rfl dX8_joined_97
    · have h := (if_pos c13).symm.trans h
      refine j_iconst C dX8_joined_92 ci_1 ?_
      refine j_goto (tgt := 97) C dX8_joined_93 (by decide) ?_
      cases h
      exact j_iret C hr hlk rfl dX8_joined_97
  have h := (if_neg c12).symm.trans h
  have n_c12 := ne_toInt (z := 5) (by decide) c12
  by_cases c14 : a1 = (6 : Int32)
  · have h := (if_pos c14).symm.trans h
    refine j_tableIn (tgt := 98) C dX8_joined_1 (by rw [c14]; decide) (by rw [c14]; decide) (by rw [c14]; rfl) (by decide) ?_
    refine j_iload_n C 1 rfl dX8_joined_98 rfl ?_
    refine j_iload_n C 2 rfl dX8_joined_99 rfl ?_
    refine j_iadd C dX8_joined_100 ?_
    cases h
    exact j_iret C hr hlk rfl dX8_joined_101
  have h := (if_neg c14).symm.trans h
  have n_c14 := ne_toInt (z := 6) (by decide) c14
  by_cases c15 : a1 = (7 : Int32)
  · have h := (if_pos c15).symm.trans h
    refine j_tableIn (tgt := 102) C dX8_joined_1 (by rw [c15]; decide) (by rw [c15]; decide) (by rw [c15]; rfl) (by decide) ?_
    refine j_iload_n C 1 rfl dX8_joined_102 rfl ?_
    refine j_iload_n C 2 rfl dX8_joined_103 rfl ?_
    refine j_isub C dX8_joined_104 ?_
    cases h
    exact j_iret C hr hlk rfl dX8_joined_105
  have h := (if_neg c15).symm.trans h
  have n_c15 := ne_toInt (z := 7) (by decide) c15
  by_cases c16 : a1 = (8 : Int32)
  · have h := (if_pos c16).symm.trans h
    refine j_tableIn (tgt := 106) C dX8_joined_1 (by rw [c16]; decide) (by rw [c16]; decide) (by rw [c16]; rfl) (by decide) ?_
    refine j_iload_n C 1 rfl dX8_joined_106 rfl ?_
    refine j_iload_n C 2 rfl dX8_joined_107 rfl ?_
    refine j_imul C dX8_joined_108 ?_
    cases h
    exact j_iret C hr hlk rfl dX8_joined_109
  have h := (if_neg c16).symm.trans h
  have n_c16 := ne_toInt (z := 8) (by decide) c16
  refine j_tableOut (tgt := 110) C dX8_joined_1 (by omega) (by decide) ?_
  refine j_iload_n C 2 rfl dX8_joined_110 rfl ?_
  refine j_if_ne (tgt := 118) C dX8_joined_111 (by decide) (fun c17 => ?_) (fun c17 => ?_)
  · have h := (if_neg c17).symm.trans h
    refine j_iload_n C 1 rfl dX8_joined_118 rfl ?_
    refine j_iload_n C 2 rfl dX8_joined_119 rfl ?_
    obtain ⟨g18, h⟩ := gd_elim h
    refine j_idiv C dX8_joined_120 (nz_ne g18) ?_
    cases h
    exact j_iret C hr hlk rfl dX8_joined_121
  · have h := (if_pos c17).symm.trans h
    refine j_iconst C dX8_joined_114 ci_0 ?_
    refine j_goto (tgt := 121) C dX8_joined_115 (by decide) ?_
    cases h
    exact j_iret C hr hlk rfl dX8_joined_121
theorem dX8_valueOf_0 : decode cX8_valueOf 0 = .ok (.iconst 0, 1) := by decide +kernel
theorem dX8_valueOf_1 : decode cX8_valueOf 1 = .ok (.istore_n 3, 1) := by decide +kernel
theorem dX8_valueOf_2 : decode cX8_valueOf 2 = .ok (.iload_n 1, 1) := by decide +kernel
theorem dX8_valueOf_3 : decode cX8_valueOf 3 = .ok (.istore 4, 2) := by decide +kernel
theorem dX8_valueOf_5 : decode cX8_valueOf 5 = .ok (.iload 4, 2) := by decide +kernel
theorem dX8_valueOf_7 : decode cX8_valueOf 7 = .ok (.iload_n 2, 1) := by decide +kernel
theorem dX8_valueOf_8 : decode cX8_valueOf 8 = .ok (.if_icmp .ge 149, 3) := by decide +kernel
theorem dX8_valueOf_11 : decode cX8_valueOf 11 = .ok (.aload_n 0, 1) := by decide +kernel
theorem dX8_valueOf_12 : decode cX8_valueOf 12 = .ok (.getfield 16, 3) := by decide +kernel
theorem dX8_valueOf_15 : decode cX8_valueOf 15 = .ok (.getfield 37, 3) := by decide +kernel
theorem dX8_valueOf_18 : decode cX8_valueOf 18 = .ok (.iload 4, 2) := by decide +kernel
theorem dX8_valueOf_20 : decode cX8_valueOf 20 = .ok (.iaload, 1) := by decide +kernel
theorem dX8_valueOf_21 : decode cX8_valueOf 21 = .ok (.istore 5, 2) := by decide +kernel
theorem dX8_valueOf_23 : decode cX8_valueOf 23 = .ok (.iload 5, 2) := by decide +kernel
theorem dX8_valueOf_25 : decode cX8_valueOf 25 = .ok (.sipush 20000, 3) := by decide +kernel
theorem dX8_valueOf_28 : decode cX8_valueOf 28 = .ok (.if_icmp .ge 45, 3) := by decide +kernel
theorem dX8_valueOf_31 : decode cX8_valueOf 31 = .ok (.iload_n 3, 1) := by decide +kernel
theorem dX8_valueOf_32 : decode cX8_valueOf 32 = .ok (.bipush 40, 2) := by decide +kernel
theorem dX8_valueOf_34 : decode cX8_valueOf 34 = .ok (.if_icmp .ge 117, 3) := by decide +kernel
theorem dX8_valueOf_37 : decode cX8_valueOf 37 = .ok (.aload_n 0, 1) := by decide +kernel
theorem dX8_valueOf_38 : decode cX8_valueOf 38 = .ok (.getfield 13, 3) := by decide +kernel
theorem dX8_valueOf_41 : decode cX8_valueOf 41 = .ok (.iload_n 3, 1) := by decide +kernel
theorem dX8_valueOf_42 : decode cX8_valueOf 42 = .ok (.iload 5, 2) := by decide +kernel
theorem dX8_valueOf_44 : decode cX8_valueOf 44 = .ok (.sipush 10000, 3) := by decide +kernel
theorem dX8_valueOf_47 : decode cX8_valueOf 47 = .ok (.if_icmp .ge 8, 3) := by decide +kernel
theorem dX8_valueOf_50 : decode cX8_valueOf 50 = .ok (.iload 5, 2) := by decide +kernel
theorem dX8_valueOf_52 : decode cX8_valueOf 52 = .ok (.goto 14, 3) := by decide +kernel
theorem dX8_valueOf_55 : decode cX8_valueOf 55 = .ok (.aload_n 0, 1) := by decide +kernel
theorem dX8_valueOf_56 : decode cX8_valueOf 56 = .ok (.getfield 7, 3) := by decide +kernel
theorem dX8_valueOf_59 : decode cX8_valueOf 59 = .ok (.iload 5, 2) := by decide +kernel
theorem dX8_valueOf_61 : decode cX8_valueOf 61 = .ok (.sipush 10000, 3) := by decide +kernel
theorem dX8_valueOf_64 : decode cX8_valueOf 64 = .ok (.isub, 1) := by decide +kernel
theorem dX8_valueOf_65 : decode cX8_valueOf 65 = .ok (.iaload, 1) := by decide +kernel
theorem dX8_valueOf_66 : decode cX8_valueOf 66 = .ok (.iastore, 1) := by decide +kernel
theorem dX8_valueOf_67 : decode cX8_valueOf 67 = .ok (.iinc 3 1, 3) := by decide +kernel
theorem dX8_valueOf_70 : decode cX8_valueOf 70 = .ok (.goto 81, 3) := by decide +kernel
theorem dX8_valueOf_73 : decode cX8_valueOf 73 = .ok (.iload 5, 2) := by decide +kernel
theorem dX8_valueOf_75 : decode cX8_valueOf 75 = .ok (.sipush 20003, 3) := by decide +kernel
theorem dX8_valueOf_78 : decode cX8_valueOf 78 = .ok (.if_icmp .ne 34, 3) := by decide +kernel
theorem dX8_valueOf_81 : decode cX8_valueOf 81 = .ok (.iload_n 3, 1) := by decide +kernel
theorem dX8_valueOf_82 : decode cX8_valueOf 82 = .ok (.ifCond .le 69, 3) := by decide +kernel
theorem dX8_valueOf_85 : decode cX8_valueOf 85 = .ok (.aload_n 0, 1) := by decide +kernel
theorem dX8_valueOf_86 : decode cX8_valueOf 86 = .ok (.getfield 13, 3) := by decide +kernel
theorem dX8_valueOf_89 : decode cX8_valueOf 89 = .ok (.iload_n 3, 1) := by decide +kernel
theorem dX8_valueOf_90 : decode cX8_valueOf 90 = .ok (.iconst 1, 1) := by decide +kernel
theorem dX8_valueOf_91 : decode cX8_valueOf 91 = .ok (.isub, 1) := by decide +kernel
theorem dX8_valueOf_92 : decode cX8_valueOf 92 = .ok (.aload_n 0, 1) := by decide +kernel
theorem dX8_valueOf_93 : decode cX8_valueOf 93 = .ok (.getfield 13, 3) := by decide +kernel
theorem dX8_valueOf_96 : decode cX8_valueOf 96 = .ok (.iload_n 3, 1) := by decide +kernel
theorem dX8_valueOf_97 : decode cX8_valueOf 97 = .ok (.iconst 1, 1) := by decide +kernel
theorem dX8_valueOf_98 : decode cX8_valueOf 98 = .ok (.isub, 1) := by decide +kernel
theorem dX8_valueOf_99 : decode cX8_valueOf 99 = .ok (.iaload, 1) := by decide +kernel
theorem dX8_valueOf_100 : decode cX8_valueOf 100 = .ok (.ifCond .ne 7, 3) := by decide +kernel
theorem dX8_valueOf_103 : decode cX8_valueOf 103 = .ok (.iconst 1, 1) := by decide +kernel
theorem dX8_valueOf_104 : decode cX8_valueOf 104 = .ok (.goto 4, 3) := by decide +kernel
theorem dX8_valueOf_107 : decode cX8_valueOf 107 = .ok (.iconst 0, 1) := by decide +kernel
theorem dX8_valueOf_108 : decode cX8_valueOf 108 = .ok (.iastore, 1) := by decide +kernel
theorem dX8_valueOf_109 : decode cX8_valueOf 109 = .ok (.goto 42, 3) := by decide +kernel
theorem dX8_valueOf_112 : decode cX8_valueOf 112 = .ok (.iload_n 3, 1) := by decide +kernel
theorem dX8_valueOf_113 : decode cX8_valueOf 113 = .ok (.iconst 1, 1) := by decide +kernel
theorem dX8_valueOf_114 : decode cX8_valueOf 114 = .ok (.if_icmp .le 37, 3) := by decide +kernel
theorem dX8_valueOf_117 : decode cX8_valueOf 117 = .ok (.iinc 3 (-1), 3) := by decide +kernel
theorem dX8_valueOf_120 : decode cX8_valueOf 120 = .ok (.aload_n 0, 1) := by decide +kernel
theorem dX8_valueOf_121 : decode cX8_valueOf 121 = .ok (.getfield 13, 3) := by decide +kernel
theorem dX8_valueOf_124 : decode cX8_valueOf 124 = .ok (.iload_n 3, 1) := by decide +kernel
theorem dX8_valueOf_125 : decode cX8_valueOf 125 = .ok (.iconst 1, 1) := by decide +kernel
theorem dX8_valueOf_126 : decode cX8_valueOf 126 = .ok (.isub, 1) := by decide +kernel
theorem dX8_valueOf_127 : decode cX8_valueOf 127 = .ok (.iload 5, 2) := by decide +kernel
theorem dX8_valueOf_129 : decode cX8_valueOf 129 = .ok (.sipush 20000, 3) := by decide +kernel
theorem dX8_valueOf_132 : decode cX8_valueOf 132 = .ok (.isub, 1) := by decide +kernel
theorem dX8_valueOf_133 : decode cX8_valueOf 133 = .ok (.aload_n 0, 1) := by decide +kernel
theorem dX8_valueOf_134 : decode cX8_valueOf 134 = .ok (.getfield 13, 3) := by decide +kernel
theorem dX8_valueOf_137 : decode cX8_valueOf 137 = .ok (.iload_n 3, 1) := by decide +kernel
theorem dX8_valueOf_138 : decode cX8_valueOf 138 = .ok (.iconst 1, 1) := by decide +kernel
theorem dX8_valueOf_139 : decode cX8_valueOf 139 = .ok (.isub, 1) := by decide +kernel
theorem dX8_valueOf_140 : decode cX8_valueOf 140 = .ok (.iaload, 1) := by decide +kernel
theorem dX8_valueOf_141 : decode cX8_valueOf 141 = .ok (.aload_n 0, 1) := by decide +kernel
theorem dX8_valueOf_142 : decode cX8_valueOf 142 = .ok (.getfield 13, 3) := by decide +kernel
theorem dX8_valueOf_145 : decode cX8_valueOf 145 = .ok (.iload_n 3, 1) := by decide +kernel
theorem dX8_valueOf_146 : decode cX8_valueOf 146 = .ok (.iaload, 1) := by decide +kernel
theorem dX8_valueOf_147 : decode cX8_valueOf 147 = .ok (.invokestatic 42, 3) := by decide +kernel
theorem dX8_valueOf_150 : decode cX8_valueOf 150 = .ok (.iastore, 1) := by decide +kernel
theorem dX8_valueOf_151 : decode cX8_valueOf 151 = .ok (.iinc 4 1, 3) := by decide +kernel
theorem dX8_valueOf_154 : decode cX8_valueOf 154 = .ok (.goto (-149), 3) := by decide +kernel
theorem dX8_valueOf_157 : decode cX8_valueOf 157 = .ok (.aload_n 0, 1) := by decide +kernel
theorem dX8_valueOf_158 : decode cX8_valueOf 158 = .ok (.getfield 13, 3) := by decide +kernel
theorem dX8_valueOf_161 : decode cX8_valueOf 161 = .ok (.iconst 0, 1) := by decide +kernel
theorem dX8_valueOf_162 : decode cX8_valueOf 162 = .ok (.iaload, 1) := by decide +kernel
theorem dX8_valueOf_163 : decode cX8_valueOf 163 = .ok (.ireturn, 1) := by decide +kernel
def fX8_valueOf_27_L5 (E157 : (Nat → Nat → Int32) → Option (Int32 × (Nat → Nat → Int32))) : Nat → Int32 → Int32 → Int32 → (Nat → Nat → Int32) → Option (Int32 × (Nat → Nat → Int32))
  | 0, _, _, _, _ => none
  | n + 1, x1, x2, x3, V4 =>
    (if x1 ≤ x3 then
    E157 V4
    else
    gd (ib x3 600) (
    lt ((V4 9 (x3).toNatClampNeg)) (fun x7 =>
    bk (fun (x9 : Int32) (x10 : Int32) (x11 : Int32) (V12 : Nat → Nat → Int32) =>
    lt (x11 + (1 : Int32)) (fun x13 =>
    fX8_valueOf_27_L5 E157 n x9 x10 x13 V12)) (fun K151_8 =>
    (if (20000 : Int32) ≤ x7 then
    (if x7 = (20003 : Int32) then
    (if x2 ≤ 0 then
    K151_8 x1 x2 x3 V4
    else
    lt ((x2 - (1 : Int32))) (fun x27 =>
    gd (ib x27 40) (
    bk (fun (x30 : Int32) (x31 : Int32) (x32 : Int32) (x33 : Int32) (x34 : Int32) (V35 : Nat → Nat → Int32) =>
    gd (ib x34 40) (
    lt (va_up V35 29 (upd (V35 29) (x34).toNatClampNeg x33)) (fun V37 =>
    K151_8 x30 x31 x32 V37))) (fun K108_29 =>
    (if (V4 29 (x27).toNatClampNeg) = 0 then
    K108_29 x1 x2 x3 (1 : Int32) ((x2 - (1 : Int32))) V4
    else
    K108_29 x1 x2 x3 (0 : Int32) ((x2 - (1 : Int32))) V4)))))
    else
    (if x2 ≤ (1 : Int32) then
    K151_8 x1 x2 x3 V4
    else
    lt (x2 + (-1 : Int32)) (fun x17 =>
    lt ((x17 - (1 : Int32))) (fun x18 =>
    gd (ib x18 40) (
    gd (ib x17 40) (
    bd1 (fX8_joined ((x7 - (20000 : Int32))) ((V4 29 (x18).toNatClampNeg)) ((V4 29 (x17).toNatClampNeg))) (fun r21 =>
    lt ((x17 - (1 : Int32))) (fun x23 =>
    gd (ib x23 40) (
    lt (va_up V4 29 (upd (V4 29) (x23).toNatClampNeg r21)) (fun V25 =>
    K151_8 x1 x17 x3 V25))))))))))
    else
    (if (40 : Int32) ≤ x2 then
    K151_8 x1 x2 x3 V4
    else
    bk (fun (x41 : Int32) (x42 : Int32) (x43 : Int32) (x44 : Int32) (x45 : Int32) (V46 : Nat → Nat → Int32) =>
    gd (ib x45 40) (
    lt (va_up V46 29 (upd (V46 29) (x45).toNatClampNeg x44)) (fun V48 =>
    lt (x42 + (1 : Int32)) (fun x49 =>
    K151_8 x41 x49 x43 V48)))) (fun K66_40 =>
    (if (10000 : Int32) ≤ x7 then
    lt ((x7 - (10000 : Int32))) (fun x51 =>
    gd (ib x51 6) (
    K66_40 x1 x2 x3 ((V4 28 (x51).toNatClampNeg)) x2 V4))
    else
    K66_40 x1 x2 x3 x7 x2 V4))))))))
def fX8_valueOf_27 (V : Nat → Nat → Int32) (a1 : Int32) (a2 : Int32) : Option (Int32 × (Nat → Nat → Int32)) :=
  bk (fun (V55 : Nat → Nat → Int32) =>
  gd (ib (0 : Int32) 40) (
  some ((V55 29 ((0 : Int32)).toNatClampNeg), V55))) (fun X157_54 =>
  fX8_valueOf_27_L5 X157_54 FU a2 (0 : Int32) a1 V)
set_option maxHeartbeats 4000000 in
set_option maxRecDepth 100000 in
theorem kX8_valueOf_27 (l : Launch) (B : jBT) (D : va_G) (ad : Nat → Nat) (cA : Nat → ClassId) (hI : jI ad TC) (S : Nat → Int32) (V : Nat → Nat → Int32) (L : Nat → Int64) (a1 : Int32) (a2 : Int32) (r0 : Int32) (V0 : Nat → Nat → Int32) (h : fX8_valueOf_27 V a1 a2 = some (r0, V0)) : jM l yX8_valueOf cX8_valueOf 6 (some .int) ({ frames := 1, cells := 0, slots := 0, locals := 22 }) B D TC ad cA [.ref (ad 27), .int a1, .int a2] S V L (some (.int r0)) S V0 L := by
  refine jM_of (plainFor_of_name (by decide)) TC_ok hI (Nat.le_of_ble_eq_true rfl) ?_
  intro p e s m args below meth c C hr hlk
  refine j_lv (lv2 := [(0, .ref (ad 27)), (1, .int a1), (2, .int a2)]) rfl ?_
  unfold fX8_valueOf_27 at h
  have H_fX8_valueOf_27_L5 : ∀ (E157 : (Nat → Nat → Int32) → Option (Int32 × (Nat → Nat → Int32))) (_ : ∀ (V53 : Nat → Nat → Int32), E157 V53 = some (r0, V0) → jW p l e ({ frames := 1, cells := 0, slots := 0, locals := 22 }) s m args below meth c (MQ below (jQc D TC ad cA (some (.int r0)) s.heap.size S V0 L) args s 0 0 (jA ad TC s.heap.size)) D TC ad cA (jA ad TC s.heap.size) 6 0 0 157 [(0, .ref (ad 27))] [] S V53 L) (n : Nat) (x1 : Int32) (x2 : Int32) (x3 : Int32) (V4 : Nat → Nat → Int32), fX8_valueOf_27_L5 E157 n x1 x2 x3 V4 = some (r0, V0) → jW p l e ({ frames := 1, cells := 0, slots := 0, locals := 22 }) s m args below meth c (MQ below (jQc D TC ad cA (some (.int r0)) s.heap.size S V0 L) args s 0 0 (jA ad TC s.heap.size)) D TC ad cA (jA ad TC s.heap.size) 6 0 0 5 [(0, .ref (ad 27)), (2, .int x1), (3, .int x2), (4, .int x3)] [] S V4 L := by
    intro E157 HE157
    intro n
    induction n with
    | zero =>
      intro x1 x2 x3 V4 h
      cases (show (none : Option (Int32 × (Nat → Nat → Int32))) = some (r0, V0) from h)
    | succ n ih =>
      intro x1 x2 x3 V4 h
      unfold fX8_valueOf_27_L5 at h
      refine j_iload C 3 rfl dX8_valueOf_5 ?_
      refine j_iload_n C 1 rfl dX8_valueOf_7 rfl ?_
      refine j_icmp_ge (tgt := 157) C dX8_valueOf_8 (by decide) (fun c5 => ?_) (fun c5 => ?_)
      · have h := (if_pos c5).symm.trans h
        exact j_sub [0] rfl (HE157 _ h)
      · have h := (if_neg c5).symm.trans h
        refine j_aload_n C 0 rfl dX8_valueOf_11 rfl ?_
        refine fg_X8_16_TC_27 C dX8_valueOf_12 ?_
        refine fg_X8_37_TC_3 C dX8_valueOf_15 ?_
        refine j_iload C 3 rfl dX8_valueOf_18 ?_
        obtain ⟨g6, h⟩ := gd_elim h
        refine j_iald C tc_9 (ib_in g6) dX8_valueOf_20 ?_
        refine lt_elim h (fun x7 e_x7 h => ?_)
        refine j_top e_x7 ?_
        refine j_istore C [(5, .int x7), (0, .ref (ad 27)), (2, .int x1), (3, .int x2), (4, .int x3)] dX8_valueOf_21 (by decide) rfl ?_
        refine j_iload C 0 rfl dX8_valueOf_23 ?_
        refine j_sipush C dX8_valueOf_25 cs_20000 ?_
        refine bk_elim h (fun K151_8 e_K151_8 h => ?_)
        have HK151_8 : ∀ (x9 : Int32) (x10 : Int32) (x11 : Int32) (V12 : Nat → Nat → Int32), K151_8 x9 x10 x11 V12 = some (r0, V0) → jW p l e ({ frames := 1, cells := 0, slots := 0, locals := 22 }) s m args below meth c (MQ below (jQc D TC ad cA (some (.int r0)) s.heap.size S V0 L) args s 0 0 (jA ad TC s.heap.size)) D TC ad cA (jA ad TC s.heap.size) 6 0 0 151 [(0, .ref (ad 27)), (2, .int x9), (3, .int x10), (4, .int x11)] [] S V12 L := by
          subst e_K151_8
          intro x9 x10 x11 V12 h
          refine lt_elim h (fun x13 e_x13 h => ?_)
          refine j_iinc C [(4, .int x13), (0, .ref (ad 27)), (2, .int x9), (3, .int x10)] 3 dX8_valueOf_151 rfl ((iinc_eq ci_1).trans e_x13.symm) (by decide) rfl ?_
          refine j_goto (tgt := 5) C dX8_valueOf_154 (by decide) ?_
          exact j_sub [1, 2, 3, 0] rfl (ih _ _ _ _ h)
        refine j_icmp_ge (tgt := 73) C dX8_valueOf_28 (by decide) (fun c14 => ?_) (fun c14 => ?_)
        · have h := (if_pos c14).symm.trans h
          refine j_iload C 0 rfl dX8_valueOf_73 ?_
          refine j_sipush C dX8_valueOf_75 cs_20003 ?_
          refine j_icmp_ne (tgt := 112) C dX8_valueOf_78 (by decide) (fun c15 => ?_) (fun c15 => ?_)
          · have h := (if_neg c15).symm.trans h
            refine j_iload_n C 3 rfl dX8_valueOf_112 rfl ?_
            refine j_iconst C dX8_valueOf_113 ci_1 ?_
            refine j_icmp_le (tgt := 151) C dX8_valueOf_114 (by decide) (fun c16 => ?_) (fun c16 => ?_)
            · have h := (if_pos c16).symm.trans h
              exact j_sub [1, 2, 3, 4] rfl (HK151_8 _ _ _ _ h)
            · have h := (if_neg c16).symm.trans h
              refine lt_elim h (fun x17 e_x17 h => ?_)
              refine j_iinc C [(3, .int x17), (5, .int x7), (0, .ref (ad 27)), (2, .int x1), (4, .int x3)] 3 dX8_valueOf_117 rfl ((iinc_eq ci_m1).trans e_x17.symm) (by decide) rfl ?_
              refine j_aload_n C 2 rfl dX8_valueOf_120 rfl ?_
              refine fg_X8_13_TC_27 C dX8_valueOf_121 ?_
              refine j_iload_n C 0 rfl dX8_valueOf_124 rfl ?_
              refine j_iconst C dX8_valueOf_125 ci_1 ?_
              refine j_isub C dX8_valueOf_126 ?_
              refine j_iload C 1 rfl dX8_valueOf_127 ?_
              refine j_sipush C dX8_valueOf_129 cs_20000 ?_
              refine j_isub C dX8_valueOf_132 ?_
              refine j_aload_n C 2 rfl dX8_valueOf_133 rfl ?_
              refine fg_X8_13_TC_27 C dX8_valueOf_134 ?_
              refine j_iload_n C 0 rfl dX8_valueOf_137 rfl ?_
              refine j_iconst C dX8_valueOf_138 ci_1 ?_
              refine j_isub C dX8_valueOf_139 ?_
              refine lt_elim h (fun x18 e_x18 h => ?_)
              refine j_top e_x18 ?_
              obtain ⟨g19, h⟩ := gd_elim h
              refine j_iald C tc_29 (ib_in g19) dX8_valueOf_140 ?_
              refine j_aload_n C 2 rfl dX8_valueOf_141 rfl ?_
              refine fg_X8_13_TC_27 C dX8_valueOf_142 ?_
              refine j_iload_n C 0 rfl dX8_valueOf_145 rfl ?_
              obtain ⟨g20, h⟩ := gd_elim h
              refine j_iald C tc_29 (ib_in g20) dX8_valueOf_146 ?_
              obtain ⟨r21, h22, h⟩ := bd1_elim h
              refine j_callS (As := [.int (x7 - (20000 : Int32)), .int (V4 29 (x18).toNatClampNeg), .int (V4 29 (x17).toNatClampNeg)]) (rest := [.int (x17 - (1 : Int32)), .ref (ad 29)]) C (kX8_joined l B D ad cA hI S V4 L ((x7 - (20000 : Int32))) ((V4 29 (x18).toNatClampNeg)) ((V4 29 (x17).toNatClampNeg)) _ h22) mw_X8_joined wd633 wd632 ⟨rfl, rfl, by decide, by decide⟩ ⟨Nat.zero_le _, Nat.zero_le _⟩ rfl rfl (Nat.le_of_ble_eq_true rfl) dX8_valueOf_147 ?_
              refine lt_elim h (fun x23 e_x23 h => ?_)
              refine j_top2 e_x23 ?_
              obtain ⟨g24, h⟩ := gd_elim h
              refine j_iast C tc_29 (ib_in g24) dX8_valueOf_150 ?_
              refine lt_elim h (fun V25 e_V25 h => ?_)
              refine j_V e_V25 ?_
              exact j_sub [2, 3, 0, 4] rfl (HK151_8 _ _ _ _ h)
          · have h := (if_pos c15).symm.trans h
            refine j_iload_n C 3 rfl dX8_valueOf_81 rfl ?_
            refine j_if_le (tgt := 151) C dX8_valueOf_82 (by decide) (fun c26 => ?_) (fun c26 => ?_)
            · have h := (if_pos c26).symm.trans h
              exact j_sub [1, 2, 3, 4] rfl (HK151_8 _ _ _ _ h)
            · have h := (if_neg c26).symm.trans h
              refine j_aload_n C 1 rfl dX8_valueOf_85 rfl ?_
              refine fg_X8_13_TC_27 C dX8_valueOf_86 ?_
              refine j_iload_n C 3 rfl dX8_valueOf_89 rfl ?_
              refine j_iconst C dX8_valueOf_90 ci_1 ?_
              refine j_isub C dX8_valueOf_91 ?_
              refine j_aload_n C 1 rfl dX8_valueOf_92 rfl ?_
              refine fg_X8_13_TC_27 C dX8_valueOf_93 ?_
              refine j_iload_n C 3 rfl dX8_valueOf_96 rfl ?_
              refine j_iconst C dX8_valueOf_97 ci_1 ?_
              refine j_isub C dX8_valueOf_98 ?_
              refine lt_elim h (fun x27 e_x27 h => ?_)
              refine j_top e_x27 ?_
              obtain ⟨g28, h⟩ := gd_elim h
              refine j_iald C tc_29 (ib_in g28) dX8_valueOf_99 ?_
              refine bk_elim h (fun K108_29 e_K108_29 h => ?_)
              have HK108_29 : ∀ (x30 : Int32) (x31 : Int32) (x32 : Int32) (x33 : Int32) (x34 : Int32) (V35 : Nat → Nat → Int32), K108_29 x30 x31 x32 x33 x34 V35 = some (r0, V0) → jW p l e ({ frames := 1, cells := 0, slots := 0, locals := 22 }) s m args below meth c (MQ below (jQc D TC ad cA (some (.int r0)) s.heap.size S V0 L) args s 0 0 (jA ad TC s.heap.size)) D TC ad cA (jA ad TC s.heap.size) 6 0 0 108 [(0, .ref (ad 27)), (2, .int x30), (3, .int x31), (4, .int x32)] [.int x33, .int x34, .ref (ad 29)] S V35 L := by
                subst e_K108_29
                intro x30 x31 x32 x33 x34 V35 h
                obtain ⟨g36, h⟩ := gd_elim h
                refine j_iast C tc_29 (ib_in g36) dX8_valueOf_108 ?_
                refine lt_elim h (fun V37 e_V37 h => ?_)
                refine j_V e_V37 ?_
                refine j_goto (tgt := 151) C dX8_valueOf_109 (by decide) ?_
                exact j_sub [0, 1, 2, 3] rfl (HK151_8 _ _ _ _ h)
              refine j_if_ne (tgt := 107) C dX8_valueOf_100 (by decide) (fun c38 => ?_) (fun c38 => ?_)
              · have h := (if_neg c38).symm.trans h
                refine j_iconst C dX8_valueOf_107 ci_0 ?_
                exact j_sub [1, 2, 3, 4] rfl (HK108_29 _ _ _ _ _ _ h)
              · have h := (if_pos c38).symm.trans h
                refine j_iconst C dX8_valueOf_103 ci_1 ?_
                refine j_goto (tgt := 108) C dX8_valueOf_104 (by decide) ?_
                exact j_sub [1, 2, 3, 4] rfl (HK108_29 _ _ _ _ _ _ h)
        · have h := (if_neg c14).symm.trans h
          refine j_iload_n C 3 rfl dX8_valueOf_31 rfl ?_
          refine j_bipush C dX8_valueOf_32 cb_40 ?_
          refine j_icmp_ge (tgt := 151) C dX8_valueOf_34 (by decide) (fun c39 => ?_) (fun c39 => ?_)
          · have h := (if_pos c39).symm.trans h
            exact j_sub [1, 2, 3, 4] rfl (HK151_8 _ _ _ _ h)
          · have h := (if_neg c39).symm.trans h
            refine j_aload_n C 1 rfl dX8_valueOf_37 rfl ?_
            refine fg_X8_13_TC_27 C dX8_valueOf_38 ?_
            refine j_iload_n C 3 rfl dX8_valueOf_41 rfl ?_
            refine j_iload C 0 rfl dX8_valueOf_42 ?_
            refine j_sipush C dX8_valueOf_44 cs_10000 ?_
            refine bk_elim h (fun K66_40 e_K66_40 h => ?_)
            have HK66_40 : ∀ (x41 : Int32) (x42 : Int32) (x43 : Int32) (x44 : Int32) (x45 : Int32) (V46 : Nat → Nat → Int32), K66_40 x41 x42 x43 x44 x45 V46 = some (r0, V0) → jW p l e ({ frames := 1, cells := 0, slots := 0, locals := 22 }) s m args below meth c (MQ below (jQc D TC ad cA (some (.int r0)) s.heap.size S V0 L) args s 0 0 (jA ad TC s.heap.size)) D TC ad cA (jA ad TC s.heap.size) 6 0 0 66 [(0, .ref (ad 27)), (2, .int x41), (3, .int x42), (4, .int x43)] [.int x44, .int x45, .ref (ad 29)] S V46 L := by
              subst e_K66_40
              intro x41 x42 x43 x44 x45 V46 h
              obtain ⟨g47, h⟩ := gd_elim h
              refine j_iast C tc_29 (ib_in g47) dX8_valueOf_66 ?_
              refine lt_elim h (fun V48 e_V48 h => ?_)
              refine j_V e_V48 ?_
              refine lt_elim h (fun x49 e_x49 h => ?_)
              refine j_iinc C [(3, .int x49), (0, .ref (ad 27)), (2, .int x41), (4, .int x43)] 2 dX8_valueOf_67 rfl ((iinc_eq ci_1).trans e_x49.symm) (by decide) rfl ?_
              refine j_goto (tgt := 151) C dX8_valueOf_70 (by decide) ?_
              exact j_sub [1, 2, 0, 3] rfl (HK151_8 _ _ _ _ h)
            refine j_icmp_ge (tgt := 55) C dX8_valueOf_47 (by decide) (fun c50 => ?_) (fun c50 => ?_)
            · have h := (if_pos c50).symm.trans h
              refine j_aload_n C 1 rfl dX8_valueOf_55 rfl ?_
              refine fg_X8_7_TC_27 C dX8_valueOf_56 ?_
              refine j_iload C 0 rfl dX8_valueOf_59 ?_
              refine j_sipush C dX8_valueOf_61 cs_10000 ?_
              refine j_isub C dX8_valueOf_64 ?_
              refine lt_elim h (fun x51 e_x51 h => ?_)
              refine j_top e_x51 ?_
              obtain ⟨g52, h⟩ := gd_elim h
              refine j_iald C tc_28 (ib_in g52) dX8_valueOf_65 ?_
              exact j_sub [1, 2, 3, 4] rfl (HK66_40 _ _ _ _ _ _ h)
            · have h := (if_neg c50).symm.trans h
              refine j_iload C 0 rfl dX8_valueOf_50 ?_
              refine j_goto (tgt := 66) C dX8_valueOf_52 (by decide) ?_
              exact j_sub [1, 2, 3, 4] rfl (HK66_40 _ _ _ _ _ _ h)
  refine j_iconst C dX8_valueOf_0 ci_0 ?_
  refine j_istore_n C [(3, .int (0 : Int32)), (0, .ref (ad 27)), (1, .int a1), (2, .int a2)] dX8_valueOf_1 rfl (by decide) rfl ?_
  refine j_iload_n C 2 rfl dX8_valueOf_2 rfl ?_
  refine j_istore C [(4, .int a1), (3, .int (0 : Int32)), (0, .ref (ad 27)), (1, .int a1), (2, .int a2)] dX8_valueOf_3 (by decide) rfl ?_
  refine bk_elim h (fun X157_54 e_X157_54 h => ?_)
  have HX157_54 : ∀ (V55 : Nat → Nat → Int32), X157_54 V55 = some (r0, V0) → jW p l e ({ frames := 1, cells := 0, slots := 0, locals := 22 }) s m args below meth c (MQ below (jQc D TC ad cA (some (.int r0)) s.heap.size S V0 L) args s 0 0 (jA ad TC s.heap.size)) D TC ad cA (jA ad TC s.heap.size) 6 0 0 157 [(0, .ref (ad 27))] [] S V55 L := by
    subst e_X157_54
    intro V55 h
    refine j_aload_n C 0 rfl dX8_valueOf_157 rfl ?_
    refine fg_X8_13_TC_27 C dX8_valueOf_158 ?_
    refine j_iconst C dX8_valueOf_161 ci_0 ?_
    obtain ⟨g56, h⟩ := gd_elim h
    refine j_iald C tc_29 (ib_in g56) dX8_valueOf_162 ?_
    cases h
    exact j_iret C hr hlk rfl dX8_valueOf_163
  exact j_sub [2, 4, 1, 0] rfl (H_fX8_valueOf_27_L5 _ HX157_54 FU _ _ _ _ h)
theorem dX8_holdOf_0 : decode cX8_holdOf 0 = .ok (.aload_n 0, 1) := by decide +kernel
theorem dX8_holdOf_1 : decode cX8_holdOf 1 = .ok (.getfield 7, 3) := by decide +kernel
theorem dX8_holdOf_4 : decode cX8_holdOf 4 = .ok (.iconst 0, 1) := by decide +kernel
theorem dX8_holdOf_5 : decode cX8_holdOf 5 = .ok (.aload_n 0, 1) := by decide +kernel
theorem dX8_holdOf_6 : decode cX8_holdOf 6 = .ok (.getfield 16, 3) := by decide +kernel
theorem dX8_holdOf_9 : decode cX8_holdOf 9 = .ok (.iload_n 1, 1) := by decide +kernel
theorem dX8_holdOf_10 : decode cX8_holdOf 10 = .ok (.invokevirtual 20, 3) := by decide +kernel
theorem dX8_holdOf_13 : decode cX8_holdOf 13 = .ok (.iastore, 1) := by decide +kernel
theorem dX8_holdOf_14 : decode cX8_holdOf 14 = .ok (.aload_n 0, 1) := by decide +kernel
theorem dX8_holdOf_15 : decode cX8_holdOf 15 = .ok (.getfield 7, 3) := by decide +kernel
theorem dX8_holdOf_18 : decode cX8_holdOf 18 = .ok (.iconst 1, 1) := by decide +kernel
theorem dX8_holdOf_19 : decode cX8_holdOf 19 = .ok (.iload_n 2, 1) := by decide +kernel
theorem dX8_holdOf_20 : decode cX8_holdOf 20 = .ok (.iastore, 1) := by decide +kernel
theorem dX8_holdOf_21 : decode cX8_holdOf 21 = .ok (.aload_n 0, 1) := by decide +kernel
theorem dX8_holdOf_22 : decode cX8_holdOf 22 = .ok (.getfield 7, 3) := by decide +kernel
theorem dX8_holdOf_25 : decode cX8_holdOf 25 = .ok (.iconst 2, 1) := by decide +kernel
theorem dX8_holdOf_26 : decode cX8_holdOf 26 = .ok (.iload_n 3, 1) := by decide +kernel
theorem dX8_holdOf_27 : decode cX8_holdOf 27 = .ok (.iastore, 1) := by decide +kernel
theorem dX8_holdOf_28 : decode cX8_holdOf 28 = .ok (.aload_n 0, 1) := by decide +kernel
theorem dX8_holdOf_29 : decode cX8_holdOf 29 = .ok (.getfield 7, 3) := by decide +kernel
theorem dX8_holdOf_32 : decode cX8_holdOf 32 = .ok (.iconst 3, 1) := by decide +kernel
theorem dX8_holdOf_33 : decode cX8_holdOf 33 = .ok (.iload 4, 2) := by decide +kernel
theorem dX8_holdOf_35 : decode cX8_holdOf 35 = .ok (.iastore, 1) := by decide +kernel
theorem dX8_holdOf_36 : decode cX8_holdOf 36 = .ok (.aload_n 0, 1) := by decide +kernel
theorem dX8_holdOf_37 : decode cX8_holdOf 37 = .ok (.getfield 7, 3) := by decide +kernel
theorem dX8_holdOf_40 : decode cX8_holdOf 40 = .ok (.iconst 4, 1) := by decide +kernel
theorem dX8_holdOf_41 : decode cX8_holdOf 41 = .ok (.iload 5, 2) := by decide +kernel
theorem dX8_holdOf_43 : decode cX8_holdOf 43 = .ok (.iastore, 1) := by decide +kernel
theorem dX8_holdOf_44 : decode cX8_holdOf 44 = .ok (.aload_n 0, 1) := by decide +kernel
theorem dX8_holdOf_45 : decode cX8_holdOf 45 = .ok (.getfield 7, 3) := by decide +kernel
theorem dX8_holdOf_48 : decode cX8_holdOf 48 = .ok (.iconst 5, 1) := by decide +kernel
theorem dX8_holdOf_49 : decode cX8_holdOf 49 = .ok (.iload 6, 2) := by decide +kernel
theorem dX8_holdOf_51 : decode cX8_holdOf 51 = .ok (.iastore, 1) := by decide +kernel
theorem dX8_holdOf_52 : decode cX8_holdOf 52 = .ok (.iconst 0, 1) := by decide +kernel
theorem dX8_holdOf_53 : decode cX8_holdOf 53 = .ok (.istore 7, 2) := by decide +kernel
theorem dX8_holdOf_55 : decode cX8_holdOf 55 = .ok (.iconst 0, 1) := by decide +kernel
theorem dX8_holdOf_56 : decode cX8_holdOf 56 = .ok (.istore 8, 2) := by decide +kernel
theorem dX8_holdOf_58 : decode cX8_holdOf 58 = .ok (.iload 8, 2) := by decide +kernel
theorem dX8_holdOf_60 : decode cX8_holdOf 60 = .ok (.aload_n 0, 1) := by decide +kernel
theorem dX8_holdOf_61 : decode cX8_holdOf 61 = .ok (.getfield 16, 3) := by decide +kernel
theorem dX8_holdOf_64 : decode cX8_holdOf 64 = .ok (.getfield 26, 3) := by decide +kernel
theorem dX8_holdOf_67 : decode cX8_holdOf 67 = .ok (.if_icmp .ge 42, 3) := by decide +kernel
theorem dX8_holdOf_70 : decode cX8_holdOf 70 = .ok (.aload_n 0, 1) := by decide +kernel
theorem dX8_holdOf_71 : decode cX8_holdOf 71 = .ok (.iload 7, 2) := by decide +kernel
theorem dX8_holdOf_73 : decode cX8_holdOf 73 = .ok (.aload_n 0, 1) := by decide +kernel
theorem dX8_holdOf_74 : decode cX8_holdOf 74 = .ok (.getfield 16, 3) := by decide +kernel
theorem dX8_holdOf_77 : decode cX8_holdOf 77 = .ok (.getfield 30, 3) := by decide +kernel
theorem dX8_holdOf_80 : decode cX8_holdOf 80 = .ok (.iload 8, 2) := by decide +kernel
theorem dX8_holdOf_82 : decode cX8_holdOf 82 = .ok (.iaload, 1) := by decide +kernel
theorem dX8_holdOf_83 : decode cX8_holdOf 83 = .ok (.invokevirtual 33, 3) := by decide +kernel
theorem dX8_holdOf_86 : decode cX8_holdOf 86 = .ok (.ifCond .ne 5, 3) := by decide +kernel
theorem dX8_holdOf_89 : decode cX8_holdOf 89 = .ok (.iconst 0, 1) := by decide +kernel
theorem dX8_holdOf_90 : decode cX8_holdOf 90 = .ok (.ireturn, 1) := by decide +kernel
theorem dX8_holdOf_91 : decode cX8_holdOf 91 = .ok (.aload_n 0, 1) := by decide +kernel
theorem dX8_holdOf_92 : decode cX8_holdOf 92 = .ok (.getfield 16, 3) := by decide +kernel
theorem dX8_holdOf_95 : decode cX8_holdOf 95 = .ok (.getfield 30, 3) := by decide +kernel
theorem dX8_holdOf_98 : decode cX8_holdOf 98 = .ok (.iload 8, 2) := by decide +kernel
theorem dX8_holdOf_100 : decode cX8_holdOf 100 = .ok (.iaload, 1) := by decide +kernel
theorem dX8_holdOf_101 : decode cX8_holdOf 101 = .ok (.istore 7, 2) := by decide +kernel
theorem dX8_holdOf_103 : decode cX8_holdOf 103 = .ok (.iinc 8 1, 3) := by decide +kernel
theorem dX8_holdOf_106 : decode cX8_holdOf 106 = .ok (.goto (-48), 3) := by decide +kernel
theorem dX8_holdOf_109 : decode cX8_holdOf 109 = .ok (.iconst 1, 1) := by decide +kernel
theorem dX8_holdOf_110 : decode cX8_holdOf 110 = .ok (.ireturn, 1) := by decide +kernel
def fX8_holdOf_27_L58 (S : Nat → Int32) : Nat → Int32 → Int32 → (Nat → Nat → Int32) → Option (Int32 × (Nat → Nat → Int32))
  | 0, _, _, _ => none
  | n + 1, x15, x16, V17 =>
    (if (S 306) ≤ x16 then
    some ((1 : Int32), V17)
    else
    gd (ib x16 4) (
    bd2 (fX8_valueOf_27 V17 x15 ((V17 10 (x16).toNatClampNeg))) (fun r20 V21 =>
    (if r20 = 0 then
    some ((0 : Int32), V21)
    else
    gd (ib x16 4) (
    lt ((V21 10 (x16).toNatClampNeg)) (fun x25 =>
    lt (x16 + (1 : Int32)) (fun x26 =>
    fX8_holdOf_27_L58 S n x25 x26 V21)))))))
def fX8_holdOf_27 (S : Nat → Int32) (V : Nat → Nat → Int32) (a1 : Int32) (a2 : Int32) (a3 : Int32) (a4 : Int32) (a5 : Int32) (a6 : Int32) : Option (Int32 × (Nat → Nat → Int32)) :=
  bd1 (fX2_weightOf_3 V a1) (fun r1 =>
  gd (ib (0 : Int32) 6) (
  lt (va_up V 28 (upd (V 28) ((0 : Int32)).toNatClampNeg r1)) (fun V4 =>
  gd (ib (1 : Int32) 6) (
  lt (va_up V4 28 (upd (V4 28) ((1 : Int32)).toNatClampNeg a2)) (fun V6 =>
  gd (ib (2 : Int32) 6) (
  lt (va_up V6 28 (upd (V6 28) ((2 : Int32)).toNatClampNeg a3)) (fun V8 =>
  gd (ib (3 : Int32) 6) (
  lt (va_up V8 28 (upd (V8 28) ((3 : Int32)).toNatClampNeg a4)) (fun V10 =>
  gd (ib (4 : Int32) 6) (
  lt (va_up V10 28 (upd (V10 28) ((4 : Int32)).toNatClampNeg a5)) (fun V12 =>
  gd (ib (5 : Int32) 6) (
  lt (va_up V12 28 (upd (V12 28) ((5 : Int32)).toNatClampNeg a6)) (fun V14 =>
  fX8_holdOf_27_L58 S FU (0 : Int32) (0 : Int32) V14)))))))))))))
set_option maxHeartbeats 4000000 in
set_option maxRecDepth 100000 in
theorem kX8_holdOf_27 (l : Launch) (B : jBT) (D : va_G) (ad : Nat → Nat) (cA : Nat → ClassId) (hI : jI ad TC) (S : Nat → Int32) (V : Nat → Nat → Int32) (L : Nat → Int64) (a1 : Int32) (a2 : Int32) (a3 : Int32) (a4 : Int32) (a5 : Int32) (a6 : Int32) (r0 : Int32) (V0 : Nat → Nat → Int32) (h : fX8_holdOf_27 S V a1 a2 a3 a4 a5 a6 = some (r0, V0)) : jM l yX8_holdOf cX8_holdOf 9 (some .boolean) ({ frames := 2, cells := 0, slots := 0, locals := 47 }) B D TC ad cA [.ref (ad 27), .int a1, .int a2, .int a3, .int a4, .int a5, .int a6] S V L (some (.int r0)) S V0 L := by
  refine jM_of (plainFor_of_name (by decide)) TC_ok hI (Nat.le_of_ble_eq_true rfl) ?_
  intro p e s m args below meth c C hr hlk
  refine j_lv (lv2 := [(0, .ref (ad 27)), (1, .int a1), (2, .int a2), (3, .int a3), (4, .int a4), (5, .int a5), (6, .int a6)]) rfl ?_
  unfold fX8_holdOf_27 at h
  have H_fX8_holdOf_27_L58 : ∀ (n : Nat) (x15 : Int32) (x16 : Int32) (V17 : Nat → Nat → Int32), fX8_holdOf_27_L58 S n x15 x16 V17 = some (r0, V0) → jW p l e ({ frames := 2, cells := 0, slots := 0, locals := 47 }) s m args below meth c (MQ below (jQc D TC ad cA (some (.int r0)) s.heap.size S V0 L) args s 0 0 (jA ad TC s.heap.size)) D TC ad cA (jA ad TC s.heap.size) 9 0 0 58 [(0, .ref (ad 27)), (7, .int x15), (8, .int x16)] [] S V17 L := by
    intro n
    induction n with
    | zero =>
      intro x15 x16 V17 h
      cases (show (none : Option (Int32 × (Nat → Nat → Int32))) = some (r0, V0) from h)
    | succ n ih =>
      intro x15 x16 V17 h
      unfold fX8_holdOf_27_L58 at h
      refine j_iload C 2 rfl dX8_holdOf_58 ?_
      refine j_aload_n C 0 rfl dX8_holdOf_60 rfl ?_
      refine fg_X8_16_TC_27 C dX8_holdOf_61 ?_
      refine fg_X8_26_TC_3 C dX8_holdOf_64 ?_
      refine j_icmp_ge (tgt := 109) C dX8_holdOf_67 (by decide) (fun c18 => ?_) (fun c18 => ?_)
      · have h := (if_pos c18).symm.trans h
        refine j_iconst C dX8_holdOf_109 ci_1 ?_
        cases h
        exact j_zret C hr hlk rfl rfl dX8_holdOf_110
      · have h := (if_neg c18).symm.trans h
        refine j_aload_n C 0 rfl dX8_holdOf_70 rfl ?_
        refine j_iload C 1 rfl dX8_holdOf_71 ?_
        refine j_aload_n C 0 rfl dX8_holdOf_73 rfl ?_
        refine fg_X8_16_TC_27 C dX8_holdOf_74 ?_
        refine fg_X8_30_TC_3 C dX8_holdOf_77 ?_
        refine j_iload C 2 rfl dX8_holdOf_80 ?_
        obtain ⟨g19, h⟩ := gd_elim h
        refine j_iald C tc_10 (ib_in g19) dX8_holdOf_82 ?_
        obtain ⟨r20, V21, h22, h⟩ := bd2_elim h
        refine j_callV (As := [.int x15, .int (V17 10 (x16).toNatClampNeg)]) (rest := []) C (kX8_valueOf_27 l B D ad cA hI S V17 L x15 ((V17 10 (x16).toNatClampNeg)) _ _ h22) mw_X8_valueOf wd630 wd6 wd628 tc_27 rfl rfl ⟨rfl, rfl, by decide, by decide⟩ ⟨Nat.zero_le _, Nat.zero_le _⟩ rfl rfl (Nat.le_of_ble_eq_true rfl) dX8_holdOf_83 ?_
        refine j_if_ne (tgt := 91) C dX8_holdOf_86 (by decide) (fun c23 => ?_) (fun c23 => ?_)
        · have h := (if_neg c23).symm.trans h
          refine j_aload_n C 0 rfl dX8_holdOf_91 rfl ?_
          refine fg_X8_16_TC_27 C dX8_holdOf_92 ?_
          refine fg_X8_30_TC_3 C dX8_holdOf_95 ?_
          refine j_iload C 2 rfl dX8_holdOf_98 ?_
          obtain ⟨g24, h⟩ := gd_elim h
          refine j_iald C tc_10 (ib_in g24) dX8_holdOf_100 ?_
          refine lt_elim h (fun x25 e_x25 h => ?_)
          refine j_top e_x25 ?_
          refine j_istore C [(7, .int x25), (0, .ref (ad 27)), (8, .int x16)] dX8_holdOf_101 (by decide) rfl ?_
          refine lt_elim h (fun x26 e_x26 h => ?_)
          refine j_iinc C [(8, .int x26), (7, .int x25), (0, .ref (ad 27))] 2 dX8_holdOf_103 rfl ((iinc_eq ci_1).trans e_x26.symm) (by decide) rfl ?_
          refine j_goto (tgt := 58) C dX8_holdOf_106 (by decide) ?_
          exact j_sub [2, 1, 0] rfl (ih _ _ _ h)
        · have h := (if_pos c23).symm.trans h
          refine j_iconst C dX8_holdOf_89 ci_0 ?_
          cases h
          exact j_zret C hr hlk rfl rfl dX8_holdOf_90
  refine j_aload_n C 0 rfl dX8_holdOf_0 rfl ?_
  refine fg_X8_7_TC_27 C dX8_holdOf_1 ?_
  refine j_iconst C dX8_holdOf_4 ci_0 ?_
  refine j_aload_n C 0 rfl dX8_holdOf_5 rfl ?_
  refine fg_X8_16_TC_27 C dX8_holdOf_6 ?_
  refine j_iload_n C 1 rfl dX8_holdOf_9 rfl ?_
  obtain ⟨r1, h2, h⟩ := bd1_elim h
  refine j_callV (As := [.int a1]) (rest := [.int (0 : Int32), .ref (ad 28)]) C (kX2_weightOf_3 l B D ad cA hI S V L a1 _ h2) mw_X2_weightOf wd616 wd617 wd627 tc_3 rfl rfl ⟨rfl, rfl, by decide, by decide⟩ ⟨Nat.zero_le _, Nat.zero_le _⟩ rfl rfl (Nat.le_of_ble_eq_true rfl) dX8_holdOf_10 ?_
  obtain ⟨g3, h⟩ := gd_elim h
  refine j_iast C tc_28 (ib_in g3) dX8_holdOf_13 ?_
  refine lt_elim h (fun V4 e_V4 h => ?_)
  refine j_V e_V4 ?_
  refine j_aload_n C 0 rfl dX8_holdOf_14 rfl ?_
  refine fg_X8_7_TC_27 C dX8_holdOf_15 ?_
  refine j_iconst C dX8_holdOf_18 ci_1 ?_
  refine j_iload_n C 2 rfl dX8_holdOf_19 rfl ?_
  obtain ⟨g5, h⟩ := gd_elim h
  refine j_iast C tc_28 (ib_in g5) dX8_holdOf_20 ?_
  refine lt_elim h (fun V6 e_V6 h => ?_)
  refine j_V e_V6 ?_
  refine j_aload_n C 0 rfl dX8_holdOf_21 rfl ?_
  refine fg_X8_7_TC_27 C dX8_holdOf_22 ?_
  refine j_iconst C dX8_holdOf_25 ci_2 ?_
  refine j_iload_n C 3 rfl dX8_holdOf_26 rfl ?_
  obtain ⟨g7, h⟩ := gd_elim h
  refine j_iast C tc_28 (ib_in g7) dX8_holdOf_27 ?_
  refine lt_elim h (fun V8 e_V8 h => ?_)
  refine j_V e_V8 ?_
  refine j_aload_n C 0 rfl dX8_holdOf_28 rfl ?_
  refine fg_X8_7_TC_27 C dX8_holdOf_29 ?_
  refine j_iconst C dX8_holdOf_32 ci_3 ?_
  refine j_iload C 4 rfl dX8_holdOf_33 ?_
  obtain ⟨g9, h⟩ := gd_elim h
  refine j_iast C tc_28 (ib_in g9) dX8_holdOf_35 ?_
  refine lt_elim h (fun V10 e_V10 h => ?_)
  refine j_V e_V10 ?_
  refine j_aload_n C 0 rfl dX8_holdOf_36 rfl ?_
  refine fg_X8_7_TC_27 C dX8_holdOf_37 ?_
  refine j_iconst C dX8_holdOf_40 ci_4 ?_
  refine j_iload C 5 rfl dX8_holdOf_41 ?_
  obtain ⟨g11, h⟩ := gd_elim h
  refine j_iast C tc_28 (ib_in g11) dX8_holdOf_43 ?_
  refine lt_elim h (fun V12 e_V12 h => ?_)
  refine j_V e_V12 ?_
  refine j_aload_n C 0 rfl dX8_holdOf_44 rfl ?_
  refine fg_X8_7_TC_27 C dX8_holdOf_45 ?_
  refine j_iconst C dX8_holdOf_48 ci_5 ?_
  refine j_iload C 6 rfl dX8_holdOf_49 ?_
  obtain ⟨g13, h⟩ := gd_elim h
  refine j_iast C tc_28 (ib_in g13) dX8_holdOf_51 ?_
  refine lt_elim h (fun V14 e_V14 h => ?_)
  refine j_V e_V14 ?_
  refine j_iconst C dX8_holdOf_52 ci_0 ?_
  refine j_istore C [(7, .int (0 : Int32)), (0, .ref (ad 27)), (1, .int a1), (2, .int a2), (3, .int a3), (4, .int a4), (5, .int a5), (6, .int a6)] dX8_holdOf_53 (by decide) rfl ?_
  refine j_iconst C dX8_holdOf_55 ci_0 ?_
  refine j_istore C [(8, .int (0 : Int32)), (7, .int (0 : Int32)), (0, .ref (ad 27)), (1, .int a1), (2, .int a2), (3, .int a3), (4, .int a4), (5, .int a5), (6, .int a6)] dX8_holdOf_56 (by decide) rfl ?_
  exact j_sub [2, 1, 0] rfl (H_fX8_holdOf_27_L58 FU _ _ _ h)
theorem dX0_goodHours_0 : decode cX0_goodHours 0 = .ok (.aload_n 0, 1) := by decide +kernel
theorem dX0_goodHours_1 : decode cX0_goodHours 1 = .ok (.getfield 36, 3) := by decide +kernel
theorem dX0_goodHours_4 : decode cX0_goodHours 4 = .ok (.iload 5, 2) := by decide +kernel
theorem dX0_goodHours_6 : decode cX0_goodHours 6 = .ok (.invokevirtual 109, 3) := by decide +kernel
theorem dX0_goodHours_9 : decode cX0_goodHours 9 = .ok (.istore 6, 2) := by decide +kernel
theorem dX0_goodHours_11 : decode cX0_goodHours 11 = .ok (.aload_n 0, 1) := by decide +kernel
theorem dX0_goodHours_12 : decode cX0_goodHours 12 = .ok (.getfield 36, 3) := by decide +kernel
theorem dX0_goodHours_15 : decode cX0_goodHours 15 = .ok (.aload_n 0, 1) := by decide +kernel
theorem dX0_goodHours_16 : decode cX0_goodHours 16 = .ok (.getfield 9, 3) := by decide +kernel
theorem dX0_goodHours_19 : decode cX0_goodHours 19 = .ok (.iload_n 1, 1) := by decide +kernel
theorem dX0_goodHours_20 : decode cX0_goodHours 20 = .ok (.iaload, 1) := by decide +kernel
theorem dX0_goodHours_21 : decode cX0_goodHours 21 = .ok (.iload 5, 2) := by decide +kernel
theorem dX0_goodHours_23 : decode cX0_goodHours 23 = .ok (.invokevirtual 79, 3) := by decide +kernel
theorem dX0_goodHours_26 : decode cX0_goodHours 26 = .ok (.istore 7, 2) := by decide +kernel
theorem dX0_goodHours_28 : decode cX0_goodHours 28 = .ok (.iconst 0, 1) := by decide +kernel
theorem dX0_goodHours_29 : decode cX0_goodHours 29 = .ok (.istore 8, 2) := by decide +kernel
theorem dX0_goodHours_31 : decode cX0_goodHours 31 = .ok (.iload_n 3, 1) := by decide +kernel
theorem dX0_goodHours_32 : decode cX0_goodHours 32 = .ok (.istore 9, 2) := by decide +kernel
theorem dX0_goodHours_34 : decode cX0_goodHours 34 = .ok (.iload 9, 2) := by decide +kernel
theorem dX0_goodHours_36 : decode cX0_goodHours 36 = .ok (.iload 4, 2) := by decide +kernel
theorem dX0_goodHours_38 : decode cX0_goodHours 38 = .ok (.if_icmp .gt 47, 3) := by decide +kernel
theorem dX0_goodHours_41 : decode cX0_goodHours 41 = .ok (.aload_n 0, 1) := by decide +kernel
theorem dX0_goodHours_42 : decode cX0_goodHours 42 = .ok (.getfield 40, 3) := by decide +kernel
theorem dX0_goodHours_45 : decode cX0_goodHours 45 = .ok (.aload_n 0, 1) := by decide +kernel
theorem dX0_goodHours_46 : decode cX0_goodHours 46 = .ok (.getfield 9, 3) := by decide +kernel
theorem dX0_goodHours_49 : decode cX0_goodHours 49 = .ok (.iload_n 1, 1) := by decide +kernel
theorem dX0_goodHours_50 : decode cX0_goodHours 50 = .ok (.iaload, 1) := by decide +kernel
theorem dX0_goodHours_51 : decode cX0_goodHours 51 = .ok (.iload_n 2, 1) := by decide +kernel
theorem dX0_goodHours_52 : decode cX0_goodHours 52 = .ok (.iload 9, 2) := by decide +kernel
theorem dX0_goodHours_54 : decode cX0_goodHours 54 = .ok (.iload 4, 2) := by decide +kernel
theorem dX0_goodHours_56 : decode cX0_goodHours 56 = .ok (.iload_n 3, 1) := by decide +kernel
theorem dX0_goodHours_57 : decode cX0_goodHours 57 = .ok (.isub, 1) := by decide +kernel
theorem dX0_goodHours_58 : decode cX0_goodHours 58 = .ok (.iconst 1, 1) := by decide +kernel
theorem dX0_goodHours_59 : decode cX0_goodHours 59 = .ok (.iadd, 1) := by decide +kernel
theorem dX0_goodHours_60 : decode cX0_goodHours 60 = .ok (.iload 6, 2) := by decide +kernel
theorem dX0_goodHours_62 : decode cX0_goodHours 62 = .ok (.iload 7, 2) := by decide +kernel
theorem dX0_goodHours_64 : decode cX0_goodHours 64 = .ok (.invokevirtual 112, 3) := by decide +kernel
theorem dX0_goodHours_67 : decode cX0_goodHours 67 = .ok (.ifCond .eq 12, 3) := by decide +kernel
theorem dX0_goodHours_70 : decode cX0_goodHours 70 = .ok (.iload 8, 2) := by decide +kernel
theorem dX0_goodHours_72 : decode cX0_goodHours 72 = .ok (.iconst 1, 1) := by decide +kernel
theorem dX0_goodHours_73 : decode cX0_goodHours 73 = .ok (.iload 9, 2) := by decide +kernel
theorem dX0_goodHours_75 : decode cX0_goodHours 75 = .ok (.ishl, 1) := by decide +kernel
theorem dX0_goodHours_76 : decode cX0_goodHours 76 = .ok (.ior, 1) := by decide +kernel
theorem dX0_goodHours_77 : decode cX0_goodHours 77 = .ok (.istore 8, 2) := by decide +kernel
theorem dX0_goodHours_79 : decode cX0_goodHours 79 = .ok (.iinc 9 1, 3) := by decide +kernel
theorem dX0_goodHours_82 : decode cX0_goodHours 82 = .ok (.goto (-48), 3) := by decide +kernel
theorem dX0_goodHours_85 : decode cX0_goodHours 85 = .ok (.iload 8, 2) := by decide +kernel
theorem dX0_goodHours_87 : decode cX0_goodHours 87 = .ok (.ireturn, 1) := by decide +kernel
def fX0_goodHours_49_L34 (S : Nat → Int32) : Nat → Int32 → Int32 → Int32 → Int32 → Int32 → Int32 → Int32 → Int32 → (Nat → Nat → Int32) → Option (Int32 × (Nat → Nat → Int32))
  | 0, _, _, _, _, _, _, _, _, _ => none
  | n + 1, x6, x7, x8, x9, x10, x11, x12, x13, V14 =>
    (if x9 < x13 then
    some (x12, V14)
    else
    gd (ib x6 4) (
    bd2 (fX8_holdOf_27 S V14 ((V14 50 (x6).toNatClampNeg)) x7 x13 (((x9 - x8) + (1 : Int32))) x10 x11) (fun r17 V18 =>
    bk (fun (x21 : Int32) (x22 : Int32) (x23 : Int32) (x24 : Int32) (x25 : Int32) (x26 : Int32) (x27 : Int32) (x28 : Int32) (V29 : Nat → Nat → Int32) =>
    lt (x28 + (1 : Int32)) (fun x30 =>
    fX0_goodHours_49_L34 S n x21 x22 x23 x24 x25 x26 x27 x30 V29)) (fun K79_20 =>
    (if r17 = 0 then
    K79_20 x6 x7 x8 x9 x10 x11 x12 x13 V18
    else
    lt ((x12 ||| ((1 : Int32) <<< (x13 &&& 31)))) (fun x32 =>
    K79_20 x6 x7 x8 x9 x10 x11 x32 x13 V18))))))
def fX0_goodHours_49 (S : Nat → Int32) (V : Nat → Nat → Int32) (a1 : Int32) (a2 : Int32) (a3 : Int32) (a4 : Int32) (a5 : Int32) : Option (Int32 × (Nat → Nat → Int32)) :=
  bd1 (fX2_weightOf_3 V a5) (fun r1 =>
  gd (ib a1 4) (
  bd1 (fX2_quarrelsOf_3 V ((V 50 (a1).toNatClampNeg)) a5) (fun r4 =>
  fX0_goodHours_49_L34 S FU a1 a2 a3 a4 r1 r4 (0 : Int32) a3 V)))
set_option maxHeartbeats 4000000 in
set_option maxRecDepth 100000 in
theorem kX0_goodHours_49 (l : Launch) (B : jBT) (D : va_G) (ad : Nat → Nat) (cA : Nat → ClassId) (hI : jI ad TC) (S : Nat → Int32) (V : Nat → Nat → Int32) (L : Nat → Int64) (a1 : Int32) (a2 : Int32) (a3 : Int32) (a4 : Int32) (a5 : Int32) (r0 : Int32) (V0 : Nat → Nat → Int32) (h : fX0_goodHours_49 S V a1 a2 a3 a4 a5 = some (r0, V0)) : jM l yX0_goodHours cX0_goodHours 10 (some .int) ({ frames := 3, cells := 0, slots := 0, locals := 75 }) B D TC ad cA [.ref (ad 49), .int a1, .int a2, .int a3, .int a4, .int a5] S V L (some (.int r0)) S V0 L := by
  refine jM_of (plainFor_of_name (by decide)) TC_ok hI (Nat.le_of_ble_eq_true rfl) ?_
  intro p e s m args below meth c C hr hlk
  refine j_lv (lv2 := [(0, .ref (ad 49)), (1, .int a1), (2, .int a2), (3, .int a3), (4, .int a4), (5, .int a5)]) rfl ?_
  unfold fX0_goodHours_49 at h
  have H_fX0_goodHours_49_L34 : ∀ (n : Nat) (x6 : Int32) (x7 : Int32) (x8 : Int32) (x9 : Int32) (x10 : Int32) (x11 : Int32) (x12 : Int32) (x13 : Int32) (V14 : Nat → Nat → Int32), fX0_goodHours_49_L34 S n x6 x7 x8 x9 x10 x11 x12 x13 V14 = some (r0, V0) → jW p l e ({ frames := 3, cells := 0, slots := 0, locals := 75 }) s m args below meth c (MQ below (jQc D TC ad cA (some (.int r0)) s.heap.size S V0 L) args s 0 0 (jA ad TC s.heap.size)) D TC ad cA (jA ad TC s.heap.size) 10 0 0 34 [(0, .ref (ad 49)), (1, .int x6), (2, .int x7), (3, .int x8), (4, .int x9), (6, .int x10), (7, .int x11), (8, .int x12), (9, .int x13)] [] S V14 L := by
    intro n
    induction n with
    | zero =>
      intro x6 x7 x8 x9 x10 x11 x12 x13 V14 h
      cases (show (none : Option (Int32 × (Nat → Nat → Int32))) = some (r0, V0) from h)
    | succ n ih =>
      intro x6 x7 x8 x9 x10 x11 x12 x13 V14 h
      unfold fX0_goodHours_49_L34 at h
      refine j_iload C 8 rfl dX0_goodHours_34 ?_
      refine j_iload C 4 rfl dX0_goodHours_36 ?_
      refine j_icmp_gt (tgt := 85) C dX0_goodHours_38 (by decide) (fun c15 => ?_) (fun c15 => ?_)
      · have h := (if_pos c15).symm.trans h
        refine j_iload C 7 rfl dX0_goodHours_85 ?_
        cases h
        exact j_iret C hr hlk rfl dX0_goodHours_87
      · have h := (if_neg c15).symm.trans h
        refine j_aload_n C 0 rfl dX0_goodHours_41 rfl ?_
        refine fg_X0_40_TC_49 C dX0_goodHours_42 ?_
        refine j_aload_n C 0 rfl dX0_goodHours_45 rfl ?_
        refine fg_X0_9_TC_49 C dX0_goodHours_46 ?_
        refine j_iload_n C 1 rfl dX0_goodHours_49 rfl ?_
        obtain ⟨g16, h⟩ := gd_elim h
        refine j_iald C tc_50 (ib_in g16) dX0_goodHours_50 ?_
        refine j_iload_n C 2 rfl dX0_goodHours_51 rfl ?_
        refine j_iload C 8 rfl dX0_goodHours_52 ?_
        refine j_iload C 4 rfl dX0_goodHours_54 ?_
        refine j_iload_n C 3 rfl dX0_goodHours_56 rfl ?_
        refine j_isub C dX0_goodHours_57 ?_
        refine j_iconst C dX0_goodHours_58 ci_1 ?_
        refine j_iadd C dX0_goodHours_59 ?_
        refine j_iload C 5 rfl dX0_goodHours_60 ?_
        refine j_iload C 6 rfl dX0_goodHours_62 ?_
        obtain ⟨r17, V18, h19, h⟩ := bd2_elim h
        refine j_callV (As := [.int (V14 50 (x6).toNatClampNeg), .int x7, .int x13, .int ((x9 - x8) + (1 : Int32)), .int x10, .int x11]) (rest := []) C (kX8_holdOf_27 l B D ad cA hI S V14 L ((V14 50 (x6).toNatClampNeg)) x7 x13 (((x9 - x8) + (1 : Int32))) x10 x11 _ _ h19) mw_X8_holdOf wd624 wd625 wd1212 tc_27 rfl rfl ⟨rfl, rfl, by decide, by decide⟩ ⟨Nat.zero_le _, Nat.zero_le _⟩ rfl rfl (Nat.le_of_ble_eq_true rfl) dX0_goodHours_64 ?_
        refine bk_elim h (fun K79_20 e_K79_20 h => ?_)
        have HK79_20 : ∀ (x21 : Int32) (x22 : Int32) (x23 : Int32) (x24 : Int32) (x25 : Int32) (x26 : Int32) (x27 : Int32) (x28 : Int32) (V29 : Nat → Nat → Int32), K79_20 x21 x22 x23 x24 x25 x26 x27 x28 V29 = some (r0, V0) → jW p l e ({ frames := 3, cells := 0, slots := 0, locals := 75 }) s m args below meth c (MQ below (jQc D TC ad cA (some (.int r0)) s.heap.size S V0 L) args s 0 0 (jA ad TC s.heap.size)) D TC ad cA (jA ad TC s.heap.size) 10 0 0 79 [(0, .ref (ad 49)), (1, .int x21), (2, .int x22), (3, .int x23), (4, .int x24), (6, .int x25), (7, .int x26), (8, .int x27), (9, .int x28)] [] S V29 L := by
          subst e_K79_20
          intro x21 x22 x23 x24 x25 x26 x27 x28 V29 h
          refine lt_elim h (fun x30 e_x30 h => ?_)
          refine j_iinc C [(9, .int x30), (0, .ref (ad 49)), (1, .int x21), (2, .int x22), (3, .int x23), (4, .int x24), (6, .int x25), (7, .int x26), (8, .int x27)] 8 dX0_goodHours_79 rfl ((iinc_eq ci_1).trans e_x30.symm) (by decide) rfl ?_
          refine j_goto (tgt := 34) C dX0_goodHours_82 (by decide) ?_
          exact j_sub [1, 2, 3, 4, 5, 6, 7, 8, 0] rfl (ih _ _ _ _ _ _ _ _ _ h)
        refine j_if_eq (tgt := 79) C dX0_goodHours_67 (by decide) (fun c31 => ?_) (fun c31 => ?_)
        · have h := (if_pos c31).symm.trans h
          exact j_sub [0, 1, 2, 3, 4, 5, 6, 7, 8] rfl (HK79_20 _ _ _ _ _ _ _ _ _ h)
        · have h := (if_neg c31).symm.trans h
          refine j_iload C 7 rfl dX0_goodHours_70 ?_
          refine j_iconst C dX0_goodHours_72 ci_1 ?_
          refine j_iload C 8 rfl dX0_goodHours_73 ?_
          refine j_ishl C dX0_goodHours_75 ?_
          refine j_ior C dX0_goodHours_76 ?_
          refine lt_elim h (fun x32 e_x32 h => ?_)
          refine j_top e_x32 ?_
          refine j_istore C [(8, .int x32), (0, .ref (ad 49)), (1, .int x6), (2, .int x7), (3, .int x8), (4, .int x9), (6, .int x10), (7, .int x11), (9, .int x13)] dX0_goodHours_77 (by decide) rfl ?_
          exact j_sub [1, 2, 3, 4, 5, 6, 7, 0, 8] rfl (HK79_20 _ _ _ _ _ _ _ _ _ h)
  refine j_aload_n C 0 rfl dX0_goodHours_0 rfl ?_
  refine fg_X0_36_TC_49 C dX0_goodHours_1 ?_
  refine j_iload C 5 rfl dX0_goodHours_4 ?_
  obtain ⟨r1, h2, h⟩ := bd1_elim h
  refine j_callV (As := [.int a5]) (rest := []) C (kX2_weightOf_3 l B D ad cA hI S V L a5 _ h2) mw_X2_weightOf wd616 wd617 wd1211 tc_3 rfl rfl ⟨rfl, rfl, by decide, by decide⟩ ⟨Nat.zero_le _, Nat.zero_le _⟩ rfl rfl (Nat.le_of_ble_eq_true rfl) dX0_goodHours_6 ?_
  refine j_istore C [(6, .int r1), (0, .ref (ad 49)), (1, .int a1), (2, .int a2), (3, .int a3), (4, .int a4), (5, .int a5)] dX0_goodHours_9 (by decide) rfl ?_
  refine j_aload_n C 1 rfl dX0_goodHours_11 rfl ?_
  refine fg_X0_36_TC_49 C dX0_goodHours_12 ?_
  refine j_aload_n C 1 rfl dX0_goodHours_15 rfl ?_
  refine fg_X0_9_TC_49 C dX0_goodHours_16 ?_
  refine j_iload_n C 2 rfl dX0_goodHours_19 rfl ?_
  obtain ⟨g3, h⟩ := gd_elim h
  refine j_iald C tc_50 (ib_in g3) dX0_goodHours_20 ?_
  refine j_iload C 6 rfl dX0_goodHours_21 ?_
  obtain ⟨r4, h5, h⟩ := bd1_elim h
  refine j_callV (As := [.int (V 50 (a1).toNatClampNeg), .int a5]) (rest := []) C (kX2_quarrelsOf_3 l B D ad cA hI S V L ((V 50 (a1).toNatClampNeg)) a5 _ h5) mw_X2_quarrelsOf wd620 wd621 wd1194 tc_3 rfl rfl ⟨rfl, rfl, by decide, by decide⟩ ⟨Nat.zero_le _, Nat.zero_le _⟩ rfl rfl (Nat.le_of_ble_eq_true rfl) dX0_goodHours_23 ?_
  refine j_istore C [(7, .int r4), (6, .int r1), (0, .ref (ad 49)), (1, .int a1), (2, .int a2), (3, .int a3), (4, .int a4), (5, .int a5)] dX0_goodHours_26 (by decide) rfl ?_
  refine j_iconst C dX0_goodHours_28 ci_0 ?_
  refine j_istore C [(8, .int (0 : Int32)), (7, .int r4), (6, .int r1), (0, .ref (ad 49)), (1, .int a1), (2, .int a2), (3, .int a3), (4, .int a4), (5, .int a5)] dX0_goodHours_29 (by decide) rfl ?_
  refine j_iload_n C 6 rfl dX0_goodHours_31 rfl ?_
  refine j_istore C [(9, .int a3), (8, .int (0 : Int32)), (7, .int r4), (6, .int r1), (0, .ref (ad 49)), (1, .int a1), (2, .int a2), (3, .int a3), (4, .int a4), (5, .int a5)] dX0_goodHours_32 (by decide) rfl ?_
  exact j_sub [4, 5, 6, 7, 8, 3, 2, 1, 0] rfl (H_fX0_goodHours_49_L34 FU _ _ _ _ _ _ _ _ _ h)
theorem dX11_hourBits_0 : decode cX11_hourBits 0 = .ok (.iconst 1, 1) := by decide +kernel
theorem dX11_hourBits_1 : decode cX11_hourBits 1 = .ok (.iload_n 1, 1) := by decide +kernel
theorem dX11_hourBits_2 : decode cX11_hourBits 2 = .ok (.iconst 1, 1) := by decide +kernel
theorem dX11_hourBits_3 : decode cX11_hourBits 3 = .ok (.iadd, 1) := by decide +kernel
theorem dX11_hourBits_4 : decode cX11_hourBits 4 = .ok (.ishl, 1) := by decide +kernel
theorem dX11_hourBits_5 : decode cX11_hourBits 5 = .ok (.iconst 1, 1) := by decide +kernel
theorem dX11_hourBits_6 : decode cX11_hourBits 6 = .ok (.iload_n 0, 1) := by decide +kernel
theorem dX11_hourBits_7 : decode cX11_hourBits 7 = .ok (.ishl, 1) := by decide +kernel
theorem dX11_hourBits_8 : decode cX11_hourBits 8 = .ok (.isub, 1) := by decide +kernel
theorem dX11_hourBits_9 : decode cX11_hourBits 9 = .ok (.ireturn, 1) := by decide +kernel
def fX11_hourBits (a1 : Int32) (a2 : Int32) : Option (Int32) :=
  some ((((1 : Int32) <<< ((a2 + (1 : Int32)) &&& 31)) - ((1 : Int32) <<< (a1 &&& 31))))
set_option maxHeartbeats 4000000 in
set_option maxRecDepth 100000 in
theorem kX11_hourBits (l : Launch) (B : jBT) (D : va_G) (ad : Nat → Nat) (cA : Nat → ClassId) (hI : jI ad TC) (S : Nat → Int32) (V : Nat → Nat → Int32) (L : Nat → Int64) (a1 : Int32) (a2 : Int32) (r0 : Int32) (h : fX11_hourBits a1 a2 = some r0) : jM l yX11_hourBits cX11_hourBits 2 (some .int) ({ frames := 0, cells := 0, slots := 0, locals := 0 }) B D TC ad cA [.int a1, .int a2] S V L (some (.int r0)) S V L := by
  refine jM_of (plainFor_of_name (by decide)) TC_ok hI (Nat.le_of_ble_eq_true rfl) ?_
  intro p e s m args below meth c C hr hlk
  refine j_lv (lv2 := [(0, .int a1), (1, .int a2)]) rfl ?_
  unfold fX11_hourBits at h
  refine j_iconst C dX11_hourBits_0 ci_1 ?_
  refine j_iload_n C 1 rfl dX11_hourBits_1 rfl ?_
  refine j_iconst C dX11_hourBits_2 ci_1 ?_
  refine j_iadd C dX11_hourBits_3 ?_
  refine j_ishl C dX11_hourBits_4 ?_
  refine j_iconst C dX11_hourBits_5 ci_1 ?_
  refine j_iload_n C 0 rfl dX11_hourBits_6 rfl ?_
  refine j_ishl C dX11_hourBits_7 ?_
  refine j_isub C dX11_hourBits_8 ?_
  cases h
  exact j_iret C hr hlk rfl dX11_hourBits_9
theorem dX0_measure_0 : decode cX0_measure 0 = .ok (.iload_n 1, 1) := by decide +kernel
theorem dX0_measure_1 : decode cX0_measure 1 = .ok (.bipush 16, 2) := by decide +kernel
theorem dX0_measure_3 : decode cX0_measure 3 = .ok (.imul, 1) := by decide +kernel
theorem dX0_measure_4 : decode cX0_measure 4 = .ok (.iload_n 2, 1) := by decide +kernel
theorem dX0_measure_5 : decode cX0_measure 5 = .ok (.iadd, 1) := by decide +kernel
theorem dX0_measure_6 : decode cX0_measure 6 = .ok (.istore_n 3, 1) := by decide +kernel
theorem dX0_measure_7 : decode cX0_measure 7 = .ok (.aload_n 0, 1) := by decide +kernel
theorem dX0_measure_8 : decode cX0_measure 8 = .ok (.getfield 15, 3) := by decide +kernel
theorem dX0_measure_11 : decode cX0_measure 11 = .ok (.iload_n 3, 1) := by decide +kernel
theorem dX0_measure_12 : decode cX0_measure 12 = .ok (.iconst 0, 1) := by decide +kernel
theorem dX0_measure_13 : decode cX0_measure 13 = .ok (.iastore, 1) := by decide +kernel
theorem dX0_measure_14 : decode cX0_measure 14 = .ok (.iload_n 2, 1) := by decide +kernel
theorem dX0_measure_15 : decode cX0_measure 15 = .ok (.invokestatic 91, 3) := by decide +kernel
theorem dX0_measure_18 : decode cX0_measure 18 = .ok (.istore 4, 2) := by decide +kernel
theorem dX0_measure_20 : decode cX0_measure 20 = .ok (.iload 4, 2) := by decide +kernel
theorem dX0_measure_22 : decode cX0_measure 22 = .ok (.aload_n 0, 1) := by decide +kernel
theorem dX0_measure_23 : decode cX0_measure 23 = .ok (.getfield 36, 3) := by decide +kernel
theorem dX0_measure_26 : decode cX0_measure 26 = .ok (.getfield 83, 3) := by decide +kernel
theorem dX0_measure_29 : decode cX0_measure 29 = .ok (.aload_n 0, 1) := by decide +kernel
theorem dX0_measure_30 : decode cX0_measure 30 = .ok (.getfield 9, 3) := by decide +kernel
theorem dX0_measure_33 : decode cX0_measure 33 = .ok (.iload_n 1, 1) := by decide +kernel
theorem dX0_measure_34 : decode cX0_measure 34 = .ok (.iaload, 1) := by decide +kernel
theorem dX0_measure_35 : decode cX0_measure 35 = .ok (.iaload, 1) := by decide +kernel
theorem dX0_measure_36 : decode cX0_measure 36 = .ok (.iadd, 1) := by decide +kernel
theorem dX0_measure_37 : decode cX0_measure 37 = .ok (.iconst 1, 1) := by decide +kernel
theorem dX0_measure_38 : decode cX0_measure 38 = .ok (.isub, 1) := by decide +kernel
theorem dX0_measure_39 : decode cX0_measure 39 = .ok (.istore 5, 2) := by decide +kernel
theorem dX0_measure_41 : decode cX0_measure 41 = .ok (.iload 5, 2) := by decide +kernel
theorem dX0_measure_43 : decode cX0_measure 43 = .ok (.bipush 23, 2) := by decide +kernel
theorem dX0_measure_45 : decode cX0_measure 45 = .ok (.if_icmp .gt 23, 3) := by decide +kernel
theorem dX0_measure_48 : decode cX0_measure 48 = .ok (.aload_n 0, 1) := by decide +kernel
theorem dX0_measure_49 : decode cX0_measure 49 = .ok (.getfield 36, 3) := by decide +kernel
theorem dX0_measure_52 : decode cX0_measure 52 = .ok (.aload_n 0, 1) := by decide +kernel
theorem dX0_measure_53 : decode cX0_measure 53 = .ok (.getfield 9, 3) := by decide +kernel
theorem dX0_measure_56 : decode cX0_measure 56 = .ok (.iload_n 1, 1) := by decide +kernel
theorem dX0_measure_57 : decode cX0_measure 57 = .ok (.iaload, 1) := by decide +kernel
theorem dX0_measure_58 : decode cX0_measure 58 = .ok (.iload_n 2, 1) := by decide +kernel
theorem dX0_measure_59 : decode cX0_measure 59 = .ok (.invokestatic 95, 3) := by decide +kernel
theorem dX0_measure_62 : decode cX0_measure 62 = .ok (.invokevirtual 98, 3) := by decide +kernel
theorem dX0_measure_65 : decode cX0_measure 65 = .ok (.ifCond .ne 4, 3) := by decide +kernel
theorem dX0_measure_68 : decode cX0_measure 68 = .ok (.return_, 1) := by decide +kernel
theorem dX0_measure_69 : decode cX0_measure 69 = .ok (.aload_n 0, 1) := by decide +kernel
theorem dX0_measure_70 : decode cX0_measure 70 = .ok (.getfield 18, 3) := by decide +kernel
theorem dX0_measure_73 : decode cX0_measure 73 = .ok (.iload_n 3, 1) := by decide +kernel
theorem dX0_measure_74 : decode cX0_measure 74 = .ok (.aload_n 0, 1) := by decide +kernel
theorem dX0_measure_75 : decode cX0_measure 75 = .ok (.iload_n 1, 1) := by decide +kernel
theorem dX0_measure_76 : decode cX0_measure 76 = .ok (.iload_n 2, 1) := by decide +kernel
theorem dX0_measure_77 : decode cX0_measure 77 = .ok (.invokestatic 95, 3) := by decide +kernel
theorem dX0_measure_80 : decode cX0_measure 80 = .ok (.iload 4, 2) := by decide +kernel
theorem dX0_measure_82 : decode cX0_measure 82 = .ok (.iload 5, 2) := by decide +kernel
theorem dX0_measure_84 : decode cX0_measure 84 = .ok (.iconst (-1), 1) := by decide +kernel
theorem dX0_measure_85 : decode cX0_measure 85 = .ok (.invokevirtual 102, 3) := by decide +kernel
theorem dX0_measure_88 : decode cX0_measure 88 = .ok (.iastore, 1) := by decide +kernel
theorem dX0_measure_89 : decode cX0_measure 89 = .ok (.aload_n 0, 1) := by decide +kernel
theorem dX0_measure_90 : decode cX0_measure 90 = .ok (.getfield 18, 3) := by decide +kernel
theorem dX0_measure_93 : decode cX0_measure 93 = .ok (.iload_n 3, 1) := by decide +kernel
theorem dX0_measure_94 : decode cX0_measure 94 = .ok (.iaload, 1) := by decide +kernel
theorem dX0_measure_95 : decode cX0_measure 95 = .ok (.istore 6, 2) := by decide +kernel
theorem dX0_measure_97 : decode cX0_measure 97 = .ok (.iconst 0, 1) := by decide +kernel
theorem dX0_measure_98 : decode cX0_measure 98 = .ok (.istore 7, 2) := by decide +kernel
theorem dX0_measure_100 : decode cX0_measure 100 = .ok (.iload 7, 2) := by decide +kernel
theorem dX0_measure_102 : decode cX0_measure 102 = .ok (.aload_n 0, 1) := by decide +kernel
theorem dX0_measure_103 : decode cX0_measure 103 = .ok (.getfield 52, 3) := by decide +kernel
theorem dX0_measure_106 : decode cX0_measure 106 = .ok (.if_icmp .ge 62, 3) := by decide +kernel
theorem dX0_measure_109 : decode cX0_measure 109 = .ok (.iload 7, 2) := by decide +kernel
theorem dX0_measure_111 : decode cX0_measure 111 = .ok (.iload_n 1, 1) := by decide +kernel
theorem dX0_measure_112 : decode cX0_measure 112 = .ok (.if_icmp .eq 50, 3) := by decide +kernel
theorem dX0_measure_115 : decode cX0_measure 115 = .ok (.aload_n 0, 1) := by decide +kernel
theorem dX0_measure_116 : decode cX0_measure 116 = .ok (.getfield 21, 3) := by decide +kernel
theorem dX0_measure_119 : decode cX0_measure 119 = .ok (.iload_n 3, 1) := by decide +kernel
theorem dX0_measure_120 : decode cX0_measure 120 = .ok (.iconst 4, 1) := by decide +kernel
theorem dX0_measure_121 : decode cX0_measure 121 = .ok (.imul, 1) := by decide +kernel
theorem dX0_measure_122 : decode cX0_measure 122 = .ok (.iload 7, 2) := by decide +kernel
theorem dX0_measure_124 : decode cX0_measure 124 = .ok (.iadd, 1) := by decide +kernel
theorem dX0_measure_125 : decode cX0_measure 125 = .ok (.aload_n 0, 1) := by decide +kernel
theorem dX0_measure_126 : decode cX0_measure 126 = .ok (.iload_n 1, 1) := by decide +kernel
theorem dX0_measure_127 : decode cX0_measure 127 = .ok (.iload_n 2, 1) := by decide +kernel
theorem dX0_measure_128 : decode cX0_measure 128 = .ok (.invokestatic 95, 3) := by decide +kernel
theorem dX0_measure_131 : decode cX0_measure 131 = .ok (.iload 4, 2) := by decide +kernel
theorem dX0_measure_133 : decode cX0_measure 133 = .ok (.iload 5, 2) := by decide +kernel
theorem dX0_measure_135 : decode cX0_measure 135 = .ok (.aload_n 0, 1) := by decide +kernel
theorem dX0_measure_136 : decode cX0_measure 136 = .ok (.getfield 9, 3) := by decide +kernel
theorem dX0_measure_139 : decode cX0_measure 139 = .ok (.iload 7, 2) := by decide +kernel
theorem dX0_measure_141 : decode cX0_measure 141 = .ok (.iaload, 1) := by decide +kernel
theorem dX0_measure_142 : decode cX0_measure 142 = .ok (.invokevirtual 102, 3) := by decide +kernel
theorem dX0_measure_145 : decode cX0_measure 145 = .ok (.iastore, 1) := by decide +kernel
theorem dX0_measure_146 : decode cX0_measure 146 = .ok (.iload 6, 2) := by decide +kernel
theorem dX0_measure_148 : decode cX0_measure 148 = .ok (.aload_n 0, 1) := by decide +kernel
theorem dX0_measure_149 : decode cX0_measure 149 = .ok (.getfield 21, 3) := by decide +kernel
theorem dX0_measure_152 : decode cX0_measure 152 = .ok (.iload_n 3, 1) := by decide +kernel
theorem dX0_measure_153 : decode cX0_measure 153 = .ok (.iconst 4, 1) := by decide +kernel
theorem dX0_measure_154 : decode cX0_measure 154 = .ok (.imul, 1) := by decide +kernel
theorem dX0_measure_155 : decode cX0_measure 155 = .ok (.iload 7, 2) := by decide +kernel
theorem dX0_measure_157 : decode cX0_measure 157 = .ok (.iadd, 1) := by decide +kernel
theorem dX0_measure_158 : decode cX0_measure 158 = .ok (.iaload, 1) := by decide +kernel
theorem dX0_measure_159 : decode cX0_measure 159 = .ok (.ior, 1) := by decide +kernel
theorem dX0_measure_160 : decode cX0_measure 160 = .ok (.istore 6, 2) := by decide +kernel
theorem dX0_measure_162 : decode cX0_measure 162 = .ok (.iinc 7 1, 3) := by decide +kernel
theorem dX0_measure_165 : decode cX0_measure 165 = .ok (.goto (-65), 3) := by decide +kernel
theorem dX0_measure_168 : decode cX0_measure 168 = .ok (.aload_n 0, 1) := by decide +kernel
theorem dX0_measure_169 : decode cX0_measure 169 = .ok (.getfield 15, 3) := by decide +kernel
theorem dX0_measure_172 : decode cX0_measure 172 = .ok (.iload_n 3, 1) := by decide +kernel
theorem dX0_measure_173 : decode cX0_measure 173 = .ok (.iload 6, 2) := by decide +kernel
theorem dX0_measure_175 : decode cX0_measure 175 = .ok (.iload 4, 2) := by decide +kernel
theorem dX0_measure_177 : decode cX0_measure 177 = .ok (.iload 5, 2) := by decide +kernel
theorem dX0_measure_179 : decode cX0_measure 179 = .ok (.invokestatic 106, 3) := by decide +kernel
theorem dX0_measure_182 : decode cX0_measure 182 = .ok (.if_icmp .ne 8, 3) := by decide +kernel
theorem dX0_measure_185 : decode cX0_measure 185 = .ok (.iload 6, 2) := by decide +kernel
theorem dX0_measure_187 : decode cX0_measure 187 = .ok (.goto 4, 3) := by decide +kernel
theorem dX0_measure_190 : decode cX0_measure 190 = .ok (.iconst 0, 1) := by decide +kernel
theorem dX0_measure_191 : decode cX0_measure 191 = .ok (.iastore, 1) := by decide +kernel
theorem dX0_measure_192 : decode cX0_measure 192 = .ok (.return_, 1) := by decide +kernel
def fX0_measure_49_L100 (E168 : Int32 → Int32 → Int32 → Int32 → (Nat → Nat → Int32) → Option ((Nat → Nat → Int32))) (S : Nat → Int32) : Nat → Int32 → Int32 → Int32 → Int32 → Int32 → Int32 → Int32 → (Nat → Nat → Int32) → Option ((Nat → Nat → Int32))
  | 0, _, _, _, _, _, _, _, _ => none
  | n + 1, x26, x27, x28, x29, x30, x31, x32, V33 =>
    (if (S 4903) ≤ x32 then
    E168 x28 x29 x30 x31 V33
    else
    bk (fun (x36 : Int32) (x37 : Int32) (x38 : Int32) (x39 : Int32) (x40 : Int32) (x41 : Int32) (x42 : Int32) (V43 : Nat → Nat → Int32) =>
    lt (x42 + (1 : Int32)) (fun x44 =>
    fX0_measure_49_L100 E168 S n x36 x37 x38 x39 x40 x41 x44 V43)) (fun K162_35 =>
    (if x32 = x26 then
    K162_35 x26 x27 x28 x29 x30 x31 x32 V33
    else
    bd1 (fX0_halfOf x27) (fun r46 =>
    gd (ib x32 4) (
    bd2 (fX0_goodHours_49 S V33 x26 r46 x29 x30 ((V33 50 (x32).toNatClampNeg))) (fun r49 V50 =>
    lt (((x28 * (4 : Int32)) + x32)) (fun x52 =>
    gd (ib x52 256) (
    lt (va_up V50 53 (upd (V50 53) (x52).toNatClampNeg r49)) (fun V54 =>
    lt (((x28 * (4 : Int32)) + x32)) (fun x55 =>
    gd (ib x55 256) (
    lt ((x31 ||| (V54 53 (x55).toNatClampNeg))) (fun x57 =>
    K162_35 x26 x27 x28 x29 x30 x57 x32 V54))))))))))))
def fX0_measure_49 (S : Nat → Int32) (V : Nat → Nat → Int32) (a1 : Int32) (a2 : Int32) : Option ((Nat → Nat → Int32)) :=
  lt (((a1 * (16 : Int32)) + a2)) (fun x1 =>
  gd (ib x1 64) (
  lt (va_up V 51 (upd (V 51) (x1).toNatClampNeg (0 : Int32))) (fun V3 =>
  bd1 (fX0_fromOf a2) (fun r4 =>
  gd (ib a1 4) (
  lt ((V3 50 (a1).toNatClampNeg)) (fun x7 =>
  gd (ib x7 6) (
  lt (((r4 + (V3 6 (x7).toNatClampNeg)) - (1 : Int32))) (fun x9 =>
  (if (23 : Int32) < x9 then
  some V3
  else
  gd (ib a1 4) (
  bd1 (fX0_halfOf a2) (fun r12 =>
  bd1 (fX2_breathLets_3 V3 ((V3 50 (a1).toNatClampNeg)) r12) (fun r14 =>
  (if r14 = 0 then
  some V3
  else
  bd1 (fX0_halfOf a2) (fun r17 =>
  bd2 (fX0_goodHours_49 S V3 a1 r17 r4 x9 (-1 : Int32)) (fun r19 V20 =>
  gd (ib x1 64) (
  lt (va_up V20 52 (upd (V20 52) (x1).toNatClampNeg r19)) (fun V23 =>
  gd (ib x1 64) (
  lt ((V23 52 (x1).toNatClampNeg)) (fun x25 =>
  bk (fun (x64 : Int32) (x65 : Int32) (x66 : Int32) (x67 : Int32) (V68 : Nat → Nat → Int32) =>
  bd1 (fX11_hourBits x65 x66) (fun r69 =>
  bk (fun (x72 : Int32) (x73 : Int32) (V74 : Nat → Nat → Int32) =>
  gd (ib x73 64) (
  lt (va_up V74 51 (upd (V74 51) (x73).toNatClampNeg x72)) (fun V76 =>
  some V76))) (fun K191_71 =>
  (if x67 = r69 then
  K191_71 x67 x64 V68
  else
  K191_71 (0 : Int32) x64 V68)))) (fun X168_63 =>
  fX0_measure_49_L100 X168_63 S FU a1 a2 x1 r4 x9 x25 (0 : Int32) V23))))))))))))))))))))
set_option maxHeartbeats 4000000 in
set_option maxRecDepth 100000 in
theorem kX0_measure_49 (l : Launch) (B : jBT) (D : va_G) (ad : Nat → Nat) (cA : Nat → ClassId) (hI : jI ad TC) (S : Nat → Int32) (V : Nat → Nat → Int32) (L : Nat → Int64) (a1 : Int32) (a2 : Int32) (V0 : Nat → Nat → Int32) (h : fX0_measure_49 S V a1 a2 = some V0) : jM l yX0_measure cX0_measure 8 none ({ frames := 4, cells := 0, slots := 0, locals := 104 }) B D TC ad cA [.ref (ad 49), .int a1, .int a2] S V L none S V0 L := by
  refine jM_of (plainFor_of_name (by decide)) TC_ok hI (Nat.le_of_ble_eq_true rfl) ?_
  intro p e s m args below meth c C hr hlk
  refine j_lv (lv2 := [(0, .ref (ad 49)), (1, .int a1), (2, .int a2)]) rfl ?_
  unfold fX0_measure_49 at h
  have H_fX0_measure_49_L100 : ∀ (E168 : Int32 → Int32 → Int32 → Int32 → (Nat → Nat → Int32) → Option ((Nat → Nat → Int32))) (_ : ∀ (x58 : Int32) (x59 : Int32) (x60 : Int32) (x61 : Int32) (V62 : Nat → Nat → Int32), E168 x58 x59 x60 x61 V62 = some V0 → jW p l e ({ frames := 4, cells := 0, slots := 0, locals := 104 }) s m args below meth c (MQ below (jQc D TC ad cA none s.heap.size S V0 L) args s 0 0 (jA ad TC s.heap.size)) D TC ad cA (jA ad TC s.heap.size) 8 0 0 168 [(0, .ref (ad 49)), (3, .int x58), (4, .int x59), (5, .int x60), (6, .int x61)] [] S V62 L) (n : Nat) (x26 : Int32) (x27 : Int32) (x28 : Int32) (x29 : Int32) (x30 : Int32) (x31 : Int32) (x32 : Int32) (V33 : Nat → Nat → Int32), fX0_measure_49_L100 E168 S n x26 x27 x28 x29 x30 x31 x32 V33 = some V0 → jW p l e ({ frames := 4, cells := 0, slots := 0, locals := 104 }) s m args below meth c (MQ below (jQc D TC ad cA none s.heap.size S V0 L) args s 0 0 (jA ad TC s.heap.size)) D TC ad cA (jA ad TC s.heap.size) 8 0 0 100 [(0, .ref (ad 49)), (1, .int x26), (2, .int x27), (3, .int x28), (4, .int x29), (5, .int x30), (6, .int x31), (7, .int x32)] [] S V33 L := by
    intro E168 HE168
    intro n
    induction n with
    | zero =>
      intro x26 x27 x28 x29 x30 x31 x32 V33 h
      cases (show (none : Option ((Nat → Nat → Int32))) = some V0 from h)
    | succ n ih =>
      intro x26 x27 x28 x29 x30 x31 x32 V33 h
      unfold fX0_measure_49_L100 at h
      refine j_iload C 7 rfl dX0_measure_100 ?_
      refine j_aload_n C 0 rfl dX0_measure_102 rfl ?_
      refine fg_X0_52_TC_49 C dX0_measure_103 ?_
      refine j_icmp_ge (tgt := 168) C dX0_measure_106 (by decide) (fun c34 => ?_) (fun c34 => ?_)
      · have h := (if_pos c34).symm.trans h
        exact j_sub [0, 3, 4, 5, 6] rfl (HE168 _ _ _ _ _ h)
      · have h := (if_neg c34).symm.trans h
        refine j_iload C 7 rfl dX0_measure_109 ?_
        refine j_iload_n C 1 rfl dX0_measure_111 rfl ?_
        refine bk_elim h (fun K162_35 e_K162_35 h => ?_)
        have HK162_35 : ∀ (x36 : Int32) (x37 : Int32) (x38 : Int32) (x39 : Int32) (x40 : Int32) (x41 : Int32) (x42 : Int32) (V43 : Nat → Nat → Int32), K162_35 x36 x37 x38 x39 x40 x41 x42 V43 = some V0 → jW p l e ({ frames := 4, cells := 0, slots := 0, locals := 104 }) s m args below meth c (MQ below (jQc D TC ad cA none s.heap.size S V0 L) args s 0 0 (jA ad TC s.heap.size)) D TC ad cA (jA ad TC s.heap.size) 8 0 0 162 [(0, .ref (ad 49)), (1, .int x36), (2, .int x37), (3, .int x38), (4, .int x39), (5, .int x40), (6, .int x41), (7, .int x42)] [] S V43 L := by
          subst e_K162_35
          intro x36 x37 x38 x39 x40 x41 x42 V43 h
          refine lt_elim h (fun x44 e_x44 h => ?_)
          refine j_iinc C [(7, .int x44), (0, .ref (ad 49)), (1, .int x36), (2, .int x37), (3, .int x38), (4, .int x39), (5, .int x40), (6, .int x41)] 7 dX0_measure_162 rfl ((iinc_eq ci_1).trans e_x44.symm) (by decide) rfl ?_
          refine j_goto (tgt := 100) C dX0_measure_165 (by decide) ?_
          exact j_sub [1, 2, 3, 4, 5, 6, 7, 0] rfl (ih _ _ _ _ _ _ _ _ h)
        refine j_icmp_eq (tgt := 162) C dX0_measure_112 (by decide) (fun c45 => ?_) (fun c45 => ?_)
        · have h := (if_pos c45).symm.trans h
          exact j_sub [0, 1, 2, 3, 4, 5, 6, 7] rfl (HK162_35 _ _ _ _ _ _ _ _ h)
        · have h := (if_neg c45).symm.trans h
          refine j_aload_n C 0 rfl dX0_measure_115 rfl ?_
          refine fg_X0_21_TC_49 C dX0_measure_116 ?_
          refine j_iload_n C 3 rfl dX0_measure_119 rfl ?_
          refine j_iconst C dX0_measure_120 ci_4 ?_
          refine j_imul C dX0_measure_121 ?_
          refine j_iload C 7 rfl dX0_measure_122 ?_
          refine j_iadd C dX0_measure_124 ?_
          refine j_aload_n C 0 rfl dX0_measure_125 rfl ?_
          refine j_iload_n C 1 rfl dX0_measure_126 rfl ?_
          refine j_iload_n C 2 rfl dX0_measure_127 rfl ?_
          obtain ⟨r46, h47, h⟩ := bd1_elim h
          refine j_callS (As := [.int x27]) (rest := [.int x26, .ref (ad 49), .int ((x28 * (4 : Int32)) + x32), .ref (ad 53)]) C (kX0_halfOf l B D ad cA hI S V33 L x27 _ h47) mw_X0_halfOf wd1204 wd1203 ⟨rfl, rfl, by decide, by decide⟩ ⟨Nat.zero_le _, Nat.zero_le _⟩ rfl rfl (Nat.le_of_ble_eq_true rfl) dX0_measure_128 ?_
          refine j_iload C 4 rfl dX0_measure_131 ?_
          refine j_iload C 5 rfl dX0_measure_133 ?_
          refine j_aload_n C 0 rfl dX0_measure_135 rfl ?_
          refine fg_X0_9_TC_49 C dX0_measure_136 ?_
          refine j_iload C 7 rfl dX0_measure_139 ?_
          obtain ⟨g48, h⟩ := gd_elim h
          refine j_iald C tc_50 (ib_in g48) dX0_measure_141 ?_
          obtain ⟨r49, V50, h51, h⟩ := bd2_elim h
          refine j_callV (As := [.int x26, .int r46, .int x29, .int x30, .int (V33 50 (x32).toNatClampNeg)]) (rest := [.int ((x28 * (4 : Int32)) + x32), .ref (ad 53)]) C (kX0_goodHours_49 l B D ad cA hI S V33 L x26 r46 x29 x30 ((V33 50 (x32).toNatClampNeg)) _ _ h51) mw_X0_goodHours wd1209 wd41 wd1207 tc_49 rfl rfl ⟨rfl, rfl, by decide, by decide⟩ ⟨Nat.zero_le _, Nat.zero_le _⟩ rfl rfl (Nat.le_of_ble_eq_true rfl) dX0_measure_142 ?_
          refine lt_elim h (fun x52 e_x52 h => ?_)
          refine j_top2 e_x52 ?_
          obtain ⟨g53, h⟩ := gd_elim h
          refine j_iast C tc_53 (ib_in g53) dX0_measure_145 ?_
          refine lt_elim h (fun V54 e_V54 h => ?_)
          refine j_V e_V54 ?_
          refine j_iload C 6 rfl dX0_measure_146 ?_
          refine j_aload_n C 0 rfl dX0_measure_148 rfl ?_
          refine fg_X0_21_TC_49 C dX0_measure_149 ?_
          refine j_iload_n C 3 rfl dX0_measure_152 rfl ?_
          refine j_iconst C dX0_measure_153 ci_4 ?_
          refine j_imul C dX0_measure_154 ?_
          refine j_iload C 7 rfl dX0_measure_155 ?_
          refine j_iadd C dX0_measure_157 ?_
          refine lt_elim h (fun x55 e_x55 h => ?_)
          refine j_top e_x55 ?_
          obtain ⟨g56, h⟩ := gd_elim h
          refine j_iald C tc_53 (ib_in g56) dX0_measure_158 ?_
          refine j_ior C dX0_measure_159 ?_
          refine lt_elim h (fun x57 e_x57 h => ?_)
          refine j_top e_x57 ?_
          refine j_istore C [(6, .int x57), (0, .ref (ad 49)), (1, .int x26), (2, .int x27), (3, .int x28), (4, .int x29), (5, .int x30), (7, .int x32)] dX0_measure_160 (by decide) rfl ?_
          exact j_sub [1, 2, 3, 4, 5, 6, 0, 7] rfl (HK162_35 _ _ _ _ _ _ _ _ h)
  refine j_iload_n C 1 rfl dX0_measure_0 rfl ?_
  refine j_bipush C dX0_measure_1 cb_16 ?_
  refine j_imul C dX0_measure_3 ?_
  refine j_iload_n C 2 rfl dX0_measure_4 rfl ?_
  refine j_iadd C dX0_measure_5 ?_
  refine lt_elim h (fun x1 e_x1 h => ?_)
  refine j_top e_x1 ?_
  refine j_istore_n C [(3, .int x1), (0, .ref (ad 49)), (1, .int a1), (2, .int a2)] dX0_measure_6 rfl (by decide) rfl ?_
  refine j_aload_n C 1 rfl dX0_measure_7 rfl ?_
  refine fg_X0_15_TC_49 C dX0_measure_8 ?_
  refine j_iload_n C 0 rfl dX0_measure_11 rfl ?_
  refine j_iconst C dX0_measure_12 ci_0 ?_
  obtain ⟨g2, h⟩ := gd_elim h
  refine j_iast C tc_51 (ib_in g2) dX0_measure_13 ?_
  refine lt_elim h (fun V3 e_V3 h => ?_)
  refine j_V e_V3 ?_
  refine j_iload_n C 3 rfl dX0_measure_14 rfl ?_
  obtain ⟨r4, h5, h⟩ := bd1_elim h
  refine j_callS (As := [.int a2]) (rest := []) C (kX0_fromOf l B D ad cA hI S V3 L a2 _ h5) mw_X0_fromOf wd1201 wd1200 ⟨rfl, rfl, by decide, by decide⟩ ⟨Nat.zero_le _, Nat.zero_le _⟩ rfl rfl (Nat.le_of_ble_eq_true rfl) dX0_measure_15 ?_
  refine j_istore C [(4, .int r4), (3, .int x1), (0, .ref (ad 49)), (1, .int a1), (2, .int a2)] dX0_measure_18 (by decide) rfl ?_
  refine j_iload C 0 rfl dX0_measure_20 ?_
  refine j_aload_n C 2 rfl dX0_measure_22 rfl ?_
  refine fg_X0_36_TC_49 C dX0_measure_23 ?_
  refine fg_X0_83_TC_3 C dX0_measure_26 ?_
  refine j_aload_n C 2 rfl dX0_measure_29 rfl ?_
  refine fg_X0_9_TC_49 C dX0_measure_30 ?_
  refine j_iload_n C 3 rfl dX0_measure_33 rfl ?_
  obtain ⟨g6, h⟩ := gd_elim h
  refine j_iald C tc_50 (ib_in g6) dX0_measure_34 ?_
  refine lt_elim h (fun x7 e_x7 h => ?_)
  refine j_top e_x7 ?_
  obtain ⟨g8, h⟩ := gd_elim h
  refine j_iald C tc_6 (ib_in g8) dX0_measure_35 ?_
  refine j_iadd C dX0_measure_36 ?_
  refine j_iconst C dX0_measure_37 ci_1 ?_
  refine j_isub C dX0_measure_38 ?_
  refine lt_elim h (fun x9 e_x9 h => ?_)
  refine j_top e_x9 ?_
  refine j_istore C [(5, .int x9), (4, .int r4), (3, .int x1), (0, .ref (ad 49)), (1, .int a1), (2, .int a2)] dX0_measure_39 (by decide) rfl ?_
  refine j_iload C 0 rfl dX0_measure_41 ?_
  refine j_bipush C dX0_measure_43 cb_23 ?_
  refine j_icmp_gt (tgt := 68) C dX0_measure_45 (by decide) (fun c10 => ?_) (fun c10 => ?_)
  · have h := (if_pos c10).symm.trans h
    cases h
    exact j_vret C hr hlk rfl dX0_measure_68
  · have h := (if_neg c10).symm.trans h
    refine j_aload_n C 3 rfl dX0_measure_48 rfl ?_
    refine fg_X0_36_TC_49 C dX0_measure_49 ?_
    refine j_aload_n C 3 rfl dX0_measure_52 rfl ?_
    refine fg_X0_9_TC_49 C dX0_measure_53 ?_
    refine j_iload_n C 4 rfl dX0_measure_56 rfl ?_
    obtain ⟨g11, h⟩ := gd_elim h
    refine j_iald C tc_50 (ib_in g11) dX0_measure_57 ?_
    refine j_iload_n C 5 rfl dX0_measure_58 rfl ?_
    obtain ⟨r12, h13, h⟩ := bd1_elim h
    refine j_callS (As := [.int a2]) (rest := [.int (V3 50 (a1).toNatClampNeg), .ref (ad 3)]) C (kX0_halfOf l B D ad cA hI S V3 L a2 _ h13) mw_X0_halfOf wd1204 wd1203 ⟨rfl, rfl, by decide, by decide⟩ ⟨Nat.zero_le _, Nat.zero_le _⟩ rfl rfl (Nat.le_of_ble_eq_true rfl) dX0_measure_59 ?_
    obtain ⟨r14, h15, h⟩ := bd1_elim h
    refine j_callV (As := [.int (V3 50 (a1).toNatClampNeg), .int r12]) (rest := []) C (kX2_breathLets_3 l B D ad cA hI S V3 L ((V3 50 (a1).toNatClampNeg)) r12 _ h15) mw_X2_breathLets wd581 wd582 wd1206 tc_3 rfl rfl ⟨rfl, rfl, by decide, by decide⟩ ⟨Nat.zero_le _, Nat.zero_le _⟩ rfl rfl (Nat.le_of_ble_eq_true rfl) dX0_measure_62 ?_
    refine j_if_ne (tgt := 69) C dX0_measure_65 (by decide) (fun c16 => ?_) (fun c16 => ?_)
    · have h := (if_neg c16).symm.trans h
      refine j_aload_n C 3 rfl dX0_measure_69 rfl ?_
      refine fg_X0_18_TC_49 C dX0_measure_70 ?_
      refine j_iload_n C 2 rfl dX0_measure_73 rfl ?_
      refine j_aload_n C 3 rfl dX0_measure_74 rfl ?_
      refine j_iload_n C 4 rfl dX0_measure_75 rfl ?_
      refine j_iload_n C 5 rfl dX0_measure_76 rfl ?_
      obtain ⟨r17, h18, h⟩ := bd1_elim h
      refine j_callS (As := [.int a2]) (rest := [.int a1, .ref (ad 49), .int x1, .ref (ad 52)]) C (kX0_halfOf l B D ad cA hI S V3 L a2 _ h18) mw_X0_halfOf wd1204 wd1203 ⟨rfl, rfl, by decide, by decide⟩ ⟨Nat.zero_le _, Nat.zero_le _⟩ rfl rfl (Nat.le_of_ble_eq_true rfl) dX0_measure_77 ?_
      refine j_iload C 1 rfl dX0_measure_80 ?_
      refine j_iload C 0 rfl dX0_measure_82 ?_
      refine j_iconst C dX0_measure_84 ci_m1 ?_
      obtain ⟨r19, V20, h21, h⟩ := bd2_elim h
      refine j_callV (As := [.int a1, .int r17, .int r4, .int x9, .int (-1 : Int32)]) (rest := [.int x1, .ref (ad 52)]) C (kX0_goodHours_49 l B D ad cA hI S V3 L a1 r17 r4 x9 (-1 : Int32) _ _ h21) mw_X0_goodHours wd1209 wd41 wd1207 tc_49 rfl rfl ⟨rfl, rfl, by decide, by decide⟩ ⟨Nat.zero_le _, Nat.zero_le _⟩ rfl rfl (Nat.le_of_ble_eq_true rfl) dX0_measure_85 ?_
      obtain ⟨g22, h⟩ := gd_elim h
      refine j_iast C tc_52 (ib_in g22) dX0_measure_88 ?_
      refine lt_elim h (fun V23 e_V23 h => ?_)
      refine j_V e_V23 ?_
      refine j_aload_n C 3 rfl dX0_measure_89 rfl ?_
      refine fg_X0_18_TC_49 C dX0_measure_90 ?_
      refine j_iload_n C 2 rfl dX0_measure_93 rfl ?_
      obtain ⟨g24, h⟩ := gd_elim h
      refine j_iald C tc_52 (ib_in g24) dX0_measure_94 ?_
      refine lt_elim h (fun x25 e_x25 h => ?_)
      refine j_top e_x25 ?_
      refine j_istore C [(6, .int x25), (5, .int x9), (4, .int r4), (3, .int x1), (0, .ref (ad 49)), (1, .int a1), (2, .int a2)] dX0_measure_95 (by decide) rfl ?_
      refine j_iconst C dX0_measure_97 ci_0 ?_
      refine j_istore C [(7, .int (0 : Int32)), (6, .int x25), (5, .int x9), (4, .int r4), (3, .int x1), (0, .ref (ad 49)), (1, .int a1), (2, .int a2)] dX0_measure_98 (by decide) rfl ?_
      refine bk_elim h (fun X168_63 e_X168_63 h => ?_)
      have HX168_63 : ∀ (x64 : Int32) (x65 : Int32) (x66 : Int32) (x67 : Int32) (V68 : Nat → Nat → Int32), X168_63 x64 x65 x66 x67 V68 = some V0 → jW p l e ({ frames := 4, cells := 0, slots := 0, locals := 104 }) s m args below meth c (MQ below (jQc D TC ad cA none s.heap.size S V0 L) args s 0 0 (jA ad TC s.heap.size)) D TC ad cA (jA ad TC s.heap.size) 8 0 0 168 [(0, .ref (ad 49)), (3, .int x64), (4, .int x65), (5, .int x66), (6, .int x67)] [] S V68 L := by
        subst e_X168_63
        intro x64 x65 x66 x67 V68 h
        refine j_aload_n C 0 rfl dX0_measure_168 rfl ?_
        refine fg_X0_15_TC_49 C dX0_measure_169 ?_
        refine j_iload_n C 1 rfl dX0_measure_172 rfl ?_
        refine j_iload C 4 rfl dX0_measure_173 ?_
        refine j_iload C 2 rfl dX0_measure_175 ?_
        refine j_iload C 3 rfl dX0_measure_177 ?_
        obtain ⟨r69, h70, h⟩ := bd1_elim h
        refine j_callN (As := [.int x65, .int x66]) (rest := [.int x67, .int x64, .ref (ad 51)]) (host := "ClockLodgers") C (kX11_hourBits l B D ad cA hI S V68 L x65 x66 _ h70) mw_X11_hourBits wd585 (by decide +kernel) ⟨rfl, rfl, by decide, by decide⟩ ⟨Nat.zero_le _, Nat.zero_le _⟩ rfl rfl (Nat.le_of_ble_eq_true rfl) dX0_measure_179 ?_
        refine bk_elim h (fun K191_71 e_K191_71 h => ?_)
        have HK191_71 : ∀ (x72 : Int32) (x73 : Int32) (V74 : Nat → Nat → Int32), K191_71 x72 x73 V74 = some V0 → jW p l e ({ frames := 4, cells := 0, slots := 0, locals := 104 }) s m args below meth c (MQ below (jQc D TC ad cA none s.heap.size S V0 L) args s 0 0 (jA ad TC s.heap.size)) D TC ad cA (jA ad TC s.heap.size) 8 0 0 191 [] [.int x72, .int x73, .ref (ad 51)] S V74 L := by
          subst e_K191_71
          intro x72 x73 V74 h
          obtain ⟨g75, h⟩ := gd_elim h
          refine j_iast C tc_51 (ib_in g75) dX0_measure_191 ?_
          refine lt_elim h (fun V76 e_V76 h => ?_)
          refine j_V e_V76 ?_
          cases h
          exact j_vret C hr hlk rfl dX0_measure_192
        refine j_icmp_ne (tgt := 190) C dX0_measure_182 (by decide) (fun c77 => ?_) (fun c77 => ?_)
        · have h := (if_neg c77).symm.trans h
          refine j_iconst C dX0_measure_190 ci_0 ?_
          exact j_sub [] rfl (HK191_71 _ _ _ h)
        · have h := (if_pos c77).symm.trans h
          refine j_iload C 4 rfl dX0_measure_185 ?_
          refine j_goto (tgt := 191) C dX0_measure_187 (by decide) ?_
          exact j_sub [] rfl (HK191_71 _ _ _ h)
      exact j_sub [5, 6, 7, 4, 3, 2, 1, 0] rfl (H_fX0_measure_49_L100 _ HX168_63 FU _ _ _ _ _ _ _ _ h)
    · have h := (if_pos c16).symm.trans h
      cases h
      exact j_vret C hr hlk rfl dX0_measure_68
theorem dX0_find_0 : decode cX0_find 0 = .ok (.aload_n 0, 1) := by decide +kernel
theorem dX0_find_1 : decode cX0_find 1 = .ok (.iload_n 1, 1) := by decide +kernel
theorem dX0_find_2 : decode cX0_find 2 = .ok (.invokevirtual 48, 3) := by decide +kernel
theorem dX0_find_5 : decode cX0_find 5 = .ok (.iconst 0, 1) := by decide +kernel
theorem dX0_find_6 : decode cX0_find 6 = .ok (.istore_n 3, 1) := by decide +kernel
theorem dX0_find_7 : decode cX0_find 7 = .ok (.iload_n 3, 1) := by decide +kernel
theorem dX0_find_8 : decode cX0_find 8 = .ok (.aload_n 0, 1) := by decide +kernel
theorem dX0_find_9 : decode cX0_find 9 = .ok (.getfield 52, 3) := by decide +kernel
theorem dX0_find_12 : decode cX0_find 12 = .ok (.if_icmp .ge 32, 3) := by decide +kernel
theorem dX0_find_15 : decode cX0_find 15 = .ok (.iconst 0, 1) := by decide +kernel
theorem dX0_find_16 : decode cX0_find 16 = .ok (.istore 4, 2) := by decide +kernel
theorem dX0_find_18 : decode cX0_find 18 = .ok (.iload 4, 2) := by decide +kernel
theorem dX0_find_20 : decode cX0_find 20 = .ok (.bipush 16, 2) := by decide +kernel
theorem dX0_find_22 : decode cX0_find 22 = .ok (.if_icmp .ge 16, 3) := by decide +kernel
theorem dX0_find_25 : decode cX0_find 25 = .ok (.aload_n 0, 1) := by decide +kernel
theorem dX0_find_26 : decode cX0_find 26 = .ok (.iload_n 3, 1) := by decide +kernel
theorem dX0_find_27 : decode cX0_find 27 = .ok (.iload 4, 2) := by decide +kernel
theorem dX0_find_29 : decode cX0_find 29 = .ok (.invokevirtual 56, 3) := by decide +kernel
theorem dX0_find_32 : decode cX0_find 32 = .ok (.iinc 4 1, 3) := by decide +kernel
theorem dX0_find_35 : decode cX0_find 35 = .ok (.goto (-17), 3) := by decide +kernel
theorem dX0_find_38 : decode cX0_find 38 = .ok (.iinc 3 1, 3) := by decide +kernel
theorem dX0_find_41 : decode cX0_find 41 = .ok (.goto (-34), 3) := by decide +kernel
theorem dX0_find_44 : decode cX0_find 44 = .ok (.aload_n 0, 1) := by decide +kernel
theorem dX0_find_45 : decode cX0_find 45 = .ok (.ldc 60, 2) := by decide +kernel
theorem dX0_find_47 : decode cX0_find 47 = .ok (.putfield 61, 3) := by decide +kernel
theorem dX0_find_50 : decode cX0_find 50 = .ok (.aload_n 0, 1) := by decide +kernel
theorem dX0_find_51 : decode cX0_find 51 = .ok (.iconst 0, 1) := by decide +kernel
theorem dX0_find_52 : decode cX0_find 52 = .ok (.bipush 12, 2) := by decide +kernel
theorem dX0_find_54 : decode cX0_find 54 = .ok (.aload_n 0, 1) := by decide +kernel
theorem dX0_find_55 : decode cX0_find 55 = .ok (.getfield 36, 3) := by decide +kernel
theorem dX0_find_58 : decode cX0_find 58 = .ok (.iconst (-1), 1) := by decide +kernel
theorem dX0_find_59 : decode cX0_find 59 = .ok (.iconst (-1), 1) := by decide +kernel
theorem dX0_find_60 : decode cX0_find 60 = .ok (.iconst (-1), 1) := by decide +kernel
theorem dX0_find_61 : decode cX0_find 61 = .ok (.iload_n 2, 1) := by decide +kernel
theorem dX0_find_62 : decode cX0_find 62 = .ok (.invokevirtual 64, 3) := by decide +kernel
theorem dX0_find_65 : decode cX0_find 65 = .ok (.bipush 60, 2) := by decide +kernel
theorem dX0_find_67 : decode cX0_find 67 = .ok (.isub, 1) := by decide +kernel
theorem dX0_find_68 : decode cX0_find 68 = .ok (.imul, 1) := by decide +kernel
theorem dX0_find_69 : decode cX0_find 69 = .ok (.invokevirtual 70, 3) := by decide +kernel
theorem dX0_find_72 : decode cX0_find 72 = .ok (.aload_n 0, 1) := by decide +kernel
theorem dX0_find_73 : decode cX0_find 73 = .ok (.getfield 61, 3) := by decide +kernel
theorem dX0_find_76 : decode cX0_find 76 = .ok (.ldc 60, 2) := by decide +kernel
theorem dX0_find_78 : decode cX0_find 78 = .ok (.if_icmp .ne 5, 3) := by decide +kernel
theorem dX0_find_81 : decode cX0_find 81 = .ok (.iconst (-1), 1) := by decide +kernel
theorem dX0_find_82 : decode cX0_find 82 = .ok (.ireturn, 1) := by decide +kernel
theorem dX0_find_83 : decode cX0_find 83 = .ok (.aload_n 0, 1) := by decide +kernel
theorem dX0_find_84 : decode cX0_find 84 = .ok (.invokevirtual 73, 3) := by decide +kernel
theorem dX0_find_87 : decode cX0_find 87 = .ok (.aload_n 0, 1) := by decide +kernel
theorem dX0_find_88 : decode cX0_find 88 = .ok (.getfield 61, 3) := by decide +kernel
theorem dX0_find_91 : decode cX0_find 91 = .ok (.ireturn, 1) := by decide +kernel
def fX0_find_49_L18 (E38 : Int32 → Int32 → (Nat → Int32) → (Nat → Nat → Int32) → Option (Int32 × (Nat → Int32) × (Nat → Nat → Int32))) : Nat → Int32 → Int32 → Int32 → (Nat → Int32) → (Nat → Nat → Int32) → Option (Int32 × (Nat → Int32) × (Nat → Nat → Int32))
  | 0, _, _, _, _, _ => none
  | n + 1, x9, x10, x11, S12, V13 =>
    (if (16 : Int32) ≤ x11 then
    E38 x9 x10 S12 V13
    else
    bd1 (fX0_measure_49 S12 V13 x10 x11) (fun V15 =>
    lt (x11 + (1 : Int32)) (fun x17 =>
    fX0_find_49_L18 E38 n x9 x10 x17 S12 V15)))
def fX0_find_49_L7 (E44 : Int32 → (Nat → Int32) → (Nat → Nat → Int32) → Option (Int32 × (Nat → Int32) × (Nat → Nat → Int32))) : Nat → Int32 → Int32 → (Nat → Int32) → (Nat → Nat → Int32) → Option (Int32 × (Nat → Int32) × (Nat → Nat → Int32))
  | 0, _, _, _, _ => none
  | n + 1, x4, x5, S6, V7 =>
    (if (S6 4903) ≤ x5 then
    E44 x4 S6 V7
    else
    bk (fun (x23 : Int32) (x24 : Int32) (S25 : Nat → Int32) (V26 : Nat → Nat → Int32) =>
    lt (x24 + (1 : Int32)) (fun x27 =>
    fX0_find_49_L7 E44 n x23 x27 S25 V26)) (fun X38_22 =>
    fX0_find_49_L18 X38_22 FU x4 x5 (0 : Int32) S6 V7))
def fX0_find_49 (S : Nat → Int32) (V : Nat → Nat → Int32) (a1 : Int32) (a2 : Int32) : Option (Int32 × (Nat → Int32) × (Nat → Nat → Int32)) :=
  bd2 (fX0_gather_49 S V a1) (fun S1 V2 =>
  bk (fun (x32 : Int32) (S33 : Nat → Int32) (V34 : Nat → Nat → Int32) =>
  lt (va_up S33 4910 (1000000 : Int32)) (fun S35 =>
  bd1 (fX2_swingOf_3 S35 V34 (-1 : Int32) (-1 : Int32) (-1 : Int32) x32) (fun r36 =>
  bd2 (fX0_placeFrom_49 DP S35 V34 (0 : Int32) (((12 : Int32) * (r36 - (60 : Int32))))) (fun S38 V39 =>
  (if (S38 4910) = (1000000 : Int32) then
  some ((-1 : Int32), S38, V39)
  else
  bd2 (fX0_keep_49 S38 V39) (fun S42 V43 =>
  some ((S42 4910), S42, V43))))))) (fun X44_31 =>
  fX0_find_49_L7 X44_31 FU a2 (0 : Int32) S1 V2))
set_option maxHeartbeats 4000000 in
set_option maxRecDepth 100000 in
theorem kX0_find_49 (l : Launch) (B : jBT) (D : va_G) (ad : Nat → Nat) (cA : Nat → ClassId) (hI : jI ad TC) (S : Nat → Int32) (V : Nat → Nat → Int32) (L : Nat → Int64) (a1 : Int32) (a2 : Int32) (r0 : Int32) (S0 : Nat → Int32) (V0 : Nat → Nat → Int32) (h : fX0_find_49 S V a1 a2 = some (r0, S0, V0)) : jM l yX0_find cX0_find 5 (some .int) ({ frames := 11, cells := 0, slots := 0, locals := 292 }) B D TC ad cA [.ref (ad 49), .int a1, .int a2] S V L (some (.int r0)) S0 V0 L := by
  refine jM_of (plainFor_of_name (by decide)) TC_ok hI (Nat.le_of_ble_eq_true rfl) ?_
  intro p e s m args below meth c C hr hlk
  refine j_lv (lv2 := [(0, .ref (ad 49)), (1, .int a1), (2, .int a2)]) rfl ?_
  unfold fX0_find_49 at h
  have H_fX0_find_49_L18 : ∀ (E38 : Int32 → Int32 → (Nat → Int32) → (Nat → Nat → Int32) → Option (Int32 × (Nat → Int32) × (Nat → Nat → Int32))) (_ : ∀ (x18 : Int32) (x19 : Int32) (S20 : Nat → Int32) (V21 : Nat → Nat → Int32), E38 x18 x19 S20 V21 = some (r0, S0, V0) → jW p l e ({ frames := 11, cells := 0, slots := 0, locals := 292 }) s m args below meth c (MQ below (jQc D TC ad cA (some (.int r0)) s.heap.size S0 V0 L) args s 0 0 (jA ad TC s.heap.size)) D TC ad cA (jA ad TC s.heap.size) 5 0 0 38 [(0, .ref (ad 49)), (2, .int x18), (3, .int x19)] [] S20 V21 L) (n : Nat) (x9 : Int32) (x10 : Int32) (x11 : Int32) (S12 : Nat → Int32) (V13 : Nat → Nat → Int32), fX0_find_49_L18 E38 n x9 x10 x11 S12 V13 = some (r0, S0, V0) → jW p l e ({ frames := 11, cells := 0, slots := 0, locals := 292 }) s m args below meth c (MQ below (jQc D TC ad cA (some (.int r0)) s.heap.size S0 V0 L) args s 0 0 (jA ad TC s.heap.size)) D TC ad cA (jA ad TC s.heap.size) 5 0 0 18 [(0, .ref (ad 49)), (2, .int x9), (3, .int x10), (4, .int x11)] [] S12 V13 L := by
    intro E38 HE38
    intro n
    induction n with
    | zero =>
      intro x9 x10 x11 S12 V13 h
      cases (show (none : Option (Int32 × (Nat → Int32) × (Nat → Nat → Int32))) = some (r0, S0, V0) from h)
    | succ n ih =>
      intro x9 x10 x11 S12 V13 h
      unfold fX0_find_49_L18 at h
      refine j_iload C 3 rfl dX0_find_18 ?_
      refine j_bipush C dX0_find_20 cb_16 ?_
      refine j_icmp_ge (tgt := 38) C dX0_find_22 (by decide) (fun c14 => ?_) (fun c14 => ?_)
      · have h := (if_pos c14).symm.trans h
        exact j_sub [0, 1, 2] rfl (HE38 _ _ _ _ h)
      · have h := (if_neg c14).symm.trans h
        refine j_aload_n C 0 rfl dX0_find_25 rfl ?_
        refine j_iload_n C 2 rfl dX0_find_26 rfl ?_
        refine j_iload C 3 rfl dX0_find_27 ?_
        obtain ⟨V15, h16, h⟩ := bd1_elim h
        refine j_callV (As := [.int x10, .int x11]) (rest := []) C (kX0_measure_49 l B D ad cA hI S12 V13 L x10 x11 _ h16) mw_X0_measure wd1198 wd40 wd1196 tc_49 rfl rfl ⟨rfl, rfl, by decide, by decide⟩ ⟨Nat.zero_le _, Nat.zero_le _⟩ rfl rfl (Nat.le_of_ble_eq_true rfl) dX0_find_29 ?_
        refine lt_elim h (fun x17 e_x17 h => ?_)
        refine j_iinc C [(4, .int x17), (0, .ref (ad 49)), (2, .int x9), (3, .int x10)] 3 dX0_find_32 rfl ((iinc_eq ci_1).trans e_x17.symm) (by decide) rfl ?_
        refine j_goto (tgt := 18) C dX0_find_35 (by decide) ?_
        exact j_sub [1, 2, 3, 0] rfl (ih _ _ _ _ _ h)
  have H_fX0_find_49_L7 : ∀ (E44 : Int32 → (Nat → Int32) → (Nat → Nat → Int32) → Option (Int32 × (Nat → Int32) × (Nat → Nat → Int32))) (_ : ∀ (x28 : Int32) (S29 : Nat → Int32) (V30 : Nat → Nat → Int32), E44 x28 S29 V30 = some (r0, S0, V0) → jW p l e ({ frames := 11, cells := 0, slots := 0, locals := 292 }) s m args below meth c (MQ below (jQc D TC ad cA (some (.int r0)) s.heap.size S0 V0 L) args s 0 0 (jA ad TC s.heap.size)) D TC ad cA (jA ad TC s.heap.size) 5 0 0 44 [(0, .ref (ad 49)), (2, .int x28)] [] S29 V30 L) (n : Nat) (x4 : Int32) (x5 : Int32) (S6 : Nat → Int32) (V7 : Nat → Nat → Int32), fX0_find_49_L7 E44 n x4 x5 S6 V7 = some (r0, S0, V0) → jW p l e ({ frames := 11, cells := 0, slots := 0, locals := 292 }) s m args below meth c (MQ below (jQc D TC ad cA (some (.int r0)) s.heap.size S0 V0 L) args s 0 0 (jA ad TC s.heap.size)) D TC ad cA (jA ad TC s.heap.size) 5 0 0 7 [(0, .ref (ad 49)), (2, .int x4), (3, .int x5)] [] S6 V7 L := by
    intro E44 HE44
    intro n
    induction n with
    | zero =>
      intro x4 x5 S6 V7 h
      cases (show (none : Option (Int32 × (Nat → Int32) × (Nat → Nat → Int32))) = some (r0, S0, V0) from h)
    | succ n ih =>
      intro x4 x5 S6 V7 h
      unfold fX0_find_49_L7 at h
      refine j_iload_n C 2 rfl dX0_find_7 rfl ?_
      refine j_aload_n C 0 rfl dX0_find_8 rfl ?_
      refine fg_X0_52_TC_49 C dX0_find_9 ?_
      refine j_icmp_ge (tgt := 44) C dX0_find_12 (by decide) (fun c8 => ?_) (fun c8 => ?_)
      · have h := (if_pos c8).symm.trans h
        exact j_sub [0, 1] rfl (HE44 _ _ _ h)
      · have h := (if_neg c8).symm.trans h
        refine j_iconst C dX0_find_15 ci_0 ?_
        refine j_istore C [(4, .int (0 : Int32)), (0, .ref (ad 49)), (2, .int x4), (3, .int x5)] dX0_find_16 (by decide) rfl ?_
        refine bk_elim h (fun X38_22 e_X38_22 h => ?_)
        have HX38_22 : ∀ (x23 : Int32) (x24 : Int32) (S25 : Nat → Int32) (V26 : Nat → Nat → Int32), X38_22 x23 x24 S25 V26 = some (r0, S0, V0) → jW p l e ({ frames := 11, cells := 0, slots := 0, locals := 292 }) s m args below meth c (MQ below (jQc D TC ad cA (some (.int r0)) s.heap.size S0 V0 L) args s 0 0 (jA ad TC s.heap.size)) D TC ad cA (jA ad TC s.heap.size) 5 0 0 38 [(0, .ref (ad 49)), (2, .int x23), (3, .int x24)] [] S25 V26 L := by
          subst e_X38_22
          intro x23 x24 S25 V26 h
          refine lt_elim h (fun x27 e_x27 h => ?_)
          refine j_iinc C [(3, .int x27), (0, .ref (ad 49)), (2, .int x23)] 2 dX0_find_38 rfl ((iinc_eq ci_1).trans e_x27.symm) (by decide) rfl ?_
          refine j_goto (tgt := 7) C dX0_find_41 (by decide) ?_
          exact j_sub [1, 2, 0] rfl (ih _ _ _ _ h)
        exact j_sub [1, 2, 3, 0] rfl (H_fX0_find_49_L18 _ HX38_22 FU _ _ _ _ _ h)
  refine j_aload_n C 0 rfl dX0_find_0 rfl ?_
  refine j_iload_n C 1 rfl dX0_find_1 rfl ?_
  obtain ⟨S1, V2, h3, h⟩ := bd2_elim h
  refine j_callV (As := [.int a1]) (rest := []) C (kX0_gather_49 l B D ad cA hI S V L a1 _ _ h3) mw_X0_gather wd1192 wd39 wd1190 tc_49 rfl rfl ⟨rfl, rfl, by decide, by decide⟩ ⟨Nat.zero_le _, Nat.zero_le _⟩ rfl rfl (Nat.le_of_ble_eq_true rfl) dX0_find_2 ?_
  refine j_iconst C dX0_find_5 ci_0 ?_
  refine j_istore_n C [(3, .int (0 : Int32)), (0, .ref (ad 49)), (1, .int a1), (2, .int a2)] dX0_find_6 rfl (by decide) rfl ?_
  refine bk_elim h (fun X44_31 e_X44_31 h => ?_)
  have HX44_31 : ∀ (x32 : Int32) (S33 : Nat → Int32) (V34 : Nat → Nat → Int32), X44_31 x32 S33 V34 = some (r0, S0, V0) → jW p l e ({ frames := 11, cells := 0, slots := 0, locals := 292 }) s m args below meth c (MQ below (jQc D TC ad cA (some (.int r0)) s.heap.size S0 V0 L) args s 0 0 (jA ad TC s.heap.size)) D TC ad cA (jA ad TC s.heap.size) 5 0 0 44 [(0, .ref (ad 49)), (2, .int x32)] [] S33 V34 L := by
    subst e_X44_31
    intro x32 S33 V34 h
    refine j_aload_n C 0 rfl dX0_find_44 rfl ?_
    refine j_ldc C wd1214 dX0_find_45 ?_
    refine fp_X0_61_TC_49 C dX0_find_47 ?_
    refine lt_elim h (fun S35 e_S35 h => ?_)
    refine j_S e_S35 ?_
    refine j_aload_n C 0 rfl dX0_find_50 rfl ?_
    refine j_iconst C dX0_find_51 ci_0 ?_
    refine j_bipush C dX0_find_52 cb_12 ?_
    refine j_aload_n C 0 rfl dX0_find_54 rfl ?_
    refine fg_X0_36_TC_49 C dX0_find_55 ?_
    refine j_iconst C dX0_find_58 ci_m1 ?_
    refine j_iconst C dX0_find_59 ci_m1 ?_
    refine j_iconst C dX0_find_60 ci_m1 ?_
    refine j_iload_n C 1 rfl dX0_find_61 rfl ?_
    obtain ⟨r36, h37, h⟩ := bd1_elim h
    refine j_callV (As := [.int (-1 : Int32), .int (-1 : Int32), .int (-1 : Int32), .int x32]) (rest := [.int (12 : Int32), .int (0 : Int32), .ref (ad 49)]) C (kX2_swingOf_3 l B D ad cA hI S35 V34 L (-1 : Int32) (-1 : Int32) (-1 : Int32) x32 _ h37) mw_X2_swingOf wd1142 wd1143 wd1215 tc_3 rfl rfl ⟨rfl, rfl, by decide, by decide⟩ ⟨Nat.zero_le _, Nat.zero_le _⟩ rfl rfl (Nat.le_of_ble_eq_true rfl) dX0_find_62 ?_
    refine j_bipush C dX0_find_65 cb_60 ?_
    refine j_isub C dX0_find_67 ?_
    refine j_imul C dX0_find_68 ?_
    obtain ⟨S38, V39, h40, h⟩ := bd2_elim h
    refine j_callV (As := [.int (0 : Int32), .int ((12 : Int32) * (r36 - (60 : Int32)))]) (rest := []) C (kX0_placeFrom_49 DP l B D ad cA hI S35 V34 L (0 : Int32) (((12 : Int32) * (r36 - (60 : Int32)))) _ _ h40) mw_X0_placeFrom wd1218 wd42 wd1216 tc_49 rfl rfl ⟨rfl, rfl, by decide, by decide⟩ ⟨Nat.zero_le _, Nat.zero_le _⟩ rfl rfl (Nat.le_of_ble_eq_true rfl) dX0_find_69 ?_
    refine j_aload_n C 0 rfl dX0_find_72 rfl ?_
    refine fg_X0_61_TC_49 C dX0_find_73 ?_
    refine j_ldc C wd1214 dX0_find_76 ?_
    refine j_icmp_ne (tgt := 83) C dX0_find_78 (by decide) (fun c41 => ?_) (fun c41 => ?_)
    · have h := (if_neg c41).symm.trans h
      refine j_aload_n C 0 rfl dX0_find_83 rfl ?_
      obtain ⟨S42, V43, h44, h⟩ := bd2_elim h
      refine j_callV (As := []) (rest := []) C (kX0_keep_49 l B D ad cA hI S38 V39 L _ _ h44) mw_X0_keep wd1239 wd46 wd1237 tc_49 rfl rfl ⟨rfl, rfl, by decide, by decide⟩ ⟨Nat.zero_le _, Nat.zero_le _⟩ rfl rfl (Nat.le_of_ble_eq_true rfl) dX0_find_84 ?_
      refine j_aload_n C 0 rfl dX0_find_87 rfl ?_
      refine fg_X0_61_TC_49 C dX0_find_88 ?_
      cases h
      exact j_iret C hr hlk rfl dX0_find_91
    · have h := (if_pos c41).symm.trans h
      refine j_iconst C dX0_find_81 ci_m1 ?_
      cases h
      exact j_iret C hr hlk rfl dX0_find_82
  exact j_sub [1, 3, 0] rfl (H_fX0_find_49_L7 _ HX44_31 FU _ _ _ _ h)
