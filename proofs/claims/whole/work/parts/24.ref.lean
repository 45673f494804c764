theorem dX12_shared_0 : decode cX12_shared 0 = .ok (.aload_n 0, 1) := by decide +kernel
theorem dX12_shared_1 : decode cX12_shared 1 = .ok (.iconst 0, 1) := by decide +kernel
theorem dX12_shared_2 : decode cX12_shared 2 = .ok (.putfield 93, 3) := by decide +kernel
theorem dX12_shared_5 : decode cX12_shared 5 = .ok (.aload_n 0, 1) := by decide +kernel
theorem dX12_shared_6 : decode cX12_shared 6 = .ok (.iload_n 1, 1) := by decide +kernel
theorem dX12_shared_7 : decode cX12_shared 7 = .ok (.invokevirtual 335, 3) := by decide +kernel
theorem dX12_shared_10 : decode cX12_shared 10 = .ok (.ifCond .eq 19, 3) := by decide +kernel
theorem dX12_shared_13 : decode cX12_shared 13 = .ok (.aload_n 0, 1) := by decide +kernel
theorem dX12_shared_14 : decode cX12_shared 14 = .ok (.iload_n 2, 1) := by decide +kernel
theorem dX12_shared_15 : decode cX12_shared 15 = .ok (.iconst 0, 1) := by decide +kernel
theorem dX12_shared_16 : decode cX12_shared 16 = .ok (.sipush 9999, 3) := by decide +kernel
theorem dX12_shared_19 : decode cX12_shared 19 = .ok (.invokestatic 294, 3) := by decide +kernel
theorem dX12_shared_22 : decode cX12_shared 22 = .ok (.iconst 2, 1) := by decide +kernel
theorem dX12_shared_23 : decode cX12_shared 23 = .ok (.invokevirtual 255, 3) := by decide +kernel
theorem dX12_shared_26 : decode cX12_shared 26 = .ok (.ifCond .ne 5, 3) := by decide +kernel
theorem dX12_shared_29 : decode cX12_shared 29 = .ok (.iconst 0, 1) := by decide +kernel
theorem dX12_shared_30 : decode cX12_shared 30 = .ok (.ireturn, 1) := by decide +kernel
theorem dX12_shared_31 : decode cX12_shared 31 = .ok (.lconst 0, 1) := by decide +kernel
theorem dX12_shared_32 : decode cX12_shared 32 = .ok (.lstore_n 3, 1) := by decide +kernel
theorem dX12_shared_33 : decode cX12_shared 33 = .ok (.iconst 0, 1) := by decide +kernel
theorem dX12_shared_34 : decode cX12_shared 34 = .ok (.istore 5, 2) := by decide +kernel
theorem dX12_shared_36 : decode cX12_shared 36 = .ok (.iload 5, 2) := by decide +kernel
theorem dX12_shared_38 : decode cX12_shared 38 = .ok (.aload_n 0, 1) := by decide +kernel
theorem dX12_shared_39 : decode cX12_shared 39 = .ok (.getfield 265, 3) := by decide +kernel
theorem dX12_shared_42 : decode cX12_shared 42 = .ok (.if_icmp .ge 19, 3) := by decide +kernel
theorem dX12_shared_45 : decode cX12_shared 45 = .ok (.lload_n 3, 1) := by decide +kernel
theorem dX12_shared_46 : decode cX12_shared 46 = .ok (.aload_n 0, 1) := by decide +kernel
theorem dX12_shared_47 : decode cX12_shared 47 = .ok (.iload 5, 2) := by decide +kernel
theorem dX12_shared_49 : decode cX12_shared 49 = .ok (.invokevirtual 385, 3) := by decide +kernel
theorem dX12_shared_52 : decode cX12_shared 52 = .ok (.i2l, 1) := by decide +kernel
theorem dX12_shared_53 : decode cX12_shared 53 = .ok (.ladd, 1) := by decide +kernel
theorem dX12_shared_54 : decode cX12_shared 54 = .ok (.lstore_n 3, 1) := by decide +kernel
theorem dX12_shared_55 : decode cX12_shared 55 = .ok (.iinc 5 1, 3) := by decide +kernel
theorem dX12_shared_58 : decode cX12_shared 58 = .ok (.goto (-22), 3) := by decide +kernel
theorem dX12_shared_61 : decode cX12_shared 61 = .ok (.lload_n 3, 1) := by decide +kernel
theorem dX12_shared_62 : decode cX12_shared 62 = .ok (.lconst 0, 1) := by decide +kernel
theorem dX12_shared_63 : decode cX12_shared 63 = .ok (.lcmp, 1) := by decide +kernel
theorem dX12_shared_64 : decode cX12_shared 64 = .ok (.ifCond .ne 5, 3) := by decide +kernel
theorem dX12_shared_67 : decode cX12_shared 67 = .ok (.iconst 0, 1) := by decide +kernel
theorem dX12_shared_68 : decode cX12_shared 68 = .ok (.ireturn, 1) := by decide +kernel
theorem dX12_shared_69 : decode cX12_shared 69 = .ok (.iload_n 2, 1) := by decide +kernel
theorem dX12_shared_70 : decode cX12_shared 70 = .ok (.i2l, 1) := by decide +kernel
theorem dX12_shared_71 : decode cX12_shared 71 = .ok (.lstore 5, 2) := by decide +kernel
theorem dX12_shared_73 : decode cX12_shared 73 = .ok (.iconst 0, 1) := by decide +kernel
theorem dX12_shared_74 : decode cX12_shared 74 = .ok (.istore 7, 2) := by decide +kernel
theorem dX12_shared_76 : decode cX12_shared 76 = .ok (.iload 7, 2) := by decide +kernel
theorem dX12_shared_78 : decode cX12_shared 78 = .ok (.aload_n 0, 1) := by decide +kernel
theorem dX12_shared_79 : decode cX12_shared 79 = .ok (.getfield 265, 3) := by decide +kernel
theorem dX12_shared_82 : decode cX12_shared 82 = .ok (.if_icmp .ge 26, 3) := by decide +kernel
theorem dX12_shared_85 : decode cX12_shared 85 = .ok (.lload 5, 2) := by decide +kernel
theorem dX12_shared_87 : decode cX12_shared 87 = .ok (.iload_n 2, 1) := by decide +kernel
theorem dX12_shared_88 : decode cX12_shared 88 = .ok (.i2l, 1) := by decide +kernel
theorem dX12_shared_89 : decode cX12_shared 89 = .ok (.aload_n 0, 1) := by decide +kernel
theorem dX12_shared_90 : decode cX12_shared 90 = .ok (.iload 7, 2) := by decide +kernel
theorem dX12_shared_92 : decode cX12_shared 92 = .ok (.invokevirtual 385, 3) := by decide +kernel
theorem dX12_shared_95 : decode cX12_shared 95 = .ok (.i2l, 1) := by decide +kernel
theorem dX12_shared_96 : decode cX12_shared 96 = .ok (.lmul, 1) := by decide +kernel
theorem dX12_shared_97 : decode cX12_shared 97 = .ok (.lload_n 3, 1) := by decide +kernel
theorem dX12_shared_98 : decode cX12_shared 98 = .ok (.ldiv, 1) := by decide +kernel
theorem dX12_shared_99 : decode cX12_shared 99 = .ok (.lsub, 1) := by decide +kernel
theorem dX12_shared_100 : decode cX12_shared 100 = .ok (.lstore 5, 2) := by decide +kernel
theorem dX12_shared_102 : decode cX12_shared 102 = .ok (.iinc 7 1, 3) := by decide +kernel
theorem dX12_shared_105 : decode cX12_shared 105 = .ok (.goto (-29), 3) := by decide +kernel
theorem dX12_shared_108 : decode cX12_shared 108 = .ok (.iload_n 2, 1) := by decide +kernel
theorem dX12_shared_109 : decode cX12_shared 109 = .ok (.i2l, 1) := by decide +kernel
theorem dX12_shared_110 : decode cX12_shared 110 = .ok (.aload_n 0, 1) := by decide +kernel
theorem dX12_shared_111 : decode cX12_shared 111 = .ok (.iload_n 1, 1) := by decide +kernel
theorem dX12_shared_112 : decode cX12_shared 112 = .ok (.invokevirtual 385, 3) := by decide +kernel
theorem dX12_shared_115 : decode cX12_shared 115 = .ok (.i2l, 1) := by decide +kernel
theorem dX12_shared_116 : decode cX12_shared 116 = .ok (.lmul, 1) := by decide +kernel
theorem dX12_shared_117 : decode cX12_shared 117 = .ok (.lload_n 3, 1) := by decide +kernel
theorem dX12_shared_118 : decode cX12_shared 118 = .ok (.lrem, 1) := by decide +kernel
theorem dX12_shared_119 : decode cX12_shared 119 = .ok (.lstore 7, 2) := by decide +kernel
theorem dX12_shared_121 : decode cX12_shared 121 = .ok (.iconst 0, 1) := by decide +kernel
theorem dX12_shared_122 : decode cX12_shared 122 = .ok (.istore 9, 2) := by decide +kernel
theorem dX12_shared_124 : decode cX12_shared 124 = .ok (.iconst 0, 1) := by decide +kernel
theorem dX12_shared_125 : decode cX12_shared 125 = .ok (.istore 10, 2) := by decide +kernel
theorem dX12_shared_127 : decode cX12_shared 127 = .ok (.iload 10, 2) := by decide +kernel
theorem dX12_shared_129 : decode cX12_shared 129 = .ok (.aload_n 0, 1) := by decide +kernel
theorem dX12_shared_130 : decode cX12_shared 130 = .ok (.getfield 265, 3) := by decide +kernel
theorem dX12_shared_133 : decode cX12_shared 133 = .ok (.if_icmp .ge 55, 3) := by decide +kernel
theorem dX12_shared_136 : decode cX12_shared 136 = .ok (.iload_n 2, 1) := by decide +kernel
theorem dX12_shared_137 : decode cX12_shared 137 = .ok (.i2l, 1) := by decide +kernel
theorem dX12_shared_138 : decode cX12_shared 138 = .ok (.aload_n 0, 1) := by decide +kernel
theorem dX12_shared_139 : decode cX12_shared 139 = .ok (.iload 10, 2) := by decide +kernel
theorem dX12_shared_141 : decode cX12_shared 141 = .ok (.invokevirtual 385, 3) := by decide +kernel
theorem dX12_shared_144 : decode cX12_shared 144 = .ok (.i2l, 1) := by decide +kernel
theorem dX12_shared_145 : decode cX12_shared 145 = .ok (.lmul, 1) := by decide +kernel
theorem dX12_shared_146 : decode cX12_shared 146 = .ok (.lload_n 3, 1) := by decide +kernel
theorem dX12_shared_147 : decode cX12_shared 147 = .ok (.lrem, 1) := by decide +kernel
theorem dX12_shared_148 : decode cX12_shared 148 = .ok (.lstore 11, 2) := by decide +kernel
theorem dX12_shared_150 : decode cX12_shared 150 = .ok (.iload 9, 2) := by decide +kernel
theorem dX12_shared_152 : decode cX12_shared 152 = .ok (.lload 11, 2) := by decide +kernel
theorem dX12_shared_154 : decode cX12_shared 154 = .ok (.lload 7, 2) := by decide +kernel
theorem dX12_shared_156 : decode cX12_shared 156 = .ok (.lcmp, 1) := by decide +kernel
theorem dX12_shared_157 : decode cX12_shared 157 = .ok (.ifCond .gt 17, 3) := by decide +kernel
theorem dX12_shared_160 : decode cX12_shared 160 = .ok (.lload 11, 2) := by decide +kernel
theorem dX12_shared_162 : decode cX12_shared 162 = .ok (.lload 7, 2) := by decide +kernel
theorem dX12_shared_164 : decode cX12_shared 164 = .ok (.lcmp, 1) := by decide +kernel
theorem dX12_shared_165 : decode cX12_shared 165 = .ok (.ifCond .ne 13, 3) := by decide +kernel
theorem dX12_shared_168 : decode cX12_shared 168 = .ok (.iload 10, 2) := by decide +kernel
theorem dX12_shared_170 : decode cX12_shared 170 = .ok (.iload_n 1, 1) := by decide +kernel
theorem dX12_shared_171 : decode cX12_shared 171 = .ok (.if_icmp .ge 7, 3) := by decide +kernel
theorem dX12_shared_174 : decode cX12_shared 174 = .ok (.iconst 1, 1) := by decide +kernel
theorem dX12_shared_175 : decode cX12_shared 175 = .ok (.goto 4, 3) := by decide +kernel
theorem dX12_shared_178 : decode cX12_shared 178 = .ok (.iconst 0, 1) := by decide +kernel
theorem dX12_shared_179 : decode cX12_shared 179 = .ok (.iadd, 1) := by decide +kernel
theorem dX12_shared_180 : decode cX12_shared 180 = .ok (.istore 9, 2) := by decide +kernel
theorem dX12_shared_182 : decode cX12_shared 182 = .ok (.iinc 10 1, 3) := by decide +kernel
theorem dX12_shared_185 : decode cX12_shared 185 = .ok (.goto (-58), 3) := by decide +kernel
theorem dX12_shared_188 : decode cX12_shared 188 = .ok (.iload_n 2, 1) := by decide +kernel
theorem dX12_shared_189 : decode cX12_shared 189 = .ok (.i2l, 1) := by decide +kernel
theorem dX12_shared_190 : decode cX12_shared 190 = .ok (.aload_n 0, 1) := by decide +kernel
theorem dX12_shared_191 : decode cX12_shared 191 = .ok (.iload_n 1, 1) := by decide +kernel
theorem dX12_shared_192 : decode cX12_shared 192 = .ok (.invokevirtual 385, 3) := by decide +kernel
theorem dX12_shared_195 : decode cX12_shared 195 = .ok (.i2l, 1) := by decide +kernel
theorem dX12_shared_196 : decode cX12_shared 196 = .ok (.lmul, 1) := by decide +kernel
theorem dX12_shared_197 : decode cX12_shared 197 = .ok (.lload_n 3, 1) := by decide +kernel
theorem dX12_shared_198 : decode cX12_shared 198 = .ok (.ldiv, 1) := by decide +kernel
theorem dX12_shared_199 : decode cX12_shared 199 = .ok (.l2i, 1) := by decide +kernel
theorem dX12_shared_200 : decode cX12_shared 200 = .ok (.iload 9, 2) := by decide +kernel
theorem dX12_shared_202 : decode cX12_shared 202 = .ok (.i2l, 1) := by decide +kernel
theorem dX12_shared_203 : decode cX12_shared 203 = .ok (.lload 5, 2) := by decide +kernel
theorem dX12_shared_205 : decode cX12_shared 205 = .ok (.lcmp, 1) := by decide +kernel
theorem dX12_shared_206 : decode cX12_shared 206 = .ok (.ifCond .ge 7, 3) := by decide +kernel
theorem dX12_shared_209 : decode cX12_shared 209 = .ok (.iconst 1, 1) := by decide +kernel
theorem dX12_shared_210 : decode cX12_shared 210 = .ok (.goto 4, 3) := by decide +kernel
theorem dX12_shared_213 : decode cX12_shared 213 = .ok (.iconst 0, 1) := by decide +kernel
theorem dX12_shared_214 : decode cX12_shared 214 = .ok (.iadd, 1) := by decide +kernel
theorem dX12_shared_215 : decode cX12_shared 215 = .ok (.ireturn, 1) := by decide +kernel
def fX12_shared_0_L36 (E61 : Int32 → Int32 → Int64 → (Nat → Int32) → Option (Int32 × (Nat → Int32))) (V : Nat → Nat → Int32) : Nat → Int32 → Int32 → Int64 → Int32 → (Nat → Int32) → Option (Int32 × (Nat → Int32))
  | 0, _, _, _, _, _ => none
  | n + 1, x12, x13, y14, x15, S16 =>
    (if (S16 5) ≤ x15 then
    E61 x12 x13 y14 S16
    else
    bd1 (fX12_rentOf_0 S16 V x15) (fun r18 =>
    lt ((y14 + ((r18).toInt64))) (fun y20 =>
    lt (x15 + (1 : Int32)) (fun x21 =>
    fX12_shared_0_L36 E61 V n x12 x13 y20 x21 S16))))
def fX12_shared_0_L76 (E108 : Int32 → Int32 → Int64 → Int64 → (Nat → Int32) → Option (Int32 × (Nat → Int32))) (V : Nat → Nat → Int32) : Nat → Int32 → Int32 → Int64 → Int64 → Int32 → (Nat → Int32) → Option (Int32 × (Nat → Int32))
  | 0, _, _, _, _, _, _ => none
  | n + 1, x33, x34, y35, y36, x37, S38 =>
    (if (S38 5) ≤ x37 then
    E108 x33 x34 y35 y36 S38
    else
    bd1 (fX12_rentOf_0 S38 V x37) (fun r40 =>
    gd (nzl y35) (
    lt ((y36 - ((((x34).toInt64) * ((r40).toInt64)) / y35))) (fun y43 =>
    lt (x37 + (1 : Int32)) (fun x44 =>
    fX12_shared_0_L76 E108 V n x33 x34 y35 y43 x44 S38)))))
def fX12_shared_0_L127 (E188 : Int32 → Int32 → Int64 → Int64 → Int32 → (Nat → Int32) → Option (Int32 × (Nat → Int32))) (V : Nat → Nat → Int32) : Nat → Int32 → Int32 → Int64 → Int64 → Int64 → Int32 → Int32 → (Nat → Int32) → Option (Int32 × (Nat → Int32))
  | 0, _, _, _, _, _, _, _, _ => none
  | n + 1, x60, x61, y62, y63, y64, x65, x66, S67 =>
    (if (S67 5) ≤ x66 then
    E188 x60 x61 y62 y63 x65 S67
    else
    bd1 (fX12_rentOf_0 S67 V x66) (fun r69 =>
    gd (nzl y62) (
    lt (((((x61).toInt64) * ((r69).toInt64)) - (((x61).toInt64) * ((r69).toInt64)) / y62 * y62)) (fun y72 =>
    bk (fun (x74 : Int32) (x75 : Int32) (y76 : Int64) (y77 : Int64) (y78 : Int64) (x79 : Int32) (x80 : Int32) (x81 : Int32) (S82 : Nat → Int32) =>
    lt ((x81 + x80)) (fun x83 =>
    lt (x79 + (1 : Int32)) (fun x84 =>
    fX12_shared_0_L127 E188 V n x74 x75 y76 y77 y78 x83 x84 S82))) (fun K179_73 =>
    bk (fun (x86 : Int32) (x87 : Int32) (y88 : Int64) (y89 : Int64) (y90 : Int64) (x91 : Int32) (x92 : Int32) (S93 : Nat → Int32) =>
    K179_73 x86 x87 y88 y89 y90 x91 (1 : Int32) x92 S93) (fun K174_85 =>
    (if 0 < (lg_cmp y72 y64) then
    K174_85 x60 x61 y62 y63 y64 x66 x65 S67
    else
    bk (fun (x96 : Int32) (x97 : Int32) (y98 : Int64) (y99 : Int64) (y100 : Int64) (x101 : Int32) (x102 : Int32) (S103 : Nat → Int32) =>
    K179_73 x96 x97 y98 y99 y100 x101 (0 : Int32) x102 S103) (fun K178_95 =>
    (if (lg_cmp y72 y64) = 0 then
    (if x60 ≤ x66 then
    K178_95 x60 x61 y62 y63 y64 x66 x65 S67
    else
    K174_85 x60 x61 y62 y63 y64 x66 x65 S67)
    else
    K178_95 x60 x61 y62 y63 y64 x66 x65 S67)))))))))
def fX12_shared_0 (S : Nat → Int32) (V : Nat → Nat → Int32) (a1 : Int32) (a2 : Int32) : Option (Int32 × (Nat → Int32)) :=
  lt (va_up S 0 (0 : Int32)) (fun S1 =>
  bd2 (fX12_isTenant_0 S1 a1) (fun r2 S3 =>
  (if r2 = 0 then
  some ((0 : Int32), S3)
  else
  bd1 (fX12_within a2 (0 : Int32) (9999 : Int32)) (fun r6 =>
  bd2 (fX12_right_0 S3 r6 (2 : Int32)) (fun r8 S9 =>
  (if r8 = 0 then
  some ((0 : Int32), S9)
  else
  bk (fun (x27 : Int32) (x28 : Int32) (y29 : Int64) (S30 : Nat → Int32) =>
  (if (lg_cmp y29 (0 : Int64)) = 0 then
  some ((0 : Int32), S30)
  else
  lt (((x28).toInt64)) (fun y32 =>
  bk (fun (x51 : Int32) (x52 : Int32) (y53 : Int64) (y54 : Int64) (S55 : Nat → Int32) =>
  bd1 (fX12_rentOf_0 S55 V x51) (fun r56 =>
  gd (nzl y53) (
  lt (((((x52).toInt64) * ((r56).toInt64)) - (((x52).toInt64) * ((r56).toInt64)) / y53 * y53)) (fun y59 =>
  bk (fun (x113 : Int32) (x114 : Int32) (y115 : Int64) (y116 : Int64) (x117 : Int32) (S118 : Nat → Int32) =>
  bd1 (fX12_rentOf_0 S118 V x113) (fun r119 =>
  gd (nzl y115) (
  (if 0 ≤ (lg_cmp ((x117).toInt64) y116) then
  some ((((((((x114).toInt64) * ((r119).toInt64)) / y115)).toInt32) + (0 : Int32)), S118)
  else
  some ((((((((x114).toInt64) * ((r119).toInt64)) / y115)).toInt32) + (1 : Int32)), S118))))) (fun X188_112 =>
  fX12_shared_0_L127 X188_112 V FU x51 x52 y53 y54 y59 (0 : Int32) (0 : Int32) S55))))) (fun X108_50 =>
  fX12_shared_0_L76 X108_50 V FU x27 x28 y29 y32 (0 : Int32) S30)))) (fun X61_26 =>
  fX12_shared_0_L36 X61_26 V FU a1 a2 (0 : Int64) (0 : Int32) S9)))))))
set_option maxHeartbeats 4000000 in
set_option maxRecDepth 100000 in
theorem kX12_shared_0 (l : Launch) (B : jBT) (D : va_G) (ad : Nat → Nat) (cA : Nat → ClassId) (hI : jI ad TR) (S : Nat → Int32) (V : Nat → Nat → Int32) (L : Nat → Int64) (a1 : Int32) (a2 : Int32) (r0 : Int32) (S0 : Nat → Int32) (h : fX12_shared_0 S V a1 a2 = some (r0, S0)) : jM l yX12_shared cX12_shared 13 (some .int) ({ frames := 2, cells := 0, slots := 0, locals := 45 }) B D TR ad cA [.ref (ad 0), .int a1, .int a2] S V L (some (.int r0)) S0 V L := by
  refine jM_of (plainFor_of_name (by decide)) TR_ok hI (Nat.le_of_ble_eq_true rfl) ?_
  intro p e s m args below meth c C hr hlk
  refine j_lv (lv2 := [(0, .ref (ad 0)), (1, .int a1), (2, .int a2)]) rfl ?_
  unfold fX12_shared_0 at h
  have H_fX12_shared_0_L36 : ∀ (E61 : Int32 → Int32 → Int64 → (Nat → Int32) → Option (Int32 × (Nat → Int32))) (_ : ∀ (x22 : Int32) (x23 : Int32) (y24 : Int64) (S25 : Nat → Int32), E61 x22 x23 y24 S25 = some (r0, S0) → jW p l e ({ frames := 2, cells := 0, slots := 0, locals := 45 }) s m args below meth c (MQ below (jQc D TR ad cA (some (.int r0)) s.heap.size S0 V L) args s 0 0 (jA ad TR s.heap.size)) D TR ad cA (jA ad TR s.heap.size) 13 0 0 61 [(0, .ref (ad 0)), (1, .int x22), (2, .int x23), (3, .long y24)] [] S25 V L) (n : Nat) (x12 : Int32) (x13 : Int32) (y14 : Int64) (x15 : Int32) (S16 : Nat → Int32), fX12_shared_0_L36 E61 V n x12 x13 y14 x15 S16 = some (r0, S0) → jW p l e ({ frames := 2, cells := 0, slots := 0, locals := 45 }) s m args below meth c (MQ below (jQc D TR ad cA (some (.int r0)) s.heap.size S0 V L) args s 0 0 (jA ad TR s.heap.size)) D TR ad cA (jA ad TR s.heap.size) 13 0 0 36 [(0, .ref (ad 0)), (1, .int x12), (2, .int x13), (3, .long y14), (5, .int x15)] [] S16 V L := by
    intro E61 HE61
    intro n
    induction n with
    | zero =>
      intro x12 x13 y14 x15 S16 h
      cases (show (none : Option (Int32 × (Nat → Int32))) = some (r0, S0) from h)
    | succ n ih =>
      intro x12 x13 y14 x15 S16 h
      unfold fX12_shared_0_L36 at h
      refine j_iload C 4 rfl dX12_shared_36 ?_
      refine j_aload_n C 0 rfl dX12_shared_38 rfl ?_
      refine fg_X12_265_TR_0 C dX12_shared_39 ?_
      refine j_icmp_ge (tgt := 61) C dX12_shared_42 (by decide) (fun c17 => ?_) (fun c17 => ?_)
      · have h := (if_pos c17).symm.trans h
        exact j_sub [0, 1, 2, 3] rfl (HE61 _ _ _ _ h)
      · have h := (if_neg c17).symm.trans h
        refine j_lload_n C 3 rfl dX12_shared_45 rfl ?_
        refine j_aload_n C 0 rfl dX12_shared_46 rfl ?_
        refine j_iload C 4 rfl dX12_shared_47 ?_
        obtain ⟨r18, h19, h⟩ := bd1_elim h
        refine j_callV (As := [.int x15]) (rest := [.long y14]) C (kX12_rentOf_0 l B D ad cA hI S16 V L x15 _ h19) mw_X12_rentOf wd1918 wd100 wd1916 tr_0 rfl rfl ⟨rfl, rfl, by decide, by decide⟩ ⟨Nat.zero_le _, Nat.zero_le _⟩ rfl rfl (Nat.le_of_ble_eq_true rfl) dX12_shared_49 ?_
        refine j_i2l C dX12_shared_52 ?_
        refine j_ladd C dX12_shared_53 ?_
        refine lt_elim h (fun y20 e_y20 h => ?_)
        refine j_topl e_y20 ?_
        refine j_lstore_n C [(3, .long y20), (0, .ref (ad 0)), (1, .int x12), (2, .int x13), (5, .int x15)] dX12_shared_54 rfl (by decide) rfl ?_
        refine lt_elim h (fun x21 e_x21 h => ?_)
        refine j_iinc C [(5, .int x21), (3, .long y20), (0, .ref (ad 0)), (1, .int x12), (2, .int x13)] 4 dX12_shared_55 rfl ((iinc_eq ci_1).trans e_x21.symm) (by decide) rfl ?_
        refine j_goto (tgt := 36) C dX12_shared_58 (by decide) ?_
        exact j_sub [2, 3, 4, 1, 0] rfl (ih _ _ _ _ _ h)
  have H_fX12_shared_0_L76 : ∀ (E108 : Int32 → Int32 → Int64 → Int64 → (Nat → Int32) → Option (Int32 × (Nat → Int32))) (_ : ∀ (x45 : Int32) (x46 : Int32) (y47 : Int64) (y48 : Int64) (S49 : Nat → Int32), E108 x45 x46 y47 y48 S49 = some (r0, S0) → jW p l e ({ frames := 2, cells := 0, slots := 0, locals := 45 }) s m args below meth c (MQ below (jQc D TR ad cA (some (.int r0)) s.heap.size S0 V L) args s 0 0 (jA ad TR s.heap.size)) D TR ad cA (jA ad TR s.heap.size) 13 0 0 108 [(0, .ref (ad 0)), (1, .int x45), (2, .int x46), (3, .long y47), (5, .long y48)] [] S49 V L) (n : Nat) (x33 : Int32) (x34 : Int32) (y35 : Int64) (y36 : Int64) (x37 : Int32) (S38 : Nat → Int32), fX12_shared_0_L76 E108 V n x33 x34 y35 y36 x37 S38 = some (r0, S0) → jW p l e ({ frames := 2, cells := 0, slots := 0, locals := 45 }) s m args below meth c (MQ below (jQc D TR ad cA (some (.int r0)) s.heap.size S0 V L) args s 0 0 (jA ad TR s.heap.size)) D TR ad cA (jA ad TR s.heap.size) 13 0 0 76 [(0, .ref (ad 0)), (1, .int x33), (2, .int x34), (3, .long y35), (5, .long y36), (7, .int x37)] [] S38 V L := by
    intro E108 HE108
    intro n
    induction n with
    | zero =>
      intro x33 x34 y35 y36 x37 S38 h
      cases (show (none : Option (Int32 × (Nat → Int32))) = some (r0, S0) from h)
    | succ n ih =>
      intro x33 x34 y35 y36 x37 S38 h
      unfold fX12_shared_0_L76 at h
      refine j_iload C 5 rfl dX12_shared_76 ?_
      refine j_aload_n C 0 rfl dX12_shared_78 rfl ?_
      refine fg_X12_265_TR_0 C dX12_shared_79 ?_
      refine j_icmp_ge (tgt := 108) C dX12_shared_82 (by decide) (fun c39 => ?_) (fun c39 => ?_)
      · have h := (if_pos c39).symm.trans h
        exact j_sub [0, 1, 2, 3, 4] rfl (HE108 _ _ _ _ _ h)
      · have h := (if_neg c39).symm.trans h
        refine j_lload C 4 rfl dX12_shared_85 ?_
        refine j_iload_n C 2 rfl dX12_shared_87 rfl ?_
        refine j_i2l C dX12_shared_88 ?_
        refine j_aload_n C 0 rfl dX12_shared_89 rfl ?_
        refine j_iload C 5 rfl dX12_shared_90 ?_
        obtain ⟨r40, h41, h⟩ := bd1_elim h
        refine j_callV (As := [.int x37]) (rest := [.long ((x34).toInt64), .long y36]) C (kX12_rentOf_0 l B D ad cA hI S38 V L x37 _ h41) mw_X12_rentOf wd1918 wd100 wd1916 tr_0 rfl rfl ⟨rfl, rfl, by decide, by decide⟩ ⟨Nat.zero_le _, Nat.zero_le _⟩ rfl rfl (Nat.le_of_ble_eq_true rfl) dX12_shared_92 ?_
        refine j_i2l C dX12_shared_95 ?_
        refine j_lmul C dX12_shared_96 ?_
        refine j_lload_n C 3 rfl dX12_shared_97 rfl ?_
        obtain ⟨g42, h⟩ := gd_elim h
        refine j_ldiv C dX12_shared_98 (nzl_ne g42) ?_
        refine j_lsub C dX12_shared_99 ?_
        refine lt_elim h (fun y43 e_y43 h => ?_)
        refine j_topl e_y43 ?_
        refine j_lstore C [(5, .long y43), (0, .ref (ad 0)), (1, .int x33), (2, .int x34), (3, .long y35), (7, .int x37)] dX12_shared_100 (by decide) rfl ?_
        refine lt_elim h (fun x44 e_x44 h => ?_)
        refine j_iinc C [(7, .int x44), (5, .long y43), (0, .ref (ad 0)), (1, .int x33), (2, .int x34), (3, .long y35)] 5 dX12_shared_102 rfl ((iinc_eq ci_1).trans e_x44.symm) (by decide) rfl ?_
        refine j_goto (tgt := 76) C dX12_shared_105 (by decide) ?_
        exact j_sub [2, 3, 4, 5, 1, 0] rfl (ih _ _ _ _ _ _ h)
  have H_fX12_shared_0_L127 : ∀ (E188 : Int32 → Int32 → Int64 → Int64 → Int32 → (Nat → Int32) → Option (Int32 × (Nat → Int32))) (_ : ∀ (x106 : Int32) (x107 : Int32) (y108 : Int64) (y109 : Int64) (x110 : Int32) (S111 : Nat → Int32), E188 x106 x107 y108 y109 x110 S111 = some (r0, S0) → jW p l e ({ frames := 2, cells := 0, slots := 0, locals := 45 }) s m args below meth c (MQ below (jQc D TR ad cA (some (.int r0)) s.heap.size S0 V L) args s 0 0 (jA ad TR s.heap.size)) D TR ad cA (jA ad TR s.heap.size) 13 0 0 188 [(0, .ref (ad 0)), (1, .int x106), (2, .int x107), (3, .long y108), (5, .long y109), (9, .int x110)] [] S111 V L) (n : Nat) (x60 : Int32) (x61 : Int32) (y62 : Int64) (y63 : Int64) (y64 : Int64) (x65 : Int32) (x66 : Int32) (S67 : Nat → Int32), fX12_shared_0_L127 E188 V n x60 x61 y62 y63 y64 x65 x66 S67 = some (r0, S0) → jW p l e ({ frames := 2, cells := 0, slots := 0, locals := 45 }) s m args below meth c (MQ below (jQc D TR ad cA (some (.int r0)) s.heap.size S0 V L) args s 0 0 (jA ad TR s.heap.size)) D TR ad cA (jA ad TR s.heap.size) 13 0 0 127 [(0, .ref (ad 0)), (1, .int x60), (2, .int x61), (3, .long y62), (5, .long y63), (7, .long y64), (9, .int x65), (10, .int x66)] [] S67 V L := by
    intro E188 HE188
    intro n
    induction n with
    | zero =>
      intro x60 x61 y62 y63 y64 x65 x66 S67 h
      cases (show (none : Option (Int32 × (Nat → Int32))) = some (r0, S0) from h)
    | succ n ih =>
      intro x60 x61 y62 y63 y64 x65 x66 S67 h
      unfold fX12_shared_0_L127 at h
      refine j_iload C 7 rfl dX12_shared_127 ?_
      refine j_aload_n C 0 rfl dX12_shared_129 rfl ?_
      refine fg_X12_265_TR_0 C dX12_shared_130 ?_
      refine j_icmp_ge (tgt := 188) C dX12_shared_133 (by decide) (fun c68 => ?_) (fun c68 => ?_)
      · have h := (if_pos c68).symm.trans h
        exact j_sub [0, 1, 2, 3, 4, 6] rfl (HE188 _ _ _ _ _ _ h)
      · have h := (if_neg c68).symm.trans h
        refine j_iload_n C 2 rfl dX12_shared_136 rfl ?_
        refine j_i2l C dX12_shared_137 ?_
        refine j_aload_n C 0 rfl dX12_shared_138 rfl ?_
        refine j_iload C 7 rfl dX12_shared_139 ?_
        obtain ⟨r69, h70, h⟩ := bd1_elim h
        refine j_callV (As := [.int x66]) (rest := [.long ((x61).toInt64)]) C (kX12_rentOf_0 l B D ad cA hI S67 V L x66 _ h70) mw_X12_rentOf wd1918 wd100 wd1916 tr_0 rfl rfl ⟨rfl, rfl, by decide, by decide⟩ ⟨Nat.zero_le _, Nat.zero_le _⟩ rfl rfl (Nat.le_of_ble_eq_true rfl) dX12_shared_141 ?_
        refine j_i2l C dX12_shared_144 ?_
        refine j_lmul C dX12_shared_145 ?_
        refine j_lload_n C 3 rfl dX12_shared_146 rfl ?_
        obtain ⟨g71, h⟩ := gd_elim h
        refine j_lrem C dX12_shared_147 (nzl_ne g71) ?_
        refine lt_elim h (fun y72 e_y72 h => ?_)
        refine j_topl e_y72 ?_
        refine j_lstore C [(11, .long y72), (0, .ref (ad 0)), (1, .int x60), (2, .int x61), (3, .long y62), (5, .long y63), (7, .long y64), (9, .int x65), (10, .int x66)] dX12_shared_148 (by decide) rfl ?_
        refine j_iload C 7 rfl dX12_shared_150 ?_
        refine j_lload C 0 rfl dX12_shared_152 ?_
        refine j_lload C 6 rfl dX12_shared_154 ?_
        refine j_lcmp C dX12_shared_156 ?_
        refine bk_elim h (fun K179_73 e_K179_73 h => ?_)
        have HK179_73 : ∀ (x74 : Int32) (x75 : Int32) (y76 : Int64) (y77 : Int64) (y78 : Int64) (x79 : Int32) (x80 : Int32) (x81 : Int32) (S82 : Nat → Int32), K179_73 x74 x75 y76 y77 y78 x79 x80 x81 S82 = some (r0, S0) → jW p l e ({ frames := 2, cells := 0, slots := 0, locals := 45 }) s m args below meth c (MQ below (jQc D TR ad cA (some (.int r0)) s.heap.size S0 V L) args s 0 0 (jA ad TR s.heap.size)) D TR ad cA (jA ad TR s.heap.size) 13 0 0 179 [(0, .ref (ad 0)), (1, .int x74), (2, .int x75), (3, .long y76), (5, .long y77), (7, .long y78), (10, .int x79)] [.int x80, .int x81] S82 V L := by
          subst e_K179_73
          intro x74 x75 y76 y77 y78 x79 x80 x81 S82 h
          refine j_iadd C dX12_shared_179 ?_
          refine lt_elim h (fun x83 e_x83 h => ?_)
          refine j_top e_x83 ?_
          refine j_istore C [(9, .int x83), (0, .ref (ad 0)), (1, .int x74), (2, .int x75), (3, .long y76), (5, .long y77), (7, .long y78), (10, .int x79)] dX12_shared_180 (by decide) rfl ?_
          refine lt_elim h (fun x84 e_x84 h => ?_)
          refine j_iinc C [(10, .int x84), (9, .int x83), (0, .ref (ad 0)), (1, .int x74), (2, .int x75), (3, .long y76), (5, .long y77), (7, .long y78)] 7 dX12_shared_182 rfl ((iinc_eq ci_1).trans e_x84.symm) (by decide) rfl ?_
          refine j_goto (tgt := 127) C dX12_shared_185 (by decide) ?_
          exact j_sub [2, 3, 4, 5, 6, 7, 1, 0] rfl (ih _ _ _ _ _ _ _ _ h)
        refine bk_elim h (fun K174_85 e_K174_85 h => ?_)
        have HK174_85 : ∀ (x86 : Int32) (x87 : Int32) (y88 : Int64) (y89 : Int64) (y90 : Int64) (x91 : Int32) (x92 : Int32) (S93 : Nat → Int32), K174_85 x86 x87 y88 y89 y90 x91 x92 S93 = some (r0, S0) → jW p l e ({ frames := 2, cells := 0, slots := 0, locals := 45 }) s m args below meth c (MQ below (jQc D TR ad cA (some (.int r0)) s.heap.size S0 V L) args s 0 0 (jA ad TR s.heap.size)) D TR ad cA (jA ad TR s.heap.size) 13 0 0 174 [(0, .ref (ad 0)), (1, .int x86), (2, .int x87), (3, .long y88), (5, .long y89), (7, .long y90), (10, .int x91)] [.int x92] S93 V L := by
          subst e_K174_85
          intro x86 x87 y88 y89 y90 x91 x92 S93 h
          refine j_iconst C dX12_shared_174 ci_1 ?_
          refine j_goto (tgt := 179) C dX12_shared_175 (by decide) ?_
          exact j_sub [0, 1, 2, 3, 4, 5, 6] rfl (HK179_73 _ _ _ _ _ _ _ _ _ h)
        refine j_if_gt (tgt := 174) C dX12_shared_157 (by decide) (fun c94 => ?_) (fun c94 => ?_)
        · have h := (if_pos c94).symm.trans h
          exact j_sub [1, 2, 3, 4, 5, 6, 8] rfl (HK174_85 _ _ _ _ _ _ _ _ h)
        · have h := (if_neg c94).symm.trans h
          refine j_lload C 0 rfl dX12_shared_160 ?_
          refine j_lload C 6 rfl dX12_shared_162 ?_
          refine j_lcmp C dX12_shared_164 ?_
          refine bk_elim h (fun K178_95 e_K178_95 h => ?_)
          have HK178_95 : ∀ (x96 : Int32) (x97 : Int32) (y98 : Int64) (y99 : Int64) (y100 : Int64) (x101 : Int32) (x102 : Int32) (S103 : Nat → Int32), K178_95 x96 x97 y98 y99 y100 x101 x102 S103 = some (r0, S0) → jW p l e ({ frames := 2, cells := 0, slots := 0, locals := 45 }) s m args below meth c (MQ below (jQc D TR ad cA (some (.int r0)) s.heap.size S0 V L) args s 0 0 (jA ad TR s.heap.size)) D TR ad cA (jA ad TR s.heap.size) 13 0 0 178 [(0, .ref (ad 0)), (1, .int x96), (2, .int x97), (3, .long y98), (5, .long y99), (7, .long y100), (10, .int x101)] [.int x102] S103 V L := by
            subst e_K178_95
            intro x96 x97 y98 y99 y100 x101 x102 S103 h
            refine j_iconst C dX12_shared_178 ci_0 ?_
            exact j_sub [0, 1, 2, 3, 4, 5, 6] rfl (HK179_73 _ _ _ _ _ _ _ _ _ h)
          refine j_if_ne (tgt := 178) C dX12_shared_165 (by decide) (fun c104 => ?_) (fun c104 => ?_)
          · have h := (if_neg c104).symm.trans h
            exact j_sub [1, 2, 3, 4, 5, 6, 8] rfl (HK178_95 _ _ _ _ _ _ _ _ h)
          · have h := (if_pos c104).symm.trans h
            refine j_iload C 8 rfl dX12_shared_168 ?_
            refine j_iload_n C 2 rfl dX12_shared_170 rfl ?_
            refine j_icmp_ge (tgt := 178) C dX12_shared_171 (by decide) (fun c105 => ?_) (fun c105 => ?_)
            · have h := (if_pos c105).symm.trans h
              exact j_sub [1, 2, 3, 4, 5, 6, 8] rfl (HK178_95 _ _ _ _ _ _ _ _ h)
            · have h := (if_neg c105).symm.trans h
              exact j_sub [1, 2, 3, 4, 5, 6, 8] rfl (HK174_85 _ _ _ _ _ _ _ _ h)
  refine j_aload_n C 0 rfl dX12_shared_0 rfl ?_
  refine j_iconst C dX12_shared_1 ci_0 ?_
  refine fp_X12_93_TR_0 C dX12_shared_2 ?_
  refine lt_elim h (fun S1 e_S1 h => ?_)
  refine j_S e_S1 ?_
  refine j_aload_n C 0 rfl dX12_shared_5 rfl ?_
  refine j_iload_n C 1 rfl dX12_shared_6 rfl ?_
  obtain ⟨r2, S3, h4, h⟩ := bd2_elim h
  refine j_callV (As := [.int a1]) (rest := []) C (kX12_isTenant_0 l B D ad cA hI S1 V L a1 _ _ h4) mw_X12_isTenant wd1816 wd86 wd1814 tr_0 rfl rfl ⟨rfl, rfl, by decide, by decide⟩ ⟨Nat.zero_le _, Nat.zero_le _⟩ rfl rfl (Nat.le_of_ble_eq_true rfl) dX12_shared_7 ?_
  refine j_if_eq (tgt := 29) C dX12_shared_10 (by decide) (fun c5 => ?_) (fun c5 => ?_)
  · have h := (if_pos c5).symm.trans h
    refine j_iconst C dX12_shared_29 ci_0 ?_
    cases h
    exact j_iret C hr hlk rfl dX12_shared_30
  · have h := (if_neg c5).symm.trans h
    refine j_aload_n C 0 rfl dX12_shared_13 rfl ?_
    refine j_iload_n C 2 rfl dX12_shared_14 rfl ?_
    refine j_iconst C dX12_shared_15 ci_0 ?_
    refine j_sipush C dX12_shared_16 cs_9999 ?_
    obtain ⟨r6, h7, h⟩ := bd1_elim h
    refine j_callS (As := [.int a2, .int (0 : Int32), .int (9999 : Int32)]) (rest := [.ref (ad 0)]) C (kX12_within l B D ad cA hI S3 V L a2 (0 : Int32) (9999 : Int32) _ h7) mw_X12_within wd1760 wd1759 ⟨rfl, rfl, by decide, by decide⟩ ⟨Nat.zero_le _, Nat.zero_le _⟩ rfl rfl (Nat.le_of_ble_eq_true rfl) dX12_shared_19 ?_
    refine j_iconst C dX12_shared_22 ci_2 ?_
    obtain ⟨r8, S9, h10, h⟩ := bd2_elim h
    refine j_callV (As := [.int r6, .int (2 : Int32)]) (rest := []) C (kX12_right_0 l B D ad cA hI S3 V L r6 (2 : Int32) _ _ h10) mw_X12_right wd1638 wd56 wd1636 tr_0 rfl rfl ⟨rfl, rfl, by decide, by decide⟩ ⟨Nat.zero_le _, Nat.zero_le _⟩ rfl rfl (Nat.le_of_ble_eq_true rfl) dX12_shared_23 ?_
    refine j_if_ne (tgt := 31) C dX12_shared_26 (by decide) (fun c11 => ?_) (fun c11 => ?_)
    · have h := (if_neg c11).symm.trans h
      refine j_lconst C dX12_shared_31 cl_0 ?_
      refine j_lstore_n C [(3, .long (0 : Int64)), (0, .ref (ad 0)), (1, .int a1), (2, .int a2)] dX12_shared_32 rfl (by decide) rfl ?_
      refine j_iconst C dX12_shared_33 ci_0 ?_
      refine j_istore C [(5, .int (0 : Int32)), (3, .long (0 : Int64)), (0, .ref (ad 0)), (1, .int a1), (2, .int a2)] dX12_shared_34 (by decide) rfl ?_
      refine bk_elim h (fun X61_26 e_X61_26 h => ?_)
      have HX61_26 : ∀ (x27 : Int32) (x28 : Int32) (y29 : Int64) (S30 : Nat → Int32), X61_26 x27 x28 y29 S30 = some (r0, S0) → jW p l e ({ frames := 2, cells := 0, slots := 0, locals := 45 }) s m args below meth c (MQ below (jQc D TR ad cA (some (.int r0)) s.heap.size S0 V L) args s 0 0 (jA ad TR s.heap.size)) D TR ad cA (jA ad TR s.heap.size) 13 0 0 61 [(0, .ref (ad 0)), (1, .int x27), (2, .int x28), (3, .long y29)] [] S30 V L := by
        subst e_X61_26
        intro x27 x28 y29 S30 h
        refine j_lload_n C 3 rfl dX12_shared_61 rfl ?_
        refine j_lconst C dX12_shared_62 cl_0 ?_
        refine j_lcmp C dX12_shared_63 ?_
        refine j_if_ne (tgt := 69) C dX12_shared_64 (by decide) (fun c31 => ?_) (fun c31 => ?_)
        · have h := (if_neg c31).symm.trans h
          refine j_iload_n C 2 rfl dX12_shared_69 rfl ?_
          refine j_i2l C dX12_shared_70 ?_
          refine lt_elim h (fun y32 e_y32 h => ?_)
          refine j_topl e_y32 ?_
          refine j_lstore C [(5, .long y32), (0, .ref (ad 0)), (1, .int x27), (2, .int x28), (3, .long y29)] dX12_shared_71 (by decide) rfl ?_
          refine j_iconst C dX12_shared_73 ci_0 ?_
          refine j_istore C [(7, .int (0 : Int32)), (5, .long y32), (0, .ref (ad 0)), (1, .int x27), (2, .int x28), (3, .long y29)] dX12_shared_74 (by decide) rfl ?_
          refine bk_elim h (fun X108_50 e_X108_50 h => ?_)
          have HX108_50 : ∀ (x51 : Int32) (x52 : Int32) (y53 : Int64) (y54 : Int64) (S55 : Nat → Int32), X108_50 x51 x52 y53 y54 S55 = some (r0, S0) → jW p l e ({ frames := 2, cells := 0, slots := 0, locals := 45 }) s m args below meth c (MQ below (jQc D TR ad cA (some (.int r0)) s.heap.size S0 V L) args s 0 0 (jA ad TR s.heap.size)) D TR ad cA (jA ad TR s.heap.size) 13 0 0 108 [(0, .ref (ad 0)), (1, .int x51), (2, .int x52), (3, .long y53), (5, .long y54)] [] S55 V L := by
            subst e_X108_50
            intro x51 x52 y53 y54 S55 h
            refine j_iload_n C 2 rfl dX12_shared_108 rfl ?_
            refine j_i2l C dX12_shared_109 ?_
            refine j_aload_n C 0 rfl dX12_shared_110 rfl ?_
            refine j_iload_n C 1 rfl dX12_shared_111 rfl ?_
            obtain ⟨r56, h57, h⟩ := bd1_elim h
            refine j_callV (As := [.int x51]) (rest := [.long ((x52).toInt64)]) C (kX12_rentOf_0 l B D ad cA hI S55 V L x51 _ h57) mw_X12_rentOf wd1918 wd100 wd1916 tr_0 rfl rfl ⟨rfl, rfl, by decide, by decide⟩ ⟨Nat.zero_le _, Nat.zero_le _⟩ rfl rfl (Nat.le_of_ble_eq_true rfl) dX12_shared_112 ?_
            refine j_i2l C dX12_shared_115 ?_
            refine j_lmul C dX12_shared_116 ?_
            refine j_lload_n C 3 rfl dX12_shared_117 rfl ?_
            obtain ⟨g58, h⟩ := gd_elim h
            refine j_lrem C dX12_shared_118 (nzl_ne g58) ?_
            refine lt_elim h (fun y59 e_y59 h => ?_)
            refine j_topl e_y59 ?_
            refine j_lstore C [(7, .long y59), (0, .ref (ad 0)), (1, .int x51), (2, .int x52), (3, .long y53), (5, .long y54)] dX12_shared_119 (by decide) rfl ?_
            refine j_iconst C dX12_shared_121 ci_0 ?_
            refine j_istore C [(9, .int (0 : Int32)), (7, .long y59), (0, .ref (ad 0)), (1, .int x51), (2, .int x52), (3, .long y53), (5, .long y54)] dX12_shared_122 (by decide) rfl ?_
            refine j_iconst C dX12_shared_124 ci_0 ?_
            refine j_istore C [(10, .int (0 : Int32)), (9, .int (0 : Int32)), (7, .long y59), (0, .ref (ad 0)), (1, .int x51), (2, .int x52), (3, .long y53), (5, .long y54)] dX12_shared_125 (by decide) rfl ?_
            refine bk_elim h (fun X188_112 e_X188_112 h => ?_)
            have HX188_112 : ∀ (x113 : Int32) (x114 : Int32) (y115 : Int64) (y116 : Int64) (x117 : Int32) (S118 : Nat → Int32), X188_112 x113 x114 y115 y116 x117 S118 = some (r0, S0) → jW p l e ({ frames := 2, cells := 0, slots := 0, locals := 45 }) s m args below meth c (MQ below (jQc D TR ad cA (some (.int r0)) s.heap.size S0 V L) args s 0 0 (jA ad TR s.heap.size)) D TR ad cA (jA ad TR s.heap.size) 13 0 0 188 [(0, .ref (ad 0)), (1, .int x113), (2, .int x114), (3, .long y115), (5, .long y116), (9, .int x117)] [] S118 V L := by
              subst e_X188_112
              intro x113 x114 y115 y116 x117 S118 h
              refine j_iload_n C 2 rfl dX12_shared_188 rfl ?_
              refine j_i2l C dX12_shared_189 ?_
              refine j_aload_n C 0 rfl dX12_shared_190 rfl ?_
              refine j_iload_n C 1 rfl dX12_shared_191 rfl ?_
              obtain ⟨r119, h120, h⟩ := bd1_elim h
              refine j_callV (As := [.int x113]) (rest := [.long ((x114).toInt64)]) C (kX12_rentOf_0 l B D ad cA hI S118 V L x113 _ h120) mw_X12_rentOf wd1918 wd100 wd1916 tr_0 rfl rfl ⟨rfl, rfl, by decide, by decide⟩ ⟨Nat.zero_le _, Nat.zero_le _⟩ rfl rfl (Nat.le_of_ble_eq_true rfl) dX12_shared_192 ?_
              refine j_i2l C dX12_shared_195 ?_
              refine j_lmul C dX12_shared_196 ?_
              refine j_lload_n C 3 rfl dX12_shared_197 rfl ?_
              obtain ⟨g121, h⟩ := gd_elim h
              refine j_ldiv C dX12_shared_198 (nzl_ne g121) ?_
              refine j_l2i C dX12_shared_199 ?_
              refine j_iload C 5 rfl dX12_shared_200 ?_
              refine j_i2l C dX12_shared_202 ?_
              refine j_lload C 4 rfl dX12_shared_203 ?_
              refine j_lcmp C dX12_shared_205 ?_
              refine j_if_ge (tgt := 213) C dX12_shared_206 (by decide) (fun c122 => ?_) (fun c122 => ?_)
              · have h := (if_pos c122).symm.trans h
                refine j_iconst C dX12_shared_213 ci_0 ?_
                refine j_iadd C dX12_shared_214 ?_
                cases h
                exact j_iret C hr hlk rfl dX12_shared_215
              · have h := (if_neg c122).symm.trans h
                refine j_iconst C dX12_shared_209 ci_1 ?_
                refine j_goto (tgt := 214) C dX12_shared_210 (by decide) ?_
                refine j_iadd C dX12_shared_214 ?_
                cases h
                exact j_iret C hr hlk rfl dX12_shared_215
            exact j_sub [3, 4, 5, 6, 7, 2, 1, 0] rfl (H_fX12_shared_0_L127 _ HX188_112 FU _ _ _ _ _ _ _ _ h)
          exact j_sub [2, 3, 4, 5, 1, 0] rfl (H_fX12_shared_0_L76 _ HX108_50 FU _ _ _ _ _ _ h)
        · have h := (if_pos c31).symm.trans h
          refine j_iconst C dX12_shared_67 ci_0 ?_
          cases h
          exact j_iret C hr hlk rfl dX12_shared_68
      exact j_sub [2, 3, 4, 1, 0] rfl (H_fX12_shared_0_L36 _ HX61_26 FU _ _ _ _ _ h)
    · have h := (if_pos c11).symm.trans h
      refine j_iconst C dX12_shared_29 ci_0 ?_
      cases h
      exact j_iret C hr hlk rfl dX12_shared_30
theorem dX12_slow_0 : decode cX12_slow 0 = .ok (.aload_n 0, 1) := by decide +kernel
theorem dX12_slow_1 : decode cX12_slow 1 = .ok (.iconst 0, 1) := by decide +kernel
theorem dX12_slow_2 : decode cX12_slow 2 = .ok (.putfield 93, 3) := by decide +kernel
theorem dX12_slow_5 : decode cX12_slow 5 = .ok (.aload_n 0, 1) := by decide +kernel
theorem dX12_slow_6 : decode cX12_slow 6 = .ok (.iload_n 1, 1) := by decide +kernel
theorem dX12_slow_7 : decode cX12_slow 7 = .ok (.invokevirtual 342, 3) := by decide +kernel
theorem dX12_slow_10 : decode cX12_slow 10 = .ok (.ifCond .eq 56, 3) := by decide +kernel
theorem dX12_slow_13 : decode cX12_slow 13 = .ok (.aload_n 0, 1) := by decide +kernel
theorem dX12_slow_14 : decode cX12_slow 14 = .ok (.iload_n 2, 1) := by decide +kernel
theorem dX12_slow_15 : decode cX12_slow 15 = .ok (.invokevirtual 342, 3) := by decide +kernel
theorem dX12_slow_18 : decode cX12_slow 18 = .ok (.ifCond .eq 48, 3) := by decide +kernel
theorem dX12_slow_21 : decode cX12_slow 21 = .ok (.aload_n 0, 1) := by decide +kernel
theorem dX12_slow_22 : decode cX12_slow 22 = .ok (.iload_n 3, 1) := by decide +kernel
theorem dX12_slow_23 : decode cX12_slow 23 = .ok (.iconst 2, 1) := by decide +kernel
theorem dX12_slow_24 : decode cX12_slow 24 = .ok (.invokevirtual 358, 3) := by decide +kernel
theorem dX12_slow_27 : decode cX12_slow 27 = .ok (.ifCond .eq 39, 3) := by decide +kernel
theorem dX12_slow_30 : decode cX12_slow 30 = .ok (.aload_n 0, 1) := by decide +kernel
theorem dX12_slow_31 : decode cX12_slow 31 = .ok (.iload_n 1, 1) := by decide +kernel
theorem dX12_slow_32 : decode cX12_slow 32 = .ok (.iload_n 2, 1) := by decide +kernel
theorem dX12_slow_33 : decode cX12_slow 33 = .ok (.if_icmp .gt 7, 3) := by decide +kernel
theorem dX12_slow_36 : decode cX12_slow 36 = .ok (.iconst 1, 1) := by decide +kernel
theorem dX12_slow_37 : decode cX12_slow 37 = .ok (.goto 4, 3) := by decide +kernel
theorem dX12_slow_40 : decode cX12_slow 40 = .ok (.iconst 0, 1) := by decide +kernel
theorem dX12_slow_41 : decode cX12_slow 41 = .ok (.iconst 2, 1) := by decide +kernel
theorem dX12_slow_42 : decode cX12_slow 42 = .ok (.invokevirtual 255, 3) := by decide +kernel
theorem dX12_slow_45 : decode cX12_slow 45 = .ok (.ifCond .eq 21, 3) := by decide +kernel
theorem dX12_slow_48 : decode cX12_slow 48 = .ok (.aload_n 0, 1) := by decide +kernel
theorem dX12_slow_49 : decode cX12_slow 49 = .ok (.aload_n 0, 1) := by decide +kernel
theorem dX12_slow_50 : decode cX12_slow 50 = .ok (.getfield 60, 3) := by decide +kernel
theorem dX12_slow_53 : decode cX12_slow 53 = .ok (.aload_n 0, 1) := by decide +kernel
theorem dX12_slow_54 : decode cX12_slow 54 = .ok (.getfield 278, 3) := by decide +kernel
theorem dX12_slow_57 : decode cX12_slow 57 = .ok (.iload_n 1, 1) := by decide +kernel
theorem dX12_slow_58 : decode cX12_slow 58 = .ok (.iload_n 2, 1) := by decide +kernel
theorem dX12_slow_59 : decode cX12_slow 59 = .ok (.iload_n 3, 1) := by decide +kernel
theorem dX12_slow_60 : decode cX12_slow 60 = .ok (.invokevirtual 354, 3) := by decide +kernel
theorem dX12_slow_63 : decode cX12_slow 63 = .ok (.goto 4, 3) := by decide +kernel
theorem dX12_slow_66 : decode cX12_slow 66 = .ok (.iconst 0, 1) := by decide +kernel
theorem dX12_slow_67 : decode cX12_slow 67 = .ok (.ireturn, 1) := by decide +kernel
def fX12_slow_0 (S : Nat → Int32) (V : Nat → Nat → Int32) (a1 : Int32) (a2 : Int32) (a3 : Int32) : Option (Int32 × (Nat → Int32)) :=
  lt (va_up S 0 (0 : Int32)) (fun S1 =>
  bd2 (fX12_isHour_0 S1 a1) (fun r2 S3 =>
  (if r2 = 0 then
  some ((0 : Int32), S3)
  else
  bd2 (fX12_isHour_0 S3 a2) (fun r6 S7 =>
  (if r6 = 0 then
  some ((0 : Int32), S7)
  else
  bd2 (fX12_isDay_0 S7 a3 (2 : Int32)) (fun r10 S11 =>
  (if r10 = 0 then
  some ((0 : Int32), S11)
  else
  bk (fun (x15 : Int32) (x16 : Int32) (x17 : Int32) (x18 : Int32) (S19 : Nat → Int32) =>
  bd2 (fX12_right_0 S19 x18 (2 : Int32)) (fun r20 S21 =>
  (if r20 = 0 then
  some ((0 : Int32), S21)
  else
  bd1 (fX12_slowOf_0_13 S21 V ((S21 42)) x15 x16 x17) (fun r24 =>
  some (r24, S21))))) (fun K41_14 =>
  (if a2 < a1 then
  K41_14 a1 a2 a3 (0 : Int32) S11
  else
  K41_14 a1 a2 a3 (1 : Int32) S11)))))))))
set_option maxHeartbeats 4000000 in
set_option maxRecDepth 100000 in
theorem kX12_slow_0 (l : Launch) (B : jBT) (D : va_G) (ad : Nat → Nat) (cA : Nat → ClassId) (hI : jI ad TR) (S : Nat → Int32) (V : Nat → Nat → Int32) (L : Nat → Int64) (a1 : Int32) (a2 : Int32) (a3 : Int32) (r0 : Int32) (S0 : Nat → Int32) (h : fX12_slow_0 S V a1 a2 a3 = some (r0, S0)) : jM l yX12_slow cX12_slow 4 (some .int) ({ frames := 4, cells := 0, slots := 0, locals := 100 }) B D TR ad cA [.ref (ad 0), .int a1, .int a2, .int a3] S V L (some (.int r0)) S0 V L := by
  refine jM_of (plainFor_of_name (by decide)) TR_ok hI (Nat.le_of_ble_eq_true rfl) ?_
  intro p e s m args below meth c C hr hlk
  refine j_lv (lv2 := [(0, .ref (ad 0)), (1, .int a1), (2, .int a2), (3, .int a3)]) rfl ?_
  unfold fX12_slow_0 at h
  refine j_aload_n C 0 rfl dX12_slow_0 rfl ?_
  refine j_iconst C dX12_slow_1 ci_0 ?_
  refine fp_X12_93_TR_0 C dX12_slow_2 ?_
  refine lt_elim h (fun S1 e_S1 h => ?_)
  refine j_S e_S1 ?_
  refine j_aload_n C 0 rfl dX12_slow_5 rfl ?_
  refine j_iload_n C 1 rfl dX12_slow_6 rfl ?_
  obtain ⟨r2, S3, h4, h⟩ := bd2_elim h
  refine j_callV (As := [.int a1]) (rest := []) C (kX12_isHour_0 l B D ad cA hI S1 V L a1 _ _ h4) mw_X12_isHour wd1828 wd88 wd1826 tr_0 rfl rfl ⟨rfl, rfl, by decide, by decide⟩ ⟨Nat.zero_le _, Nat.zero_le _⟩ rfl rfl (Nat.le_of_ble_eq_true rfl) dX12_slow_7 ?_
  refine j_if_eq (tgt := 66) C dX12_slow_10 (by decide) (fun c5 => ?_) (fun c5 => ?_)
  · have h := (if_pos c5).symm.trans h
    refine j_iconst C dX12_slow_66 ci_0 ?_
    cases h
    exact j_iret C hr hlk rfl dX12_slow_67
  · have h := (if_neg c5).symm.trans h
    refine j_aload_n C 0 rfl dX12_slow_13 rfl ?_
    refine j_iload_n C 2 rfl dX12_slow_14 rfl ?_
    obtain ⟨r6, S7, h8, h⟩ := bd2_elim h
    refine j_callV (As := [.int a2]) (rest := []) C (kX12_isHour_0 l B D ad cA hI S3 V L a2 _ _ h8) mw_X12_isHour wd1828 wd88 wd1826 tr_0 rfl rfl ⟨rfl, rfl, by decide, by decide⟩ ⟨Nat.zero_le _, Nat.zero_le _⟩ rfl rfl (Nat.le_of_ble_eq_true rfl) dX12_slow_15 ?_
    refine j_if_eq (tgt := 66) C dX12_slow_18 (by decide) (fun c9 => ?_) (fun c9 => ?_)
    · have h := (if_pos c9).symm.trans h
      refine j_iconst C dX12_slow_66 ci_0 ?_
      cases h
      exact j_iret C hr hlk rfl dX12_slow_67
    · have h := (if_neg c9).symm.trans h
      refine j_aload_n C 0 rfl dX12_slow_21 rfl ?_
      refine j_iload_n C 3 rfl dX12_slow_22 rfl ?_
      refine j_iconst C dX12_slow_23 ci_2 ?_
      obtain ⟨r10, S11, h12, h⟩ := bd2_elim h
      refine j_callV (As := [.int a3, .int (2 : Int32)]) (rest := []) C (kX12_isDay_0 l B D ad cA hI S7 V L a3 (2 : Int32) _ _ h12) mw_X12_isDay wd1836 wd89 wd1834 tr_0 rfl rfl ⟨rfl, rfl, by decide, by decide⟩ ⟨Nat.zero_le _, Nat.zero_le _⟩ rfl rfl (Nat.le_of_ble_eq_true rfl) dX12_slow_24 ?_
      refine j_if_eq (tgt := 66) C dX12_slow_27 (by decide) (fun c13 => ?_) (fun c13 => ?_)
      · have h := (if_pos c13).symm.trans h
        refine j_iconst C dX12_slow_66 ci_0 ?_
        cases h
        exact j_iret C hr hlk rfl dX12_slow_67
      · have h := (if_neg c13).symm.trans h
        refine j_aload_n C 0 rfl dX12_slow_30 rfl ?_
        refine j_iload_n C 1 rfl dX12_slow_31 rfl ?_
        refine j_iload_n C 2 rfl dX12_slow_32 rfl ?_
        refine bk_elim h (fun K41_14 e_K41_14 h => ?_)
        have HK41_14 : ∀ (x15 : Int32) (x16 : Int32) (x17 : Int32) (x18 : Int32) (S19 : Nat → Int32), K41_14 x15 x16 x17 x18 S19 = some (r0, S0) → jW p l e ({ frames := 4, cells := 0, slots := 0, locals := 100 }) s m args below meth c (MQ below (jQc D TR ad cA (some (.int r0)) s.heap.size S0 V L) args s 0 0 (jA ad TR s.heap.size)) D TR ad cA (jA ad TR s.heap.size) 4 0 0 41 [(0, .ref (ad 0)), (1, .int x15), (2, .int x16), (3, .int x17)] [.int x18, .ref (ad 0)] S19 V L := by
          subst e_K41_14
          intro x15 x16 x17 x18 S19 h
          refine j_iconst C dX12_slow_41 ci_2 ?_
          obtain ⟨r20, S21, h22, h⟩ := bd2_elim h
          refine j_callV (As := [.int x18, .int (2 : Int32)]) (rest := []) C (kX12_right_0 l B D ad cA hI S19 V L x18 (2 : Int32) _ _ h22) mw_X12_right wd1638 wd56 wd1636 tr_0 rfl rfl ⟨rfl, rfl, by decide, by decide⟩ ⟨Nat.zero_le _, Nat.zero_le _⟩ rfl rfl (Nat.le_of_ble_eq_true rfl) dX12_slow_42 ?_
          refine j_if_eq (tgt := 66) C dX12_slow_45 (by decide) (fun c23 => ?_) (fun c23 => ?_)
          · have h := (if_pos c23).symm.trans h
            refine j_iconst C dX12_slow_66 ci_0 ?_
            cases h
            exact j_iret C hr hlk rfl dX12_slow_67
          · have h := (if_neg c23).symm.trans h
            refine j_aload_n C 0 rfl dX12_slow_48 rfl ?_
            refine j_aload_n C 0 rfl dX12_slow_49 rfl ?_
            refine fg_X12_60_TR_0 C dX12_slow_50 ?_
            refine j_aload_n C 0 rfl dX12_slow_53 rfl ?_
            refine fg_X12_278_TR_0 C dX12_slow_54 ?_
            refine j_iload_n C 1 rfl dX12_slow_57 rfl ?_
            refine j_iload_n C 2 rfl dX12_slow_58 rfl ?_
            refine j_iload_n C 3 rfl dX12_slow_59 rfl ?_
            obtain ⟨r24, h25, h⟩ := bd1_elim h
            refine j_callV (As := [.ref (ad 13), .int (S21 42), .int x15, .int x16, .int x17]) (rest := []) C (kX12_slowOf_0_13 l B D ad cA hI S21 V L ((S21 42)) x15 x16 x17 _ h25) mw_X12_slowOf wd1856 wd93 wd1854 tr_0 rfl rfl ⟨rfl, rfl, by decide, by decide⟩ ⟨Nat.zero_le _, Nat.zero_le _⟩ rfl rfl (Nat.le_of_ble_eq_true rfl) dX12_slow_60 ?_
            refine j_goto (tgt := 67) C dX12_slow_63 (by decide) ?_
            cases h
            exact j_iret C hr hlk rfl dX12_slow_67
        refine j_icmp_gt (tgt := 40) C dX12_slow_33 (by decide) (fun c26 => ?_) (fun c26 => ?_)
        · have h := (if_pos c26).symm.trans h
          refine j_iconst C dX12_slow_40 ci_0 ?_
          exact j_sub [0, 1, 2, 3] rfl (HK41_14 _ _ _ _ _ h)
        · have h := (if_neg c26).symm.trans h
          refine j_iconst C dX12_slow_36 ci_1 ?_
          refine j_goto (tgt := 41) C dX12_slow_37 (by decide) ?_
          exact j_sub [0, 1, 2, 3] rfl (HK41_14 _ _ _ _ _ h)
theorem dX12_slowBy_0 : decode cX12_slowBy 0 = .ok (.aload_n 0, 1) := by decide +kernel
theorem dX12_slowBy_1 : decode cX12_slowBy 1 = .ok (.iconst 0, 1) := by decide +kernel
theorem dX12_slowBy_2 : decode cX12_slowBy 2 = .ok (.putfield 93, 3) := by decide +kernel
theorem dX12_slowBy_5 : decode cX12_slowBy 5 = .ok (.aload_n 0, 1) := by decide +kernel
theorem dX12_slowBy_6 : decode cX12_slowBy 6 = .ok (.iload_n 1, 1) := by decide +kernel
theorem dX12_slowBy_7 : decode cX12_slowBy 7 = .ok (.invokevirtual 335, 3) := by decide +kernel
theorem dX12_slowBy_10 : decode cX12_slowBy 10 = .ok (.ifCond .eq 12, 3) := by decide +kernel
theorem dX12_slowBy_13 : decode cX12_slowBy 13 = .ok (.aload_n 0, 1) := by decide +kernel
theorem dX12_slowBy_14 : decode cX12_slowBy 14 = .ok (.iload_n 2, 1) := by decide +kernel
theorem dX12_slowBy_15 : decode cX12_slowBy 15 = .ok (.iconst 2, 1) := by decide +kernel
theorem dX12_slowBy_16 : decode cX12_slowBy 16 = .ok (.invokevirtual 358, 3) := by decide +kernel
theorem dX12_slowBy_19 : decode cX12_slowBy 19 = .ok (.ifCond .ne 5, 3) := by decide +kernel
theorem dX12_slowBy_22 : decode cX12_slowBy 22 = .ok (.iconst 0, 1) := by decide +kernel
theorem dX12_slowBy_23 : decode cX12_slowBy 23 = .ok (.ireturn, 1) := by decide +kernel
theorem dX12_slowBy_24 : decode cX12_slowBy 24 = .ok (.iconst 0, 1) := by decide +kernel
theorem dX12_slowBy_25 : decode cX12_slowBy 25 = .ok (.istore_n 3, 1) := by decide +kernel
theorem dX12_slowBy_26 : decode cX12_slowBy 26 = .ok (.iconst 0, 1) := by decide +kernel
theorem dX12_slowBy_27 : decode cX12_slowBy 27 = .ok (.istore 4, 2) := by decide +kernel
theorem dX12_slowBy_29 : decode cX12_slowBy 29 = .ok (.iload 4, 2) := by decide +kernel
theorem dX12_slowBy_31 : decode cX12_slowBy 31 = .ok (.bipush 24, 2) := by decide +kernel
theorem dX12_slowBy_33 : decode cX12_slowBy 33 = .ok (.if_icmp .ge 39, 3) := by decide +kernel
theorem dX12_slowBy_36 : decode cX12_slowBy 36 = .ok (.iload_n 3, 1) := by decide +kernel
theorem dX12_slowBy_37 : decode cX12_slowBy 37 = .ok (.aload_n 0, 1) := by decide +kernel
theorem dX12_slowBy_38 : decode cX12_slowBy 38 = .ok (.aload_n 0, 1) := by decide +kernel
theorem dX12_slowBy_39 : decode cX12_slowBy 39 = .ok (.getfield 60, 3) := by decide +kernel
theorem dX12_slowBy_42 : decode cX12_slowBy 42 = .ok (.aload_n 0, 1) := by decide +kernel
theorem dX12_slowBy_43 : decode cX12_slowBy 43 = .ok (.getfield 278, 3) := by decide +kernel
theorem dX12_slowBy_46 : decode cX12_slowBy 46 = .ok (.iload 4, 2) := by decide +kernel
theorem dX12_slowBy_48 : decode cX12_slowBy 48 = .ok (.invokestatic 305, 3) := by decide +kernel
theorem dX12_slowBy_51 : decode cX12_slowBy 51 = .ok (.iconst 1, 1) := by decide +kernel
theorem dX12_slowBy_52 : decode cX12_slowBy 52 = .ok (.iload_n 1, 1) := by decide +kernel
theorem dX12_slowBy_53 : decode cX12_slowBy 53 = .ok (.ishl, 1) := by decide +kernel
theorem dX12_slowBy_54 : decode cX12_slowBy 54 = .ok (.iconst (-1), 1) := by decide +kernel
theorem dX12_slowBy_55 : decode cX12_slowBy 55 = .ok (.ixor, 1) := by decide +kernel
theorem dX12_slowBy_56 : decode cX12_slowBy 56 = .ok (.iand, 1) := by decide +kernel
theorem dX12_slowBy_57 : decode cX12_slowBy 57 = .ok (.iload_n 2, 1) := by decide +kernel
theorem dX12_slowBy_58 : decode cX12_slowBy 58 = .ok (.invokevirtual 348, 3) := by decide +kernel
theorem dX12_slowBy_61 : decode cX12_slowBy 61 = .ok (.bipush 60, 2) := by decide +kernel
theorem dX12_slowBy_63 : decode cX12_slowBy 63 = .ok (.isub, 1) := by decide +kernel
theorem dX12_slowBy_64 : decode cX12_slowBy 64 = .ok (.iadd, 1) := by decide +kernel
theorem dX12_slowBy_65 : decode cX12_slowBy 65 = .ok (.istore_n 3, 1) := by decide +kernel
theorem dX12_slowBy_66 : decode cX12_slowBy 66 = .ok (.iinc 4 1, 3) := by decide +kernel
theorem dX12_slowBy_69 : decode cX12_slowBy 69 = .ok (.goto (-40), 3) := by decide +kernel
theorem dX12_slowBy_72 : decode cX12_slowBy 72 = .ok (.aload_n 0, 1) := by decide +kernel
theorem dX12_slowBy_73 : decode cX12_slowBy 73 = .ok (.iload_n 2, 1) := by decide +kernel
theorem dX12_slowBy_74 : decode cX12_slowBy 74 = .ok (.invokevirtual 361, 3) := by decide +kernel
theorem dX12_slowBy_77 : decode cX12_slowBy 77 = .ok (.iload_n 3, 1) := by decide +kernel
theorem dX12_slowBy_78 : decode cX12_slowBy 78 = .ok (.isub, 1) := by decide +kernel
theorem dX12_slowBy_79 : decode cX12_slowBy 79 = .ok (.ireturn, 1) := by decide +kernel
def fX12_slowBy_0_L29 (E72 : Int32 → Int32 → (Nat → Int32) → Option (Int32 × (Nat → Int32))) (V : Nat → Nat → Int32) : Nat → Int32 → Int32 → Int32 → Int32 → (Nat → Int32) → Option (Int32 × (Nat → Int32))
  | 0, _, _, _, _, _ => none
  | n + 1, x10, x11, x12, x13, S14 =>
    (if (24 : Int32) ≤ x13 then
    E72 x11 x12 S14
    else
    bd1 (fX12_allIn_13 V ((S14 42)) x13) (fun r16 =>
    bd1 (fX12_swingBy_0 S14 V ((r16 &&& (((1 : Int32) <<< (x10 &&& 31)) ^^^ (-1 : Int32)))) x11) (fun r18 =>
    lt ((x12 + (r18 - (60 : Int32)))) (fun x20 =>
    lt (x13 + (1 : Int32)) (fun x21 =>
    fX12_slowBy_0_L29 E72 V n x10 x11 x20 x21 S14)))))
def fX12_slowBy_0 (S : Nat → Int32) (V : Nat → Nat → Int32) (a1 : Int32) (a2 : Int32) : Option (Int32 × (Nat → Int32)) :=
  lt (va_up S 0 (0 : Int32)) (fun S1 =>
  bd2 (fX12_isTenant_0 S1 a1) (fun r2 S3 =>
  (if r2 = 0 then
  some ((0 : Int32), S3)
  else
  bd2 (fX12_isDay_0 S3 a2 (2 : Int32)) (fun r6 S7 =>
  (if r6 = 0 then
  some ((0 : Int32), S7)
  else
  bk (fun (x26 : Int32) (x27 : Int32) (S28 : Nat → Int32) =>
  bd1 (fX12_slowDay_0 S28 V x26) (fun r29 =>
  some ((r29 - x27), S28))) (fun X72_25 =>
  fX12_slowBy_0_L29 X72_25 V FU a1 a2 (0 : Int32) (0 : Int32) S7))))))
set_option maxHeartbeats 4000000 in
set_option maxRecDepth 100000 in
theorem kX12_slowBy_0 (l : Launch) (B : jBT) (D : va_G) (ad : Nat → Nat) (cA : Nat → ClassId) (hI : jI ad TR) (S : Nat → Int32) (V : Nat → Nat → Int32) (L : Nat → Int64) (a1 : Int32) (a2 : Int32) (r0 : Int32) (S0 : Nat → Int32) (h : fX12_slowBy_0 S V a1 a2 = some (r0, S0)) : jM l yX12_slowBy cX12_slowBy 5 (some .int) ({ frames := 5, cells := 0, slots := 0, locals := 121 }) B D TR ad cA [.ref (ad 0), .int a1, .int a2] S V L (some (.int r0)) S0 V L := by
  refine jM_of (plainFor_of_name (by decide)) TR_ok hI (Nat.le_of_ble_eq_true rfl) ?_
  intro p e s m args below meth c C hr hlk
  refine j_lv (lv2 := [(0, .ref (ad 0)), (1, .int a1), (2, .int a2)]) rfl ?_
  unfold fX12_slowBy_0 at h
  have H_fX12_slowBy_0_L29 : ∀ (E72 : Int32 → Int32 → (Nat → Int32) → Option (Int32 × (Nat → Int32))) (_ : ∀ (x22 : Int32) (x23 : Int32) (S24 : Nat → Int32), E72 x22 x23 S24 = some (r0, S0) → jW p l e ({ frames := 5, cells := 0, slots := 0, locals := 121 }) s m args below meth c (MQ below (jQc D TR ad cA (some (.int r0)) s.heap.size S0 V L) args s 0 0 (jA ad TR s.heap.size)) D TR ad cA (jA ad TR s.heap.size) 5 0 0 72 [(0, .ref (ad 0)), (2, .int x22), (3, .int x23)] [] S24 V L) (n : Nat) (x10 : Int32) (x11 : Int32) (x12 : Int32) (x13 : Int32) (S14 : Nat → Int32), fX12_slowBy_0_L29 E72 V n x10 x11 x12 x13 S14 = some (r0, S0) → jW p l e ({ frames := 5, cells := 0, slots := 0, locals := 121 }) s m args below meth c (MQ below (jQc D TR ad cA (some (.int r0)) s.heap.size S0 V L) args s 0 0 (jA ad TR s.heap.size)) D TR ad cA (jA ad TR s.heap.size) 5 0 0 29 [(0, .ref (ad 0)), (1, .int x10), (2, .int x11), (3, .int x12), (4, .int x13)] [] S14 V L := by
    intro E72 HE72
    intro n
    induction n with
    | zero =>
      intro x10 x11 x12 x13 S14 h
      cases (show (none : Option (Int32 × (Nat → Int32))) = some (r0, S0) from h)
    | succ n ih =>
      intro x10 x11 x12 x13 S14 h
      unfold fX12_slowBy_0_L29 at h
      refine j_iload C 4 rfl dX12_slowBy_29 ?_
      refine j_bipush C dX12_slowBy_31 cb_24 ?_
      refine j_icmp_ge (tgt := 72) C dX12_slowBy_33 (by decide) (fun c15 => ?_) (fun c15 => ?_)
      · have h := (if_pos c15).symm.trans h
        exact j_sub [0, 2, 3] rfl (HE72 _ _ _ h)
      · have h := (if_neg c15).symm.trans h
        refine j_iload_n C 3 rfl dX12_slowBy_36 rfl ?_
        refine j_aload_n C 0 rfl dX12_slowBy_37 rfl ?_
        refine j_aload_n C 0 rfl dX12_slowBy_38 rfl ?_
        refine fg_X12_60_TR_0 C dX12_slowBy_39 ?_
        refine j_aload_n C 0 rfl dX12_slowBy_42 rfl ?_
        refine fg_X12_278_TR_0 C dX12_slowBy_43 ?_
        refine j_iload C 4 rfl dX12_slowBy_46 ?_
        obtain ⟨r16, h17, h⟩ := bd1_elim h
        refine j_callS (As := [.ref (ad 13), .int (S14 42), .int x13]) (rest := [.ref (ad 0), .int x12]) C (kX12_allIn_13 l B D ad cA hI S14 V L ((S14 42)) x13 _ h17) mw_X12_allIn wd1778 wd1777 ⟨rfl, rfl, by decide, by decide⟩ ⟨Nat.zero_le _, Nat.zero_le _⟩ rfl rfl (Nat.le_of_ble_eq_true rfl) dX12_slowBy_48 ?_
        refine j_iconst C dX12_slowBy_51 ci_1 ?_
        refine j_iload_n C 1 rfl dX12_slowBy_52 rfl ?_
        refine j_ishl C dX12_slowBy_53 ?_
        refine j_iconst C dX12_slowBy_54 ci_m1 ?_
        refine j_ixor C dX12_slowBy_55 ?_
        refine j_iand C dX12_slowBy_56 ?_
        refine j_iload_n C 2 rfl dX12_slowBy_57 rfl ?_
        obtain ⟨r18, h19, h⟩ := bd1_elim h
        refine j_callV (As := [.int (r16 &&& (((1 : Int32) <<< (x10 &&& 31)) ^^^ (-1 : Int32))), .int x11]) (rest := [.int x12]) C (kX12_swingBy_0 l B D ad cA hI S14 V L ((r16 &&& (((1 : Int32) <<< (x10 &&& 31)) ^^^ (-1 : Int32)))) x11 _ h19) mw_X12_swingBy wd1844 wd91 wd1842 tr_0 rfl rfl ⟨rfl, rfl, by decide, by decide⟩ ⟨Nat.zero_le _, Nat.zero_le _⟩ rfl rfl (Nat.le_of_ble_eq_true rfl) dX12_slowBy_58 ?_
        refine j_bipush C dX12_slowBy_61 cb_60 ?_
        refine j_isub C dX12_slowBy_63 ?_
        refine j_iadd C dX12_slowBy_64 ?_
        refine lt_elim h (fun x20 e_x20 h => ?_)
        refine j_top e_x20 ?_
        refine j_istore_n C [(3, .int x20), (0, .ref (ad 0)), (1, .int x10), (2, .int x11), (4, .int x13)] dX12_slowBy_65 rfl (by decide) rfl ?_
        refine lt_elim h (fun x21 e_x21 h => ?_)
        refine j_iinc C [(4, .int x21), (3, .int x20), (0, .ref (ad 0)), (1, .int x10), (2, .int x11)] 4 dX12_slowBy_66 rfl ((iinc_eq ci_1).trans e_x21.symm) (by decide) rfl ?_
        refine j_goto (tgt := 29) C dX12_slowBy_69 (by decide) ?_
        exact j_sub [2, 3, 4, 1, 0] rfl (ih _ _ _ _ _ h)
  refine j_aload_n C 0 rfl dX12_slowBy_0 rfl ?_
  refine j_iconst C dX12_slowBy_1 ci_0 ?_
  refine fp_X12_93_TR_0 C dX12_slowBy_2 ?_
  refine lt_elim h (fun S1 e_S1 h => ?_)
  refine j_S e_S1 ?_
  refine j_aload_n C 0 rfl dX12_slowBy_5 rfl ?_
  refine j_iload_n C 1 rfl dX12_slowBy_6 rfl ?_
  obtain ⟨r2, S3, h4, h⟩ := bd2_elim h
  refine j_callV (As := [.int a1]) (rest := []) C (kX12_isTenant_0 l B D ad cA hI S1 V L a1 _ _ h4) mw_X12_isTenant wd1816 wd86 wd1814 tr_0 rfl rfl ⟨rfl, rfl, by decide, by decide⟩ ⟨Nat.zero_le _, Nat.zero_le _⟩ rfl rfl (Nat.le_of_ble_eq_true rfl) dX12_slowBy_7 ?_
  refine j_if_eq (tgt := 22) C dX12_slowBy_10 (by decide) (fun c5 => ?_) (fun c5 => ?_)
  · have h := (if_pos c5).symm.trans h
    refine j_iconst C dX12_slowBy_22 ci_0 ?_
    cases h
    exact j_iret C hr hlk rfl dX12_slowBy_23
  · have h := (if_neg c5).symm.trans h
    refine j_aload_n C 0 rfl dX12_slowBy_13 rfl ?_
    refine j_iload_n C 2 rfl dX12_slowBy_14 rfl ?_
    refine j_iconst C dX12_slowBy_15 ci_2 ?_
    obtain ⟨r6, S7, h8, h⟩ := bd2_elim h
    refine j_callV (As := [.int a2, .int (2 : Int32)]) (rest := []) C (kX12_isDay_0 l B D ad cA hI S3 V L a2 (2 : Int32) _ _ h8) mw_X12_isDay wd1836 wd89 wd1834 tr_0 rfl rfl ⟨rfl, rfl, by decide, by decide⟩ ⟨Nat.zero_le _, Nat.zero_le _⟩ rfl rfl (Nat.le_of_ble_eq_true rfl) dX12_slowBy_16 ?_
    refine j_if_ne (tgt := 24) C dX12_slowBy_19 (by decide) (fun c9 => ?_) (fun c9 => ?_)
    · have h := (if_neg c9).symm.trans h
      refine j_iconst C dX12_slowBy_24 ci_0 ?_
      refine j_istore_n C [(3, .int (0 : Int32)), (0, .ref (ad 0)), (1, .int a1), (2, .int a2)] dX12_slowBy_25 rfl (by decide) rfl ?_
      refine j_iconst C dX12_slowBy_26 ci_0 ?_
      refine j_istore C [(4, .int (0 : Int32)), (3, .int (0 : Int32)), (0, .ref (ad 0)), (1, .int a1), (2, .int a2)] dX12_slowBy_27 (by decide) rfl ?_
      refine bk_elim h (fun X72_25 e_X72_25 h => ?_)
      have HX72_25 : ∀ (x26 : Int32) (x27 : Int32) (S28 : Nat → Int32), X72_25 x26 x27 S28 = some (r0, S0) → jW p l e ({ frames := 5, cells := 0, slots := 0, locals := 121 }) s m args below meth c (MQ below (jQc D TR ad cA (some (.int r0)) s.heap.size S0 V L) args s 0 0 (jA ad TR s.heap.size)) D TR ad cA (jA ad TR s.heap.size) 5 0 0 72 [(0, .ref (ad 0)), (2, .int x26), (3, .int x27)] [] S28 V L := by
        subst e_X72_25
        intro x26 x27 S28 h
        refine j_aload_n C 0 rfl dX12_slowBy_72 rfl ?_
        refine j_iload_n C 1 rfl dX12_slowBy_73 rfl ?_
        obtain ⟨r29, h30, h⟩ := bd1_elim h
        refine j_callV (As := [.int x26]) (rest := []) C (kX12_slowDay_0 l B D ad cA hI S28 V L x26 _ h30) mw_X12_slowDay wd1864 wd94 wd1862 tr_0 rfl rfl ⟨rfl, rfl, by decide, by decide⟩ ⟨Nat.zero_le _, Nat.zero_le _⟩ rfl rfl (Nat.le_of_ble_eq_true rfl) dX12_slowBy_74 ?_
        refine j_iload_n C 2 rfl dX12_slowBy_77 rfl ?_
        refine j_isub C dX12_slowBy_78 ?_
        cases h
        exact j_iret C hr hlk rfl dX12_slowBy_79
      exact j_sub [2, 3, 4, 1, 0] rfl (H_fX12_slowBy_0_L29 _ HX72_25 FU _ _ _ _ _ h)
    · have h := (if_pos c9).symm.trans h
      refine j_iconst C dX12_slowBy_22 ci_0 ?_
      cases h
      exact j_iret C hr hlk rfl dX12_slowBy_23
