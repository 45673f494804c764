theorem dX12_byteAt_0 : decode cX12_byteAt 0 = .ok (.iload_n 1, 1) := by decide +kernel
theorem dX12_byteAt_1 : decode cX12_byteAt 1 = .ok (.aload_n 0, 1) := by decide +kernel
theorem dX12_byteAt_2 : decode cX12_byteAt 2 = .ok (.getfield 103, 3) := by decide +kernel
theorem dX12_byteAt_5 : decode cX12_byteAt 5 = .ok (.if_icmp .ge 12, 3) := by decide +kernel
theorem dX12_byteAt_8 : decode cX12_byteAt 8 = .ok (.aload_n 0, 1) := by decide +kernel
theorem dX12_byteAt_9 : decode cX12_byteAt 9 = .ok (.getfield 32, 3) := by decide +kernel
theorem dX12_byteAt_12 : decode cX12_byteAt 12 = .ok (.iload_n 1, 1) := by decide +kernel
theorem dX12_byteAt_13 : decode cX12_byteAt 13 = .ok (.iaload, 1) := by decide +kernel
theorem dX12_byteAt_14 : decode cX12_byteAt 14 = .ok (.goto 4, 3) := by decide +kernel
theorem dX12_byteAt_17 : decode cX12_byteAt 17 = .ok (.iconst 0, 1) := by decide +kernel
theorem dX12_byteAt_18 : decode cX12_byteAt 18 = .ok (.ireturn, 1) := by decide +kernel
def fX12_byteAt_0 (S : Nat → Int32) (V : Nat → Nat → Int32) (a1 : Int32) : Option (Int32) :=
  (if (S 17) ≤ a1 then
  some (0 : Int32)
  else
  gd (ib a1 600) (
  some ((V 5 (a1).toNatClampNeg))))
set_option maxHeartbeats 4000000 in
set_option maxRecDepth 100000 in
theorem kX12_byteAt_0 (l : Launch) (B : jBT) (D : va_G) (ad : Nat → Nat) (cA : Nat → ClassId) (hI : jI ad TR) (S : Nat → Int32) (V : Nat → Nat → Int32) (L : Nat → Int64) (a1 : Int32) (r0 : Int32) (h : fX12_byteAt_0 S V a1 = some r0) : jM l yX12_byteAt cX12_byteAt 2 (some .int) ({ frames := 0, cells := 0, slots := 0, locals := 0 }) B D TR ad cA [.ref (ad 0), .int a1] S V L (some (.int r0)) S V L := by
  refine jM_of (plainFor_of_name (by decide)) TR_ok hI (Nat.le_of_ble_eq_true rfl) ?_
  intro p e s m args below meth c C hr hlk
  refine j_lv (lv2 := [(0, .ref (ad 0)), (1, .int a1)]) rfl ?_
  unfold fX12_byteAt_0 at h
  refine j_iload_n C 1 rfl dX12_byteAt_0 rfl ?_
  refine j_aload_n C 0 rfl dX12_byteAt_1 rfl ?_
  refine fg_X12_103_TR_0 C dX12_byteAt_2 ?_
  refine j_icmp_ge (tgt := 17) C dX12_byteAt_5 (by decide) (fun c1 => ?_) (fun c1 => ?_)
  · have h := (if_pos c1).symm.trans h
    refine j_iconst C dX12_byteAt_17 ci_0 ?_
    cases h
    exact j_iret C hr hlk rfl dX12_byteAt_18
  · have h := (if_neg c1).symm.trans h
    refine j_aload_n C 0 rfl dX12_byteAt_8 rfl ?_
    refine fg_X12_32_TR_0 C dX12_byteAt_9 ?_
    refine j_iload_n C 1 rfl dX12_byteAt_12 rfl ?_
    obtain ⟨g2, h⟩ := gd_elim h
    refine j_iald C tr_5 (ib_in g2) dX12_byteAt_13 ?_
    refine j_goto (tgt := 18) C dX12_byteAt_14 (by decide) ?_
    cases h
    exact j_iret C hr hlk rfl dX12_byteAt_18
theorem dX12_isLetter_0 : decode cX12_isLetter 0 = .ok (.iload_n 0, 1) := by decide +kernel
theorem dX12_isLetter_1 : decode cX12_isLetter 1 = .ok (.bipush 97, 2) := by decide +kernel
theorem dX12_isLetter_3 : decode cX12_isLetter 3 = .ok (.if_icmp .lt 13, 3) := by decide +kernel
theorem dX12_isLetter_6 : decode cX12_isLetter 6 = .ok (.iload_n 0, 1) := by decide +kernel
theorem dX12_isLetter_7 : decode cX12_isLetter 7 = .ok (.bipush 122, 2) := by decide +kernel
theorem dX12_isLetter_9 : decode cX12_isLetter 9 = .ok (.if_icmp .gt 7, 3) := by decide +kernel
theorem dX12_isLetter_12 : decode cX12_isLetter 12 = .ok (.iconst 1, 1) := by decide +kernel
theorem dX12_isLetter_13 : decode cX12_isLetter 13 = .ok (.goto 4, 3) := by decide +kernel
theorem dX12_isLetter_16 : decode cX12_isLetter 16 = .ok (.iconst 0, 1) := by decide +kernel
theorem dX12_isLetter_17 : decode cX12_isLetter 17 = .ok (.ireturn, 1) := by decide +kernel
def fX12_isLetter (a1 : Int32) : Option (Int32) :=
  (if a1 < (97 : Int32) then
  some (0 : Int32)
  else
  (if (122 : Int32) < a1 then
  some (0 : Int32)
  else
  some (1 : Int32)))
set_option maxHeartbeats 4000000 in
set_option maxRecDepth 100000 in
theorem kX12_isLetter (l : Launch) (B : jBT) (D : va_G) (ad : Nat → Nat) (cA : Nat → ClassId) (hI : jI ad TR) (S : Nat → Int32) (V : Nat → Nat → Int32) (L : Nat → Int64) (a1 : Int32) (r0 : Int32) (h : fX12_isLetter a1 = some r0) : jM l yX12_isLetter cX12_isLetter 1 (some .boolean) ({ frames := 0, cells := 0, slots := 0, locals := 0 }) B D TR ad cA [.int a1] S V L (some (.int r0)) S V L := by
  refine jM_of (plainFor_of_name (by decide)) TR_ok hI (Nat.le_of_ble_eq_true rfl) ?_
  intro p e s m args below meth c C hr hlk
  refine j_lv (lv2 := [(0, .int a1)]) rfl ?_
  unfold fX12_isLetter at h
  refine j_iload_n C 0 rfl dX12_isLetter_0 rfl ?_
  refine j_bipush C dX12_isLetter_1 cb_97 ?_
  refine j_icmp_lt (tgt := 16) C dX12_isLetter_3 (by decide) (fun c1 => ?_) (fun c1 => ?_)
  · have h := (if_pos c1).symm.trans h
    refine j_iconst C dX12_isLetter_16 ci_0 ?_
    cases h
    exact j_zret C hr hlk rfl rfl dX12_isLetter_17
  · have h := (if_neg c1).symm.trans h
    refine j_iload_n C 0 rfl dX12_isLetter_6 rfl ?_
    refine j_bipush C dX12_isLetter_7 cb_122 ?_
    refine j_icmp_gt (tgt := 16) C dX12_isLetter_9 (by decide) (fun c2 => ?_) (fun c2 => ?_)
    · have h := (if_pos c2).symm.trans h
      refine j_iconst C dX12_isLetter_16 ci_0 ?_
      cases h
      exact j_zret C hr hlk rfl rfl dX12_isLetter_17
    · have h := (if_neg c2).symm.trans h
      refine j_iconst C dX12_isLetter_12 ci_1 ?_
      refine j_goto (tgt := 17) C dX12_isLetter_13 (by decide) ?_
      cases h
      exact j_zret C hr hlk rfl rfl dX12_isLetter_17
theorem dX12_isDigit_0 : decode cX12_isDigit 0 = .ok (.iload_n 0, 1) := by decide +kernel
theorem dX12_isDigit_1 : decode cX12_isDigit 1 = .ok (.bipush 48, 2) := by decide +kernel
theorem dX12_isDigit_3 : decode cX12_isDigit 3 = .ok (.if_icmp .lt 13, 3) := by decide +kernel
theorem dX12_isDigit_6 : decode cX12_isDigit 6 = .ok (.iload_n 0, 1) := by decide +kernel
theorem dX12_isDigit_7 : decode cX12_isDigit 7 = .ok (.bipush 57, 2) := by decide +kernel
theorem dX12_isDigit_9 : decode cX12_isDigit 9 = .ok (.if_icmp .gt 7, 3) := by decide +kernel
theorem dX12_isDigit_12 : decode cX12_isDigit 12 = .ok (.iconst 1, 1) := by decide +kernel
theorem dX12_isDigit_13 : decode cX12_isDigit 13 = .ok (.goto 4, 3) := by decide +kernel
theorem dX12_isDigit_16 : decode cX12_isDigit 16 = .ok (.iconst 0, 1) := by decide +kernel
theorem dX12_isDigit_17 : decode cX12_isDigit 17 = .ok (.ireturn, 1) := by decide +kernel
def fX12_isDigit (a1 : Int32) : Option (Int32) :=
  (if a1 < (48 : Int32) then
  some (0 : Int32)
  else
  (if (57 : Int32) < a1 then
  some (0 : Int32)
  else
  some (1 : Int32)))
set_option maxHeartbeats 4000000 in
set_option maxRecDepth 100000 in
theorem kX12_isDigit (l : Launch) (B : jBT) (D : va_G) (ad : Nat → Nat) (cA : Nat → ClassId) (hI : jI ad TR) (S : Nat → Int32) (V : Nat → Nat → Int32) (L : Nat → Int64) (a1 : Int32) (r0 : Int32) (h : fX12_isDigit a1 = some r0) : jM l yX12_isDigit cX12_isDigit 1 (some .boolean) ({ frames := 0, cells := 0, slots := 0, locals := 0 }) B D TR ad cA [.int a1] S V L (some (.int r0)) S V L := by
  refine jM_of (plainFor_of_name (by decide)) TR_ok hI (Nat.le_of_ble_eq_true rfl) ?_
  intro p e s m args below meth c C hr hlk
  refine j_lv (lv2 := [(0, .int a1)]) rfl ?_
  unfold fX12_isDigit at h
  refine j_iload_n C 0 rfl dX12_isDigit_0 rfl ?_
  refine j_bipush C dX12_isDigit_1 cb_48 ?_
  refine j_icmp_lt (tgt := 16) C dX12_isDigit_3 (by decide) (fun c1 => ?_) (fun c1 => ?_)
  · have h := (if_pos c1).symm.trans h
    refine j_iconst C dX12_isDigit_16 ci_0 ?_
    cases h
    exact j_zret C hr hlk rfl rfl dX12_isDigit_17
  · have h := (if_neg c1).symm.trans h
    refine j_iload_n C 0 rfl dX12_isDigit_6 rfl ?_
    refine j_bipush C dX12_isDigit_7 cb_57 ?_
    refine j_icmp_gt (tgt := 16) C dX12_isDigit_9 (by decide) (fun c2 => ?_) (fun c2 => ?_)
    · have h := (if_pos c2).symm.trans h
      refine j_iconst C dX12_isDigit_16 ci_0 ?_
      cases h
      exact j_zret C hr hlk rfl rfl dX12_isDigit_17
    · have h := (if_neg c2).symm.trans h
      refine j_iconst C dX12_isDigit_12 ci_1 ?_
      refine j_goto (tgt := 17) C dX12_isDigit_13 (by decide) ?_
      cases h
      exact j_zret C hr hlk rfl rfl dX12_isDigit_17
theorem dX12_goes_0 : decode cX12_goes 0 = .ok (.aload_n 0, 1) := by decide +kernel
theorem dX12_goes_1 : decode cX12_goes 1 = .ok (.getfield 106, 3) := by decide +kernel
theorem dX12_goes_4 : decode cX12_goes 4 = .ok (.aload_n 0, 1) := by decide +kernel
theorem dX12_goes_5 : decode cX12_goes 5 = .ok (.getfield 103, 3) := by decide +kernel
theorem dX12_goes_8 : decode cX12_goes 8 = .ok (.if_icmp .ge 42, 3) := by decide +kernel
theorem dX12_goes_11 : decode cX12_goes 11 = .ok (.aload_n 0, 1) := by decide +kernel
theorem dX12_goes_12 : decode cX12_goes 12 = .ok (.aload_n 0, 1) := by decide +kernel
theorem dX12_goes_13 : decode cX12_goes 13 = .ok (.getfield 106, 3) := by decide +kernel
theorem dX12_goes_16 : decode cX12_goes 16 = .ok (.invokevirtual 109, 3) := by decide +kernel
theorem dX12_goes_19 : decode cX12_goes 19 = .ok (.bipush 32, 2) := by decide +kernel
theorem dX12_goes_21 : decode cX12_goes 21 = .ok (.if_icmp .eq 16, 3) := by decide +kernel
theorem dX12_goes_24 : decode cX12_goes 24 = .ok (.aload_n 0, 1) := by decide +kernel
theorem dX12_goes_25 : decode cX12_goes 25 = .ok (.aload_n 0, 1) := by decide +kernel
theorem dX12_goes_26 : decode cX12_goes 26 = .ok (.getfield 106, 3) := by decide +kernel
theorem dX12_goes_29 : decode cX12_goes 29 = .ok (.invokevirtual 109, 3) := by decide +kernel
theorem dX12_goes_32 : decode cX12_goes 32 = .ok (.bipush 10, 2) := by decide +kernel
theorem dX12_goes_34 : decode cX12_goes 34 = .ok (.if_icmp .ne 16, 3) := by decide +kernel
theorem dX12_goes_37 : decode cX12_goes 37 = .ok (.aload_n 0, 1) := by decide +kernel
theorem dX12_goes_38 : decode cX12_goes 38 = .ok (.dup, 1) := by decide +kernel
theorem dX12_goes_39 : decode cX12_goes 39 = .ok (.getfield 106, 3) := by decide +kernel
theorem dX12_goes_42 : decode cX12_goes 42 = .ok (.iconst 1, 1) := by decide +kernel
theorem dX12_goes_43 : decode cX12_goes 43 = .ok (.iadd, 1) := by decide +kernel
theorem dX12_goes_44 : decode cX12_goes 44 = .ok (.putfield 106, 3) := by decide +kernel
theorem dX12_goes_47 : decode cX12_goes 47 = .ok (.goto (-47), 3) := by decide +kernel
theorem dX12_goes_50 : decode cX12_goes 50 = .ok (.aload_n 0, 1) := by decide +kernel
theorem dX12_goes_51 : decode cX12_goes 51 = .ok (.aload_n 0, 1) := by decide +kernel
theorem dX12_goes_52 : decode cX12_goes 52 = .ok (.getfield 106, 3) := by decide +kernel
theorem dX12_goes_55 : decode cX12_goes 55 = .ok (.putfield 113, 3) := by decide +kernel
theorem dX12_goes_58 : decode cX12_goes 58 = .ok (.aload_n 0, 1) := by decide +kernel
theorem dX12_goes_59 : decode cX12_goes 59 = .ok (.lconst 0, 1) := by decide +kernel
theorem dX12_goes_60 : decode cX12_goes 60 = .ok (.putfield 116, 3) := by decide +kernel
theorem dX12_goes_63 : decode cX12_goes 63 = .ok (.aload_n 0, 1) := by decide +kernel
theorem dX12_goes_64 : decode cX12_goes 64 = .ok (.iconst 0, 1) := by decide +kernel
theorem dX12_goes_65 : decode cX12_goes 65 = .ok (.putfield 120, 3) := by decide +kernel
theorem dX12_goes_68 : decode cX12_goes 68 = .ok (.aload_n 0, 1) := by decide +kernel
theorem dX12_goes_69 : decode cX12_goes 69 = .ok (.aload_n 0, 1) := by decide +kernel
theorem dX12_goes_70 : decode cX12_goes 70 = .ok (.getfield 106, 3) := by decide +kernel
theorem dX12_goes_73 : decode cX12_goes 73 = .ok (.invokevirtual 109, 3) := by decide +kernel
theorem dX12_goes_76 : decode cX12_goes 76 = .ok (.istore_n 1, 1) := by decide +kernel
theorem dX12_goes_77 : decode cX12_goes 77 = .ok (.aload_n 0, 1) := by decide +kernel
theorem dX12_goes_78 : decode cX12_goes 78 = .ok (.iload_n 1, 1) := by decide +kernel
theorem dX12_goes_79 : decode cX12_goes 79 = .ok (.putfield 123, 3) := by decide +kernel
theorem dX12_goes_82 : decode cX12_goes 82 = .ok (.aload_n 0, 1) := by decide +kernel
theorem dX12_goes_83 : decode cX12_goes 83 = .ok (.getfield 106, 3) := by decide +kernel
theorem dX12_goes_86 : decode cX12_goes 86 = .ok (.aload_n 0, 1) := by decide +kernel
theorem dX12_goes_87 : decode cX12_goes 87 = .ok (.getfield 103, 3) := by decide +kernel
theorem dX12_goes_90 : decode cX12_goes 90 = .ok (.if_icmp .lt 11, 3) := by decide +kernel
theorem dX12_goes_93 : decode cX12_goes 93 = .ok (.aload_n 0, 1) := by decide +kernel
theorem dX12_goes_94 : decode cX12_goes 94 = .ok (.iconst 0, 1) := by decide +kernel
theorem dX12_goes_95 : decode cX12_goes 95 = .ok (.putfield 126, 3) := by decide +kernel
theorem dX12_goes_98 : decode cX12_goes 98 = .ok (.goto 233, 3) := by decide +kernel
theorem dX12_goes_101 : decode cX12_goes 101 = .ok (.iload_n 1, 1) := by decide +kernel
theorem dX12_goes_102 : decode cX12_goes 102 = .ok (.invokestatic 129, 3) := by decide +kernel
theorem dX12_goes_105 : decode cX12_goes 105 = .ok (.ifCond .eq 75, 3) := by decide +kernel
theorem dX12_goes_108 : decode cX12_goes 108 = .ok (.aload_n 0, 1) := by decide +kernel
theorem dX12_goes_109 : decode cX12_goes 109 = .ok (.aload_n 0, 1) := by decide +kernel
theorem dX12_goes_110 : decode cX12_goes 110 = .ok (.getfield 106, 3) := by decide +kernel
theorem dX12_goes_113 : decode cX12_goes 113 = .ok (.invokevirtual 109, 3) := by decide +kernel
theorem dX12_goes_116 : decode cX12_goes 116 = .ok (.invokestatic 129, 3) := by decide +kernel
theorem dX12_goes_119 : decode cX12_goes 119 = .ok (.ifCond .eq 53, 3) := by decide +kernel
theorem dX12_goes_122 : decode cX12_goes 122 = .ok (.aload_n 0, 1) := by decide +kernel
theorem dX12_goes_123 : decode cX12_goes 123 = .ok (.getfield 106, 3) := by decide +kernel
theorem dX12_goes_126 : decode cX12_goes 126 = .ok (.aload_n 0, 1) := by decide +kernel
theorem dX12_goes_127 : decode cX12_goes 127 = .ok (.getfield 113, 3) := by decide +kernel
theorem dX12_goes_130 : decode cX12_goes 130 = .ok (.isub, 1) := by decide +kernel
theorem dX12_goes_131 : decode cX12_goes 131 = .ok (.bipush 8, 2) := by decide +kernel
theorem dX12_goes_133 : decode cX12_goes 133 = .ok (.if_icmp .ge 26, 3) := by decide +kernel
theorem dX12_goes_136 : decode cX12_goes 136 = .ok (.aload_n 0, 1) := by decide +kernel
theorem dX12_goes_137 : decode cX12_goes 137 = .ok (.aload_n 0, 1) := by decide +kernel
theorem dX12_goes_138 : decode cX12_goes 138 = .ok (.getfield 116, 3) := by decide +kernel
theorem dX12_goes_141 : decode cX12_goes 141 = .ok (.iconst 5, 1) := by decide +kernel
theorem dX12_goes_142 : decode cX12_goes 142 = .ok (.lshl, 1) := by decide +kernel
theorem dX12_goes_143 : decode cX12_goes 143 = .ok (.aload_n 0, 1) := by decide +kernel
theorem dX12_goes_144 : decode cX12_goes 144 = .ok (.aload_n 0, 1) := by decide +kernel
theorem dX12_goes_145 : decode cX12_goes 145 = .ok (.getfield 106, 3) := by decide +kernel
theorem dX12_goes_148 : decode cX12_goes 148 = .ok (.invokevirtual 109, 3) := by decide +kernel
theorem dX12_goes_151 : decode cX12_goes 151 = .ok (.bipush 96, 2) := by decide +kernel
theorem dX12_goes_153 : decode cX12_goes 153 = .ok (.isub, 1) := by decide +kernel
theorem dX12_goes_154 : decode cX12_goes 154 = .ok (.i2l, 1) := by decide +kernel
theorem dX12_goes_155 : decode cX12_goes 155 = .ok (.lor, 1) := by decide +kernel
theorem dX12_goes_156 : decode cX12_goes 156 = .ok (.putfield 116, 3) := by decide +kernel
theorem dX12_goes_159 : decode cX12_goes 159 = .ok (.aload_n 0, 1) := by decide +kernel
theorem dX12_goes_160 : decode cX12_goes 160 = .ok (.dup, 1) := by decide +kernel
theorem dX12_goes_161 : decode cX12_goes 161 = .ok (.getfield 106, 3) := by decide +kernel
theorem dX12_goes_164 : decode cX12_goes 164 = .ok (.iconst 1, 1) := by decide +kernel
theorem dX12_goes_165 : decode cX12_goes 165 = .ok (.iadd, 1) := by decide +kernel
theorem dX12_goes_166 : decode cX12_goes 166 = .ok (.putfield 106, 3) := by decide +kernel
theorem dX12_goes_169 : decode cX12_goes 169 = .ok (.goto (-61), 3) := by decide +kernel
theorem dX12_goes_172 : decode cX12_goes 172 = .ok (.aload_n 0, 1) := by decide +kernel
theorem dX12_goes_173 : decode cX12_goes 173 = .ok (.iconst 1, 1) := by decide +kernel
theorem dX12_goes_174 : decode cX12_goes 174 = .ok (.putfield 126, 3) := by decide +kernel
theorem dX12_goes_177 : decode cX12_goes 177 = .ok (.goto 154, 3) := by decide +kernel
theorem dX12_goes_180 : decode cX12_goes 180 = .ok (.iload_n 1, 1) := by decide +kernel
theorem dX12_goes_181 : decode cX12_goes 181 = .ok (.invokestatic 133, 3) := by decide +kernel
theorem dX12_goes_184 : decode cX12_goes 184 = .ok (.ifCond .eq 74, 3) := by decide +kernel
theorem dX12_goes_187 : decode cX12_goes 187 = .ok (.aload_n 0, 1) := by decide +kernel
theorem dX12_goes_188 : decode cX12_goes 188 = .ok (.aload_n 0, 1) := by decide +kernel
theorem dX12_goes_189 : decode cX12_goes 189 = .ok (.getfield 106, 3) := by decide +kernel
theorem dX12_goes_192 : decode cX12_goes 192 = .ok (.invokevirtual 109, 3) := by decide +kernel
theorem dX12_goes_195 : decode cX12_goes 195 = .ok (.invokestatic 133, 3) := by decide +kernel
theorem dX12_goes_198 : decode cX12_goes 198 = .ok (.ifCond .eq 52, 3) := by decide +kernel
theorem dX12_goes_201 : decode cX12_goes 201 = .ok (.aload_n 0, 1) := by decide +kernel
theorem dX12_goes_202 : decode cX12_goes 202 = .ok (.getfield 106, 3) := by decide +kernel
theorem dX12_goes_205 : decode cX12_goes 205 = .ok (.aload_n 0, 1) := by decide +kernel
theorem dX12_goes_206 : decode cX12_goes 206 = .ok (.getfield 113, 3) := by decide +kernel
theorem dX12_goes_209 : decode cX12_goes 209 = .ok (.isub, 1) := by decide +kernel
theorem dX12_goes_210 : decode cX12_goes 210 = .ok (.iconst 4, 1) := by decide +kernel
theorem dX12_goes_211 : decode cX12_goes 211 = .ok (.if_icmp .ge 26, 3) := by decide +kernel
theorem dX12_goes_214 : decode cX12_goes 214 = .ok (.aload_n 0, 1) := by decide +kernel
theorem dX12_goes_215 : decode cX12_goes 215 = .ok (.bipush 10, 2) := by decide +kernel
theorem dX12_goes_217 : decode cX12_goes 217 = .ok (.aload_n 0, 1) := by decide +kernel
theorem dX12_goes_218 : decode cX12_goes 218 = .ok (.getfield 120, 3) := by decide +kernel
theorem dX12_goes_221 : decode cX12_goes 221 = .ok (.imul, 1) := by decide +kernel
theorem dX12_goes_222 : decode cX12_goes 222 = .ok (.aload_n 0, 1) := by decide +kernel
theorem dX12_goes_223 : decode cX12_goes 223 = .ok (.aload_n 0, 1) := by decide +kernel
theorem dX12_goes_224 : decode cX12_goes 224 = .ok (.getfield 106, 3) := by decide +kernel
theorem dX12_goes_227 : decode cX12_goes 227 = .ok (.invokevirtual 109, 3) := by decide +kernel
theorem dX12_goes_230 : decode cX12_goes 230 = .ok (.iadd, 1) := by decide +kernel
theorem dX12_goes_231 : decode cX12_goes 231 = .ok (.bipush 48, 2) := by decide +kernel
theorem dX12_goes_233 : decode cX12_goes 233 = .ok (.isub, 1) := by decide +kernel
theorem dX12_goes_234 : decode cX12_goes 234 = .ok (.putfield 120, 3) := by decide +kernel
theorem dX12_goes_237 : decode cX12_goes 237 = .ok (.aload_n 0, 1) := by decide +kernel
theorem dX12_goes_238 : decode cX12_goes 238 = .ok (.dup, 1) := by decide +kernel
theorem dX12_goes_239 : decode cX12_goes 239 = .ok (.getfield 106, 3) := by decide +kernel
theorem dX12_goes_242 : decode cX12_goes 242 = .ok (.iconst 1, 1) := by decide +kernel
theorem dX12_goes_243 : decode cX12_goes 243 = .ok (.iadd, 1) := by decide +kernel
theorem dX12_goes_244 : decode cX12_goes 244 = .ok (.putfield 106, 3) := by decide +kernel
theorem dX12_goes_247 : decode cX12_goes 247 = .ok (.goto (-60), 3) := by decide +kernel
theorem dX12_goes_250 : decode cX12_goes 250 = .ok (.aload_n 0, 1) := by decide +kernel
theorem dX12_goes_251 : decode cX12_goes 251 = .ok (.iconst 2, 1) := by decide +kernel
theorem dX12_goes_252 : decode cX12_goes 252 = .ok (.putfield 126, 3) := by decide +kernel
theorem dX12_goes_255 : decode cX12_goes 255 = .ok (.goto 76, 3) := by decide +kernel
theorem dX12_goes_258 : decode cX12_goes 258 = .ok (.aload_n 0, 1) := by decide +kernel
theorem dX12_goes_259 : decode cX12_goes 259 = .ok (.dup, 1) := by decide +kernel
theorem dX12_goes_260 : decode cX12_goes 260 = .ok (.getfield 106, 3) := by decide +kernel
theorem dX12_goes_263 : decode cX12_goes 263 = .ok (.iconst 1, 1) := by decide +kernel
theorem dX12_goes_264 : decode cX12_goes 264 = .ok (.iadd, 1) := by decide +kernel
theorem dX12_goes_265 : decode cX12_goes 265 = .ok (.putfield 106, 3) := by decide +kernel
theorem dX12_goes_268 : decode cX12_goes 268 = .ok (.aload_n 0, 1) := by decide +kernel
theorem dX12_goes_269 : decode cX12_goes 269 = .ok (.iload_n 1, 1) := by decide +kernel
theorem dX12_goes_270 : decode cX12_goes 270 = .ok (.bipush 59, 2) := by decide +kernel
theorem dX12_goes_272 : decode cX12_goes 272 = .ok (.if_icmp .eq 51, 3) := by decide +kernel
theorem dX12_goes_275 : decode cX12_goes 275 = .ok (.iload_n 1, 1) := by decide +kernel
theorem dX12_goes_276 : decode cX12_goes 276 = .ok (.bipush 40, 2) := by decide +kernel
theorem dX12_goes_278 : decode cX12_goes 278 = .ok (.if_icmp .eq 45, 3) := by decide +kernel
theorem dX12_goes_281 : decode cX12_goes 281 = .ok (.iload_n 1, 1) := by decide +kernel
theorem dX12_goes_282 : decode cX12_goes 282 = .ok (.bipush 41, 2) := by decide +kernel
theorem dX12_goes_284 : decode cX12_goes 284 = .ok (.if_icmp .eq 39, 3) := by decide +kernel
theorem dX12_goes_287 : decode cX12_goes 287 = .ok (.iload_n 1, 1) := by decide +kernel
theorem dX12_goes_288 : decode cX12_goes 288 = .ok (.bipush 43, 2) := by decide +kernel
theorem dX12_goes_290 : decode cX12_goes 290 = .ok (.if_icmp .eq 33, 3) := by decide +kernel
theorem dX12_goes_293 : decode cX12_goes 293 = .ok (.iload_n 1, 1) := by decide +kernel
theorem dX12_goes_294 : decode cX12_goes 294 = .ok (.bipush 45, 2) := by decide +kernel
theorem dX12_goes_296 : decode cX12_goes 296 = .ok (.if_icmp .eq 27, 3) := by decide +kernel
theorem dX12_goes_299 : decode cX12_goes 299 = .ok (.iload_n 1, 1) := by decide +kernel
theorem dX12_goes_300 : decode cX12_goes 300 = .ok (.bipush 42, 2) := by decide +kernel
theorem dX12_goes_302 : decode cX12_goes 302 = .ok (.if_icmp .eq 21, 3) := by decide +kernel
theorem dX12_goes_305 : decode cX12_goes 305 = .ok (.iload_n 1, 1) := by decide +kernel
theorem dX12_goes_306 : decode cX12_goes 306 = .ok (.bipush 47, 2) := by decide +kernel
theorem dX12_goes_308 : decode cX12_goes 308 = .ok (.if_icmp .eq 15, 3) := by decide +kernel
theorem dX12_goes_311 : decode cX12_goes 311 = .ok (.iload_n 1, 1) := by decide +kernel
theorem dX12_goes_312 : decode cX12_goes 312 = .ok (.bipush 60, 2) := by decide +kernel
theorem dX12_goes_314 : decode cX12_goes 314 = .ok (.if_icmp .eq 9, 3) := by decide +kernel
theorem dX12_goes_317 : decode cX12_goes 317 = .ok (.iload_n 1, 1) := by decide +kernel
theorem dX12_goes_318 : decode cX12_goes 318 = .ok (.bipush 61, 2) := by decide +kernel
theorem dX12_goes_320 : decode cX12_goes 320 = .ok (.if_icmp .ne 7, 3) := by decide +kernel
theorem dX12_goes_323 : decode cX12_goes 323 = .ok (.iconst 3, 1) := by decide +kernel
theorem dX12_goes_324 : decode cX12_goes 324 = .ok (.goto 4, 3) := by decide +kernel
theorem dX12_goes_327 : decode cX12_goes 327 = .ok (.iconst 4, 1) := by decide +kernel
theorem dX12_goes_328 : decode cX12_goes 328 = .ok (.putfield 126, 3) := by decide +kernel
theorem dX12_goes_331 : decode cX12_goes 331 = .ok (.aload_n 0, 1) := by decide +kernel
theorem dX12_goes_332 : decode cX12_goes 332 = .ok (.aload_n 0, 1) := by decide +kernel
theorem dX12_goes_333 : decode cX12_goes 333 = .ok (.getfield 106, 3) := by decide +kernel
theorem dX12_goes_336 : decode cX12_goes 336 = .ok (.aload_n 0, 1) := by decide +kernel
theorem dX12_goes_337 : decode cX12_goes 337 = .ok (.getfield 113, 3) := by decide +kernel
theorem dX12_goes_340 : decode cX12_goes 340 = .ok (.isub, 1) := by decide +kernel
theorem dX12_goes_341 : decode cX12_goes 341 = .ok (.putfield 136, 3) := by decide +kernel
theorem dX12_goes_344 : decode cX12_goes 344 = .ok (.return_, 1) := by decide +kernel
def fX12_goes_0_L0 (E50 : (Nat → Int32) → (Nat → Int64) → Option ((Nat → Int32) × (Nat → Int64))) (V : Nat → Nat → Int32) : Nat → (Nat → Int32) → (Nat → Int64) → Option ((Nat → Int32) × (Nat → Int64))
  | 0, _, _ => none
  | n + 1, S1, L2 =>
    (if (S1 17) ≤ (S1 18) then
    E50 S1 L2
    else
    bd1 (fX12_byteAt_0 S1 V ((S1 18))) (fun r4 =>
    bk (fun (S7 : Nat → Int32) (L8 : Nat → Int64) =>
    lt (((S7 18) + (1 : Int32))) (fun x9 =>
    lt (va_up S7 18 x9) (fun S10 =>
    fX12_goes_0_L0 E50 V n S10 L8))) (fun K37_6 =>
    (if r4 = (32 : Int32) then
    K37_6 S1 L2
    else
    bd1 (fX12_byteAt_0 S1 V ((S1 18))) (fun r12 =>
    (if r12 = (10 : Int32) then
    K37_6 S1 L2
    else
    E50 S1 L2))))))
def fX12_goes_0_L187 (E250 : (Nat → Int32) → (Nat → Int64) → Option ((Nat → Int32) × (Nat → Int64))) (V : Nat → Nat → Int32) : Nat → (Nat → Int32) → (Nat → Int64) → Option ((Nat → Int32) × (Nat → Int64))
  | 0, _, _ => none
  | n + 1, S58, L59 =>
    bd1 (fX12_byteAt_0 S58 V ((S58 18))) (fun r60 =>
    bd1 (fX12_isDigit r60) (fun r62 =>
    (if r62 = 0 then
    E250 S58 L59
    else
    bk (fun (S66 : Nat → Int32) (L67 : Nat → Int64) =>
    lt (((S66 18) + (1 : Int32))) (fun x68 =>
    lt (va_up S66 18 x68) (fun S69 =>
    fX12_goes_0_L187 E250 V n S69 L67))) (fun K237_65 =>
    (if (4 : Int32) ≤ ((S58 18) - (S58 20)) then
    K237_65 S58 L59
    else
    bd1 (fX12_byteAt_0 S58 V ((S58 18))) (fun r71 =>
    lt (((((10 : Int32) * (S58 22)) + r71) - (48 : Int32))) (fun x73 =>
    lt (va_up S58 22 x73) (fun S74 =>
    K237_65 S74 L59))))))))
def fX12_goes_0_L108 (E172 : (Nat → Int32) → (Nat → Int64) → Option ((Nat → Int32) × (Nat → Int64))) (V : Nat → Nat → Int32) : Nat → (Nat → Int32) → (Nat → Int64) → Option ((Nat → Int32) × (Nat → Int64))
  | 0, _, _ => none
  | n + 1, S81, L82 =>
    bd1 (fX12_byteAt_0 S81 V ((S81 18))) (fun r83 =>
    bd1 (fX12_isLetter r83) (fun r85 =>
    (if r85 = 0 then
    E172 S81 L82
    else
    bk (fun (S89 : Nat → Int32) (L90 : Nat → Int64) =>
    lt (((S89 18) + (1 : Int32))) (fun x91 =>
    lt (va_up S89 18 x91) (fun S92 =>
    fX12_goes_0_L108 E172 V n S92 L90))) (fun K159_88 =>
    (if (8 : Int32) ≤ ((S81 18) - (S81 20)) then
    K159_88 S81 L82
    else
    bd1 (fX12_byteAt_0 S81 V ((S81 18))) (fun r94 =>
    lt ((((L82 24) <<< (((5 : Int32)).toInt64 &&& 63)) ||| (((r94 - (96 : Int32))).toInt64))) (fun y96 =>
    lt (va_up L82 24 y96) (fun L97 =>
    K159_88 S81 L97))))))))
def fX12_goes_0 (S : Nat → Int32) (V : Nat → Nat → Int32) (L : Nat → Int64) : Option ((Nat → Int32) × (Nat → Int64)) :=
  bk (fun (S18 : Nat → Int32) (L19 : Nat → Int64) =>
  lt ((S18 18)) (fun x20 =>
  lt (va_up S18 20 x20) (fun S21 =>
  lt (va_up L19 24 (0 : Int64)) (fun L22 =>
  lt (va_up S21 22 (0 : Int32)) (fun S23 =>
  bd1 (fX12_byteAt_0 S23 V ((S23 18))) (fun r24 =>
  lt (va_up S23 23 r24) (fun S26 =>
  bk (fun (S28 : Nat → Int32) (L29 : Nat → Int64) =>
  lt (((S28 18) - (S28 20))) (fun x30 =>
  lt (va_up S28 21 x30) (fun S31 =>
  some (S31, L29)))) (fun K331_27 =>
  (if (S26 18) < (S26 17) then
  bd1 (fX12_isLetter r24) (fun r33 =>
  (if r33 = 0 then
  bd1 (fX12_isDigit r24) (fun r36 =>
  (if r36 = 0 then
  lt (((S26 18) + (1 : Int32))) (fun x39 =>
  lt (va_up S26 18 x39) (fun S40 =>
  bk (fun (x42 : Int32) (S43 : Nat → Int32) (L44 : Nat → Int64) =>
  lt (va_up S43 19 x42) (fun S45 =>
  K331_27 S45 L44)) (fun K328_41 =>
  bk (fun (S47 : Nat → Int32) (L48 : Nat → Int64) =>
  K328_41 (3 : Int32) S47 L48) (fun K323_46 =>
  (if r24 = (59 : Int32) then
  K323_46 S40 L22
  else
  (if r24 = (40 : Int32) then
  K323_46 S40 L22
  else
  (if r24 = (41 : Int32) then
  K323_46 S40 L22
  else
  (if r24 = (43 : Int32) then
  K323_46 S40 L22
  else
  (if r24 = (45 : Int32) then
  K323_46 S40 L22
  else
  (if r24 = (42 : Int32) then
  K323_46 S40 L22
  else
  (if r24 = (47 : Int32) then
  K323_46 S40 L22
  else
  (if r24 = (60 : Int32) then
  K323_46 S40 L22
  else
  (if r24 = (61 : Int32) then
  K323_46 S40 L22
  else
  K328_41 (4 : Int32) S40 L22)))))))))))))
  else
  bk (fun (S78 : Nat → Int32) (L79 : Nat → Int64) =>
  lt (va_up S78 19 (2 : Int32)) (fun S80 =>
  K331_27 S80 L79)) (fun X250_77 =>
  fX12_goes_0_L187 X250_77 V FU S26 L22)))
  else
  bk (fun (S101 : Nat → Int32) (L102 : Nat → Int64) =>
  lt (va_up S101 19 (1 : Int32)) (fun S103 =>
  K331_27 S103 L102)) (fun X172_100 =>
  fX12_goes_0_L108 X172_100 V FU S26 L22)))
  else
  lt (va_up S26 19 (0 : Int32)) (fun S104 =>
  K331_27 S104 L22)))))))))) (fun X50_17 =>
  fX12_goes_0_L0 X50_17 V FU S L)
set_option maxHeartbeats 4000000 in
set_option maxRecDepth 100000 in
theorem kX12_goes_0 (l : Launch) (B : jBT) (D : va_G) (ad : Nat → Nat) (cA : Nat → ClassId) (hI : jI ad TR) (S : Nat → Int32) (V : Nat → Nat → Int32) (L : Nat → Int64) (S0 : Nat → Int32) (L0 : Nat → Int64) (h : fX12_goes_0 S V L = some (S0, L0)) : jM l yX12_goes cX12_goes 2 none ({ frames := 1, cells := 0, slots := 0, locals := 21 }) B D TR ad cA [.ref (ad 0)] S V L none S0 V L0 := by
  refine jM_of (plainFor_of_name (by decide)) TR_ok hI (Nat.le_of_ble_eq_true rfl) ?_
  intro p e s m args below meth c C hr hlk
  refine j_lv (lv2 := [(0, .ref (ad 0))]) rfl ?_
  unfold fX12_goes_0 at h
  have H_fX12_goes_0_L0 : ∀ (E50 : (Nat → Int32) → (Nat → Int64) → Option ((Nat → Int32) × (Nat → Int64))) (_ : ∀ (S15 : Nat → Int32) (L16 : Nat → Int64), E50 S15 L16 = some (S0, L0) → jW p l e ({ frames := 1, cells := 0, slots := 0, locals := 21 }) s m args below meth c (MQ below (jQc D TR ad cA none s.heap.size S0 V L0) args s 0 0 (jA ad TR s.heap.size)) D TR ad cA (jA ad TR s.heap.size) 2 0 0 50 [(0, .ref (ad 0))] [] S15 V L16) (n : Nat) (S1 : Nat → Int32) (L2 : Nat → Int64), fX12_goes_0_L0 E50 V n S1 L2 = some (S0, L0) → jW p l e ({ frames := 1, cells := 0, slots := 0, locals := 21 }) s m args below meth c (MQ below (jQc D TR ad cA none s.heap.size S0 V L0) args s 0 0 (jA ad TR s.heap.size)) D TR ad cA (jA ad TR s.heap.size) 2 0 0 0 [(0, .ref (ad 0))] [] S1 V L2 := by
    intro E50 HE50
    intro n
    induction n with
    | zero =>
      intro S1 L2 h
      cases (show (none : Option ((Nat → Int32) × (Nat → Int64))) = some (S0, L0) from h)
    | succ n ih =>
      intro S1 L2 h
      unfold fX12_goes_0_L0 at h
      refine j_aload_n C 0 rfl dX12_goes_0 rfl ?_
      refine fg_X12_106_TR_0 C dX12_goes_1 ?_
      refine j_aload_n C 0 rfl dX12_goes_4 rfl ?_
      refine fg_X12_103_TR_0 C dX12_goes_5 ?_
      refine j_icmp_ge (tgt := 50) C dX12_goes_8 (by decide) (fun c3 => ?_) (fun c3 => ?_)
      · have h := (if_pos c3).symm.trans h
        exact j_sub [0] rfl (HE50 _ _ h)
      · have h := (if_neg c3).symm.trans h
        refine j_aload_n C 0 rfl dX12_goes_11 rfl ?_
        refine j_aload_n C 0 rfl dX12_goes_12 rfl ?_
        refine fg_X12_106_TR_0 C dX12_goes_13 ?_
        obtain ⟨r4, h5, h⟩ := bd1_elim h
        refine j_callV (As := [.int (S1 18)]) (rest := []) C (kX12_byteAt_0 l B D ad cA hI S1 V L2 ((S1 18)) _ h5) mw_X12_byteAt wd1646 wd58 wd1644 tr_0 rfl rfl ⟨rfl, rfl, by decide, by decide⟩ ⟨Nat.zero_le _, Nat.zero_le _⟩ rfl rfl (Nat.le_of_ble_eq_true rfl) dX12_goes_16 ?_
        refine j_bipush C dX12_goes_19 cb_32 ?_
        refine bk_elim h (fun K37_6 e_K37_6 h => ?_)
        have HK37_6 : ∀ (S7 : Nat → Int32) (L8 : Nat → Int64), K37_6 S7 L8 = some (S0, L0) → jW p l e ({ frames := 1, cells := 0, slots := 0, locals := 21 }) s m args below meth c (MQ below (jQc D TR ad cA none s.heap.size S0 V L0) args s 0 0 (jA ad TR s.heap.size)) D TR ad cA (jA ad TR s.heap.size) 2 0 0 37 [(0, .ref (ad 0))] [] S7 V L8 := by
          subst e_K37_6
          intro S7 L8 h
          refine j_aload_n C 0 rfl dX12_goes_37 rfl ?_
          refine j_dup C dX12_goes_38 rfl ?_
          refine fg_X12_106_TR_0 C dX12_goes_39 ?_
          refine j_iconst C dX12_goes_42 ci_1 ?_
          refine j_iadd C dX12_goes_43 ?_
          refine lt_elim h (fun x9 e_x9 h => ?_)
          refine j_top e_x9 ?_
          refine fp_X12_106_TR_0 C dX12_goes_44 ?_
          refine lt_elim h (fun S10 e_S10 h => ?_)
          refine j_S e_S10 ?_
          refine j_goto (tgt := 0) C dX12_goes_47 (by decide) ?_
          exact j_sub [0] rfl (ih _ _ h)
        refine j_icmp_eq (tgt := 37) C dX12_goes_21 (by decide) (fun c11 => ?_) (fun c11 => ?_)
        · have h := (if_pos c11).symm.trans h
          exact j_sub [0] rfl (HK37_6 _ _ h)
        · have h := (if_neg c11).symm.trans h
          refine j_aload_n C 0 rfl dX12_goes_24 rfl ?_
          refine j_aload_n C 0 rfl dX12_goes_25 rfl ?_
          refine fg_X12_106_TR_0 C dX12_goes_26 ?_
          obtain ⟨r12, h13, h⟩ := bd1_elim h
          refine j_callV (As := [.int (S1 18)]) (rest := []) C (kX12_byteAt_0 l B D ad cA hI S1 V L2 ((S1 18)) _ h13) mw_X12_byteAt wd1646 wd58 wd1644 tr_0 rfl rfl ⟨rfl, rfl, by decide, by decide⟩ ⟨Nat.zero_le _, Nat.zero_le _⟩ rfl rfl (Nat.le_of_ble_eq_true rfl) dX12_goes_29 ?_
          refine j_bipush C dX12_goes_32 cb_10 ?_
          refine j_icmp_ne (tgt := 50) C dX12_goes_34 (by decide) (fun c14 => ?_) (fun c14 => ?_)
          · have h := (if_neg c14).symm.trans h
            exact j_sub [0] rfl (HE50 _ _ h)
          · have h := (if_pos c14).symm.trans h
            exact j_sub [0] rfl (HK37_6 _ _ h)
  have H_fX12_goes_0_L187 : ∀ (E250 : (Nat → Int32) → (Nat → Int64) → Option ((Nat → Int32) × (Nat → Int64))) (_ : ∀ (S75 : Nat → Int32) (L76 : Nat → Int64), E250 S75 L76 = some (S0, L0) → jW p l e ({ frames := 1, cells := 0, slots := 0, locals := 21 }) s m args below meth c (MQ below (jQc D TR ad cA none s.heap.size S0 V L0) args s 0 0 (jA ad TR s.heap.size)) D TR ad cA (jA ad TR s.heap.size) 2 0 0 250 [(0, .ref (ad 0))] [] S75 V L76) (n : Nat) (S58 : Nat → Int32) (L59 : Nat → Int64), fX12_goes_0_L187 E250 V n S58 L59 = some (S0, L0) → jW p l e ({ frames := 1, cells := 0, slots := 0, locals := 21 }) s m args below meth c (MQ below (jQc D TR ad cA none s.heap.size S0 V L0) args s 0 0 (jA ad TR s.heap.size)) D TR ad cA (jA ad TR s.heap.size) 2 0 0 187 [(0, .ref (ad 0))] [] S58 V L59 := by
    intro E250 HE250
    intro n
    induction n with
    | zero =>
      intro S58 L59 h
      cases (show (none : Option ((Nat → Int32) × (Nat → Int64))) = some (S0, L0) from h)
    | succ n ih =>
      intro S58 L59 h
      unfold fX12_goes_0_L187 at h
      refine j_aload_n C 0 rfl dX12_goes_187 rfl ?_
      refine j_aload_n C 0 rfl dX12_goes_188 rfl ?_
      refine fg_X12_106_TR_0 C dX12_goes_189 ?_
      obtain ⟨r60, h61, h⟩ := bd1_elim h
      refine j_callV (As := [.int (S58 18)]) (rest := []) C (kX12_byteAt_0 l B D ad cA hI S58 V L59 ((S58 18)) _ h61) mw_X12_byteAt wd1646 wd58 wd1644 tr_0 rfl rfl ⟨rfl, rfl, by decide, by decide⟩ ⟨Nat.zero_le _, Nat.zero_le _⟩ rfl rfl (Nat.le_of_ble_eq_true rfl) dX12_goes_192 ?_
      obtain ⟨r62, h63, h⟩ := bd1_elim h
      refine j_callS (As := [.int r60]) (rest := []) C (kX12_isDigit l B D ad cA hI S58 V L59 r60 _ h63) mw_X12_isDigit wd1652 wd1651 ⟨rfl, rfl, by decide, by decide⟩ ⟨Nat.zero_le _, Nat.zero_le _⟩ rfl rfl (Nat.le_of_ble_eq_true rfl) dX12_goes_195 ?_
      refine j_if_eq (tgt := 250) C dX12_goes_198 (by decide) (fun c64 => ?_) (fun c64 => ?_)
      · have h := (if_pos c64).symm.trans h
        exact j_sub [0] rfl (HE250 _ _ h)
      · have h := (if_neg c64).symm.trans h
        refine j_aload_n C 0 rfl dX12_goes_201 rfl ?_
        refine fg_X12_106_TR_0 C dX12_goes_202 ?_
        refine j_aload_n C 0 rfl dX12_goes_205 rfl ?_
        refine fg_X12_113_TR_0 C dX12_goes_206 ?_
        refine j_isub C dX12_goes_209 ?_
        refine j_iconst C dX12_goes_210 ci_4 ?_
        refine bk_elim h (fun K237_65 e_K237_65 h => ?_)
        have HK237_65 : ∀ (S66 : Nat → Int32) (L67 : Nat → Int64), K237_65 S66 L67 = some (S0, L0) → jW p l e ({ frames := 1, cells := 0, slots := 0, locals := 21 }) s m args below meth c (MQ below (jQc D TR ad cA none s.heap.size S0 V L0) args s 0 0 (jA ad TR s.heap.size)) D TR ad cA (jA ad TR s.heap.size) 2 0 0 237 [(0, .ref (ad 0))] [] S66 V L67 := by
          subst e_K237_65
          intro S66 L67 h
          refine j_aload_n C 0 rfl dX12_goes_237 rfl ?_
          refine j_dup C dX12_goes_238 rfl ?_
          refine fg_X12_106_TR_0 C dX12_goes_239 ?_
          refine j_iconst C dX12_goes_242 ci_1 ?_
          refine j_iadd C dX12_goes_243 ?_
          refine lt_elim h (fun x68 e_x68 h => ?_)
          refine j_top e_x68 ?_
          refine fp_X12_106_TR_0 C dX12_goes_244 ?_
          refine lt_elim h (fun S69 e_S69 h => ?_)
          refine j_S e_S69 ?_
          refine j_goto (tgt := 187) C dX12_goes_247 (by decide) ?_
          exact j_sub [0] rfl (ih _ _ h)
        refine j_icmp_ge (tgt := 237) C dX12_goes_211 (by decide) (fun c70 => ?_) (fun c70 => ?_)
        · have h := (if_pos c70).symm.trans h
          exact j_sub [0] rfl (HK237_65 _ _ h)
        · have h := (if_neg c70).symm.trans h
          refine j_aload_n C 0 rfl dX12_goes_214 rfl ?_
          refine j_bipush C dX12_goes_215 cb_10 ?_
          refine j_aload_n C 0 rfl dX12_goes_217 rfl ?_
          refine fg_X12_120_TR_0 C dX12_goes_218 ?_
          refine j_imul C dX12_goes_221 ?_
          refine j_aload_n C 0 rfl dX12_goes_222 rfl ?_
          refine j_aload_n C 0 rfl dX12_goes_223 rfl ?_
          refine fg_X12_106_TR_0 C dX12_goes_224 ?_
          obtain ⟨r71, h72, h⟩ := bd1_elim h
          refine j_callV (As := [.int (S58 18)]) (rest := [.int ((10 : Int32) * (S58 22)), .ref (ad 0)]) C (kX12_byteAt_0 l B D ad cA hI S58 V L59 ((S58 18)) _ h72) mw_X12_byteAt wd1646 wd58 wd1644 tr_0 rfl rfl ⟨rfl, rfl, by decide, by decide⟩ ⟨Nat.zero_le _, Nat.zero_le _⟩ rfl rfl (Nat.le_of_ble_eq_true rfl) dX12_goes_227 ?_
          refine j_iadd C dX12_goes_230 ?_
          refine j_bipush C dX12_goes_231 cb_48 ?_
          refine j_isub C dX12_goes_233 ?_
          refine lt_elim h (fun x73 e_x73 h => ?_)
          refine j_top e_x73 ?_
          refine fp_X12_120_TR_0 C dX12_goes_234 ?_
          refine lt_elim h (fun S74 e_S74 h => ?_)
          refine j_S e_S74 ?_
          exact j_sub [0] rfl (HK237_65 _ _ h)
  have H_fX12_goes_0_L108 : ∀ (E172 : (Nat → Int32) → (Nat → Int64) → Option ((Nat → Int32) × (Nat → Int64))) (_ : ∀ (S98 : Nat → Int32) (L99 : Nat → Int64), E172 S98 L99 = some (S0, L0) → jW p l e ({ frames := 1, cells := 0, slots := 0, locals := 21 }) s m args below meth c (MQ below (jQc D TR ad cA none s.heap.size S0 V L0) args s 0 0 (jA ad TR s.heap.size)) D TR ad cA (jA ad TR s.heap.size) 2 0 0 172 [(0, .ref (ad 0))] [] S98 V L99) (n : Nat) (S81 : Nat → Int32) (L82 : Nat → Int64), fX12_goes_0_L108 E172 V n S81 L82 = some (S0, L0) → jW p l e ({ frames := 1, cells := 0, slots := 0, locals := 21 }) s m args below meth c (MQ below (jQc D TR ad cA none s.heap.size S0 V L0) args s 0 0 (jA ad TR s.heap.size)) D TR ad cA (jA ad TR s.heap.size) 2 0 0 108 [(0, .ref (ad 0))] [] S81 V L82 := by
    intro E172 HE172
    intro n
    induction n with
    | zero =>
      intro S81 L82 h
      cases (show (none : Option ((Nat → Int32) × (Nat → Int64))) = some (S0, L0) from h)
    | succ n ih =>
      intro S81 L82 h
      unfold fX12_goes_0_L108 at h
      refine j_aload_n C 0 rfl dX12_goes_108 rfl ?_
      refine j_aload_n C 0 rfl dX12_goes_109 rfl ?_
      refine fg_X12_106_TR_0 C dX12_goes_110 ?_
      obtain ⟨r83, h84, h⟩ := bd1_elim h
      refine j_callV (As := [.int (S81 18)]) (rest := []) C (kX12_byteAt_0 l B D ad cA hI S81 V L82 ((S81 18)) _ h84) mw_X12_byteAt wd1646 wd58 wd1644 tr_0 rfl rfl ⟨rfl, rfl, by decide, by decide⟩ ⟨Nat.zero_le _, Nat.zero_le _⟩ rfl rfl (Nat.le_of_ble_eq_true rfl) dX12_goes_113 ?_
      obtain ⟨r85, h86, h⟩ := bd1_elim h
      refine j_callS (As := [.int r83]) (rest := []) C (kX12_isLetter l B D ad cA hI S81 V L82 r83 _ h86) mw_X12_isLetter wd1649 wd1648 ⟨rfl, rfl, by decide, by decide⟩ ⟨Nat.zero_le _, Nat.zero_le _⟩ rfl rfl (Nat.le_of_ble_eq_true rfl) dX12_goes_116 ?_
      refine j_if_eq (tgt := 172) C dX12_goes_119 (by decide) (fun c87 => ?_) (fun c87 => ?_)
      · have h := (if_pos c87).symm.trans h
        exact j_sub [0] rfl (HE172 _ _ h)
      · have h := (if_neg c87).symm.trans h
        refine j_aload_n C 0 rfl dX12_goes_122 rfl ?_
        refine fg_X12_106_TR_0 C dX12_goes_123 ?_
        refine j_aload_n C 0 rfl dX12_goes_126 rfl ?_
        refine fg_X12_113_TR_0 C dX12_goes_127 ?_
        refine j_isub C dX12_goes_130 ?_
        refine j_bipush C dX12_goes_131 cb_8 ?_
        refine bk_elim h (fun K159_88 e_K159_88 h => ?_)
        have HK159_88 : ∀ (S89 : Nat → Int32) (L90 : Nat → Int64), K159_88 S89 L90 = some (S0, L0) → jW p l e ({ frames := 1, cells := 0, slots := 0, locals := 21 }) s m args below meth c (MQ below (jQc D TR ad cA none s.heap.size S0 V L0) args s 0 0 (jA ad TR s.heap.size)) D TR ad cA (jA ad TR s.heap.size) 2 0 0 159 [(0, .ref (ad 0))] [] S89 V L90 := by
          subst e_K159_88
          intro S89 L90 h
          refine j_aload_n C 0 rfl dX12_goes_159 rfl ?_
          refine j_dup C dX12_goes_160 rfl ?_
          refine fg_X12_106_TR_0 C dX12_goes_161 ?_
          refine j_iconst C dX12_goes_164 ci_1 ?_
          refine j_iadd C dX12_goes_165 ?_
          refine lt_elim h (fun x91 e_x91 h => ?_)
          refine j_top e_x91 ?_
          refine fp_X12_106_TR_0 C dX12_goes_166 ?_
          refine lt_elim h (fun S92 e_S92 h => ?_)
          refine j_S e_S92 ?_
          refine j_goto (tgt := 108) C dX12_goes_169 (by decide) ?_
          exact j_sub [0] rfl (ih _ _ h)
        refine j_icmp_ge (tgt := 159) C dX12_goes_133 (by decide) (fun c93 => ?_) (fun c93 => ?_)
        · have h := (if_pos c93).symm.trans h
          exact j_sub [0] rfl (HK159_88 _ _ h)
        · have h := (if_neg c93).symm.trans h
          refine j_aload_n C 0 rfl dX12_goes_136 rfl ?_
          refine j_aload_n C 0 rfl dX12_goes_137 rfl ?_
          refine fg_X12_116_TR_0 C dX12_goes_138 ?_
          refine j_iconst C dX12_goes_141 ci_5 ?_
          refine j_lshl C dX12_goes_142 ?_
          refine j_aload_n C 0 rfl dX12_goes_143 rfl ?_
          refine j_aload_n C 0 rfl dX12_goes_144 rfl ?_
          refine fg_X12_106_TR_0 C dX12_goes_145 ?_
          obtain ⟨r94, h95, h⟩ := bd1_elim h
          refine j_callV (As := [.int (S81 18)]) (rest := [.long ((L82 24) <<< (((5 : Int32)).toInt64 &&& 63)), .ref (ad 0)]) C (kX12_byteAt_0 l B D ad cA hI S81 V L82 ((S81 18)) _ h95) mw_X12_byteAt wd1646 wd58 wd1644 tr_0 rfl rfl ⟨rfl, rfl, by decide, by decide⟩ ⟨Nat.zero_le _, Nat.zero_le _⟩ rfl rfl (Nat.le_of_ble_eq_true rfl) dX12_goes_148 ?_
          refine j_bipush C dX12_goes_151 cb_96 ?_
          refine j_isub C dX12_goes_153 ?_
          refine j_i2l C dX12_goes_154 ?_
          refine j_lor C dX12_goes_155 ?_
          refine lt_elim h (fun y96 e_y96 h => ?_)
          refine j_topl e_y96 ?_
          refine fp_X12_116_TR_0 C dX12_goes_156 ?_
          refine lt_elim h (fun L97 e_L97 h => ?_)
          refine j_L e_L97 ?_
          exact j_sub [0] rfl (HK159_88 _ _ h)
  refine bk_elim h (fun X50_17 e_X50_17 h => ?_)
  have HX50_17 : ∀ (S18 : Nat → Int32) (L19 : Nat → Int64), X50_17 S18 L19 = some (S0, L0) → jW p l e ({ frames := 1, cells := 0, slots := 0, locals := 21 }) s m args below meth c (MQ below (jQc D TR ad cA none s.heap.size S0 V L0) args s 0 0 (jA ad TR s.heap.size)) D TR ad cA (jA ad TR s.heap.size) 2 0 0 50 [(0, .ref (ad 0))] [] S18 V L19 := by
    subst e_X50_17
    intro S18 L19 h
    refine j_aload_n C 0 rfl dX12_goes_50 rfl ?_
    refine j_aload_n C 0 rfl dX12_goes_51 rfl ?_
    refine fg_X12_106_TR_0 C dX12_goes_52 ?_
    refine lt_elim h (fun x20 e_x20 h => ?_)
    refine j_top e_x20 ?_
    refine fp_X12_113_TR_0 C dX12_goes_55 ?_
    refine lt_elim h (fun S21 e_S21 h => ?_)
    refine j_S e_S21 ?_
    refine j_aload_n C 0 rfl dX12_goes_58 rfl ?_
    refine j_lconst C dX12_goes_59 cl_0 ?_
    refine fp_X12_116_TR_0 C dX12_goes_60 ?_
    refine lt_elim h (fun L22 e_L22 h => ?_)
    refine j_L e_L22 ?_
    refine j_aload_n C 0 rfl dX12_goes_63 rfl ?_
    refine j_iconst C dX12_goes_64 ci_0 ?_
    refine fp_X12_120_TR_0 C dX12_goes_65 ?_
    refine lt_elim h (fun S23 e_S23 h => ?_)
    refine j_S e_S23 ?_
    refine j_aload_n C 0 rfl dX12_goes_68 rfl ?_
    refine j_aload_n C 0 rfl dX12_goes_69 rfl ?_
    refine fg_X12_106_TR_0 C dX12_goes_70 ?_
    obtain ⟨r24, h25, h⟩ := bd1_elim h
    refine j_callV (As := [.int (S23 18)]) (rest := []) C (kX12_byteAt_0 l B D ad cA hI S23 V L22 ((S23 18)) _ h25) mw_X12_byteAt wd1646 wd58 wd1644 tr_0 rfl rfl ⟨rfl, rfl, by decide, by decide⟩ ⟨Nat.zero_le _, Nat.zero_le _⟩ rfl rfl (Nat.le_of_ble_eq_true rfl) dX12_goes_73 ?_
    refine j_istore_n C [(1, .int r24), (0, .ref (ad 0))] dX12_goes_76 rfl (by decide) rfl ?_
    refine j_aload_n C 1 rfl dX12_goes_77 rfl ?_
    refine j_iload_n C 0 rfl dX12_goes_78 rfl ?_
    refine fp_X12_123_TR_0 C dX12_goes_79 ?_
    refine lt_elim h (fun S26 e_S26 h => ?_)
    refine j_S e_S26 ?_
    refine j_aload_n C 1 rfl dX12_goes_82 rfl ?_
    refine fg_X12_106_TR_0 C dX12_goes_83 ?_
    refine j_aload_n C 1 rfl dX12_goes_86 rfl ?_
    refine fg_X12_103_TR_0 C dX12_goes_87 ?_
    refine bk_elim h (fun K331_27 e_K331_27 h => ?_)
    have HK331_27 : ∀ (S28 : Nat → Int32) (L29 : Nat → Int64), K331_27 S28 L29 = some (S0, L0) → jW p l e ({ frames := 1, cells := 0, slots := 0, locals := 21 }) s m args below meth c (MQ below (jQc D TR ad cA none s.heap.size S0 V L0) args s 0 0 (jA ad TR s.heap.size)) D TR ad cA (jA ad TR s.heap.size) 2 0 0 331 [(0, .ref (ad 0))] [] S28 V L29 := by
      subst e_K331_27
      intro S28 L29 h
      refine j_aload_n C 0 rfl dX12_goes_331 rfl ?_
      refine j_aload_n C 0 rfl dX12_goes_332 rfl ?_
      refine fg_X12_106_TR_0 C dX12_goes_333 ?_
      refine j_aload_n C 0 rfl dX12_goes_336 rfl ?_
      refine fg_X12_113_TR_0 C dX12_goes_337 ?_
      refine j_isub C dX12_goes_340 ?_
      refine lt_elim h (fun x30 e_x30 h => ?_)
      refine j_top e_x30 ?_
      refine fp_X12_136_TR_0 C dX12_goes_341 ?_
      refine lt_elim h (fun S31 e_S31 h => ?_)
      refine j_S e_S31 ?_
      cases h
      exact j_vret C hr hlk rfl dX12_goes_344
    refine j_icmp_lt (tgt := 101) C dX12_goes_90 (by decide) (fun c32 => ?_) (fun c32 => ?_)
    · have h := (if_pos c32).symm.trans h
      refine j_iload_n C 0 rfl dX12_goes_101 rfl ?_
      obtain ⟨r33, h34, h⟩ := bd1_elim h
      refine j_callS (As := [.int r24]) (rest := []) C (kX12_isLetter l B D ad cA hI S26 V L22 r24 _ h34) mw_X12_isLetter wd1649 wd1648 ⟨rfl, rfl, by decide, by decide⟩ ⟨Nat.zero_le _, Nat.zero_le _⟩ rfl rfl (Nat.le_of_ble_eq_true rfl) dX12_goes_102 ?_
      refine j_if_eq (tgt := 180) C dX12_goes_105 (by decide) (fun c35 => ?_) (fun c35 => ?_)
      · have h := (if_pos c35).symm.trans h
        refine j_iload_n C 0 rfl dX12_goes_180 rfl ?_
        obtain ⟨r36, h37, h⟩ := bd1_elim h
        refine j_callS (As := [.int r24]) (rest := []) C (kX12_isDigit l B D ad cA hI S26 V L22 r24 _ h37) mw_X12_isDigit wd1652 wd1651 ⟨rfl, rfl, by decide, by decide⟩ ⟨Nat.zero_le _, Nat.zero_le _⟩ rfl rfl (Nat.le_of_ble_eq_true rfl) dX12_goes_181 ?_
        refine j_if_eq (tgt := 258) C dX12_goes_184 (by decide) (fun c38 => ?_) (fun c38 => ?_)
        · have h := (if_pos c38).symm.trans h
          refine j_aload_n C 1 rfl dX12_goes_258 rfl ?_
          refine j_dup C dX12_goes_259 rfl ?_
          refine fg_X12_106_TR_0 C dX12_goes_260 ?_
          refine j_iconst C dX12_goes_263 ci_1 ?_
          refine j_iadd C dX12_goes_264 ?_
          refine lt_elim h (fun x39 e_x39 h => ?_)
          refine j_top e_x39 ?_
          refine fp_X12_106_TR_0 C dX12_goes_265 ?_
          refine lt_elim h (fun S40 e_S40 h => ?_)
          refine j_S e_S40 ?_
          refine j_aload_n C 1 rfl dX12_goes_268 rfl ?_
          refine j_iload_n C 0 rfl dX12_goes_269 rfl ?_
          refine j_bipush C dX12_goes_270 cb_59 ?_
          refine bk_elim h (fun K328_41 e_K328_41 h => ?_)
          have HK328_41 : ∀ (x42 : Int32) (S43 : Nat → Int32) (L44 : Nat → Int64), K328_41 x42 S43 L44 = some (S0, L0) → jW p l e ({ frames := 1, cells := 0, slots := 0, locals := 21 }) s m args below meth c (MQ below (jQc D TR ad cA none s.heap.size S0 V L0) args s 0 0 (jA ad TR s.heap.size)) D TR ad cA (jA ad TR s.heap.size) 2 0 0 328 [(0, .ref (ad 0))] [.int x42, .ref (ad 0)] S43 V L44 := by
            subst e_K328_41
            intro x42 S43 L44 h
            refine fp_X12_126_TR_0 C dX12_goes_328 ?_
            refine lt_elim h (fun S45 e_S45 h => ?_)
            refine j_S e_S45 ?_
            exact j_sub [0] rfl (HK331_27 _ _ h)
          refine bk_elim h (fun K323_46 e_K323_46 h => ?_)
          have HK323_46 : ∀ (S47 : Nat → Int32) (L48 : Nat → Int64), K323_46 S47 L48 = some (S0, L0) → jW p l e ({ frames := 1, cells := 0, slots := 0, locals := 21 }) s m args below meth c (MQ below (jQc D TR ad cA none s.heap.size S0 V L0) args s 0 0 (jA ad TR s.heap.size)) D TR ad cA (jA ad TR s.heap.size) 2 0 0 323 [(0, .ref (ad 0))] [.ref (ad 0)] S47 V L48 := by
            subst e_K323_46
            intro S47 L48 h
            refine j_iconst C dX12_goes_323 ci_3 ?_
            refine j_goto (tgt := 328) C dX12_goes_324 (by decide) ?_
            exact j_sub [0] rfl (HK328_41 _ _ _ h)
          refine j_icmp_eq (tgt := 323) C dX12_goes_272 (by decide) (fun c49 => ?_) (fun c49 => ?_)
          · have h := (if_pos c49).symm.trans h
            exact j_sub [1] rfl (HK323_46 _ _ h)
          · have h := (if_neg c49).symm.trans h
            refine j_iload_n C 0 rfl dX12_goes_275 rfl ?_
            refine j_bipush C dX12_goes_276 cb_40 ?_
            refine j_icmp_eq (tgt := 323) C dX12_goes_278 (by decide) (fun c50 => ?_) (fun c50 => ?_)
            · have h := (if_pos c50).symm.trans h
              exact j_sub [1] rfl (HK323_46 _ _ h)
            · have h := (if_neg c50).symm.trans h
              refine j_iload_n C 0 rfl dX12_goes_281 rfl ?_
              refine j_bipush C dX12_goes_282 cb_41 ?_
              refine j_icmp_eq (tgt := 323) C dX12_goes_284 (by decide) (fun c51 => ?_) (fun c51 => ?_)
              · have h := (if_pos c51).symm.trans h
                exact j_sub [1] rfl (HK323_46 _ _ h)
              · have h := (if_neg c51).symm.trans h
                refine j_iload_n C 0 rfl dX12_goes_287 rfl ?_
                refine j_bipush C dX12_goes_288 cb_43 ?_
                refine j_icmp_eq (tgt := 323) C dX12_goes_290 (by decide) (fun c52 => ?_) (fun c52 => ?_)
                · have h := (if_pos c52).symm.trans h
                  exact j_sub [1] rfl (HK323_46 _ _ h)
                · have h := (if_neg c52).symm.trans h
                  refine j_iload_n C 0 rfl dX12_goes_293 rfl ?_
                  refine j_bipush C dX12_goes_294 cb_45 ?_
                  refine j_icmp_eq (tgt := 323) C dX12_goes_296 (by decide) (fun c53 => ?_) (fun c53 => ?_)
                  · have h := (if_pos c53).symm.trans h
                    exact j_sub [1] rfl (HK323_46 _ _ h)
                  · have h := (if_neg c53).symm.trans h
                    refine j_iload_n C 0 rfl dX12_goes_299 rfl ?_
                    refine j_bipush C dX12_goes_300 cb_42 ?_
                    refine j_icmp_eq (tgt := 323) C dX12_goes_302 (by decide) (fun c54 => ?_) (fun c54 => ?_)
                    · have h := (if_pos c54).symm.trans h
                      exact j_sub [1] rfl (HK323_46 _ _ h)
                    · have h := (if_neg c54).symm.trans h
                      refine j_iload_n C 0 rfl dX12_goes_305 rfl ?_
                      refine j_bipush C dX12_goes_306 cb_47 ?_
                      refine j_icmp_eq (tgt := 323) C dX12_goes_308 (by decide) (fun c55 => ?_) (fun c55 => ?_)
                      · have h := (if_pos c55).symm.trans h
                        exact j_sub [1] rfl (HK323_46 _ _ h)
                      · have h := (if_neg c55).symm.trans h
                        refine j_iload_n C 0 rfl dX12_goes_311 rfl ?_
                        refine j_bipush C dX12_goes_312 cb_60 ?_
                        refine j_icmp_eq (tgt := 323) C dX12_goes_314 (by decide) (fun c56 => ?_) (fun c56 => ?_)
                        · have h := (if_pos c56).symm.trans h
                          exact j_sub [1] rfl (HK323_46 _ _ h)
                        · have h := (if_neg c56).symm.trans h
                          refine j_iload_n C 0 rfl dX12_goes_317 rfl ?_
                          refine j_bipush C dX12_goes_318 cb_61 ?_
                          refine j_icmp_ne (tgt := 327) C dX12_goes_320 (by decide) (fun c57 => ?_) (fun c57 => ?_)
                          · have h := (if_neg c57).symm.trans h
                            refine j_iconst C dX12_goes_327 ci_4 ?_
                            exact j_sub [1] rfl (HK328_41 _ _ _ h)
                          · have h := (if_pos c57).symm.trans h
                            exact j_sub [1] rfl (HK323_46 _ _ h)
        · have h := (if_neg c38).symm.trans h
          refine bk_elim h (fun X250_77 e_X250_77 h => ?_)
          have HX250_77 : ∀ (S78 : Nat → Int32) (L79 : Nat → Int64), X250_77 S78 L79 = some (S0, L0) → jW p l e ({ frames := 1, cells := 0, slots := 0, locals := 21 }) s m args below meth c (MQ below (jQc D TR ad cA none s.heap.size S0 V L0) args s 0 0 (jA ad TR s.heap.size)) D TR ad cA (jA ad TR s.heap.size) 2 0 0 250 [(0, .ref (ad 0))] [] S78 V L79 := by
            subst e_X250_77
            intro S78 L79 h
            refine j_aload_n C 0 rfl dX12_goes_250 rfl ?_
            refine j_iconst C dX12_goes_251 ci_2 ?_
            refine fp_X12_126_TR_0 C dX12_goes_252 ?_
            refine lt_elim h (fun S80 e_S80 h => ?_)
            refine j_S e_S80 ?_
            refine j_goto (tgt := 331) C dX12_goes_255 (by decide) ?_
            exact j_sub [0] rfl (HK331_27 _ _ h)
          exact j_sub [1] rfl (H_fX12_goes_0_L187 _ HX250_77 FU _ _ h)
      · have h := (if_neg c35).symm.trans h
        refine bk_elim h (fun X172_100 e_X172_100 h => ?_)
        have HX172_100 : ∀ (S101 : Nat → Int32) (L102 : Nat → Int64), X172_100 S101 L102 = some (S0, L0) → jW p l e ({ frames := 1, cells := 0, slots := 0, locals := 21 }) s m args below meth c (MQ below (jQc D TR ad cA none s.heap.size S0 V L0) args s 0 0 (jA ad TR s.heap.size)) D TR ad cA (jA ad TR s.heap.size) 2 0 0 172 [(0, .ref (ad 0))] [] S101 V L102 := by
          subst e_X172_100
          intro S101 L102 h
          refine j_aload_n C 0 rfl dX12_goes_172 rfl ?_
          refine j_iconst C dX12_goes_173 ci_1 ?_
          refine fp_X12_126_TR_0 C dX12_goes_174 ?_
          refine lt_elim h (fun S103 e_S103 h => ?_)
          refine j_S e_S103 ?_
          refine j_goto (tgt := 331) C dX12_goes_177 (by decide) ?_
          exact j_sub [0] rfl (HK331_27 _ _ h)
        exact j_sub [1] rfl (H_fX12_goes_0_L108 _ HX172_100 FU _ _ h)
    · have h := (if_neg c32).symm.trans h
      refine j_aload_n C 1 rfl dX12_goes_93 rfl ?_
      refine j_iconst C dX12_goes_94 ci_0 ?_
      refine fp_X12_126_TR_0 C dX12_goes_95 ?_
      refine lt_elim h (fun S104 e_S104 h => ?_)
      refine j_S e_S104 ?_
      refine j_goto (tgt := 331) C dX12_goes_98 (by decide) ?_
      exact j_sub [1] rfl (HK331_27 _ _ h)
  exact j_sub [0] rfl (H_fX12_goes_0_L0 _ HX50_17 FU _ _ h)
theorem dX12_begins_0 : decode cX12_begins 0 = .ok (.iconst 1, 1) := by decide +kernel
theorem dX12_begins_1 : decode cX12_begins 1 = .ok (.iload_n 1, 1) := by decide +kernel
theorem dX12_begins_2 : decode cX12_begins 2 = .ok (.bipush 9, 2) := by decide +kernel
theorem dX12_begins_4 : decode cX12_begins 4 = .ok (.isub, 1) := by decide +kernel
theorem dX12_begins_5 : decode cX12_begins 5 = .ok (.ishl, 1) := by decide +kernel
theorem dX12_begins_6 : decode cX12_begins 6 = .ok (.istore_n 2, 1) := by decide +kernel
theorem dX12_begins_7 : decode cX12_begins 7 = .ok (.aload_n 0, 1) := by decide +kernel
theorem dX12_begins_8 : decode cX12_begins 8 = .ok (.getfield 209, 3) := by decide +kernel
theorem dX12_begins_11 : decode cX12_begins 11 = .ok (.iload_n 2, 1) := by decide +kernel
theorem dX12_begins_12 : decode cX12_begins 12 = .ok (.iand, 1) := by decide +kernel
theorem dX12_begins_13 : decode cX12_begins 13 = .ok (.ifCond .eq 8, 3) := by decide +kernel
theorem dX12_begins_16 : decode cX12_begins 16 = .ok (.aload_n 0, 1) := by decide +kernel
theorem dX12_begins_17 : decode cX12_begins 17 = .ok (.iconst 5, 1) := by decide +kernel
theorem dX12_begins_18 : decode cX12_begins 18 = .ok (.invokevirtual 159, 3) := by decide +kernel
theorem dX12_begins_21 : decode cX12_begins 21 = .ok (.aload_n 0, 1) := by decide +kernel
theorem dX12_begins_22 : decode cX12_begins 22 = .ok (.dup, 1) := by decide +kernel
theorem dX12_begins_23 : decode cX12_begins 23 = .ok (.getfield 209, 3) := by decide +kernel
theorem dX12_begins_26 : decode cX12_begins 26 = .ok (.iload_n 2, 1) := by decide +kernel
theorem dX12_begins_27 : decode cX12_begins 27 = .ok (.ior, 1) := by decide +kernel
theorem dX12_begins_28 : decode cX12_begins 28 = .ok (.putfield 209, 3) := by decide +kernel
theorem dX12_begins_31 : decode cX12_begins 31 = .ok (.aload_n 0, 1) := by decide +kernel
theorem dX12_begins_32 : decode cX12_begins 32 = .ok (.invokevirtual 152, 3) := by decide +kernel
theorem dX12_begins_35 : decode cX12_begins 35 = .ok (.ifCond .eq 7, 3) := by decide +kernel
theorem dX12_begins_38 : decode cX12_begins 38 = .ok (.aload_n 0, 1) := by decide +kernel
theorem dX12_begins_39 : decode cX12_begins 39 = .ok (.invokevirtual 156, 3) := by decide +kernel
theorem dX12_begins_42 : decode cX12_begins 42 = .ok (.aload_n 0, 1) := by decide +kernel
theorem dX12_begins_43 : decode cX12_begins 43 = .ok (.invokevirtual 152, 3) := by decide +kernel
theorem dX12_begins_46 : decode cX12_begins 46 = .ok (.ireturn, 1) := by decide +kernel
def fX12_begins_0 (S : Nat → Int32) (V : Nat → Nat → Int32) (L : Nat → Int64) (a1 : Int32) : Option (Int32 × (Nat → Int32) × (Nat → Int64)) :=
  lt (((1 : Int32) <<< ((a1 - (9 : Int32)) &&& 31))) (fun x1 =>
  bk (fun (x3 : Int32) (S4 : Nat → Int32) (L5 : Nat → Int64) =>
  lt (((S4 32) ||| x3)) (fun x6 =>
  lt (va_up S4 32 x6) (fun S7 =>
  bd1 (fX12_isGood_0 S7) (fun r8 =>
  bk (fun (S11 : Nat → Int32) (L12 : Nat → Int64) =>
  bd1 (fX12_isGood_0 S11) (fun r13 =>
  gd (isb r13) (
  some (r13, S11, L12)))) (fun K42_10 =>
  (if r8 = 0 then
  K42_10 S7 L5
  else
  bd2 (fX12_goes_0 S7 V L5) (fun S17 L18 =>
  K42_10 S17 L18))))))) (fun K21_2 =>
  (if ((S 32) &&& x1) = 0 then
  K21_2 x1 S L
  else
  bd1 (fX12_wrong_0 S (5 : Int32)) (fun S21 =>
  K21_2 x1 S21 L))))
set_option maxHeartbeats 4000000 in
set_option maxRecDepth 100000 in
theorem kX12_begins_0 (l : Launch) (B : jBT) (D : va_G) (ad : Nat → Nat) (cA : Nat → ClassId) (hI : jI ad TR) (S : Nat → Int32) (V : Nat → Nat → Int32) (L : Nat → Int64) (a1 : Int32) (r0 : Int32) (S0 : Nat → Int32) (L0 : Nat → Int64) (h : fX12_begins_0 S V L a1 = some (r0, S0, L0)) : jM l yX12_begins cX12_begins 3 (some .boolean) ({ frames := 2, cells := 0, slots := 0, locals := 42 }) B D TR ad cA [.ref (ad 0), .int a1] S V L (some (.int r0)) S0 V L0 := by
  refine jM_of (plainFor_of_name (by decide)) TR_ok hI (Nat.le_of_ble_eq_true rfl) ?_
  intro p e s m args below meth c C hr hlk
  refine j_lv (lv2 := [(0, .ref (ad 0)), (1, .int a1)]) rfl ?_
  unfold fX12_begins_0 at h
  refine j_iconst C dX12_begins_0 ci_1 ?_
  refine j_iload_n C 1 rfl dX12_begins_1 rfl ?_
  refine j_bipush C dX12_begins_2 cb_9 ?_
  refine j_isub C dX12_begins_4 ?_
  refine j_ishl C dX12_begins_5 ?_
  refine lt_elim h (fun x1 e_x1 h => ?_)
  refine j_top e_x1 ?_
  refine j_istore_n C [(2, .int x1), (0, .ref (ad 0)), (1, .int a1)] dX12_begins_6 rfl (by decide) rfl ?_
  refine j_aload_n C 1 rfl dX12_begins_7 rfl ?_
  refine fg_X12_209_TR_0 C dX12_begins_8 ?_
  refine j_iload_n C 0 rfl dX12_begins_11 rfl ?_
  refine j_iand C dX12_begins_12 ?_
  refine bk_elim h (fun K21_2 e_K21_2 h => ?_)
  have HK21_2 : ∀ (x3 : Int32) (S4 : Nat → Int32) (L5 : Nat → Int64), K21_2 x3 S4 L5 = some (r0, S0, L0) → jW p l e ({ frames := 2, cells := 0, slots := 0, locals := 42 }) s m args below meth c (MQ below (jQc D TR ad cA (some (.int r0)) s.heap.size S0 V L0) args s 0 0 (jA ad TR s.heap.size)) D TR ad cA (jA ad TR s.heap.size) 3 0 0 21 [(0, .ref (ad 0)), (2, .int x3)] [] S4 V L5 := by
    subst e_K21_2
    intro x3 S4 L5 h
    refine j_aload_n C 0 rfl dX12_begins_21 rfl ?_
    refine j_dup C dX12_begins_22 rfl ?_
    refine fg_X12_209_TR_0 C dX12_begins_23 ?_
    refine j_iload_n C 1 rfl dX12_begins_26 rfl ?_
    refine j_ior C dX12_begins_27 ?_
    refine lt_elim h (fun x6 e_x6 h => ?_)
    refine j_top e_x6 ?_
    refine fp_X12_209_TR_0 C dX12_begins_28 ?_
    refine lt_elim h (fun S7 e_S7 h => ?_)
    refine j_S e_S7 ?_
    refine j_aload_n C 0 rfl dX12_begins_31 rfl ?_
    obtain ⟨r8, h9, h⟩ := bd1_elim h
    refine j_callV (As := []) (rest := []) C (kX12_isGood_0 l B D ad cA hI S7 V L5 _ h9) mw_X12_isGood wd1656 wd59 wd1654 tr_0 rfl rfl ⟨rfl, rfl, by decide, by decide⟩ ⟨Nat.zero_le _, Nat.zero_le _⟩ rfl rfl (Nat.le_of_ble_eq_true rfl) dX12_begins_32 ?_
    refine bk_elim h (fun K42_10 e_K42_10 h => ?_)
    have HK42_10 : ∀ (S11 : Nat → Int32) (L12 : Nat → Int64), K42_10 S11 L12 = some (r0, S0, L0) → jW p l e ({ frames := 2, cells := 0, slots := 0, locals := 42 }) s m args below meth c (MQ below (jQc D TR ad cA (some (.int r0)) s.heap.size S0 V L0) args s 0 0 (jA ad TR s.heap.size)) D TR ad cA (jA ad TR s.heap.size) 3 0 0 42 [(0, .ref (ad 0))] [] S11 V L12 := by
      subst e_K42_10
      intro S11 L12 h
      refine j_aload_n C 0 rfl dX12_begins_42 rfl ?_
      obtain ⟨r13, h14, h⟩ := bd1_elim h
      refine j_callV (As := []) (rest := []) C (kX12_isGood_0 l B D ad cA hI S11 V L12 _ h14) mw_X12_isGood wd1656 wd59 wd1654 tr_0 rfl rfl ⟨rfl, rfl, by decide, by decide⟩ ⟨Nat.zero_le _, Nat.zero_le _⟩ rfl rfl (Nat.le_of_ble_eq_true rfl) dX12_begins_43 ?_
      obtain ⟨g15, h⟩ := gd_elim h
      cases h
      exact j_zret C hr hlk rfl (isb_n g15) dX12_begins_46
    refine j_if_eq (tgt := 42) C dX12_begins_35 (by decide) (fun c16 => ?_) (fun c16 => ?_)
    · have h := (if_pos c16).symm.trans h
      exact j_sub [0] rfl (HK42_10 _ _ h)
    · have h := (if_neg c16).symm.trans h
      refine j_aload_n C 0 rfl dX12_begins_38 rfl ?_
      obtain ⟨S17, L18, h19, h⟩ := bd2_elim h
      refine j_callV (As := []) (rest := []) C (kX12_goes_0 l B D ad cA hI S7 V L5 _ _ h19) mw_X12_goes wd1642 wd57 wd1640 tr_0 rfl rfl ⟨rfl, rfl, by decide, by decide⟩ ⟨Nat.zero_le _, Nat.zero_le _⟩ rfl rfl (Nat.le_of_ble_eq_true rfl) dX12_begins_39 ?_
      exact j_sub [0] rfl (HK42_10 _ _ h)
  refine j_if_eq (tgt := 21) C dX12_begins_13 (by decide) (fun c20 => ?_) (fun c20 => ?_)
  · have h := (if_pos c20).symm.trans h
    exact j_sub [1, 0] rfl (HK21_2 _ _ _ h)
  · have h := (if_neg c20).symm.trans h
    refine j_aload_n C 1 rfl dX12_begins_16 rfl ?_
    refine j_iconst C dX12_begins_17 ci_5 ?_
    obtain ⟨S21, h22, h⟩ := bd1_elim h
    refine j_callV (As := [.int (5 : Int32)]) (rest := []) C (kX12_wrong_0 l B D ad cA hI S V L (5 : Int32) _ h22) mw_X12_wrong wd1679 wd63 wd1677 tr_0 rfl rfl ⟨rfl, rfl, by decide, by decide⟩ ⟨Nat.zero_le _, Nat.zero_le _⟩ rfl rfl (Nat.le_of_ble_eq_true rfl) dX12_begins_18 ?_
    exact j_sub [1, 0] rfl (HK21_2 _ _ _ h)
