theorem dX12_isTenant_0 : decode cX12_isTenant 0 = .ok (.aload_n 0, 1) := by decide +kernel
theorem dX12_isTenant_1 : decode cX12_isTenant 1 = .ok (.iload_n 1, 1) := by decide +kernel
theorem dX12_isTenant_2 : decode cX12_isTenant 2 = .ok (.ifCond .lt 15, 3) := by decide +kernel
theorem dX12_isTenant_5 : decode cX12_isTenant 5 = .ok (.iload_n 1, 1) := by decide +kernel
theorem dX12_isTenant_6 : decode cX12_isTenant 6 = .ok (.aload_n 0, 1) := by decide +kernel
theorem dX12_isTenant_7 : decode cX12_isTenant 7 = .ok (.getfield 265, 3) := by decide +kernel
theorem dX12_isTenant_10 : decode cX12_isTenant 10 = .ok (.if_icmp .ge 7, 3) := by decide +kernel
theorem dX12_isTenant_13 : decode cX12_isTenant 13 = .ok (.iconst 1, 1) := by decide +kernel
theorem dX12_isTenant_14 : decode cX12_isTenant 14 = .ok (.goto 4, 3) := by decide +kernel
theorem dX12_isTenant_17 : decode cX12_isTenant 17 = .ok (.iconst 0, 1) := by decide +kernel
theorem dX12_isTenant_18 : decode cX12_isTenant 18 = .ok (.iconst 1, 1) := by decide +kernel
theorem dX12_isTenant_19 : decode cX12_isTenant 19 = .ok (.invokevirtual 255, 3) := by decide +kernel
theorem dX12_isTenant_22 : decode cX12_isTenant 22 = .ok (.ireturn, 1) := by decide +kernel
def fX12_isTenant_0 (S : Nat → Int32) (a1 : Int32) : Option (Int32 × (Nat → Int32)) :=
  bk (fun (x2 : Int32) (S3 : Nat → Int32) =>
  bd2 (fX12_right_0 S3 x2 (1 : Int32)) (fun r4 S5 =>
  gd (isb r4) (
  some (r4, S5)))) (fun K18_1 =>
  bk (fun (S9 : Nat → Int32) =>
  K18_1 (0 : Int32) S9) (fun K17_8 =>
  (if a1 < 0 then
  K17_8 S
  else
  (if (S 5) ≤ a1 then
  K17_8 S
  else
  K18_1 (1 : Int32) S))))
set_option maxHeartbeats 4000000 in
set_option maxRecDepth 100000 in
theorem kX12_isTenant_0 (l : Launch) (B : jBT) (D : va_G) (ad : Nat → Nat) (cA : Nat → ClassId) (hI : jI ad TR) (S : Nat → Int32) (V : Nat → Nat → Int32) (L : Nat → Int64) (a1 : Int32) (r0 : Int32) (S0 : Nat → Int32) (h : fX12_isTenant_0 S a1 = some (r0, S0)) : jM l yX12_isTenant cX12_isTenant 2 (some .boolean) ({ frames := 1, cells := 0, slots := 0, locals := 22 }) B D TR ad cA [.ref (ad 0), .int a1] S V L (some (.int r0)) S0 V L := by
  refine jM_of (plainFor_of_name (by decide)) TR_ok hI (Nat.le_of_ble_eq_true rfl) ?_
  intro p e s m args below meth c C hr hlk
  refine j_lv (lv2 := [(0, .ref (ad 0)), (1, .int a1)]) rfl ?_
  unfold fX12_isTenant_0 at h
  refine j_aload_n C 0 rfl dX12_isTenant_0 rfl ?_
  refine j_iload_n C 1 rfl dX12_isTenant_1 rfl ?_
  refine bk_elim h (fun K18_1 e_K18_1 h => ?_)
  have HK18_1 : ∀ (x2 : Int32) (S3 : Nat → Int32), K18_1 x2 S3 = some (r0, S0) → jW p l e ({ frames := 1, cells := 0, slots := 0, locals := 22 }) s m args below meth c (MQ below (jQc D TR ad cA (some (.int r0)) s.heap.size S0 V L) args s 0 0 (jA ad TR s.heap.size)) D TR ad cA (jA ad TR s.heap.size) 2 0 0 18 [] [.int x2, .ref (ad 0)] S3 V L := by
    subst e_K18_1
    intro x2 S3 h
    refine j_iconst C dX12_isTenant_18 ci_1 ?_
    obtain ⟨r4, S5, h6, h⟩ := bd2_elim h
    refine j_callV (As := [.int x2, .int (1 : Int32)]) (rest := []) C (kX12_right_0 l B D ad cA hI S3 V L x2 (1 : Int32) _ _ h6) mw_X12_right wd1638 wd56 wd1636 tr_0 rfl rfl ⟨rfl, rfl, by decide, by decide⟩ ⟨Nat.zero_le _, Nat.zero_le _⟩ rfl rfl (Nat.le_of_ble_eq_true rfl) dX12_isTenant_19 ?_
    obtain ⟨g7, h⟩ := gd_elim h
    cases h
    exact j_zret C hr hlk rfl (isb_n g7) dX12_isTenant_22
  refine bk_elim h (fun K17_8 e_K17_8 h => ?_)
  have HK17_8 : ∀ (S9 : Nat → Int32), K17_8 S9 = some (r0, S0) → jW p l e ({ frames := 1, cells := 0, slots := 0, locals := 22 }) s m args below meth c (MQ below (jQc D TR ad cA (some (.int r0)) s.heap.size S0 V L) args s 0 0 (jA ad TR s.heap.size)) D TR ad cA (jA ad TR s.heap.size) 2 0 0 17 [] [.ref (ad 0)] S9 V L := by
    subst e_K17_8
    intro S9 h
    refine j_iconst C dX12_isTenant_17 ci_0 ?_
    exact j_sub [] rfl (HK18_1 _ _ h)
  refine j_if_lt (tgt := 17) C dX12_isTenant_2 (by decide) (fun c10 => ?_) (fun c10 => ?_)
  · have h := (if_pos c10).symm.trans h
    exact j_sub [] rfl (HK17_8 _ h)
  · have h := (if_neg c10).symm.trans h
    refine j_iload_n C 1 rfl dX12_isTenant_5 rfl ?_
    refine j_aload_n C 0 rfl dX12_isTenant_6 rfl ?_
    refine fg_X12_265_TR_0 C dX12_isTenant_7 ?_
    refine j_icmp_ge (tgt := 17) C dX12_isTenant_10 (by decide) (fun c11 => ?_) (fun c11 => ?_)
    · have h := (if_pos c11).symm.trans h
      exact j_sub [] rfl (HK17_8 _ h)
    · have h := (if_neg c11).symm.trans h
      refine j_iconst C dX12_isTenant_13 ci_1 ?_
      refine j_goto (tgt := 18) C dX12_isTenant_14 (by decide) ?_
      exact j_sub [] rfl (HK18_1 _ _ h)
theorem dX12_size_0 : decode cX12_size 0 = .ok (.iload_n 0, 1) := by decide +kernel
theorem dX12_size_1 : decode cX12_size 1 = .ok (.ifCond .ge 9, 3) := by decide +kernel
theorem dX12_size_4 : decode cX12_size 4 = .ok (.iconst 0, 1) := by decide +kernel
theorem dX12_size_5 : decode cX12_size 5 = .ok (.iload_n 0, 1) := by decide +kernel
theorem dX12_size_6 : decode cX12_size 6 = .ok (.isub, 1) := by decide +kernel
theorem dX12_size_7 : decode cX12_size 7 = .ok (.goto 4, 3) := by decide +kernel
theorem dX12_size_10 : decode cX12_size 10 = .ok (.iload_n 0, 1) := by decide +kernel
theorem dX12_size_11 : decode cX12_size 11 = .ok (.ireturn, 1) := by decide +kernel
def fX12_size (a1 : Int32) : Option (Int32) :=
  (if 0 ≤ a1 then
  some a1
  else
  some (((0 : Int32) - a1)))
set_option maxHeartbeats 4000000 in
set_option maxRecDepth 100000 in
theorem kX12_size (l : Launch) (B : jBT) (D : va_G) (ad : Nat → Nat) (cA : Nat → ClassId) (hI : jI ad TR) (S : Nat → Int32) (V : Nat → Nat → Int32) (L : Nat → Int64) (a1 : Int32) (r0 : Int32) (h : fX12_size a1 = some r0) : jM l yX12_size cX12_size 1 (some .int) ({ frames := 0, cells := 0, slots := 0, locals := 0 }) B D TR ad cA [.int a1] S V L (some (.int r0)) S V L := by
  refine jM_of (plainFor_of_name (by decide)) TR_ok hI (Nat.le_of_ble_eq_true rfl) ?_
  intro p e s m args below meth c C hr hlk
  refine j_lv (lv2 := [(0, .int a1)]) rfl ?_
  unfold fX12_size at h
  refine j_iload_n C 0 rfl dX12_size_0 rfl ?_
  refine j_if_ge (tgt := 10) C dX12_size_1 (by decide) (fun c1 => ?_) (fun c1 => ?_)
  · have h := (if_pos c1).symm.trans h
    refine j_iload_n C 0 rfl dX12_size_10 rfl ?_
    cases h
    exact j_iret C hr hlk rfl dX12_size_11
  · have h := (if_neg c1).symm.trans h
    refine j_iconst C dX12_size_4 ci_0 ?_
    refine j_iload_n C 0 rfl dX12_size_5 rfl ?_
    refine j_isub C dX12_size_6 ?_
    refine j_goto (tgt := 11) C dX12_size_7 (by decide) ?_
    cases h
    exact j_iret C hr hlk rfl dX12_size_11
theorem dX12_both_0 : decode cX12_both 0 = .ok (.aload_n 0, 1) := by decide +kernel
theorem dX12_both_1 : decode cX12_both 1 = .ok (.iconst 0, 1) := by decide +kernel
theorem dX12_both_2 : decode cX12_both 2 = .ok (.putfield 93, 3) := by decide +kernel
theorem dX12_both_5 : decode cX12_both 5 = .ok (.aload_n 0, 1) := by decide +kernel
theorem dX12_both_6 : decode cX12_both 6 = .ok (.iload_n 1, 1) := by decide +kernel
theorem dX12_both_7 : decode cX12_both 7 = .ok (.invokevirtual 335, 3) := by decide +kernel
theorem dX12_both_10 : decode cX12_both 10 = .ok (.ifCond .eq 52, 3) := by decide +kernel
theorem dX12_both_13 : decode cX12_both 13 = .ok (.aload_n 0, 1) := by decide +kernel
theorem dX12_both_14 : decode cX12_both 14 = .ok (.iload 4, 2) := by decide +kernel
theorem dX12_both_16 : decode cX12_both 16 = .ok (.ifCond .eq 9, 3) := by decide +kernel
theorem dX12_both_19 : decode cX12_both 19 = .ok (.iload 4, 2) := by decide +kernel
theorem dX12_both_21 : decode cX12_both 21 = .ok (.iconst 1, 1) := by decide +kernel
theorem dX12_both_22 : decode cX12_both 22 = .ok (.if_icmp .ne 7, 3) := by decide +kernel
theorem dX12_both_25 : decode cX12_both 25 = .ok (.iconst 1, 1) := by decide +kernel
theorem dX12_both_26 : decode cX12_both 26 = .ok (.goto 4, 3) := by decide +kernel
theorem dX12_both_29 : decode cX12_both 29 = .ok (.iconst 0, 1) := by decide +kernel
theorem dX12_both_30 : decode cX12_both 30 = .ok (.iconst 1, 1) := by decide +kernel
theorem dX12_both_31 : decode cX12_both 31 = .ok (.invokevirtual 255, 3) := by decide +kernel
theorem dX12_both_34 : decode cX12_both 34 = .ok (.ifCond .eq 28, 3) := by decide +kernel
theorem dX12_both_37 : decode cX12_both 37 = .ok (.aload_n 0, 1) := by decide +kernel
theorem dX12_both_38 : decode cX12_both 38 = .ok (.iload_n 3, 1) := by decide +kernel
theorem dX12_both_39 : decode cX12_both 39 = .ok (.iconst 2, 1) := by decide +kernel
theorem dX12_both_40 : decode cX12_both 40 = .ok (.invokevirtual 358, 3) := by decide +kernel
theorem dX12_both_43 : decode cX12_both 43 = .ok (.ifCond .eq 19, 3) := by decide +kernel
theorem dX12_both_46 : decode cX12_both 46 = .ok (.aload_n 0, 1) := by decide +kernel
theorem dX12_both_47 : decode cX12_both 47 = .ok (.iload_n 2, 1) := by decide +kernel
theorem dX12_both_48 : decode cX12_both 48 = .ok (.bipush 20, 2) := by decide +kernel
theorem dX12_both_50 : decode cX12_both 50 = .ok (.bipush 60, 2) := by decide +kernel
theorem dX12_both_52 : decode cX12_both 52 = .ok (.invokestatic 294, 3) := by decide +kernel
theorem dX12_both_55 : decode cX12_both 55 = .ok (.iconst 2, 1) := by decide +kernel
theorem dX12_both_56 : decode cX12_both 56 = .ok (.invokevirtual 255, 3) := by decide +kernel
theorem dX12_both_59 : decode cX12_both 59 = .ok (.ifCond .ne 5, 3) := by decide +kernel
theorem dX12_both_62 : decode cX12_both 62 = .ok (.iconst 0, 1) := by decide +kernel
theorem dX12_both_63 : decode cX12_both 63 = .ok (.ireturn, 1) := by decide +kernel
theorem dX12_both_64 : decode cX12_both 64 = .ok (.aload_n 0, 1) := by decide +kernel
theorem dX12_both_65 : decode cX12_both 65 = .ok (.iload_n 3, 1) := by decide +kernel
theorem dX12_both_66 : decode cX12_both 66 = .ok (.invokevirtual 361, 3) := by decide +kernel
theorem dX12_both_69 : decode cX12_both 69 = .ok (.istore 5, 2) := by decide +kernel
theorem dX12_both_71 : decode cX12_both 71 = .ok (.bipush 24, 2) := by decide +kernel
theorem dX12_both_73 : decode cX12_both 73 = .ok (.iconst 2, 1) := by decide +kernel
theorem dX12_both_74 : decode cX12_both 74 = .ok (.iload_n 2, 1) := by decide +kernel
theorem dX12_both_75 : decode cX12_both 75 = .ok (.imul, 1) := by decide +kernel
theorem dX12_both_76 : decode cX12_both 76 = .ok (.bipush 60, 2) := by decide +kernel
theorem dX12_both_78 : decode cX12_both 78 = .ok (.isub, 1) := by decide +kernel
theorem dX12_both_79 : decode cX12_both 79 = .ok (.imul, 1) := by decide +kernel
theorem dX12_both_80 : decode cX12_both 80 = .ok (.istore 6, 2) := by decide +kernel
theorem dX12_both_82 : decode cX12_both 82 = .ok (.iconst (-1), 1) := by decide +kernel
theorem dX12_both_83 : decode cX12_both 83 = .ok (.istore 7, 2) := by decide +kernel
theorem dX12_both_85 : decode cX12_both 85 = .ok (.iconst 0, 1) := by decide +kernel
theorem dX12_both_86 : decode cX12_both 86 = .ok (.istore 8, 2) := by decide +kernel
theorem dX12_both_88 : decode cX12_both 88 = .ok (.iconst 0, 1) := by decide +kernel
theorem dX12_both_89 : decode cX12_both 89 = .ok (.istore 9, 2) := by decide +kernel
theorem dX12_both_91 : decode cX12_both 91 = .ok (.iload 9, 2) := by decide +kernel
theorem dX12_both_93 : decode cX12_both 93 = .ok (.aload_n 0, 1) := by decide +kernel
theorem dX12_both_94 : decode cX12_both 94 = .ok (.getfield 19, 3) := by decide +kernel
theorem dX12_both_97 : decode cX12_both 97 = .ok (.iconst 4, 1) := by decide +kernel
theorem dX12_both_98 : decode cX12_both 98 = .ok (.iload_n 1, 1) := by decide +kernel
theorem dX12_both_99 : decode cX12_both 99 = .ok (.imul, 1) := by decide +kernel
theorem dX12_both_100 : decode cX12_both 100 = .ok (.iconst 2, 1) := by decide +kernel
theorem dX12_both_101 : decode cX12_both 101 = .ok (.iadd, 1) := by decide +kernel
theorem dX12_both_102 : decode cX12_both 102 = .ok (.iaload, 1) := by decide +kernel
theorem dX12_both_103 : decode cX12_both 103 = .ok (.if_icmp .gt 98, 3) := by decide +kernel
theorem dX12_both_106 : decode cX12_both 106 = .ok (.iload 5, 2) := by decide +kernel
theorem dX12_both_108 : decode cX12_both 108 = .ok (.iload 9, 2) := by decide +kernel
theorem dX12_both_110 : decode cX12_both 110 = .ok (.aload_n 0, 1) := by decide +kernel
theorem dX12_both_111 : decode cX12_both 111 = .ok (.getfield 19, 3) := by decide +kernel
theorem dX12_both_114 : decode cX12_both 114 = .ok (.iconst 4, 1) := by decide +kernel
theorem dX12_both_115 : decode cX12_both 115 = .ok (.iload_n 1, 1) := by decide +kernel
theorem dX12_both_116 : decode cX12_both 116 = .ok (.imul, 1) := by decide +kernel
theorem dX12_both_117 : decode cX12_both 117 = .ok (.iaload, 1) := by decide +kernel
theorem dX12_both_118 : decode cX12_both 118 = .ok (.imul, 1) := by decide +kernel
theorem dX12_both_119 : decode cX12_both 119 = .ok (.iadd, 1) := by decide +kernel
theorem dX12_both_120 : decode cX12_both 120 = .ok (.invokestatic 367, 3) := by decide +kernel
theorem dX12_both_123 : decode cX12_both 123 = .ok (.istore 10, 2) := by decide +kernel
theorem dX12_both_125 : decode cX12_both 125 = .ok (.iload 6, 2) := by decide +kernel
theorem dX12_both_127 : decode cX12_both 127 = .ok (.aload_n 0, 1) := by decide +kernel
theorem dX12_both_128 : decode cX12_both 128 = .ok (.getfield 19, 3) := by decide +kernel
theorem dX12_both_131 : decode cX12_both 131 = .ok (.iconst 4, 1) := by decide +kernel
theorem dX12_both_132 : decode cX12_both 132 = .ok (.iload_n 1, 1) := by decide +kernel
theorem dX12_both_133 : decode cX12_both 133 = .ok (.imul, 1) := by decide +kernel
theorem dX12_both_134 : decode cX12_both 134 = .ok (.iconst 2, 1) := by decide +kernel
theorem dX12_both_135 : decode cX12_both 135 = .ok (.iadd, 1) := by decide +kernel
theorem dX12_both_136 : decode cX12_both 136 = .ok (.iaload, 1) := by decide +kernel
theorem dX12_both_137 : decode cX12_both 137 = .ok (.iload 9, 2) := by decide +kernel
theorem dX12_both_139 : decode cX12_both 139 = .ok (.isub, 1) := by decide +kernel
theorem dX12_both_140 : decode cX12_both 140 = .ok (.aload_n 0, 1) := by decide +kernel
theorem dX12_both_141 : decode cX12_both 141 = .ok (.getfield 19, 3) := by decide +kernel
theorem dX12_both_144 : decode cX12_both 144 = .ok (.iconst 4, 1) := by decide +kernel
theorem dX12_both_145 : decode cX12_both 145 = .ok (.iload_n 1, 1) := by decide +kernel
theorem dX12_both_146 : decode cX12_both 146 = .ok (.imul, 1) := by decide +kernel
theorem dX12_both_147 : decode cX12_both 147 = .ok (.iaload, 1) := by decide +kernel
theorem dX12_both_148 : decode cX12_both 148 = .ok (.imul, 1) := by decide +kernel
theorem dX12_both_149 : decode cX12_both 149 = .ok (.iadd, 1) := by decide +kernel
theorem dX12_both_150 : decode cX12_both 150 = .ok (.invokestatic 367, 3) := by decide +kernel
theorem dX12_both_153 : decode cX12_both 153 = .ok (.istore 11, 2) := by decide +kernel
theorem dX12_both_155 : decode cX12_both 155 = .ok (.iload 10, 2) := by decide +kernel
theorem dX12_both_157 : decode cX12_both 157 = .ok (.iload 11, 2) := by decide +kernel
theorem dX12_both_159 : decode cX12_both 159 = .ok (.if_icmp .le 8, 3) := by decide +kernel
theorem dX12_both_162 : decode cX12_both 162 = .ok (.iload 10, 2) := by decide +kernel
theorem dX12_both_164 : decode cX12_both 164 = .ok (.goto 5, 3) := by decide +kernel
theorem dX12_both_167 : decode cX12_both 167 = .ok (.iload 11, 2) := by decide +kernel
theorem dX12_both_169 : decode cX12_both 169 = .ok (.istore 12, 2) := by decide +kernel
theorem dX12_both_171 : decode cX12_both 171 = .ok (.iload 7, 2) := by decide +kernel
theorem dX12_both_173 : decode cX12_both 173 = .ok (.iconst (-1), 1) := by decide +kernel
theorem dX12_both_174 : decode cX12_both 174 = .ok (.if_icmp .eq 13, 3) := by decide +kernel
theorem dX12_both_177 : decode cX12_both 177 = .ok (.iload 12, 2) := by decide +kernel
theorem dX12_both_179 : decode cX12_both 179 = .ok (.iload 8, 2) := by decide +kernel
theorem dX12_both_181 : decode cX12_both 181 = .ok (.if_icmp .lt 6, 3) := by decide +kernel
theorem dX12_both_184 : decode cX12_both 184 = .ok (.goto 11, 3) := by decide +kernel
theorem dX12_both_187 : decode cX12_both 187 = .ok (.iload 9, 2) := by decide +kernel
theorem dX12_both_189 : decode cX12_both 189 = .ok (.istore 7, 2) := by decide +kernel
theorem dX12_both_191 : decode cX12_both 191 = .ok (.iload 12, 2) := by decide +kernel
theorem dX12_both_193 : decode cX12_both 193 = .ok (.istore 8, 2) := by decide +kernel
theorem dX12_both_195 : decode cX12_both 195 = .ok (.iinc 9 1, 3) := by decide +kernel
theorem dX12_both_198 : decode cX12_both 198 = .ok (.goto (-107), 3) := by decide +kernel
theorem dX12_both_201 : decode cX12_both 201 = .ok (.iload 4, 2) := by decide +kernel
theorem dX12_both_203 : decode cX12_both 203 = .ok (.ifCond .ne 8, 3) := by decide +kernel
theorem dX12_both_206 : decode cX12_both 206 = .ok (.iload 7, 2) := by decide +kernel
theorem dX12_both_208 : decode cX12_both 208 = .ok (.goto 5, 3) := by decide +kernel
theorem dX12_both_211 : decode cX12_both 211 = .ok (.iload 8, 2) := by decide +kernel
theorem dX12_both_213 : decode cX12_both 213 = .ok (.ireturn, 1) := by decide +kernel
def fX12_both_0_L91 (E201 : Int32 → Int32 → Int32 → (Nat → Int32) → Option (Int32 × (Nat → Int32))) (V : Nat → Nat → Int32) : Nat → Int32 → Int32 → Int32 → Int32 → Int32 → Int32 → Int32 → (Nat → Int32) → Option (Int32 × (Nat → Int32))
  | 0, _, _, _, _, _, _, _, _ => none
  | n + 1, x30, x31, x32, x33, x34, x35, x36, S37 =>
    lt ((((4 : Int32) * x30) + (2 : Int32))) (fun x38 =>
    gd (ib x38 24) (
    (if (V 1 (x38).toNatClampNeg) < x36 then
    E201 x31 x34 x35 S37
    else
    lt (((4 : Int32) * x30)) (fun x41 =>
    gd (ib x41 24) (
    bd1 (fX12_size ((x32 + (x36 * (V 1 (x41).toNatClampNeg))))) (fun r43 =>
    lt ((((4 : Int32) * x30) + (2 : Int32))) (fun x45 =>
    gd (ib x45 24) (
    lt (((4 : Int32) * x30)) (fun x47 =>
    gd (ib x47 24) (
    bd1 (fX12_size ((x33 + (((V 1 (x45).toNatClampNeg) - x36) * (V 1 (x47).toNatClampNeg))))) (fun r49 =>
    bk (fun (x52 : Int32) (x53 : Int32) (x54 : Int32) (x55 : Int32) (x56 : Int32) (x57 : Int32) (x58 : Int32) (x59 : Int32) (S60 : Nat → Int32) =>
    bk (fun (x62 : Int32) (x63 : Int32) (x64 : Int32) (x65 : Int32) (x66 : Int32) (x67 : Int32) (x68 : Int32) (S69 : Nat → Int32) =>
    lt (x68 + (1 : Int32)) (fun x70 =>
    fX12_both_0_L91 E201 V n x62 x63 x64 x65 x66 x67 x70 S69)) (fun K195_61 =>
    bk (fun (x72 : Int32) (x73 : Int32) (x74 : Int32) (x75 : Int32) (x76 : Int32) (x77 : Int32) (S78 : Nat → Int32) =>
    K195_61 x72 x73 x74 x75 x76 x77 x76 S78) (fun K187_71 =>
    (if x56 = (-1 : Int32) then
    K187_71 x52 x53 x54 x55 x58 x59 S60
    else
    (if x59 < x57 then
    K187_71 x52 x53 x54 x55 x58 x59 S60
    else
    K195_61 x52 x53 x54 x55 x56 x57 x58 S60))))) (fun K169_51 =>
    (if r43 ≤ r49 then
    K169_51 x30 x31 x32 x33 x34 x35 x36 r49 S37
    else
    K169_51 x30 x31 x32 x33 x34 x35 x36 r43 S37)))))))))))))
def fX12_both_0 (S : Nat → Int32) (V : Nat → Nat → Int32) (a1 : Int32) (a2 : Int32) (a3 : Int32) (a4 : Int32) : Option (Int32 × (Nat → Int32)) :=
  lt (va_up S 0 (0 : Int32)) (fun S1 =>
  bd2 (fX12_isTenant_0 S1 a1) (fun r2 S3 =>
  (if r2 = 0 then
  some ((0 : Int32), S3)
  else
  bk (fun (x7 : Int32) (x8 : Int32) (x9 : Int32) (x10 : Int32) (x11 : Int32) (S12 : Nat → Int32) =>
  bd2 (fX12_right_0 S12 x11 (1 : Int32)) (fun r13 S14 =>
  (if r13 = 0 then
  some ((0 : Int32), S14)
  else
  bd2 (fX12_isDay_0 S14 x9 (2 : Int32)) (fun r17 S18 =>
  (if r17 = 0 then
  some ((0 : Int32), S18)
  else
  bd1 (fX12_within x8 (20 : Int32) (60 : Int32)) (fun r21 =>
  bd2 (fX12_right_0 S18 r21 (2 : Int32)) (fun r23 S24 =>
  (if r23 = 0 then
  some ((0 : Int32), S24)
  else
  bd1 (fX12_slowDay_0 S24 V x9) (fun r27 =>
  lt (((24 : Int32) * (((2 : Int32) * x8) - (60 : Int32)))) (fun x29 =>
  bk (fun (x87 : Int32) (x88 : Int32) (x89 : Int32) (S90 : Nat → Int32) =>
  (if x87 = 0 then
  some (x88, S90)
  else
  some (x89, S90))) (fun X201_86 =>
  fX12_both_0_L91 X201_86 V FU x7 x10 r27 x29 (-1 : Int32) (0 : Int32) (0 : Int32) S24))))))))))) (fun K30_6 =>
  bk (fun (x93 : Int32) (x94 : Int32) (x95 : Int32) (x96 : Int32) (S97 : Nat → Int32) =>
  K30_6 x93 x94 x95 x96 (1 : Int32) S97) (fun K25_92 =>
  (if a4 = 0 then
  K25_92 a1 a2 a3 a4 S3
  else
  (if a4 = (1 : Int32) then
  K25_92 a1 a2 a3 a4 S3
  else
  K30_6 a1 a2 a3 a4 (0 : Int32) S3)))))))
set_option maxHeartbeats 4000000 in
set_option maxRecDepth 100000 in
theorem kX12_both_0 (l : Launch) (B : jBT) (D : va_G) (ad : Nat → Nat) (cA : Nat → ClassId) (hI : jI ad TR) (S : Nat → Int32) (V : Nat → Nat → Int32) (L : Nat → Int64) (a1 : Int32) (a2 : Int32) (a3 : Int32) (a4 : Int32) (r0 : Int32) (S0 : Nat → Int32) (h : fX12_both_0 S V a1 a2 a3 a4 = some (r0, S0)) : jM l yX12_both cX12_both 13 (some .int) ({ frames := 5, cells := 0, slots := 0, locals := 121 }) B D TR ad cA [.ref (ad 0), .int a1, .int a2, .int a3, .int a4] S V L (some (.int r0)) S0 V L := by
  refine jM_of (plainFor_of_name (by decide)) TR_ok hI (Nat.le_of_ble_eq_true rfl) ?_
  intro p e s m args below meth c C hr hlk
  refine j_lv (lv2 := [(0, .ref (ad 0)), (1, .int a1), (2, .int a2), (3, .int a3), (4, .int a4)]) rfl ?_
  unfold fX12_both_0 at h
  have H_fX12_both_0_L91 : ∀ (E201 : Int32 → Int32 → Int32 → (Nat → Int32) → Option (Int32 × (Nat → Int32))) (_ : ∀ (x82 : Int32) (x83 : Int32) (x84 : Int32) (S85 : Nat → Int32), E201 x82 x83 x84 S85 = some (r0, S0) → jW p l e ({ frames := 5, cells := 0, slots := 0, locals := 121 }) s m args below meth c (MQ below (jQc D TR ad cA (some (.int r0)) s.heap.size S0 V L) args s 0 0 (jA ad TR s.heap.size)) D TR ad cA (jA ad TR s.heap.size) 13 0 0 201 [(4, .int x82), (7, .int x83), (8, .int x84)] [] S85 V L) (n : Nat) (x30 : Int32) (x31 : Int32) (x32 : Int32) (x33 : Int32) (x34 : Int32) (x35 : Int32) (x36 : Int32) (S37 : Nat → Int32), fX12_both_0_L91 E201 V n x30 x31 x32 x33 x34 x35 x36 S37 = some (r0, S0) → jW p l e ({ frames := 5, cells := 0, slots := 0, locals := 121 }) s m args below meth c (MQ below (jQc D TR ad cA (some (.int r0)) s.heap.size S0 V L) args s 0 0 (jA ad TR s.heap.size)) D TR ad cA (jA ad TR s.heap.size) 13 0 0 91 [(0, .ref (ad 0)), (1, .int x30), (4, .int x31), (5, .int x32), (6, .int x33), (7, .int x34), (8, .int x35), (9, .int x36)] [] S37 V L := by
    intro E201 HE201
    intro n
    induction n with
    | zero =>
      intro x30 x31 x32 x33 x34 x35 x36 S37 h
      cases (show (none : Option (Int32 × (Nat → Int32))) = some (r0, S0) from h)
    | succ n ih =>
      intro x30 x31 x32 x33 x34 x35 x36 S37 h
      unfold fX12_both_0_L91 at h
      refine j_iload C 7 rfl dX12_both_91 ?_
      refine j_aload_n C 0 rfl dX12_both_93 rfl ?_
      refine fg_X12_19_TR_0 C dX12_both_94 ?_
      refine j_iconst C dX12_both_97 ci_4 ?_
      refine j_iload_n C 1 rfl dX12_both_98 rfl ?_
      refine j_imul C dX12_both_99 ?_
      refine j_iconst C dX12_both_100 ci_2 ?_
      refine j_iadd C dX12_both_101 ?_
      refine lt_elim h (fun x38 e_x38 h => ?_)
      refine j_top e_x38 ?_
      obtain ⟨g39, h⟩ := gd_elim h
      refine j_iald C tr_1 (ib_in g39) dX12_both_102 ?_
      refine j_icmp_gt (tgt := 201) C dX12_both_103 (by decide) (fun c40 => ?_) (fun c40 => ?_)
      · have h := (if_pos c40).symm.trans h
        exact j_sub [2, 5, 6] rfl (HE201 _ _ _ _ h)
      · have h := (if_neg c40).symm.trans h
        refine j_iload C 3 rfl dX12_both_106 ?_
        refine j_iload C 7 rfl dX12_both_108 ?_
        refine j_aload_n C 0 rfl dX12_both_110 rfl ?_
        refine fg_X12_19_TR_0 C dX12_both_111 ?_
        refine j_iconst C dX12_both_114 ci_4 ?_
        refine j_iload_n C 1 rfl dX12_both_115 rfl ?_
        refine j_imul C dX12_both_116 ?_
        refine lt_elim h (fun x41 e_x41 h => ?_)
        refine j_top e_x41 ?_
        obtain ⟨g42, h⟩ := gd_elim h
        refine j_iald C tr_1 (ib_in g42) dX12_both_117 ?_
        refine j_imul C dX12_both_118 ?_
        refine j_iadd C dX12_both_119 ?_
        obtain ⟨r43, h44, h⟩ := bd1_elim h
        refine j_callS (As := [.int (x32 + (x36 * (V 1 (x41).toNatClampNeg)))]) (rest := []) C (kX12_size l B D ad cA hI S37 V L ((x32 + (x36 * (V 1 (x41).toNatClampNeg)))) _ h44) mw_X12_size wd1875 wd1874 ⟨rfl, rfl, by decide, by decide⟩ ⟨Nat.zero_le _, Nat.zero_le _⟩ rfl rfl (Nat.le_of_ble_eq_true rfl) dX12_both_120 ?_
        refine j_istore C [(10, .int r43), (0, .ref (ad 0)), (1, .int x30), (4, .int x31), (5, .int x32), (6, .int x33), (7, .int x34), (8, .int x35), (9, .int x36)] dX12_both_123 (by decide) rfl ?_
        refine j_iload C 5 rfl dX12_both_125 ?_
        refine j_aload_n C 1 rfl dX12_both_127 rfl ?_
        refine fg_X12_19_TR_0 C dX12_both_128 ?_
        refine j_iconst C dX12_both_131 ci_4 ?_
        refine j_iload_n C 2 rfl dX12_both_132 rfl ?_
        refine j_imul C dX12_both_133 ?_
        refine j_iconst C dX12_both_134 ci_2 ?_
        refine j_iadd C dX12_both_135 ?_
        refine lt_elim h (fun x45 e_x45 h => ?_)
        refine j_top e_x45 ?_
        obtain ⟨g46, h⟩ := gd_elim h
        refine j_iald C tr_1 (ib_in g46) dX12_both_136 ?_
        refine j_iload C 8 rfl dX12_both_137 ?_
        refine j_isub C dX12_both_139 ?_
        refine j_aload_n C 1 rfl dX12_both_140 rfl ?_
        refine fg_X12_19_TR_0 C dX12_both_141 ?_
        refine j_iconst C dX12_both_144 ci_4 ?_
        refine j_iload_n C 2 rfl dX12_both_145 rfl ?_
        refine j_imul C dX12_both_146 ?_
        refine lt_elim h (fun x47 e_x47 h => ?_)
        refine j_top e_x47 ?_
        obtain ⟨g48, h⟩ := gd_elim h
        refine j_iald C tr_1 (ib_in g48) dX12_both_147 ?_
        refine j_imul C dX12_both_148 ?_
        refine j_iadd C dX12_both_149 ?_
        obtain ⟨r49, h50, h⟩ := bd1_elim h
        refine j_callS (As := [.int (x33 + (((V 1 (x45).toNatClampNeg) - x36) * (V 1 (x47).toNatClampNeg)))]) (rest := []) C (kX12_size l B D ad cA hI S37 V L ((x33 + (((V 1 (x45).toNatClampNeg) - x36) * (V 1 (x47).toNatClampNeg)))) _ h50) mw_X12_size wd1875 wd1874 ⟨rfl, rfl, by decide, by decide⟩ ⟨Nat.zero_le _, Nat.zero_le _⟩ rfl rfl (Nat.le_of_ble_eq_true rfl) dX12_both_150 ?_
        refine j_istore C [(11, .int r49), (10, .int r43), (0, .ref (ad 0)), (1, .int x30), (4, .int x31), (5, .int x32), (6, .int x33), (7, .int x34), (8, .int x35), (9, .int x36)] dX12_both_153 (by decide) rfl ?_
        refine j_iload C 1 rfl dX12_both_155 ?_
        refine j_iload C 0 rfl dX12_both_157 ?_
        refine bk_elim h (fun K169_51 e_K169_51 h => ?_)
        have HK169_51 : ∀ (x52 : Int32) (x53 : Int32) (x54 : Int32) (x55 : Int32) (x56 : Int32) (x57 : Int32) (x58 : Int32) (x59 : Int32) (S60 : Nat → Int32), K169_51 x52 x53 x54 x55 x56 x57 x58 x59 S60 = some (r0, S0) → jW p l e ({ frames := 5, cells := 0, slots := 0, locals := 121 }) s m args below meth c (MQ below (jQc D TR ad cA (some (.int r0)) s.heap.size S0 V L) args s 0 0 (jA ad TR s.heap.size)) D TR ad cA (jA ad TR s.heap.size) 13 0 0 169 [(0, .ref (ad 0)), (1, .int x52), (4, .int x53), (5, .int x54), (6, .int x55), (7, .int x56), (8, .int x57), (9, .int x58)] [.int x59] S60 V L := by
          subst e_K169_51
          intro x52 x53 x54 x55 x56 x57 x58 x59 S60 h
          refine j_istore C [(12, .int x59), (0, .ref (ad 0)), (1, .int x52), (4, .int x53), (5, .int x54), (6, .int x55), (7, .int x56), (8, .int x57), (9, .int x58)] dX12_both_169 (by decide) rfl ?_
          refine j_iload C 6 rfl dX12_both_171 ?_
          refine j_iconst C dX12_both_173 ci_m1 ?_
          refine bk_elim h (fun K195_61 e_K195_61 h => ?_)
          have HK195_61 : ∀ (x62 : Int32) (x63 : Int32) (x64 : Int32) (x65 : Int32) (x66 : Int32) (x67 : Int32) (x68 : Int32) (S69 : Nat → Int32), K195_61 x62 x63 x64 x65 x66 x67 x68 S69 = some (r0, S0) → jW p l e ({ frames := 5, cells := 0, slots := 0, locals := 121 }) s m args below meth c (MQ below (jQc D TR ad cA (some (.int r0)) s.heap.size S0 V L) args s 0 0 (jA ad TR s.heap.size)) D TR ad cA (jA ad TR s.heap.size) 13 0 0 195 [(0, .ref (ad 0)), (1, .int x62), (4, .int x63), (5, .int x64), (6, .int x65), (7, .int x66), (8, .int x67), (9, .int x68)] [] S69 V L := by
            subst e_K195_61
            intro x62 x63 x64 x65 x66 x67 x68 S69 h
            refine lt_elim h (fun x70 e_x70 h => ?_)
            refine j_iinc C [(9, .int x70), (0, .ref (ad 0)), (1, .int x62), (4, .int x63), (5, .int x64), (6, .int x65), (7, .int x66), (8, .int x67)] 7 dX12_both_195 rfl ((iinc_eq ci_1).trans e_x70.symm) (by decide) rfl ?_
            refine j_goto (tgt := 91) C dX12_both_198 (by decide) ?_
            exact j_sub [1, 2, 3, 4, 5, 6, 7, 0] rfl (ih _ _ _ _ _ _ _ _ h)
          refine bk_elim h (fun K187_71 e_K187_71 h => ?_)
          have HK187_71 : ∀ (x72 : Int32) (x73 : Int32) (x74 : Int32) (x75 : Int32) (x76 : Int32) (x77 : Int32) (S78 : Nat → Int32), K187_71 x72 x73 x74 x75 x76 x77 S78 = some (r0, S0) → jW p l e ({ frames := 5, cells := 0, slots := 0, locals := 121 }) s m args below meth c (MQ below (jQc D TR ad cA (some (.int r0)) s.heap.size S0 V L) args s 0 0 (jA ad TR s.heap.size)) D TR ad cA (jA ad TR s.heap.size) 13 0 0 187 [(0, .ref (ad 0)), (1, .int x72), (4, .int x73), (5, .int x74), (6, .int x75), (9, .int x76), (12, .int x77)] [] S78 V L := by
            subst e_K187_71
            intro x72 x73 x74 x75 x76 x77 S78 h
            refine j_iload C 5 rfl dX12_both_187 ?_
            refine j_istore C [(7, .int x76), (0, .ref (ad 0)), (1, .int x72), (4, .int x73), (5, .int x74), (6, .int x75), (9, .int x76), (12, .int x77)] dX12_both_189 (by decide) rfl ?_
            refine j_iload C 7 rfl dX12_both_191 ?_
            refine j_istore C [(8, .int x77), (7, .int x76), (0, .ref (ad 0)), (1, .int x72), (4, .int x73), (5, .int x74), (6, .int x75), (9, .int x76), (12, .int x77)] dX12_both_193 (by decide) rfl ?_
            exact j_sub [2, 3, 4, 5, 6, 1, 0, 7] rfl (HK195_61 _ _ _ _ _ _ _ _ h)
          refine j_icmp_eq (tgt := 187) C dX12_both_174 (by decide) (fun c79 => ?_) (fun c79 => ?_)
          · have h := (if_pos c79).symm.trans h
            exact j_sub [1, 2, 3, 4, 5, 8, 0] rfl (HK187_71 _ _ _ _ _ _ _ h)
          · have h := (if_neg c79).symm.trans h
            refine j_iload C 0 rfl dX12_both_177 ?_
            refine j_iload C 7 rfl dX12_both_179 ?_
            refine j_icmp_lt (tgt := 187) C dX12_both_181 (by decide) (fun c80 => ?_) (fun c80 => ?_)
            · have h := (if_pos c80).symm.trans h
              exact j_sub [1, 2, 3, 4, 5, 8, 0] rfl (HK187_71 _ _ _ _ _ _ _ h)
            · have h := (if_neg c80).symm.trans h
              refine j_goto (tgt := 195) C dX12_both_184 (by decide) ?_
              exact j_sub [1, 2, 3, 4, 5, 6, 7, 8] rfl (HK195_61 _ _ _ _ _ _ _ _ h)
        refine j_icmp_le (tgt := 167) C dX12_both_159 (by decide) (fun c81 => ?_) (fun c81 => ?_)
        · have h := (if_pos c81).symm.trans h
          refine j_iload C 0 rfl dX12_both_167 ?_
          exact j_sub [2, 3, 4, 5, 6, 7, 8, 9] rfl (HK169_51 _ _ _ _ _ _ _ _ _ h)
        · have h := (if_neg c81).symm.trans h
          refine j_iload C 1 rfl dX12_both_162 ?_
          refine j_goto (tgt := 169) C dX12_both_164 (by decide) ?_
          exact j_sub [2, 3, 4, 5, 6, 7, 8, 9] rfl (HK169_51 _ _ _ _ _ _ _ _ _ h)
  refine j_aload_n C 0 rfl dX12_both_0 rfl ?_
  refine j_iconst C dX12_both_1 ci_0 ?_
  refine fp_X12_93_TR_0 C dX12_both_2 ?_
  refine lt_elim h (fun S1 e_S1 h => ?_)
  refine j_S e_S1 ?_
  refine j_aload_n C 0 rfl dX12_both_5 rfl ?_
  refine j_iload_n C 1 rfl dX12_both_6 rfl ?_
  obtain ⟨r2, S3, h4, h⟩ := bd2_elim h
  refine j_callV (As := [.int a1]) (rest := []) C (kX12_isTenant_0 l B D ad cA hI S1 V L a1 _ _ h4) mw_X12_isTenant wd1816 wd86 wd1814 tr_0 rfl rfl ⟨rfl, rfl, by decide, by decide⟩ ⟨Nat.zero_le _, Nat.zero_le _⟩ rfl rfl (Nat.le_of_ble_eq_true rfl) dX12_both_7 ?_
  refine j_if_eq (tgt := 62) C dX12_both_10 (by decide) (fun c5 => ?_) (fun c5 => ?_)
  · have h := (if_pos c5).symm.trans h
    refine j_iconst C dX12_both_62 ci_0 ?_
    cases h
    exact j_iret C hr hlk rfl dX12_both_63
  · have h := (if_neg c5).symm.trans h
    refine j_aload_n C 0 rfl dX12_both_13 rfl ?_
    refine j_iload C 4 rfl dX12_both_14 ?_
    refine bk_elim h (fun K30_6 e_K30_6 h => ?_)
    have HK30_6 : ∀ (x7 : Int32) (x8 : Int32) (x9 : Int32) (x10 : Int32) (x11 : Int32) (S12 : Nat → Int32), K30_6 x7 x8 x9 x10 x11 S12 = some (r0, S0) → jW p l e ({ frames := 5, cells := 0, slots := 0, locals := 121 }) s m args below meth c (MQ below (jQc D TR ad cA (some (.int r0)) s.heap.size S0 V L) args s 0 0 (jA ad TR s.heap.size)) D TR ad cA (jA ad TR s.heap.size) 13 0 0 30 [(0, .ref (ad 0)), (1, .int x7), (2, .int x8), (3, .int x9), (4, .int x10)] [.int x11, .ref (ad 0)] S12 V L := by
      subst e_K30_6
      intro x7 x8 x9 x10 x11 S12 h
      refine j_iconst C dX12_both_30 ci_1 ?_
      obtain ⟨r13, S14, h15, h⟩ := bd2_elim h
      refine j_callV (As := [.int x11, .int (1 : Int32)]) (rest := []) C (kX12_right_0 l B D ad cA hI S12 V L x11 (1 : Int32) _ _ h15) mw_X12_right wd1638 wd56 wd1636 tr_0 rfl rfl ⟨rfl, rfl, by decide, by decide⟩ ⟨Nat.zero_le _, Nat.zero_le _⟩ rfl rfl (Nat.le_of_ble_eq_true rfl) dX12_both_31 ?_
      refine j_if_eq (tgt := 62) C dX12_both_34 (by decide) (fun c16 => ?_) (fun c16 => ?_)
      · have h := (if_pos c16).symm.trans h
        refine j_iconst C dX12_both_62 ci_0 ?_
        cases h
        exact j_iret C hr hlk rfl dX12_both_63
      · have h := (if_neg c16).symm.trans h
        refine j_aload_n C 0 rfl dX12_both_37 rfl ?_
        refine j_iload_n C 3 rfl dX12_both_38 rfl ?_
        refine j_iconst C dX12_both_39 ci_2 ?_
        obtain ⟨r17, S18, h19, h⟩ := bd2_elim h
        refine j_callV (As := [.int x9, .int (2 : Int32)]) (rest := []) C (kX12_isDay_0 l B D ad cA hI S14 V L x9 (2 : Int32) _ _ h19) mw_X12_isDay wd1836 wd89 wd1834 tr_0 rfl rfl ⟨rfl, rfl, by decide, by decide⟩ ⟨Nat.zero_le _, Nat.zero_le _⟩ rfl rfl (Nat.le_of_ble_eq_true rfl) dX12_both_40 ?_
        refine j_if_eq (tgt := 62) C dX12_both_43 (by decide) (fun c20 => ?_) (fun c20 => ?_)
        · have h := (if_pos c20).symm.trans h
          refine j_iconst C dX12_both_62 ci_0 ?_
          cases h
          exact j_iret C hr hlk rfl dX12_both_63
        · have h := (if_neg c20).symm.trans h
          refine j_aload_n C 0 rfl dX12_both_46 rfl ?_
          refine j_iload_n C 2 rfl dX12_both_47 rfl ?_
          refine j_bipush C dX12_both_48 cb_20 ?_
          refine j_bipush C dX12_both_50 cb_60 ?_
          obtain ⟨r21, h22, h⟩ := bd1_elim h
          refine j_callS (As := [.int x8, .int (20 : Int32), .int (60 : Int32)]) (rest := [.ref (ad 0)]) C (kX12_within l B D ad cA hI S18 V L x8 (20 : Int32) (60 : Int32) _ h22) mw_X12_within wd1760 wd1759 ⟨rfl, rfl, by decide, by decide⟩ ⟨Nat.zero_le _, Nat.zero_le _⟩ rfl rfl (Nat.le_of_ble_eq_true rfl) dX12_both_52 ?_
          refine j_iconst C dX12_both_55 ci_2 ?_
          obtain ⟨r23, S24, h25, h⟩ := bd2_elim h
          refine j_callV (As := [.int r21, .int (2 : Int32)]) (rest := []) C (kX12_right_0 l B D ad cA hI S18 V L r21 (2 : Int32) _ _ h25) mw_X12_right wd1638 wd56 wd1636 tr_0 rfl rfl ⟨rfl, rfl, by decide, by decide⟩ ⟨Nat.zero_le _, Nat.zero_le _⟩ rfl rfl (Nat.le_of_ble_eq_true rfl) dX12_both_56 ?_
          refine j_if_ne (tgt := 64) C dX12_both_59 (by decide) (fun c26 => ?_) (fun c26 => ?_)
          · have h := (if_neg c26).symm.trans h
            refine j_aload_n C 0 rfl dX12_both_64 rfl ?_
            refine j_iload_n C 3 rfl dX12_both_65 rfl ?_
            obtain ⟨r27, h28, h⟩ := bd1_elim h
            refine j_callV (As := [.int x9]) (rest := []) C (kX12_slowDay_0 l B D ad cA hI S24 V L x9 _ h28) mw_X12_slowDay wd1864 wd94 wd1862 tr_0 rfl rfl ⟨rfl, rfl, by decide, by decide⟩ ⟨Nat.zero_le _, Nat.zero_le _⟩ rfl rfl (Nat.le_of_ble_eq_true rfl) dX12_both_66 ?_
            refine j_istore C [(5, .int r27), (0, .ref (ad 0)), (1, .int x7), (2, .int x8), (3, .int x9), (4, .int x10)] dX12_both_69 (by decide) rfl ?_
            refine j_bipush C dX12_both_71 cb_24 ?_
            refine j_iconst C dX12_both_73 ci_2 ?_
            refine j_iload_n C 3 rfl dX12_both_74 rfl ?_
            refine j_imul C dX12_both_75 ?_
            refine j_bipush C dX12_both_76 cb_60 ?_
            refine j_isub C dX12_both_78 ?_
            refine j_imul C dX12_both_79 ?_
            refine lt_elim h (fun x29 e_x29 h => ?_)
            refine j_top e_x29 ?_
            refine j_istore C [(6, .int x29), (5, .int r27), (0, .ref (ad 0)), (1, .int x7), (2, .int x8), (3, .int x9), (4, .int x10)] dX12_both_80 (by decide) rfl ?_
            refine j_iconst C dX12_both_82 ci_m1 ?_
            refine j_istore C [(7, .int (-1 : Int32)), (6, .int x29), (5, .int r27), (0, .ref (ad 0)), (1, .int x7), (2, .int x8), (3, .int x9), (4, .int x10)] dX12_both_83 (by decide) rfl ?_
            refine j_iconst C dX12_both_85 ci_0 ?_
            refine j_istore C [(8, .int (0 : Int32)), (7, .int (-1 : Int32)), (6, .int x29), (5, .int r27), (0, .ref (ad 0)), (1, .int x7), (2, .int x8), (3, .int x9), (4, .int x10)] dX12_both_86 (by decide) rfl ?_
            refine j_iconst C dX12_both_88 ci_0 ?_
            refine j_istore C [(9, .int (0 : Int32)), (8, .int (0 : Int32)), (7, .int (-1 : Int32)), (6, .int x29), (5, .int r27), (0, .ref (ad 0)), (1, .int x7), (2, .int x8), (3, .int x9), (4, .int x10)] dX12_both_89 (by decide) rfl ?_
            refine bk_elim h (fun X201_86 e_X201_86 h => ?_)
            have HX201_86 : ∀ (x87 : Int32) (x88 : Int32) (x89 : Int32) (S90 : Nat → Int32), X201_86 x87 x88 x89 S90 = some (r0, S0) → jW p l e ({ frames := 5, cells := 0, slots := 0, locals := 121 }) s m args below meth c (MQ below (jQc D TR ad cA (some (.int r0)) s.heap.size S0 V L) args s 0 0 (jA ad TR s.heap.size)) D TR ad cA (jA ad TR s.heap.size) 13 0 0 201 [(4, .int x87), (7, .int x88), (8, .int x89)] [] S90 V L := by
              subst e_X201_86
              intro x87 x88 x89 S90 h
              refine j_iload C 0 rfl dX12_both_201 ?_
              refine j_if_ne (tgt := 211) C dX12_both_203 (by decide) (fun c91 => ?_) (fun c91 => ?_)
              · have h := (if_neg c91).symm.trans h
                refine j_iload C 2 rfl dX12_both_211 ?_
                cases h
                exact j_iret C hr hlk rfl dX12_both_213
              · have h := (if_pos c91).symm.trans h
                refine j_iload C 1 rfl dX12_both_206 ?_
                refine j_goto (tgt := 213) C dX12_both_208 (by decide) ?_
                cases h
                exact j_iret C hr hlk rfl dX12_both_213
            exact j_sub [5, 6, 9, 4, 3, 2, 1, 0] rfl (H_fX12_both_0_L91 _ HX201_86 FU _ _ _ _ _ _ _ _ h)
          · have h := (if_pos c26).symm.trans h
            refine j_iconst C dX12_both_62 ci_0 ?_
            cases h
            exact j_iret C hr hlk rfl dX12_both_63
    refine bk_elim h (fun K25_92 e_K25_92 h => ?_)
    have HK25_92 : ∀ (x93 : Int32) (x94 : Int32) (x95 : Int32) (x96 : Int32) (S97 : Nat → Int32), K25_92 x93 x94 x95 x96 S97 = some (r0, S0) → jW p l e ({ frames := 5, cells := 0, slots := 0, locals := 121 }) s m args below meth c (MQ below (jQc D TR ad cA (some (.int r0)) s.heap.size S0 V L) args s 0 0 (jA ad TR s.heap.size)) D TR ad cA (jA ad TR s.heap.size) 13 0 0 25 [(0, .ref (ad 0)), (1, .int x93), (2, .int x94), (3, .int x95), (4, .int x96)] [.ref (ad 0)] S97 V L := by
      subst e_K25_92
      intro x93 x94 x95 x96 S97 h
      refine j_iconst C dX12_both_25 ci_1 ?_
      refine j_goto (tgt := 30) C dX12_both_26 (by decide) ?_
      exact j_sub [0, 1, 2, 3, 4] rfl (HK30_6 _ _ _ _ _ _ h)
    refine j_if_eq (tgt := 25) C dX12_both_16 (by decide) (fun c98 => ?_) (fun c98 => ?_)
    · have h := (if_pos c98).symm.trans h
      exact j_sub [0, 1, 2, 3, 4] rfl (HK25_92 _ _ _ _ _ h)
    · have h := (if_neg c98).symm.trans h
      refine j_iload C 4 rfl dX12_both_19 ?_
      refine j_iconst C dX12_both_21 ci_1 ?_
      refine j_icmp_ne (tgt := 29) C dX12_both_22 (by decide) (fun c99 => ?_) (fun c99 => ?_)
      · have h := (if_neg c99).symm.trans h
        refine j_iconst C dX12_both_29 ci_0 ?_
        exact j_sub [0, 1, 2, 3, 4] rfl (HK30_6 _ _ _ _ _ _ h)
      · have h := (if_pos c99).symm.trans h
        exact j_sub [0, 1, 2, 3, 4] rfl (HK25_92 _ _ _ _ _ h)
theorem dX12_isOpen_0 : decode cX12_isOpen 0 = .ok (.iload_n 0, 1) := by decide +kernel
theorem dX12_isOpen_1 : decode cX12_isOpen 1 = .ok (.bipush 14, 2) := by decide +kernel
theorem dX12_isOpen_3 : decode cX12_isOpen 3 = .ok (.if_icmp .lt 7, 3) := by decide +kernel
theorem dX12_isOpen_6 : decode cX12_isOpen 6 = .ok (.iconst 1, 1) := by decide +kernel
theorem dX12_isOpen_7 : decode cX12_isOpen 7 = .ok (.goto 4, 3) := by decide +kernel
theorem dX12_isOpen_10 : decode cX12_isOpen 10 = .ok (.iconst 0, 1) := by decide +kernel
theorem dX12_isOpen_11 : decode cX12_isOpen 11 = .ok (.ireturn, 1) := by decide +kernel
def fX12_isOpen (a1 : Int32) : Option (Int32) :=
  (if a1 < (14 : Int32) then
  some (0 : Int32)
  else
  some (1 : Int32))
set_option maxHeartbeats 4000000 in
set_option maxRecDepth 100000 in
theorem kX12_isOpen (l : Launch) (B : jBT) (D : va_G) (ad : Nat → Nat) (cA : Nat → ClassId) (hI : jI ad TR) (S : Nat → Int32) (V : Nat → Nat → Int32) (L : Nat → Int64) (a1 : Int32) (r0 : Int32) (h : fX12_isOpen a1 = some r0) : jM l yX12_isOpen cX12_isOpen 1 (some .boolean) ({ frames := 0, cells := 0, slots := 0, locals := 0 }) B D TR ad cA [.int a1] S V L (some (.int r0)) S V L := by
  refine jM_of (plainFor_of_name (by decide)) TR_ok hI (Nat.le_of_ble_eq_true rfl) ?_
  intro p e s m args below meth c C hr hlk
  refine j_lv (lv2 := [(0, .int a1)]) rfl ?_
  unfold fX12_isOpen at h
  refine j_iload_n C 0 rfl dX12_isOpen_0 rfl ?_
  refine j_bipush C dX12_isOpen_1 cb_14 ?_
  refine j_icmp_lt (tgt := 10) C dX12_isOpen_3 (by decide) (fun c1 => ?_) (fun c1 => ?_)
  · have h := (if_pos c1).symm.trans h
    refine j_iconst C dX12_isOpen_10 ci_0 ?_
    cases h
    exact j_zret C hr hlk rfl rfl dX12_isOpen_11
  · have h := (if_neg c1).symm.trans h
    refine j_iconst C dX12_isOpen_6 ci_1 ?_
    refine j_goto (tgt := 11) C dX12_isOpen_7 (by decide) ?_
    cases h
    exact j_zret C hr hlk rfl rfl dX12_isOpen_11
theorem dX12_strength_0 : decode cX12_strength 0 = .ok (.iload_n 0, 1) := by decide +kernel
theorem dX12_strength_1 : decode cX12_strength 1 = .ok (.iconst 5, 1) := by decide +kernel
theorem dX12_strength_2 : decode cX12_strength 2 = .ok (.if_icmp .ne 7, 3) := by decide +kernel
theorem dX12_strength_5 : decode cX12_strength 5 = .ok (.iconst 1, 1) := by decide +kernel
theorem dX12_strength_6 : decode cX12_strength 6 = .ok (.goto 55, 3) := by decide +kernel
theorem dX12_strength_9 : decode cX12_strength 9 = .ok (.iload_n 0, 1) := by decide +kernel
theorem dX12_strength_10 : decode cX12_strength 10 = .ok (.iconst 4, 1) := by decide +kernel
theorem dX12_strength_11 : decode cX12_strength 11 = .ok (.if_icmp .ne 7, 3) := by decide +kernel
theorem dX12_strength_14 : decode cX12_strength 14 = .ok (.iconst 2, 1) := by decide +kernel
theorem dX12_strength_15 : decode cX12_strength 15 = .ok (.goto 46, 3) := by decide +kernel
theorem dX12_strength_18 : decode cX12_strength 18 = .ok (.iload_n 0, 1) := by decide +kernel
theorem dX12_strength_19 : decode cX12_strength 19 = .ok (.iconst 3, 1) := by decide +kernel
theorem dX12_strength_20 : decode cX12_strength 20 = .ok (.if_icmp .ne 7, 3) := by decide +kernel
theorem dX12_strength_23 : decode cX12_strength 23 = .ok (.iconst 3, 1) := by decide +kernel
theorem dX12_strength_24 : decode cX12_strength 24 = .ok (.goto 37, 3) := by decide +kernel
theorem dX12_strength_27 : decode cX12_strength 27 = .ok (.iload_n 0, 1) := by decide +kernel
theorem dX12_strength_28 : decode cX12_strength 28 = .ok (.bipush 6, 2) := by decide +kernel
theorem dX12_strength_30 : decode cX12_strength 30 = .ok (.if_icmp .eq 9, 3) := by decide +kernel
theorem dX12_strength_33 : decode cX12_strength 33 = .ok (.iload_n 0, 1) := by decide +kernel
theorem dX12_strength_34 : decode cX12_strength 34 = .ok (.bipush 7, 2) := by decide +kernel
theorem dX12_strength_36 : decode cX12_strength 36 = .ok (.if_icmp .ne 7, 3) := by decide +kernel
theorem dX12_strength_39 : decode cX12_strength 39 = .ok (.iconst 4, 1) := by decide +kernel
theorem dX12_strength_40 : decode cX12_strength 40 = .ok (.goto 21, 3) := by decide +kernel
theorem dX12_strength_43 : decode cX12_strength 43 = .ok (.iload_n 0, 1) := by decide +kernel
theorem dX12_strength_44 : decode cX12_strength 44 = .ok (.bipush 8, 2) := by decide +kernel
theorem dX12_strength_46 : decode cX12_strength 46 = .ok (.if_icmp .eq 9, 3) := by decide +kernel
theorem dX12_strength_49 : decode cX12_strength 49 = .ok (.iload_n 0, 1) := by decide +kernel
theorem dX12_strength_50 : decode cX12_strength 50 = .ok (.bipush 9, 2) := by decide +kernel
theorem dX12_strength_52 : decode cX12_strength 52 = .ok (.if_icmp .ne 7, 3) := by decide +kernel
theorem dX12_strength_55 : decode cX12_strength 55 = .ok (.iconst 5, 1) := by decide +kernel
theorem dX12_strength_56 : decode cX12_strength 56 = .ok (.goto 5, 3) := by decide +kernel
theorem dX12_strength_59 : decode cX12_strength 59 = .ok (.bipush 6, 2) := by decide +kernel
theorem dX12_strength_61 : decode cX12_strength 61 = .ok (.ireturn, 1) := by decide +kernel
def fX12_strength (a1 : Int32) : Option (Int32) :=
  (if a1 = (5 : Int32) then
  some (1 : Int32)
  else
  (if a1 = (4 : Int32) then
  some (2 : Int32)
  else
  (if a1 = (3 : Int32) then
  some (3 : Int32)
  else
  (if a1 = (6 : Int32) then
  some (4 : Int32)
  else
  (if a1 = (7 : Int32) then
  some (4 : Int32)
  else
  (if a1 = (8 : Int32) then
  some (5 : Int32)
  else
  (if a1 = (9 : Int32) then
  some (5 : Int32)
  else
  some (6 : Int32))))))))
set_option maxHeartbeats 4000000 in
set_option maxRecDepth 100000 in
theorem kX12_strength (l : Launch) (B : jBT) (D : va_G) (ad : Nat → Nat) (cA : Nat → ClassId) (hI : jI ad TR) (S : Nat → Int32) (V : Nat → Nat → Int32) (L : Nat → Int64) (a1 : Int32) (r0 : Int32) (h : fX12_strength a1 = some r0) : jM l yX12_strength cX12_strength 1 (some .int) ({ frames := 0, cells := 0, slots := 0, locals := 0 }) B D TR ad cA [.int a1] S V L (some (.int r0)) S V L := by
  refine jM_of (plainFor_of_name (by decide)) TR_ok hI (Nat.le_of_ble_eq_true rfl) ?_
  intro p e s m args below meth c C hr hlk
  refine j_lv (lv2 := [(0, .int a1)]) rfl ?_
  unfold fX12_strength at h
  refine j_iload_n C 0 rfl dX12_strength_0 rfl ?_
  refine j_iconst C dX12_strength_1 ci_5 ?_
  refine j_icmp_ne (tgt := 9) C dX12_strength_2 (by decide) (fun c1 => ?_) (fun c1 => ?_)
  · have h := (if_neg c1).symm.trans h
    refine j_iload_n C 0 rfl dX12_strength_9 rfl ?_
    refine j_iconst C dX12_strength_10 ci_4 ?_
    refine j_icmp_ne (tgt := 18) C dX12_strength_11 (by decide) (fun c2 => ?_) (fun c2 => ?_)
    · have h := (if_neg c2).symm.trans h
      refine j_iload_n C 0 rfl dX12_strength_18 rfl ?_
      refine j_iconst C dX12_strength_19 ci_3 ?_
      refine j_icmp_ne (tgt := 27) C dX12_strength_20 (by decide) (fun c3 => ?_) (fun c3 => ?_)
      · have h := (if_neg c3).symm.trans h
        refine j_iload_n C 0 rfl dX12_strength_27 rfl ?_
        refine j_bipush C dX12_strength_28 cb_6 ?_
        refine j_icmp_eq (tgt := 39) C dX12_strength_30 (by decide) (fun c4 => ?_) (fun c4 => ?_)
        · have h := (if_pos c4).symm.trans h
          refine j_iconst C dX12_strength_39 ci_4 ?_
          refine j_goto (tgt := 61) C dX12_strength_40 (by decide) ?_
          cases h
          exact j_iret C hr hlk rfl dX12_strength_61
        · have h := (if_neg c4).symm.trans h
          refine j_iload_n C 0 rfl dX12_strength_33 rfl ?_
          refine j_bipush C dX12_strength_34 cb_7 ?_
          refine j_icmp_ne (tgt := 43) C dX12_strength_36 (by decide) (fun c5 => ?_) (fun c5 => ?_)
          · have h := (if_neg c5).symm.trans h
            refine j_iload_n C 0 rfl dX12_strength_43 rfl ?_
            refine j_bipush C dX12_strength_44 cb_8 ?_
            refine j_icmp_eq (tgt := 55) C dX12_strength_46 (by decide) (fun c6 => ?_) (fun c6 => ?_)
            · have h := (if_pos c6).symm.trans h
              refine j_iconst C dX12_strength_55 ci_5 ?_
              refine j_goto (tgt := 61) C dX12_strength_56 (by decide) ?_
              cases h
              exact j_iret C hr hlk rfl dX12_strength_61
            · have h := (if_neg c6).symm.trans h
              refine j_iload_n C 0 rfl dX12_strength_49 rfl ?_
              refine j_bipush C dX12_strength_50 cb_9 ?_
              refine j_icmp_ne (tgt := 59) C dX12_strength_52 (by decide) (fun c7 => ?_) (fun c7 => ?_)
              · have h := (if_neg c7).symm.trans h
                refine j_bipush C dX12_strength_59 cb_6 ?_
                cases h
                exact j_iret C hr hlk rfl dX12_strength_61
              · have h := (if_pos c7).symm.trans h
                refine j_iconst C dX12_strength_55 ci_5 ?_
                refine j_goto (tgt := 61) C dX12_strength_56 (by decide) ?_
                cases h
                exact j_iret C hr hlk rfl dX12_strength_61
          · have h := (if_pos c5).symm.trans h
            refine j_iconst C dX12_strength_39 ci_4 ?_
            refine j_goto (tgt := 61) C dX12_strength_40 (by decide) ?_
            cases h
            exact j_iret C hr hlk rfl dX12_strength_61
      · have h := (if_pos c3).symm.trans h
        refine j_iconst C dX12_strength_23 ci_3 ?_
        refine j_goto (tgt := 61) C dX12_strength_24 (by decide) ?_
        cases h
        exact j_iret C hr hlk rfl dX12_strength_61
    · have h := (if_pos c2).symm.trans h
      refine j_iconst C dX12_strength_14 ci_2 ?_
      refine j_goto (tgt := 61) C dX12_strength_15 (by decide) ?_
      cases h
      exact j_iret C hr hlk rfl dX12_strength_61
  · have h := (if_pos c1).symm.trans h
    refine j_iconst C dX12_strength_5 ci_1 ?_
    refine j_goto (tgt := 61) C dX12_strength_6 (by decide) ?_
    cases h
    exact j_iret C hr hlk rfl dX12_strength_61
theorem dX12_puts_0 : decode cX12_puts 0 = .ok (.aload_n 0, 1) := by decide +kernel
theorem dX12_puts_1 : decode cX12_puts 1 = .ok (.getfield 50, 3) := by decide +kernel
theorem dX12_puts_4 : decode cX12_puts 4 = .ok (.aload_n 0, 1) := by decide +kernel
theorem dX12_puts_5 : decode cX12_puts 5 = .ok (.getfield 162, 3) := by decide +kernel
theorem dX12_puts_8 : decode cX12_puts 8 = .ok (.iload_n 1, 1) := by decide +kernel
theorem dX12_puts_9 : decode cX12_puts 9 = .ok (.iastore, 1) := by decide +kernel
theorem dX12_puts_10 : decode cX12_puts 10 = .ok (.aload_n 0, 1) := by decide +kernel
theorem dX12_puts_11 : decode cX12_puts 11 = .ok (.dup, 1) := by decide +kernel
theorem dX12_puts_12 : decode cX12_puts 12 = .ok (.getfield 162, 3) := by decide +kernel
theorem dX12_puts_15 : decode cX12_puts 15 = .ok (.iconst 1, 1) := by decide +kernel
theorem dX12_puts_16 : decode cX12_puts 16 = .ok (.iadd, 1) := by decide +kernel
theorem dX12_puts_17 : decode cX12_puts 17 = .ok (.putfield 162, 3) := by decide +kernel
theorem dX12_puts_20 : decode cX12_puts 20 = .ok (.return_, 1) := by decide +kernel
def fX12_puts_0 (S : Nat → Int32) (V : Nat → Nat → Int32) (a1 : Int32) : Option ((Nat → Int32) × (Nat → Nat → Int32)) :=
  lt ((S 33)) (fun x1 =>
  gd (ib x1 1600) (
  lt (va_up V 10 (upd (V 10) (x1).toNatClampNeg a1)) (fun V3 =>
  lt (((S 33) + (1 : Int32))) (fun x4 =>
  lt (va_up S 33 x4) (fun S5 =>
  some (S5, V3))))))
set_option maxHeartbeats 4000000 in
set_option maxRecDepth 100000 in
theorem kX12_puts_0 (l : Launch) (B : jBT) (D : va_G) (ad : Nat → Nat) (cA : Nat → ClassId) (hI : jI ad TR) (S : Nat → Int32) (V : Nat → Nat → Int32) (L : Nat → Int64) (a1 : Int32) (S0 : Nat → Int32) (V0 : Nat → Nat → Int32) (h : fX12_puts_0 S V a1 = some (S0, V0)) : jM l yX12_puts cX12_puts 2 none ({ frames := 0, cells := 0, slots := 0, locals := 0 }) B D TR ad cA [.ref (ad 0), .int a1] S V L none S0 V0 L := by
  refine jM_of (plainFor_of_name (by decide)) TR_ok hI (Nat.le_of_ble_eq_true rfl) ?_
  intro p e s m args below meth c C hr hlk
  refine j_lv (lv2 := [(0, .ref (ad 0)), (1, .int a1)]) rfl ?_
  unfold fX12_puts_0 at h
  refine j_aload_n C 0 rfl dX12_puts_0 rfl ?_
  refine fg_X12_50_TR_0 C dX12_puts_1 ?_
  refine j_aload_n C 0 rfl dX12_puts_4 rfl ?_
  refine fg_X12_162_TR_0 C dX12_puts_5 ?_
  refine j_iload_n C 1 rfl dX12_puts_8 rfl ?_
  refine lt_elim h (fun x1 e_x1 h => ?_)
  refine j_top2 e_x1 ?_
  obtain ⟨g2, h⟩ := gd_elim h
  refine j_iast C tr_10 (ib_in g2) dX12_puts_9 ?_
  refine lt_elim h (fun V3 e_V3 h => ?_)
  refine j_V e_V3 ?_
  refine j_aload_n C 0 rfl dX12_puts_10 rfl ?_
  refine j_dup C dX12_puts_11 rfl ?_
  refine fg_X12_162_TR_0 C dX12_puts_12 ?_
  refine j_iconst C dX12_puts_15 ci_1 ?_
  refine j_iadd C dX12_puts_16 ?_
  refine lt_elim h (fun x4 e_x4 h => ?_)
  refine j_top e_x4 ?_
  refine fp_X12_162_TR_0 C dX12_puts_17 ?_
  refine lt_elim h (fun S5 e_S5 h => ?_)
  refine j_S e_S5 ?_
  cases h
  exact j_vret C hr hlk rfl dX12_puts_20
theorem dX12_drops_0 : decode cX12_drops 0 = .ok (.aload_n 0, 1) := by decide +kernel
theorem dX12_drops_1 : decode cX12_drops 1 = .ok (.getfield 165, 3) := by decide +kernel
theorem dX12_drops_4 : decode cX12_drops 4 = .ok (.ifCond .le 64, 3) := by decide +kernel
theorem dX12_drops_7 : decode cX12_drops 7 = .ok (.aload_n 0, 1) := by decide +kernel
theorem dX12_drops_8 : decode cX12_drops 8 = .ok (.getfield 53, 3) := by decide +kernel
theorem dX12_drops_11 : decode cX12_drops 11 = .ok (.aload_n 0, 1) := by decide +kernel
theorem dX12_drops_12 : decode cX12_drops 12 = .ok (.getfield 165, 3) := by decide +kernel
theorem dX12_drops_15 : decode cX12_drops 15 = .ok (.iconst 1, 1) := by decide +kernel
theorem dX12_drops_16 : decode cX12_drops 16 = .ok (.isub, 1) := by decide +kernel
theorem dX12_drops_17 : decode cX12_drops 17 = .ok (.iaload, 1) := by decide +kernel
theorem dX12_drops_18 : decode cX12_drops 18 = .ok (.invokestatic 168, 3) := by decide +kernel
theorem dX12_drops_21 : decode cX12_drops 21 = .ok (.ifCond .ne 47, 3) := by decide +kernel
theorem dX12_drops_24 : decode cX12_drops 24 = .ok (.aload_n 0, 1) := by decide +kernel
theorem dX12_drops_25 : decode cX12_drops 25 = .ok (.getfield 53, 3) := by decide +kernel
theorem dX12_drops_28 : decode cX12_drops 28 = .ok (.aload_n 0, 1) := by decide +kernel
theorem dX12_drops_29 : decode cX12_drops 29 = .ok (.getfield 165, 3) := by decide +kernel
theorem dX12_drops_32 : decode cX12_drops 32 = .ok (.iconst 1, 1) := by decide +kernel
theorem dX12_drops_33 : decode cX12_drops 33 = .ok (.isub, 1) := by decide +kernel
theorem dX12_drops_34 : decode cX12_drops 34 = .ok (.iaload, 1) := by decide +kernel
theorem dX12_drops_35 : decode cX12_drops 35 = .ok (.invokestatic 171, 3) := by decide +kernel
theorem dX12_drops_38 : decode cX12_drops 38 = .ok (.iload_n 1, 1) := by decide +kernel
theorem dX12_drops_39 : decode cX12_drops 39 = .ok (.if_icmp .lt 29, 3) := by decide +kernel
theorem dX12_drops_42 : decode cX12_drops 42 = .ok (.aload_n 0, 1) := by decide +kernel
theorem dX12_drops_43 : decode cX12_drops 43 = .ok (.dup, 1) := by decide +kernel
theorem dX12_drops_44 : decode cX12_drops 44 = .ok (.getfield 165, 3) := by decide +kernel
theorem dX12_drops_47 : decode cX12_drops 47 = .ok (.iconst 1, 1) := by decide +kernel
theorem dX12_drops_48 : decode cX12_drops 48 = .ok (.isub, 1) := by decide +kernel
theorem dX12_drops_49 : decode cX12_drops 49 = .ok (.putfield 165, 3) := by decide +kernel
theorem dX12_drops_52 : decode cX12_drops 52 = .ok (.aload_n 0, 1) := by decide +kernel
theorem dX12_drops_53 : decode cX12_drops 53 = .ok (.aload_n 0, 1) := by decide +kernel
theorem dX12_drops_54 : decode cX12_drops 54 = .ok (.getfield 53, 3) := by decide +kernel
theorem dX12_drops_57 : decode cX12_drops 57 = .ok (.aload_n 0, 1) := by decide +kernel
theorem dX12_drops_58 : decode cX12_drops 58 = .ok (.getfield 165, 3) := by decide +kernel
theorem dX12_drops_61 : decode cX12_drops 61 = .ok (.iaload, 1) := by decide +kernel
theorem dX12_drops_62 : decode cX12_drops 62 = .ok (.invokevirtual 174, 3) := by decide +kernel
theorem dX12_drops_65 : decode cX12_drops 65 = .ok (.goto (-65), 3) := by decide +kernel
theorem dX12_drops_68 : decode cX12_drops 68 = .ok (.return_, 1) := by decide +kernel
def fX12_drops_0_L0 : Nat → Int32 → (Nat → Int32) → (Nat → Nat → Int32) → Option ((Nat → Int32) × (Nat → Nat → Int32))
  | 0, _, _, _ => none
  | n + 1, x1, S2, V3 =>
    (if (S2 34) ≤ 0 then
    some (S2, V3)
    else
    lt (((S2 34) - (1 : Int32))) (fun x5 =>
    gd (ib x5 800) (
    bd1 (fX12_isOpen ((V3 11 (x5).toNatClampNeg))) (fun r7 =>
    (if r7 = 0 then
    lt (((S2 34) - (1 : Int32))) (fun x10 =>
    gd (ib x10 800) (
    bd1 (fX12_strength ((V3 11 (x10).toNatClampNeg))) (fun r12 =>
    (if r12 < x1 then
    some (S2, V3)
    else
    lt (((S2 34) - (1 : Int32))) (fun x15 =>
    lt (va_up S2 34 x15) (fun S16 =>
    lt ((S16 34)) (fun x17 =>
    gd (ib x17 800) (
    bd2 (fX12_puts_0 S16 V3 ((V3 11 (x17).toNatClampNeg))) (fun S19 V20 =>
    fX12_drops_0_L0 n x1 S19 V20)))))))))
    else
    some (S2, V3))))))
def fX12_drops_0 (S : Nat → Int32) (V : Nat → Nat → Int32) (a1 : Int32) : Option ((Nat → Int32) × (Nat → Nat → Int32)) :=
  fX12_drops_0_L0 FU a1 S V
set_option maxHeartbeats 4000000 in
set_option maxRecDepth 100000 in
theorem kX12_drops_0 (l : Launch) (B : jBT) (D : va_G) (ad : Nat → Nat) (cA : Nat → ClassId) (hI : jI ad TR) (S : Nat → Int32) (V : Nat → Nat → Int32) (L : Nat → Int64) (a1 : Int32) (S0 : Nat → Int32) (V0 : Nat → Nat → Int32) (h : fX12_drops_0 S V a1 = some (S0, V0)) : jM l yX12_drops cX12_drops 2 none ({ frames := 1, cells := 0, slots := 0, locals := 21 }) B D TR ad cA [.ref (ad 0), .int a1] S V L none S0 V0 L := by
  refine jM_of (plainFor_of_name (by decide)) TR_ok hI (Nat.le_of_ble_eq_true rfl) ?_
  intro p e s m args below meth c C hr hlk
  refine j_lv (lv2 := [(0, .ref (ad 0)), (1, .int a1)]) rfl ?_
  unfold fX12_drops_0 at h
  have H_fX12_drops_0_L0 : ∀ (n : Nat) (x1 : Int32) (S2 : Nat → Int32) (V3 : Nat → Nat → Int32), fX12_drops_0_L0 n x1 S2 V3 = some (S0, V0) → jW p l e ({ frames := 1, cells := 0, slots := 0, locals := 21 }) s m args below meth c (MQ below (jQc D TR ad cA none s.heap.size S0 V0 L) args s 0 0 (jA ad TR s.heap.size)) D TR ad cA (jA ad TR s.heap.size) 2 0 0 0 [(0, .ref (ad 0)), (1, .int x1)] [] S2 V3 L := by
    intro n
    induction n with
    | zero =>
      intro x1 S2 V3 h
      cases (show (none : Option ((Nat → Int32) × (Nat → Nat → Int32))) = some (S0, V0) from h)
    | succ n ih =>
      intro x1 S2 V3 h
      unfold fX12_drops_0_L0 at h
      refine j_aload_n C 0 rfl dX12_drops_0 rfl ?_
      refine fg_X12_165_TR_0 C dX12_drops_1 ?_
      refine j_if_le (tgt := 68) C dX12_drops_4 (by decide) (fun c4 => ?_) (fun c4 => ?_)
      · have h := (if_pos c4).symm.trans h
        cases h
        exact j_vret C hr hlk rfl dX12_drops_68
      · have h := (if_neg c4).symm.trans h
        refine j_aload_n C 0 rfl dX12_drops_7 rfl ?_
        refine fg_X12_53_TR_0 C dX12_drops_8 ?_
        refine j_aload_n C 0 rfl dX12_drops_11 rfl ?_
        refine fg_X12_165_TR_0 C dX12_drops_12 ?_
        refine j_iconst C dX12_drops_15 ci_1 ?_
        refine j_isub C dX12_drops_16 ?_
        refine lt_elim h (fun x5 e_x5 h => ?_)
        refine j_top e_x5 ?_
        obtain ⟨g6, h⟩ := gd_elim h
        refine j_iald C tr_11 (ib_in g6) dX12_drops_17 ?_
        obtain ⟨r7, h8, h⟩ := bd1_elim h
        refine j_callS (As := [.int (V3 11 (x5).toNatClampNeg)]) (rest := []) C (kX12_isOpen l B D ad cA hI S2 V3 L ((V3 11 (x5).toNatClampNeg)) _ h8) mw_X12_isOpen wd1734 wd1733 ⟨rfl, rfl, by decide, by decide⟩ ⟨Nat.zero_le _, Nat.zero_le _⟩ rfl rfl (Nat.le_of_ble_eq_true rfl) dX12_drops_18 ?_
        refine j_if_ne (tgt := 68) C dX12_drops_21 (by decide) (fun c9 => ?_) (fun c9 => ?_)
        · have h := (if_neg c9).symm.trans h
          cases h
          exact j_vret C hr hlk rfl dX12_drops_68
        · have h := (if_pos c9).symm.trans h
          refine j_aload_n C 0 rfl dX12_drops_24 rfl ?_
          refine fg_X12_53_TR_0 C dX12_drops_25 ?_
          refine j_aload_n C 0 rfl dX12_drops_28 rfl ?_
          refine fg_X12_165_TR_0 C dX12_drops_29 ?_
          refine j_iconst C dX12_drops_32 ci_1 ?_
          refine j_isub C dX12_drops_33 ?_
          refine lt_elim h (fun x10 e_x10 h => ?_)
          refine j_top e_x10 ?_
          obtain ⟨g11, h⟩ := gd_elim h
          refine j_iald C tr_11 (ib_in g11) dX12_drops_34 ?_
          obtain ⟨r12, h13, h⟩ := bd1_elim h
          refine j_callS (As := [.int (V3 11 (x10).toNatClampNeg)]) (rest := []) C (kX12_strength l B D ad cA hI S2 V3 L ((V3 11 (x10).toNatClampNeg)) _ h13) mw_X12_strength wd1737 wd1736 ⟨rfl, rfl, by decide, by decide⟩ ⟨Nat.zero_le _, Nat.zero_le _⟩ rfl rfl (Nat.le_of_ble_eq_true rfl) dX12_drops_35 ?_
          refine j_iload_n C 1 rfl dX12_drops_38 rfl ?_
          refine j_icmp_lt (tgt := 68) C dX12_drops_39 (by decide) (fun c14 => ?_) (fun c14 => ?_)
          · have h := (if_pos c14).symm.trans h
            cases h
            exact j_vret C hr hlk rfl dX12_drops_68
          · have h := (if_neg c14).symm.trans h
            refine j_aload_n C 0 rfl dX12_drops_42 rfl ?_
            refine j_dup C dX12_drops_43 rfl ?_
            refine fg_X12_165_TR_0 C dX12_drops_44 ?_
            refine j_iconst C dX12_drops_47 ci_1 ?_
            refine j_isub C dX12_drops_48 ?_
            refine lt_elim h (fun x15 e_x15 h => ?_)
            refine j_top e_x15 ?_
            refine fp_X12_165_TR_0 C dX12_drops_49 ?_
            refine lt_elim h (fun S16 e_S16 h => ?_)
            refine j_S e_S16 ?_
            refine j_aload_n C 0 rfl dX12_drops_52 rfl ?_
            refine j_aload_n C 0 rfl dX12_drops_53 rfl ?_
            refine fg_X12_53_TR_0 C dX12_drops_54 ?_
            refine j_aload_n C 0 rfl dX12_drops_57 rfl ?_
            refine fg_X12_165_TR_0 C dX12_drops_58 ?_
            refine lt_elim h (fun x17 e_x17 h => ?_)
            refine j_top e_x17 ?_
            obtain ⟨g18, h⟩ := gd_elim h
            refine j_iald C tr_11 (ib_in g18) dX12_drops_61 ?_
            obtain ⟨S19, V20, h21, h⟩ := bd2_elim h
            refine j_callV (As := [.int (V3 11 (x17).toNatClampNeg)]) (rest := []) C (kX12_puts_0 l B D ad cA hI S16 V3 L ((V3 11 (x17).toNatClampNeg)) _ _ h21) mw_X12_puts wd1727 wd75 wd1725 tr_0 rfl rfl ⟨rfl, rfl, by decide, by decide⟩ ⟨Nat.zero_le _, Nat.zero_le _⟩ rfl rfl (Nat.le_of_ble_eq_true rfl) dX12_drops_62 ?_
            refine j_goto (tgt := 0) C dX12_drops_65 (by decide) ?_
            exact j_sub [0, 1] rfl (ih _ _ _ h)
  exact j_sub [0, 1] rfl (H_fX12_drops_0_L0 FU _ _ _ h)
theorem dX12_closes_0 : decode cX12_closes 0 = .ok (.aload_n 0, 1) := by decide +kernel
theorem dX12_closes_1 : decode cX12_closes 1 = .ok (.iconst 0, 1) := by decide +kernel
theorem dX12_closes_2 : decode cX12_closes 2 = .ok (.invokevirtual 196, 3) := by decide +kernel
theorem dX12_closes_5 : decode cX12_closes 5 = .ok (.aload_n 0, 1) := by decide +kernel
theorem dX12_closes_6 : decode cX12_closes 6 = .ok (.dup, 1) := by decide +kernel
theorem dX12_closes_7 : decode cX12_closes 7 = .ok (.getfield 165, 3) := by decide +kernel
theorem dX12_closes_10 : decode cX12_closes 10 = .ok (.iconst 1, 1) := by decide +kernel
theorem dX12_closes_11 : decode cX12_closes 11 = .ok (.isub, 1) := by decide +kernel
theorem dX12_closes_12 : decode cX12_closes 12 = .ok (.putfield 165, 3) := by decide +kernel
theorem dX12_closes_15 : decode cX12_closes 15 = .ok (.aload_n 0, 1) := by decide +kernel
theorem dX12_closes_16 : decode cX12_closes 16 = .ok (.dup, 1) := by decide +kernel
theorem dX12_closes_17 : decode cX12_closes 17 = .ok (.getfield 181, 3) := by decide +kernel
theorem dX12_closes_20 : decode cX12_closes 20 = .ok (.iconst 1, 1) := by decide +kernel
theorem dX12_closes_21 : decode cX12_closes 21 = .ok (.isub, 1) := by decide +kernel
theorem dX12_closes_22 : decode cX12_closes 22 = .ok (.putfield 181, 3) := by decide +kernel
theorem dX12_closes_25 : decode cX12_closes 25 = .ok (.aload_n 0, 1) := by decide +kernel
theorem dX12_closes_26 : decode cX12_closes 26 = .ok (.invokevirtual 156, 3) := by decide +kernel
theorem dX12_closes_29 : decode cX12_closes 29 = .ok (.return_, 1) := by decide +kernel
def fX12_closes_0 (S : Nat → Int32) (V : Nat → Nat → Int32) (L : Nat → Int64) : Option ((Nat → Int32) × (Nat → Nat → Int32) × (Nat → Int64)) :=
  bd2 (fX12_drops_0 S V (0 : Int32)) (fun S1 V2 =>
  lt (((S1 34) - (1 : Int32))) (fun x4 =>
  lt (va_up S1 34 x4) (fun S5 =>
  lt (((S5 35) - (1 : Int32))) (fun x6 =>
  lt (va_up S5 35 x6) (fun S7 =>
  bd2 (fX12_goes_0 S7 V2 L) (fun S8 L9 =>
  some (S8, V2, L9)))))))
set_option maxHeartbeats 4000000 in
set_option maxRecDepth 100000 in
theorem kX12_closes_0 (l : Launch) (B : jBT) (D : va_G) (ad : Nat → Nat) (cA : Nat → ClassId) (hI : jI ad TR) (S : Nat → Int32) (V : Nat → Nat → Int32) (L : Nat → Int64) (S0 : Nat → Int32) (V0 : Nat → Nat → Int32) (L0 : Nat → Int64) (h : fX12_closes_0 S V L = some (S0, V0, L0)) : jM l yX12_closes cX12_closes 1 none ({ frames := 2, cells := 0, slots := 0, locals := 42 }) B D TR ad cA [.ref (ad 0)] S V L none S0 V0 L0 := by
  refine jM_of (plainFor_of_name (by decide)) TR_ok hI (Nat.le_of_ble_eq_true rfl) ?_
  intro p e s m args below meth c C hr hlk
  refine j_lv (lv2 := [(0, .ref (ad 0))]) rfl ?_
  unfold fX12_closes_0 at h
  refine j_aload_n C 0 rfl dX12_closes_0 rfl ?_
  refine j_iconst C dX12_closes_1 ci_0 ?_
  obtain ⟨S1, V2, h3, h⟩ := bd2_elim h
  refine j_callV (As := [.int (0 : Int32)]) (rest := []) C (kX12_drops_0 l B D ad cA hI S V L (0 : Int32) _ _ h3) mw_X12_drops wd1731 wd76 wd1729 tr_0 rfl rfl ⟨rfl, rfl, by decide, by decide⟩ ⟨Nat.zero_le _, Nat.zero_le _⟩ rfl rfl (Nat.le_of_ble_eq_true rfl) dX12_closes_2 ?_
  refine j_aload_n C 0 rfl dX12_closes_5 rfl ?_
  refine j_dup C dX12_closes_6 rfl ?_
  refine fg_X12_165_TR_0 C dX12_closes_7 ?_
  refine j_iconst C dX12_closes_10 ci_1 ?_
  refine j_isub C dX12_closes_11 ?_
  refine lt_elim h (fun x4 e_x4 h => ?_)
  refine j_top e_x4 ?_
  refine fp_X12_165_TR_0 C dX12_closes_12 ?_
  refine lt_elim h (fun S5 e_S5 h => ?_)
  refine j_S e_S5 ?_
  refine j_aload_n C 0 rfl dX12_closes_15 rfl ?_
  refine j_dup C dX12_closes_16 rfl ?_
  refine fg_X12_181_TR_0 C dX12_closes_17 ?_
  refine j_iconst C dX12_closes_20 ci_1 ?_
  refine j_isub C dX12_closes_21 ?_
  refine lt_elim h (fun x6 e_x6 h => ?_)
  refine j_top e_x6 ?_
  refine fp_X12_181_TR_0 C dX12_closes_22 ?_
  refine lt_elim h (fun S7 e_S7 h => ?_)
  refine j_S e_S7 ?_
  refine j_aload_n C 0 rfl dX12_closes_25 rfl ?_
  obtain ⟨S8, L9, h10, h⟩ := bd2_elim h
  refine j_callV (As := []) (rest := []) C (kX12_goes_0 l B D ad cA hI S7 V2 L _ _ h10) mw_X12_goes wd1642 wd57 wd1640 tr_0 rfl rfl ⟨rfl, rfl, by decide, by decide⟩ ⟨Nat.zero_le _, Nat.zero_le _⟩ rfl rfl (Nat.le_of_ble_eq_true rfl) dX12_closes_26 ?_
  cases h
  exact j_vret C hr hlk rfl dX12_closes_29
