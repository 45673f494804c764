theorem dX3_readTenant_0 : decode cX3_readTenant 0 = .ok (.aload_n 0, 1) := by decide +kernel
theorem dX3_readTenant_1 : decode cX3_readTenant 1 = .ok (.getfield 12, 3) := by decide +kernel
theorem dX3_readTenant_4 : decode cX3_readTenant 4 = .ok (.getfield 105, 3) := by decide +kernel
theorem dX3_readTenant_7 : decode cX3_readTenant 7 = .ok (.istore_n 1, 1) := by decide +kernel
theorem dX3_readTenant_8 : decode cX3_readTenant 8 = .ok (.iload_n 1, 1) := by decide +kernel
theorem dX3_readTenant_9 : decode cX3_readTenant 9 = .ok (.bipush 6, 2) := by decide +kernel
theorem dX3_readTenant_11 : decode cX3_readTenant 11 = .ok (.if_icmp .lt 5, 3) := by decide +kernel
theorem dX3_readTenant_14 : decode cX3_readTenant 14 = .ok (.iconst 2, 1) := by decide +kernel
theorem dX3_readTenant_15 : decode cX3_readTenant 15 = .ok (.ireturn, 1) := by decide +kernel
theorem dX3_readTenant_16 : decode cX3_readTenant 16 = .ok (.aload_n 0, 1) := by decide +kernel
theorem dX3_readTenant_17 : decode cX3_readTenant 17 = .ok (.getfield 21, 3) := by decide +kernel
theorem dX3_readTenant_20 : decode cX3_readTenant 20 = .ok (.invokevirtual 64, 3) := by decide +kernel
theorem dX3_readTenant_23 : decode cX3_readTenant 23 = .ok (.aload_n 0, 1) := by decide +kernel
theorem dX3_readTenant_24 : decode cX3_readTenant 24 = .ok (.iconst 0, 1) := by decide +kernel
theorem dX3_readTenant_25 : decode cX3_readTenant 25 = .ok (.bipush 20, 2) := by decide +kernel
theorem dX3_readTenant_27 : decode cX3_readTenant 27 = .ok (.invokevirtual 85, 3) := by decide +kernel
theorem dX3_readTenant_30 : decode cX3_readTenant 30 = .ok (.istore_n 2, 1) := by decide +kernel
theorem dX3_readTenant_31 : decode cX3_readTenant 31 = .ok (.iload_n 2, 1) := by decide +kernel
theorem dX3_readTenant_32 : decode cX3_readTenant 32 = .ok (.ifCond .eq 5, 3) := by decide +kernel
theorem dX3_readTenant_35 : decode cX3_readTenant 35 = .ok (.iload_n 2, 1) := by decide +kernel
theorem dX3_readTenant_36 : decode cX3_readTenant 36 = .ok (.ireturn, 1) := by decide +kernel
theorem dX3_readTenant_37 : decode cX3_readTenant 37 = .ok (.aload_n 0, 1) := by decide +kernel
theorem dX3_readTenant_38 : decode cX3_readTenant 38 = .ok (.getfield 12, 3) := by decide +kernel
theorem dX3_readTenant_41 : decode cX3_readTenant 41 = .ok (.getfield 108, 3) := by decide +kernel
theorem dX3_readTenant_44 : decode cX3_readTenant 44 = .ok (.iload_n 1, 1) := by decide +kernel
theorem dX3_readTenant_45 : decode cX3_readTenant 45 = .ok (.aload_n 0, 1) := by decide +kernel
theorem dX3_readTenant_46 : decode cX3_readTenant 46 = .ok (.getfield 89, 3) := by decide +kernel
theorem dX3_readTenant_49 : decode cX3_readTenant 49 = .ok (.iastore, 1) := by decide +kernel
theorem dX3_readTenant_50 : decode cX3_readTenant 50 = .ok (.aload_n 0, 1) := by decide +kernel
theorem dX3_readTenant_51 : decode cX3_readTenant 51 = .ok (.getfield 21, 3) := by decide +kernel
theorem dX3_readTenant_54 : decode cX3_readTenant 54 = .ok (.invokevirtual 51, 3) := by decide +kernel
theorem dX3_readTenant_57 : decode cX3_readTenant 57 = .ok (.bipush 107, 2) := by decide +kernel
theorem dX3_readTenant_59 : decode cX3_readTenant 59 = .ok (.if_icmp .lt 15, 3) := by decide +kernel
theorem dX3_readTenant_62 : decode cX3_readTenant 62 = .ok (.aload_n 0, 1) := by decide +kernel
theorem dX3_readTenant_63 : decode cX3_readTenant 63 = .ok (.getfield 21, 3) := by decide +kernel
theorem dX3_readTenant_66 : decode cX3_readTenant 66 = .ok (.invokevirtual 51, 3) := by decide +kernel
theorem dX3_readTenant_69 : decode cX3_readTenant 69 = .ok (.bipush 109, 2) := by decide +kernel
theorem dX3_readTenant_71 : decode cX3_readTenant 71 = .ok (.if_icmp .le 5, 3) := by decide +kernel
theorem dX3_readTenant_74 : decode cX3_readTenant 74 = .ok (.iconst 1, 1) := by decide +kernel
theorem dX3_readTenant_75 : decode cX3_readTenant 75 = .ok (.ireturn, 1) := by decide +kernel
theorem dX3_readTenant_76 : decode cX3_readTenant 76 = .ok (.aload_n 0, 1) := by decide +kernel
theorem dX3_readTenant_77 : decode cX3_readTenant 77 = .ok (.getfield 12, 3) := by decide +kernel
theorem dX3_readTenant_80 : decode cX3_readTenant 80 = .ok (.getfield 112, 3) := by decide +kernel
theorem dX3_readTenant_83 : decode cX3_readTenant 83 = .ok (.iload_n 1, 1) := by decide +kernel
theorem dX3_readTenant_84 : decode cX3_readTenant 84 = .ok (.aload_n 0, 1) := by decide +kernel
theorem dX3_readTenant_85 : decode cX3_readTenant 85 = .ok (.getfield 21, 3) := by decide +kernel
theorem dX3_readTenant_88 : decode cX3_readTenant 88 = .ok (.invokevirtual 51, 3) := by decide +kernel
theorem dX3_readTenant_91 : decode cX3_readTenant 91 = .ok (.bipush 107, 2) := by decide +kernel
theorem dX3_readTenant_93 : decode cX3_readTenant 93 = .ok (.isub, 1) := by decide +kernel
theorem dX3_readTenant_94 : decode cX3_readTenant 94 = .ok (.iastore, 1) := by decide +kernel
theorem dX3_readTenant_95 : decode cX3_readTenant 95 = .ok (.aload_n 0, 1) := by decide +kernel
theorem dX3_readTenant_96 : decode cX3_readTenant 96 = .ok (.getfield 21, 3) := by decide +kernel
theorem dX3_readTenant_99 : decode cX3_readTenant 99 = .ok (.invokevirtual 64, 3) := by decide +kernel
theorem dX3_readTenant_102 : decode cX3_readTenant 102 = .ok (.aload_n 0, 1) := by decide +kernel
theorem dX3_readTenant_103 : decode cX3_readTenant 103 = .ok (.iconst 1, 1) := by decide +kernel
theorem dX3_readTenant_104 : decode cX3_readTenant 104 = .ok (.bipush 12, 2) := by decide +kernel
theorem dX3_readTenant_106 : decode cX3_readTenant 106 = .ok (.invokevirtual 85, 3) := by decide +kernel
theorem dX3_readTenant_109 : decode cX3_readTenant 109 = .ok (.istore_n 2, 1) := by decide +kernel
theorem dX3_readTenant_110 : decode cX3_readTenant 110 = .ok (.iload_n 2, 1) := by decide +kernel
theorem dX3_readTenant_111 : decode cX3_readTenant 111 = .ok (.ifCond .eq 5, 3) := by decide +kernel
theorem dX3_readTenant_114 : decode cX3_readTenant 114 = .ok (.iload_n 2, 1) := by decide +kernel
theorem dX3_readTenant_115 : decode cX3_readTenant 115 = .ok (.ireturn, 1) := by decide +kernel
theorem dX3_readTenant_116 : decode cX3_readTenant 116 = .ok (.aload_n 0, 1) := by decide +kernel
theorem dX3_readTenant_117 : decode cX3_readTenant 117 = .ok (.getfield 12, 3) := by decide +kernel
theorem dX3_readTenant_120 : decode cX3_readTenant 120 = .ok (.getfield 115, 3) := by decide +kernel
theorem dX3_readTenant_123 : decode cX3_readTenant 123 = .ok (.iload_n 1, 1) := by decide +kernel
theorem dX3_readTenant_124 : decode cX3_readTenant 124 = .ok (.aload_n 0, 1) := by decide +kernel
theorem dX3_readTenant_125 : decode cX3_readTenant 125 = .ok (.getfield 89, 3) := by decide +kernel
theorem dX3_readTenant_128 : decode cX3_readTenant 128 = .ok (.iastore, 1) := by decide +kernel
theorem dX3_readTenant_129 : decode cX3_readTenant 129 = .ok (.aload_n 0, 1) := by decide +kernel
theorem dX3_readTenant_130 : decode cX3_readTenant 130 = .ok (.iconst 0, 1) := by decide +kernel
theorem dX3_readTenant_131 : decode cX3_readTenant 131 = .ok (.bipush 99, 2) := by decide +kernel
theorem dX3_readTenant_133 : decode cX3_readTenant 133 = .ok (.invokevirtual 85, 3) := by decide +kernel
theorem dX3_readTenant_136 : decode cX3_readTenant 136 = .ok (.istore_n 2, 1) := by decide +kernel
theorem dX3_readTenant_137 : decode cX3_readTenant 137 = .ok (.aload_n 0, 1) := by decide +kernel
theorem dX3_readTenant_138 : decode cX3_readTenant 138 = .ok (.getfield 12, 3) := by decide +kernel
theorem dX3_readTenant_141 : decode cX3_readTenant 141 = .ok (.getfield 118, 3) := by decide +kernel
theorem dX3_readTenant_144 : decode cX3_readTenant 144 = .ok (.iload_n 1, 1) := by decide +kernel
theorem dX3_readTenant_145 : decode cX3_readTenant 145 = .ok (.aload_n 0, 1) := by decide +kernel
theorem dX3_readTenant_146 : decode cX3_readTenant 146 = .ok (.getfield 89, 3) := by decide +kernel
theorem dX3_readTenant_149 : decode cX3_readTenant 149 = .ok (.iastore, 1) := by decide +kernel
theorem dX3_readTenant_150 : decode cX3_readTenant 150 = .ok (.aload_n 0, 1) := by decide +kernel
theorem dX3_readTenant_151 : decode cX3_readTenant 151 = .ok (.getfield 12, 3) := by decide +kernel
theorem dX3_readTenant_154 : decode cX3_readTenant 154 = .ok (.getfield 121, 3) := by decide +kernel
theorem dX3_readTenant_157 : decode cX3_readTenant 157 = .ok (.iload_n 1, 1) := by decide +kernel
theorem dX3_readTenant_158 : decode cX3_readTenant 158 = .ok (.iconst 0, 1) := by decide +kernel
theorem dX3_readTenant_159 : decode cX3_readTenant 159 = .ok (.iastore, 1) := by decide +kernel
theorem dX3_readTenant_160 : decode cX3_readTenant 160 = .ok (.aload_n 0, 1) := by decide +kernel
theorem dX3_readTenant_161 : decode cX3_readTenant 161 = .ok (.getfield 12, 3) := by decide +kernel
theorem dX3_readTenant_164 : decode cX3_readTenant 164 = .ok (.dup, 1) := by decide +kernel
theorem dX3_readTenant_165 : decode cX3_readTenant 165 = .ok (.getfield 105, 3) := by decide +kernel
theorem dX3_readTenant_168 : decode cX3_readTenant 168 = .ok (.iconst 1, 1) := by decide +kernel
theorem dX3_readTenant_169 : decode cX3_readTenant 169 = .ok (.iadd, 1) := by decide +kernel
theorem dX3_readTenant_170 : decode cX3_readTenant 170 = .ok (.putfield 105, 3) := by decide +kernel
theorem dX3_readTenant_173 : decode cX3_readTenant 173 = .ok (.iload_n 2, 1) := by decide +kernel
theorem dX3_readTenant_174 : decode cX3_readTenant 174 = .ok (.ireturn, 1) := by decide +kernel
def fX3_readTenant_11 (S : Nat → Int32) (V : Nat → Nat → Int32) : Option (Int32 × (Nat → Int32) × (Nat → Nat → Int32)) :=
  lt ((S 1204)) (fun x1 =>
  (if x1 < (6 : Int32) then
  bd1 (fX10_advance_20 S V) (fun S3 =>
  bd2 (fX3_readNumber_11 S3 V (0 : Int32) (20 : Int32)) (fun r5 S6 =>
  (if r5 = 0 then
  lt ((S6 1106)) (fun x9 =>
  gd (ib x1 6) (
  lt (va_up V 13 (upd (V 13) (x1).toNatClampNeg x9)) (fun V11 =>
  bd1 (fX10_kind_20 S6 V11) (fun r12 =>
  (if r12 < (107 : Int32) then
  some ((1 : Int32), S6, V11)
  else
  bd1 (fX10_kind_20 S6 V11) (fun r15 =>
  (if r15 ≤ (109 : Int32) then
  bd1 (fX10_kind_20 S6 V11) (fun r18 =>
  lt ((r18 - (107 : Int32))) (fun x20 =>
  gd (ib x1 6) (
  lt (va_up V11 14 (upd (V11 14) (x1).toNatClampNeg x20)) (fun V22 =>
  bd1 (fX10_advance_20 S6 V22) (fun S23 =>
  bd2 (fX3_readNumber_11 S23 V22 (1 : Int32) (12 : Int32)) (fun r25 S26 =>
  (if r25 = 0 then
  lt ((S26 1106)) (fun x29 =>
  gd (ib x1 6) (
  lt (va_up V22 15 (upd (V22 15) (x1).toNatClampNeg x29)) (fun V31 =>
  bd2 (fX3_readNumber_11 S26 V31 (0 : Int32) (99 : Int32)) (fun r32 S33 =>
  lt ((S33 1106)) (fun x35 =>
  gd (ib x1 6) (
  lt (va_up V31 16 (upd (V31 16) (x1).toNatClampNeg x35)) (fun V37 =>
  gd (ib x1 6) (
  lt (va_up V37 17 (upd (V37 17) (x1).toNatClampNeg (0 : Int32))) (fun V39 =>
  lt (((S33 1204) + (1 : Int32))) (fun x40 =>
  lt (va_up S33 1204 x40) (fun S41 =>
  some (r32, S41, V39))))))))))))
  else
  some (r25, S26, V22))))))))
  else
  some ((1 : Int32), S6, V11))))))))
  else
  some (r5, S6, V))))
  else
  some ((2 : Int32), S, V)))
set_option maxHeartbeats 4000000 in
set_option maxRecDepth 100000 in
theorem kX3_readTenant_11 (l : Launch) (B : jBT) (D : va_G) (ad : Nat → Nat) (cA : Nat → ClassId) (hI : jI ad TC) (S : Nat → Int32) (V : Nat → Nat → Int32) (L : Nat → Int64) (r0 : Int32) (S0 : Nat → Int32) (V0 : Nat → Nat → Int32) (h : fX3_readTenant_11 S V = some (r0, S0, V0)) : jM l yX3_readTenant cX3_readTenant 3 (some .int) ({ frames := 2, cells := 0, slots := 0, locals := 42 }) B D TC ad cA [.ref (ad 11)] S V L (some (.int r0)) S0 V0 L := by
  refine jM_of (by decide) TC_ok hI (Nat.le_of_ble_eq_true rfl) ?_
  intro p e s m args below meth c C hr hlk
  refine j_lv (lv2 := [(0, .ref (ad 11))]) rfl ?_
  unfold fX3_readTenant_11 at h
  refine j_aload_n C 0 rfl dX3_readTenant_0 rfl ?_
  refine fg_X3_12_TC_11 C dX3_readTenant_1 ?_
  refine fg_X3_105_TC_12 C dX3_readTenant_4 ?_
  refine lt_elim h (fun x1 e_x1 h => ?_)
  refine j_top e_x1 ?_
  refine j_istore_n C [(1, .int x1), (0, .ref (ad 11))] dX3_readTenant_7 rfl (by decide) rfl ?_
  refine j_iload_n C 0 rfl dX3_readTenant_8 rfl ?_
  refine j_bipush C dX3_readTenant_9 cb_6 ?_
  refine j_icmp_lt (tgt := 16) C dX3_readTenant_11 (by decide) (fun c2 => ?_) (fun c2 => ?_)
  · have h := (if_pos c2).symm.trans h
    refine j_aload_n C 1 rfl dX3_readTenant_16 rfl ?_
    refine fg_X3_21_TC_11 C dX3_readTenant_17 ?_
    obtain ⟨S3, h4, h⟩ := bd1_elim h
    refine j_callV (As := []) (rest := []) C (kX10_advance_20 l B D ad cA hI S V L _ h4) mw_X10_advance wd923 wd924 wd922 tc_20 rfl rfl ⟨rfl, rfl, by decide, by decide⟩ ⟨Nat.zero_le _, Nat.zero_le _⟩ rfl rfl (Nat.le_of_ble_eq_true rfl) dX3_readTenant_20 ?_
    refine j_aload_n C 1 rfl dX3_readTenant_23 rfl ?_
    refine j_iconst C dX3_readTenant_24 ci_0 ?_
    refine j_bipush C dX3_readTenant_25 cb_20 ?_
    obtain ⟨r5, S6, h7, h⟩ := bd2_elim h
    refine j_callV (As := [.int (0 : Int32), .int (20 : Int32)]) (rest := []) C (kX3_readNumber_11 l B D ad cA hI S3 V L (0 : Int32) (20 : Int32) _ _ h7) mw_X3_readNumber wd928 wd18 wd926 tc_11 rfl rfl ⟨rfl, rfl, by decide, by decide⟩ ⟨Nat.zero_le _, Nat.zero_le _⟩ rfl rfl (Nat.le_of_ble_eq_true rfl) dX3_readTenant_27 ?_
    refine j_istore_n C [(2, .int r5), (1, .int x1), (0, .ref (ad 11))] dX3_readTenant_30 rfl (by decide) rfl ?_
    refine j_iload_n C 0 rfl dX3_readTenant_31 rfl ?_
    refine j_if_eq (tgt := 37) C dX3_readTenant_32 (by decide) (fun c8 => ?_) (fun c8 => ?_)
    · have h := (if_pos c8).symm.trans h
      refine j_aload_n C 2 rfl dX3_readTenant_37 rfl ?_
      refine fg_X3_12_TC_11 C dX3_readTenant_38 ?_
      refine fg_X3_108_TC_12 C dX3_readTenant_41 ?_
      refine j_iload_n C 1 rfl dX3_readTenant_44 rfl ?_
      refine j_aload_n C 2 rfl dX3_readTenant_45 rfl ?_
      refine fg_X3_89_TC_11 C dX3_readTenant_46 ?_
      refine lt_elim h (fun x9 e_x9 h => ?_)
      refine j_top e_x9 ?_
      obtain ⟨g10, h⟩ := gd_elim h
      refine j_iast C tc_13 (ib_in g10) dX3_readTenant_49 ?_
      refine lt_elim h (fun V11 e_V11 h => ?_)
      refine j_V e_V11 ?_
      refine j_aload_n C 2 rfl dX3_readTenant_50 rfl ?_
      refine fg_X3_21_TC_11 C dX3_readTenant_51 ?_
      obtain ⟨r12, h13, h⟩ := bd1_elim h
      refine j_callV (As := []) (rest := []) C (kX10_kind_20 l B D ad cA hI S6 V11 L _ h13) mw_X10_kind wd911 wd912 wd910 tc_20 rfl rfl ⟨rfl, rfl, by decide, by decide⟩ ⟨Nat.zero_le _, Nat.zero_le _⟩ rfl rfl (Nat.le_of_ble_eq_true rfl) dX3_readTenant_54 ?_
      refine j_bipush C dX3_readTenant_57 cb_107 ?_
      refine j_icmp_lt (tgt := 74) C dX3_readTenant_59 (by decide) (fun c14 => ?_) (fun c14 => ?_)
      · have h := (if_pos c14).symm.trans h
        refine j_iconst C dX3_readTenant_74 ci_1 ?_
        cases h
        exact j_iret C hr hlk rfl dX3_readTenant_75
      · have h := (if_neg c14).symm.trans h
        refine j_aload_n C 2 rfl dX3_readTenant_62 rfl ?_
        refine fg_X3_21_TC_11 C dX3_readTenant_63 ?_
        obtain ⟨r15, h16, h⟩ := bd1_elim h
        refine j_callV (As := []) (rest := []) C (kX10_kind_20 l B D ad cA hI S6 V11 L _ h16) mw_X10_kind wd911 wd912 wd910 tc_20 rfl rfl ⟨rfl, rfl, by decide, by decide⟩ ⟨Nat.zero_le _, Nat.zero_le _⟩ rfl rfl (Nat.le_of_ble_eq_true rfl) dX3_readTenant_66 ?_
        refine j_bipush C dX3_readTenant_69 cb_109 ?_
        refine j_icmp_le (tgt := 76) C dX3_readTenant_71 (by decide) (fun c17 => ?_) (fun c17 => ?_)
        · have h := (if_pos c17).symm.trans h
          refine j_aload_n C 2 rfl dX3_readTenant_76 rfl ?_
          refine fg_X3_12_TC_11 C dX3_readTenant_77 ?_
          refine fg_X3_112_TC_12 C dX3_readTenant_80 ?_
          refine j_iload_n C 1 rfl dX3_readTenant_83 rfl ?_
          refine j_aload_n C 2 rfl dX3_readTenant_84 rfl ?_
          refine fg_X3_21_TC_11 C dX3_readTenant_85 ?_
          obtain ⟨r18, h19, h⟩ := bd1_elim h
          refine j_callV (As := []) (rest := [.int x1, .ref (ad 14)]) C (kX10_kind_20 l B D ad cA hI S6 V11 L _ h19) mw_X10_kind wd911 wd912 wd910 tc_20 rfl rfl ⟨rfl, rfl, by decide, by decide⟩ ⟨Nat.zero_le _, Nat.zero_le _⟩ rfl rfl (Nat.le_of_ble_eq_true rfl) dX3_readTenant_88 ?_
          refine j_bipush C dX3_readTenant_91 cb_107 ?_
          refine j_isub C dX3_readTenant_93 ?_
          refine lt_elim h (fun x20 e_x20 h => ?_)
          refine j_top e_x20 ?_
          obtain ⟨g21, h⟩ := gd_elim h
          refine j_iast C tc_14 (ib_in g21) dX3_readTenant_94 ?_
          refine lt_elim h (fun V22 e_V22 h => ?_)
          refine j_V e_V22 ?_
          refine j_aload_n C 2 rfl dX3_readTenant_95 rfl ?_
          refine fg_X3_21_TC_11 C dX3_readTenant_96 ?_
          obtain ⟨S23, h24, h⟩ := bd1_elim h
          refine j_callV (As := []) (rest := []) C (kX10_advance_20 l B D ad cA hI S6 V22 L _ h24) mw_X10_advance wd923 wd924 wd922 tc_20 rfl rfl ⟨rfl, rfl, by decide, by decide⟩ ⟨Nat.zero_le _, Nat.zero_le _⟩ rfl rfl (Nat.le_of_ble_eq_true rfl) dX3_readTenant_99 ?_
          refine j_aload_n C 2 rfl dX3_readTenant_102 rfl ?_
          refine j_iconst C dX3_readTenant_103 ci_1 ?_
          refine j_bipush C dX3_readTenant_104 cb_12 ?_
          obtain ⟨r25, S26, h27, h⟩ := bd2_elim h
          refine j_callV (As := [.int (1 : Int32), .int (12 : Int32)]) (rest := []) C (kX3_readNumber_11 l B D ad cA hI S23 V22 L (1 : Int32) (12 : Int32) _ _ h27) mw_X3_readNumber wd928 wd18 wd926 tc_11 rfl rfl ⟨rfl, rfl, by decide, by decide⟩ ⟨Nat.zero_le _, Nat.zero_le _⟩ rfl rfl (Nat.le_of_ble_eq_true rfl) dX3_readTenant_106 ?_
          refine j_istore_n C [(2, .int r25), (1, .int x1), (0, .ref (ad 11))] dX3_readTenant_109 rfl (by decide) rfl ?_
          refine j_iload_n C 0 rfl dX3_readTenant_110 rfl ?_
          refine j_if_eq (tgt := 116) C dX3_readTenant_111 (by decide) (fun c28 => ?_) (fun c28 => ?_)
          · have h := (if_pos c28).symm.trans h
            refine j_aload_n C 2 rfl dX3_readTenant_116 rfl ?_
            refine fg_X3_12_TC_11 C dX3_readTenant_117 ?_
            refine fg_X3_115_TC_12 C dX3_readTenant_120 ?_
            refine j_iload_n C 1 rfl dX3_readTenant_123 rfl ?_
            refine j_aload_n C 2 rfl dX3_readTenant_124 rfl ?_
            refine fg_X3_89_TC_11 C dX3_readTenant_125 ?_
            refine lt_elim h (fun x29 e_x29 h => ?_)
            refine j_top e_x29 ?_
            obtain ⟨g30, h⟩ := gd_elim h
            refine j_iast C tc_15 (ib_in g30) dX3_readTenant_128 ?_
            refine lt_elim h (fun V31 e_V31 h => ?_)
            refine j_V e_V31 ?_
            refine j_aload_n C 2 rfl dX3_readTenant_129 rfl ?_
            refine j_iconst C dX3_readTenant_130 ci_0 ?_
            refine j_bipush C dX3_readTenant_131 cb_99 ?_
            obtain ⟨r32, S33, h34, h⟩ := bd2_elim h
            refine j_callV (As := [.int (0 : Int32), .int (99 : Int32)]) (rest := []) C (kX3_readNumber_11 l B D ad cA hI S26 V31 L (0 : Int32) (99 : Int32) _ _ h34) mw_X3_readNumber wd928 wd18 wd926 tc_11 rfl rfl ⟨rfl, rfl, by decide, by decide⟩ ⟨Nat.zero_le _, Nat.zero_le _⟩ rfl rfl (Nat.le_of_ble_eq_true rfl) dX3_readTenant_133 ?_
            refine j_istore_n C [(2, .int r32), (1, .int x1), (0, .ref (ad 11))] dX3_readTenant_136 rfl (by decide) rfl ?_
            refine j_aload_n C 2 rfl dX3_readTenant_137 rfl ?_
            refine fg_X3_12_TC_11 C dX3_readTenant_138 ?_
            refine fg_X3_118_TC_12 C dX3_readTenant_141 ?_
            refine j_iload_n C 1 rfl dX3_readTenant_144 rfl ?_
            refine j_aload_n C 2 rfl dX3_readTenant_145 rfl ?_
            refine fg_X3_89_TC_11 C dX3_readTenant_146 ?_
            refine lt_elim h (fun x35 e_x35 h => ?_)
            refine j_top e_x35 ?_
            obtain ⟨g36, h⟩ := gd_elim h
            refine j_iast C tc_16 (ib_in g36) dX3_readTenant_149 ?_
            refine lt_elim h (fun V37 e_V37 h => ?_)
            refine j_V e_V37 ?_
            refine j_aload_n C 2 rfl dX3_readTenant_150 rfl ?_
            refine fg_X3_12_TC_11 C dX3_readTenant_151 ?_
            refine fg_X3_121_TC_12 C dX3_readTenant_154 ?_
            refine j_iload_n C 1 rfl dX3_readTenant_157 rfl ?_
            refine j_iconst C dX3_readTenant_158 ci_0 ?_
            obtain ⟨g38, h⟩ := gd_elim h
            refine j_iast C tc_17 (ib_in g38) dX3_readTenant_159 ?_
            refine lt_elim h (fun V39 e_V39 h => ?_)
            refine j_V e_V39 ?_
            refine j_aload_n C 2 rfl dX3_readTenant_160 rfl ?_
            refine fg_X3_12_TC_11 C dX3_readTenant_161 ?_
            refine j_dup C dX3_readTenant_164 rfl ?_
            refine fg_X3_105_TC_12 C dX3_readTenant_165 ?_
            refine j_iconst C dX3_readTenant_168 ci_1 ?_
            refine j_iadd C dX3_readTenant_169 ?_
            refine lt_elim h (fun x40 e_x40 h => ?_)
            refine j_top e_x40 ?_
            refine fp_X3_105_TC_12 C dX3_readTenant_170 ?_
            refine lt_elim h (fun S41 e_S41 h => ?_)
            refine j_S e_S41 ?_
            refine j_iload_n C 0 rfl dX3_readTenant_173 rfl ?_
            cases h
            exact j_iret C hr hlk rfl dX3_readTenant_174
          · have h := (if_neg c28).symm.trans h
            refine j_iload_n C 0 rfl dX3_readTenant_114 rfl ?_
            cases h
            exact j_iret C hr hlk rfl dX3_readTenant_115
        · have h := (if_neg c17).symm.trans h
          refine j_iconst C dX3_readTenant_74 ci_1 ?_
          cases h
          exact j_iret C hr hlk rfl dX3_readTenant_75
    · have h := (if_neg c8).symm.trans h
      refine j_iload_n C 0 rfl dX3_readTenant_35 rfl ?_
      cases h
      exact j_iret C hr hlk rfl dX3_readTenant_36
  · have h := (if_neg c2).symm.trans h
    refine j_iconst C dX3_readTenant_14 ci_2 ?_
    cases h
    exact j_iret C hr hlk rfl dX3_readTenant_15
def fJ7_fill_53178_35_L5 : Nat → Int32 → Int32 → Int32 → (Nat → Nat → Int32) → Option ((Nat → Nat → Int32))
  | 0, _, _, _, _ => none
  | n + 1, x1, x2, x3, V4 =>
    (if x3 ≤ x2 then
    some V4
    else
    gd (ib x2 72) (
    lt (va_up V4 35 (upd (V4 35) (x2).toNatClampNeg x1)) (fun V7 =>
    lt (x2 + (1 : Int32)) (fun x8 =>
    fJ7_fill_53178_35_L5 n x1 x8 x3 V7))))
def fJ7_fill_53178_35 (V : Nat → Nat → Int32) (a1 : Int32) : Option ((Nat → Nat → Int32)) :=
  fJ7_fill_53178_35_L5 FU a1 (0 : Int32) (72 : Int32) V
set_option maxHeartbeats 4000000 in
set_option maxRecDepth 100000 in
theorem kJ7_fill_53178_35 (l : Launch) (B : jBT) (D : va_G) (ad : Nat → Nat) (cA : Nat → ClassId) (hI : jI ad TC) (S : Nat → Int32) (V : Nat → Nat → Int32) (L : Nat → Int64) (a1 : Int32) (V0 : Nat → Nat → Int32) (h : fJ7_fill_53178_35 V a1 = some V0) : jM l yJ7_fill_53178 cJ7_fill_53178 4 none ({ frames := 0, cells := 0, slots := 0, locals := 0 }) B D TC ad cA [.ref (ad 35), .int a1] S V L none S V0 L := by
  refine jM_of (by decide) TC_ok hI (Nat.le_of_ble_eq_true rfl) ?_
  intro p e s m args below meth c C hr hlk
  refine j_lv (lv2 := [(0, .ref (ad 35)), (1, .int a1)]) rfl ?_
  unfold fJ7_fill_53178_35 at h
  have H_fJ7_fill_53178_35_L5 : ∀ (n : Nat) (x1 : Int32) (x2 : Int32) (x3 : Int32) (V4 : Nat → Nat → Int32), fJ7_fill_53178_35_L5 n x1 x2 x3 V4 = some V0 → jW p l e ({ frames := 0, cells := 0, slots := 0, locals := 0 }) s m args below meth c (MQ below (jQc D TC ad cA none s.heap.size S V0 L) args s 0 0 (jA ad TC s.heap.size)) D TC ad cA (jA ad TC s.heap.size) 4 0 0 5 [(0, .ref (ad 35)), (1, .int x1), (2, .int x2), (3, .int x3)] [] S V4 L := by
    intro n
    induction n with
    | zero =>
      intro x1 x2 x3 V4 h
      cases (show (none : Option ((Nat → Nat → Int32))) = some V0 from h)
    | succ n ih =>
      intro x1 x2 x3 V4 h
      unfold fJ7_fill_53178_35_L5 at h
      refine j_iload_n C 2 rfl dJ7_fill_53178_5 rfl ?_
      refine j_iload_n C 3 rfl dJ7_fill_53178_6 rfl ?_
      refine j_icmp_ge (tgt := 20) C dJ7_fill_53178_7 (by decide) (fun c5 => ?_) (fun c5 => ?_)
      · have h := (if_pos c5).symm.trans h
        cases h
        exact j_vret C hr hlk rfl dJ7_fill_53178_20
      · have h := (if_neg c5).symm.trans h
        refine j_aload_n C 0 rfl dJ7_fill_53178_10 rfl ?_
        refine j_iload_n C 2 rfl dJ7_fill_53178_11 rfl ?_
        refine j_iload_n C 1 rfl dJ7_fill_53178_12 rfl ?_
        obtain ⟨g6, h⟩ := gd_elim h
        refine j_iast C tc_35 (ib_in g6) dJ7_fill_53178_13 ?_
        refine lt_elim h (fun V7 e_V7 h => ?_)
        refine j_V e_V7 ?_
        refine lt_elim h (fun x8 e_x8 h => ?_)
        refine j_iinc C [(2, .int x8), (0, .ref (ad 35)), (1, .int x1), (3, .int x3)] 2 dJ7_fill_53178_14 rfl ((iinc_eq ci_1).trans e_x8.symm) (by decide) rfl ?_
        refine j_goto (tgt := 5) C dJ7_fill_53178_17 (by decide) ?_
        exact j_sub [1, 2, 0, 3] rfl (ih _ _ _ _ h)
  refine j_iconst C dJ7_fill_53178_0 ci_0 ?_
  refine j_istore_n C [(2, .int (0 : Int32)), (0, .ref (ad 35)), (1, .int a1)] dJ7_fill_53178_1 rfl (by decide) rfl ?_
  refine j_aload_n C 1 rfl dJ7_fill_53178_2 rfl ?_
  refine j_alen (v := (72 : Int32)) C tc_35 (by decide) dJ7_fill_53178_3 ?_
  refine j_istore_n C [(3, .int (72 : Int32)), (2, .int (0 : Int32)), (0, .ref (ad 35)), (1, .int a1)] dJ7_fill_53178_4 rfl (by decide) rfl ?_
  exact j_sub [2, 3, 1, 0] rfl (H_fJ7_fill_53178_35_L5 FU _ _ _ _ h)
theorem dX4_clear_0 : decode cX4_clear 0 = .ok (.aload_n 0, 1) := by decide +kernel
theorem dX4_clear_1 : decode cX4_clear 1 = .ok (.iconst 0, 1) := by decide +kernel
theorem dX4_clear_2 : decode cX4_clear 2 = .ok (.putfield 41, 3) := by decide +kernel
theorem dX4_clear_5 : decode cX4_clear 5 = .ok (.aload_n 0, 1) := by decide +kernel
theorem dX4_clear_6 : decode cX4_clear 6 = .ok (.getfield 24, 3) := by decide +kernel
theorem dX4_clear_9 : decode cX4_clear 9 = .ok (.iconst (-1), 1) := by decide +kernel
theorem dX4_clear_10 : decode cX4_clear 10 = .ok (.invokestatic 35, 3) := by decide +kernel
theorem dX4_clear_13 : decode cX4_clear 13 = .ok (.return_, 1) := by decide +kernel
def fX4_clear_30 (S : Nat → Int32) (V : Nat → Nat → Int32) : Option ((Nat → Int32) × (Nat → Nat → Int32)) :=
  lt (va_up S 3002 (0 : Int32)) (fun S1 =>
  bd1 (fJ7_fill_53178_35 V (-1 : Int32)) (fun V2 =>
  some (S1, V2)))
set_option maxHeartbeats 4000000 in
set_option maxRecDepth 100000 in
theorem kX4_clear_30 (l : Launch) (B : jBT) (D : va_G) (ad : Nat → Nat) (cA : Nat → ClassId) (hI : jI ad TC) (S : Nat → Int32) (V : Nat → Nat → Int32) (L : Nat → Int64) (S0 : Nat → Int32) (V0 : Nat → Nat → Int32) (h : fX4_clear_30 S V = some (S0, V0)) : jM l yX4_clear cX4_clear 1 none ({ frames := 1, cells := 0, slots := 0, locals := 23 }) B D TC ad cA [.ref (ad 30)] S V L none S0 V0 L := by
  refine jM_of (by decide) TC_ok hI (Nat.le_of_ble_eq_true rfl) ?_
  intro p e s m args below meth c C hr hlk
  refine j_lv (lv2 := [(0, .ref (ad 30))]) rfl ?_
  unfold fX4_clear_30 at h
  refine j_aload_n C 0 rfl dX4_clear_0 rfl ?_
  refine j_iconst C dX4_clear_1 ci_0 ?_
  refine fp_X4_41_TC_30 C dX4_clear_2 ?_
  refine lt_elim h (fun S1 e_S1 h => ?_)
  refine j_S e_S1 ?_
  refine j_aload_n C 0 rfl dX4_clear_5 rfl ?_
  refine fg_X4_24_TC_30 C dX4_clear_6 ?_
  refine j_iconst C dX4_clear_9 ci_m1 ?_
  obtain ⟨V2, h3, h⟩ := bd1_elim h
  refine j_callS (As := [.ref (ad 35), .int (-1 : Int32)]) (rest := []) C (kJ7_fill_53178_35 l B D ad cA hI S1 V L (-1 : Int32) _ h3) mw_J7_fill_53178 wd340 wd339 ⟨rfl, rfl, by decide, by decide⟩ ⟨Nat.zero_le _, Nat.zero_le _⟩ rfl rfl (Nat.le_of_ble_eq_true rfl) dX4_clear_10 ?_
  cases h
  exact j_vret C hr hlk rfl dX4_clear_13
theorem dX4_hoursInPauses_0 : decode cX4_hoursInPauses 0 = .ok (.iconst 0, 1) := by decide +kernel
theorem dX4_hoursInPauses_1 : decode cX4_hoursInPauses 1 = .ok (.istore_n 2, 1) := by decide +kernel
theorem dX4_hoursInPauses_2 : decode cX4_hoursInPauses 2 = .ok (.iconst 0, 1) := by decide +kernel
theorem dX4_hoursInPauses_3 : decode cX4_hoursInPauses 3 = .ok (.istore_n 3, 1) := by decide +kernel
theorem dX4_hoursInPauses_4 : decode cX4_hoursInPauses 4 = .ok (.iload_n 3, 1) := by decide +kernel
theorem dX4_hoursInPauses_5 : decode cX4_hoursInPauses 5 = .ok (.aload_n 0, 1) := by decide +kernel
theorem dX4_hoursInPauses_6 : decode cX4_hoursInPauses 6 = .ok (.getfield 41, 3) := by decide +kernel
theorem dX4_hoursInPauses_9 : decode cX4_hoursInPauses 9 = .ok (.if_icmp .ge 47, 3) := by decide +kernel
theorem dX4_hoursInPauses_12 : decode cX4_hoursInPauses 12 = .ok (.aload_n 0, 1) := by decide +kernel
theorem dX4_hoursInPauses_13 : decode cX4_hoursInPauses 13 = .ok (.getfield 9, 3) := by decide +kernel
theorem dX4_hoursInPauses_16 : decode cX4_hoursInPauses 16 = .ok (.iload_n 3, 1) := by decide +kernel
theorem dX4_hoursInPauses_17 : decode cX4_hoursInPauses 17 = .ok (.iaload, 1) := by decide +kernel
theorem dX4_hoursInPauses_18 : decode cX4_hoursInPauses 18 = .ok (.iload_n 1, 1) := by decide +kernel
theorem dX4_hoursInPauses_19 : decode cX4_hoursInPauses 19 = .ok (.if_icmp .ne 31, 3) := by decide +kernel
theorem dX4_hoursInPauses_22 : decode cX4_hoursInPauses 22 = .ok (.aload_n 0, 1) := by decide +kernel
theorem dX4_hoursInPauses_23 : decode cX4_hoursInPauses 23 = .ok (.getfield 15, 3) := by decide +kernel
theorem dX4_hoursInPauses_26 : decode cX4_hoursInPauses 26 = .ok (.iload_n 3, 1) := by decide +kernel
theorem dX4_hoursInPauses_27 : decode cX4_hoursInPauses 27 = .ok (.iaload, 1) := by decide +kernel
theorem dX4_hoursInPauses_28 : decode cX4_hoursInPauses 28 = .ok (.iconst 2, 1) := by decide +kernel
theorem dX4_hoursInPauses_29 : decode cX4_hoursInPauses 29 = .ok (.if_icmp .ne 21, 3) := by decide +kernel
theorem dX4_hoursInPauses_32 : decode cX4_hoursInPauses 32 = .ok (.iload_n 2, 1) := by decide +kernel
theorem dX4_hoursInPauses_33 : decode cX4_hoursInPauses 33 = .ok (.aload_n 0, 1) := by decide +kernel
theorem dX4_hoursInPauses_34 : decode cX4_hoursInPauses 34 = .ok (.getfield 21, 3) := by decide +kernel
theorem dX4_hoursInPauses_37 : decode cX4_hoursInPauses 37 = .ok (.iload_n 3, 1) := by decide +kernel
theorem dX4_hoursInPauses_38 : decode cX4_hoursInPauses 38 = .ok (.iaload, 1) := by decide +kernel
theorem dX4_hoursInPauses_39 : decode cX4_hoursInPauses 39 = .ok (.aload_n 0, 1) := by decide +kernel
theorem dX4_hoursInPauses_40 : decode cX4_hoursInPauses 40 = .ok (.getfield 18, 3) := by decide +kernel
theorem dX4_hoursInPauses_43 : decode cX4_hoursInPauses 43 = .ok (.iload_n 3, 1) := by decide +kernel
theorem dX4_hoursInPauses_44 : decode cX4_hoursInPauses 44 = .ok (.iaload, 1) := by decide +kernel
theorem dX4_hoursInPauses_45 : decode cX4_hoursInPauses 45 = .ok (.isub, 1) := by decide +kernel
theorem dX4_hoursInPauses_46 : decode cX4_hoursInPauses 46 = .ok (.iconst 1, 1) := by decide +kernel
theorem dX4_hoursInPauses_47 : decode cX4_hoursInPauses 47 = .ok (.iadd, 1) := by decide +kernel
theorem dX4_hoursInPauses_48 : decode cX4_hoursInPauses 48 = .ok (.iadd, 1) := by decide +kernel
theorem dX4_hoursInPauses_49 : decode cX4_hoursInPauses 49 = .ok (.istore_n 2, 1) := by decide +kernel
theorem dX4_hoursInPauses_50 : decode cX4_hoursInPauses 50 = .ok (.iinc 3 1, 3) := by decide +kernel
theorem dX4_hoursInPauses_53 : decode cX4_hoursInPauses 53 = .ok (.goto (-49), 3) := by decide +kernel
theorem dX4_hoursInPauses_56 : decode cX4_hoursInPauses 56 = .ok (.iload_n 2, 1) := by decide +kernel
theorem dX4_hoursInPauses_57 : decode cX4_hoursInPauses 57 = .ok (.ireturn, 1) := by decide +kernel
def fX4_hoursInPauses_30_L4 (S : Nat → Int32) (V : Nat → Nat → Int32) : Nat → Int32 → Int32 → Int32 → Option (Int32)
  | 0, _, _, _ => none
  | n + 1, x1, x2, x3 =>
    (if (S 3002) ≤ x3 then
    some x2
    else
    gd (ib x3 13) (
    bk (fun (x7 : Int32) (x8 : Int32) (x9 : Int32) =>
    lt (x9 + (1 : Int32)) (fun x10 =>
    fX4_hoursInPauses_30_L4 S V n x7 x8 x10)) (fun K50_6 =>
    (if (V 31 (x3).toNatClampNeg) = x1 then
    gd (ib x3 13) (
    (if (V 32 (x3).toNatClampNeg) = (2 : Int32) then
    gd (ib x3 13) (
    gd (ib x3 13) (
    lt ((x2 + (((V 34 (x3).toNatClampNeg) - (V 33 (x3).toNatClampNeg)) + (1 : Int32)))) (fun x16 =>
    K50_6 x1 x16 x3)))
    else
    K50_6 x1 x2 x3))
    else
    K50_6 x1 x2 x3))))
def fX4_hoursInPauses_30 (S : Nat → Int32) (V : Nat → Nat → Int32) (a1 : Int32) : Option (Int32) :=
  fX4_hoursInPauses_30_L4 S V FU a1 (0 : Int32) (0 : Int32)
set_option maxHeartbeats 4000000 in
set_option maxRecDepth 100000 in
theorem kX4_hoursInPauses_30 (l : Launch) (B : jBT) (D : va_G) (ad : Nat → Nat) (cA : Nat → ClassId) (hI : jI ad TC) (S : Nat → Int32) (V : Nat → Nat → Int32) (L : Nat → Int64) (a1 : Int32) (r0 : Int32) (h : fX4_hoursInPauses_30 S V a1 = some r0) : jM l yX4_hoursInPauses cX4_hoursInPauses 4 (some .int) ({ frames := 0, cells := 0, slots := 0, locals := 0 }) B D TC ad cA [.ref (ad 30), .int a1] S V L (some (.int r0)) S V L := by
  refine jM_of (by decide) TC_ok hI (Nat.le_of_ble_eq_true rfl) ?_
  intro p e s m args below meth c C hr hlk
  refine j_lv (lv2 := [(0, .ref (ad 30)), (1, .int a1)]) rfl ?_
  unfold fX4_hoursInPauses_30 at h
  have H_fX4_hoursInPauses_30_L4 : ∀ (n : Nat) (x1 : Int32) (x2 : Int32) (x3 : Int32), fX4_hoursInPauses_30_L4 S V n x1 x2 x3 = some r0 → jW p l e ({ frames := 0, cells := 0, slots := 0, locals := 0 }) s m args below meth c (MQ below (jQc D TC ad cA (some (.int r0)) s.heap.size S V L) args s 0 0 (jA ad TC s.heap.size)) D TC ad cA (jA ad TC s.heap.size) 4 0 0 4 [(0, .ref (ad 30)), (1, .int x1), (2, .int x2), (3, .int x3)] [] S V L := by
    intro n
    induction n with
    | zero =>
      intro x1 x2 x3 h
      cases (show (none : Option (Int32)) = some r0 from h)
    | succ n ih =>
      intro x1 x2 x3 h
      unfold fX4_hoursInPauses_30_L4 at h
      refine j_iload_n C 3 rfl dX4_hoursInPauses_4 rfl ?_
      refine j_aload_n C 0 rfl dX4_hoursInPauses_5 rfl ?_
      refine fg_X4_41_TC_30 C dX4_hoursInPauses_6 ?_
      refine j_icmp_ge (tgt := 56) C dX4_hoursInPauses_9 (by decide) (fun c4 => ?_) (fun c4 => ?_)
      · have h := (if_pos c4).symm.trans h
        refine j_iload_n C 2 rfl dX4_hoursInPauses_56 rfl ?_
        cases h
        exact j_iret C hr hlk rfl dX4_hoursInPauses_57
      · have h := (if_neg c4).symm.trans h
        refine j_aload_n C 0 rfl dX4_hoursInPauses_12 rfl ?_
        refine fg_X4_9_TC_30 C dX4_hoursInPauses_13 ?_
        refine j_iload_n C 3 rfl dX4_hoursInPauses_16 rfl ?_
        obtain ⟨g5, h⟩ := gd_elim h
        refine j_iald C tc_31 (ib_in g5) dX4_hoursInPauses_17 ?_
        refine j_iload_n C 1 rfl dX4_hoursInPauses_18 rfl ?_
        refine bk_elim h (fun K50_6 e_K50_6 h => ?_)
        have HK50_6 : ∀ (x7 : Int32) (x8 : Int32) (x9 : Int32), K50_6 x7 x8 x9 = some r0 → jW p l e ({ frames := 0, cells := 0, slots := 0, locals := 0 }) s m args below meth c (MQ below (jQc D TC ad cA (some (.int r0)) s.heap.size S V L) args s 0 0 (jA ad TC s.heap.size)) D TC ad cA (jA ad TC s.heap.size) 4 0 0 50 [(0, .ref (ad 30)), (1, .int x7), (2, .int x8), (3, .int x9)] [] S V L := by
          subst e_K50_6
          intro x7 x8 x9 h
          refine lt_elim h (fun x10 e_x10 h => ?_)
          refine j_iinc C [(3, .int x10), (0, .ref (ad 30)), (1, .int x7), (2, .int x8)] 3 dX4_hoursInPauses_50 rfl ((iinc_eq ci_1).trans e_x10.symm) (by decide) rfl ?_
          refine j_goto (tgt := 4) C dX4_hoursInPauses_53 (by decide) ?_
          exact j_sub [1, 2, 3, 0] rfl (ih _ _ _ h)
        refine j_icmp_ne (tgt := 50) C dX4_hoursInPauses_19 (by decide) (fun c11 => ?_) (fun c11 => ?_)
        · have h := (if_neg c11).symm.trans h
          exact j_sub [0, 1, 2, 3] rfl (HK50_6 _ _ _ h)
        · have h := (if_pos c11).symm.trans h
          refine j_aload_n C 0 rfl dX4_hoursInPauses_22 rfl ?_
          refine fg_X4_15_TC_30 C dX4_hoursInPauses_23 ?_
          refine j_iload_n C 3 rfl dX4_hoursInPauses_26 rfl ?_
          obtain ⟨g12, h⟩ := gd_elim h
          refine j_iald C tc_32 (ib_in g12) dX4_hoursInPauses_27 ?_
          refine j_iconst C dX4_hoursInPauses_28 ci_2 ?_
          refine j_icmp_ne (tgt := 50) C dX4_hoursInPauses_29 (by decide) (fun c13 => ?_) (fun c13 => ?_)
          · have h := (if_neg c13).symm.trans h
            exact j_sub [0, 1, 2, 3] rfl (HK50_6 _ _ _ h)
          · have h := (if_pos c13).symm.trans h
            refine j_iload_n C 2 rfl dX4_hoursInPauses_32 rfl ?_
            refine j_aload_n C 0 rfl dX4_hoursInPauses_33 rfl ?_
            refine fg_X4_21_TC_30 C dX4_hoursInPauses_34 ?_
            refine j_iload_n C 3 rfl dX4_hoursInPauses_37 rfl ?_
            obtain ⟨g14, h⟩ := gd_elim h
            refine j_iald C tc_34 (ib_in g14) dX4_hoursInPauses_38 ?_
            refine j_aload_n C 0 rfl dX4_hoursInPauses_39 rfl ?_
            refine fg_X4_18_TC_30 C dX4_hoursInPauses_40 ?_
            refine j_iload_n C 3 rfl dX4_hoursInPauses_43 rfl ?_
            obtain ⟨g15, h⟩ := gd_elim h
            refine j_iald C tc_33 (ib_in g15) dX4_hoursInPauses_44 ?_
            refine j_isub C dX4_hoursInPauses_45 ?_
            refine j_iconst C dX4_hoursInPauses_46 ci_1 ?_
            refine j_iadd C dX4_hoursInPauses_47 ?_
            refine j_iadd C dX4_hoursInPauses_48 ?_
            refine lt_elim h (fun x16 e_x16 h => ?_)
            refine j_top e_x16 ?_
            refine j_istore_n C [(2, .int x16), (0, .ref (ad 30)), (1, .int x1), (3, .int x3)] dX4_hoursInPauses_49 rfl (by decide) rfl ?_
            exact j_sub [1, 2, 0, 3] rfl (HK50_6 _ _ _ h)
  refine j_iconst C dX4_hoursInPauses_0 ci_0 ?_
  refine j_istore_n C [(2, .int (0 : Int32)), (0, .ref (ad 30)), (1, .int a1)] dX4_hoursInPauses_1 rfl (by decide) rfl ?_
  refine j_iconst C dX4_hoursInPauses_2 ci_0 ?_
  refine j_istore_n C [(3, .int (0 : Int32)), (2, .int (0 : Int32)), (0, .ref (ad 30)), (1, .int a1)] dX4_hoursInPauses_3 rfl (by decide) rfl ?_
  exact j_sub [2, 3, 1, 0] rfl (H_fX4_hoursInPauses_30_L4 FU _ _ _ h)
theorem dX4_hoursInHalves_0 : decode cX4_hoursInHalves 0 = .ok (.aload_n 0, 1) := by decide +kernel
theorem dX4_hoursInHalves_1 : decode cX4_hoursInHalves 1 = .ok (.iload_n 1, 1) := by decide +kernel
theorem dX4_hoursInHalves_2 : decode cX4_hoursInHalves 2 = .ok (.invokevirtual 69, 3) := by decide +kernel
theorem dX4_hoursInHalves_5 : decode cX4_hoursInHalves 5 = .ok (.invokestatic 108, 3) := by decide +kernel
theorem dX4_hoursInHalves_8 : decode cX4_hoursInHalves 8 = .ok (.aload_n 0, 1) := by decide +kernel
theorem dX4_hoursInHalves_9 : decode cX4_hoursInHalves 9 = .ok (.iload_n 1, 1) := by decide +kernel
theorem dX4_hoursInHalves_10 : decode cX4_hoursInHalves 10 = .ok (.invokevirtual 113, 3) := by decide +kernel
theorem dX4_hoursInHalves_13 : decode cX4_hoursInHalves 13 = .ok (.isub, 1) := by decide +kernel
theorem dX4_hoursInHalves_14 : decode cX4_hoursInHalves 14 = .ok (.ireturn, 1) := by decide +kernel
def fX4_hoursInHalves_30 (S : Nat → Int32) (V : Nat → Nat → Int32) (a1 : Int32) : Option (Int32) :=
  bd1 (fX4_hoursOf_30 S V a1) (fun r1 =>
  bd1 (fJ6_bitCount_0f7a4 r1) (fun r3 =>
  bd1 (fX4_hoursInPauses_30 S V a1) (fun r5 =>
  some ((r3 - r5)))))
set_option maxHeartbeats 4000000 in
set_option maxRecDepth 100000 in
theorem kX4_hoursInHalves_30 (l : Launch) (B : jBT) (D : va_G) (ad : Nat → Nat) (cA : Nat → ClassId) (hI : jI ad TC) (S : Nat → Int32) (V : Nat → Nat → Int32) (L : Nat → Int64) (a1 : Int32) (r0 : Int32) (h : fX4_hoursInHalves_30 S V a1 = some r0) : jM l yX4_hoursInHalves cX4_hoursInHalves 2 (some .int) ({ frames := 2, cells := 0, slots := 0, locals := 44 }) B D TC ad cA [.ref (ad 30), .int a1] S V L (some (.int r0)) S V L := by
  refine jM_of (by decide) TC_ok hI (Nat.le_of_ble_eq_true rfl) ?_
  intro p e s m args below meth c C hr hlk
  refine j_lv (lv2 := [(0, .ref (ad 30)), (1, .int a1)]) rfl ?_
  unfold fX4_hoursInHalves_30 at h
  refine j_aload_n C 0 rfl dX4_hoursInHalves_0 rfl ?_
  refine j_iload_n C 1 rfl dX4_hoursInHalves_1 rfl ?_
  obtain ⟨r1, h2, h⟩ := bd1_elim h
  refine j_callV (As := [.int a1]) (rest := []) C (kX4_hoursOf_30 l B D ad cA hI S V L a1 _ h2) mw_X4_hoursOf wd592 wd593 wd591 tc_30 rfl rfl ⟨rfl, rfl, by decide, by decide⟩ ⟨Nat.zero_le _, Nat.zero_le _⟩ rfl rfl (Nat.le_of_ble_eq_true rfl) dX4_hoursInHalves_2 ?_
  obtain ⟨r3, h4, h⟩ := bd1_elim h
  refine j_callS (As := [.int r1]) (rest := []) C (kJ6_bitCount_0f7a4 l B D ad cA hI S V L r1 _ h4) mw_J6_bitCount_0f7a4 wd1092 wd1091 ⟨rfl, rfl, by decide, by decide⟩ ⟨Nat.zero_le _, Nat.zero_le _⟩ rfl rfl (Nat.le_of_ble_eq_true rfl) dX4_hoursInHalves_5 ?_
  refine j_aload_n C 0 rfl dX4_hoursInHalves_8 rfl ?_
  refine j_iload_n C 1 rfl dX4_hoursInHalves_9 rfl ?_
  obtain ⟨r5, h6, h⟩ := bd1_elim h
  refine j_callV (As := [.int a1]) (rest := [.int r3]) C (kX4_hoursInPauses_30 l B D ad cA hI S V L a1 _ h6) mw_X4_hoursInPauses wd1098 wd1099 wd1097 tc_30 rfl rfl ⟨rfl, rfl, by decide, by decide⟩ ⟨Nat.zero_le _, Nat.zero_le _⟩ rfl rfl (Nat.le_of_ble_eq_true rfl) dX4_hoursInHalves_10 ?_
  refine j_isub C dX4_hoursInHalves_13 ?_
  cases h
  exact j_iret C hr hlk rfl dX4_hoursInHalves_14
theorem dX4_openPauses_0 : decode cX4_openPauses 0 = .ok (.aload_n 0, 1) := by decide +kernel
theorem dX4_openPauses_1 : decode cX4_openPauses 1 = .ok (.iconst 0, 1) := by decide +kernel
theorem dX4_openPauses_2 : decode cX4_openPauses 2 = .ok (.invokevirtual 65, 3) := by decide +kernel
theorem dX4_openPauses_5 : decode cX4_openPauses 5 = .ok (.aload_n 0, 1) := by decide +kernel
theorem dX4_openPauses_6 : decode cX4_openPauses 6 = .ok (.iconst 1, 1) := by decide +kernel
theorem dX4_openPauses_7 : decode cX4_openPauses 7 = .ok (.invokevirtual 65, 3) := by decide +kernel
theorem dX4_openPauses_10 : decode cX4_openPauses 10 = .ok (.iand, 1) := by decide +kernel
theorem dX4_openPauses_11 : decode cX4_openPauses 11 = .ok (.aload_n 0, 1) := by decide +kernel
theorem dX4_openPauses_12 : decode cX4_openPauses 12 = .ok (.iconst 2, 1) := by decide +kernel
theorem dX4_openPauses_13 : decode cX4_openPauses 13 = .ok (.invokevirtual 65, 3) := by decide +kernel
theorem dX4_openPauses_16 : decode cX4_openPauses 16 = .ok (.iconst (-1), 1) := by decide +kernel
theorem dX4_openPauses_17 : decode cX4_openPauses 17 = .ok (.ixor, 1) := by decide +kernel
theorem dX4_openPauses_18 : decode cX4_openPauses 18 = .ok (.iand, 1) := by decide +kernel
theorem dX4_openPauses_19 : decode cX4_openPauses 19 = .ok (.ireturn, 1) := by decide +kernel
def fX4_openPauses_30 (S : Nat → Int32) (V : Nat → Nat → Int32) : Option (Int32) :=
  bd1 (fX4_letHours_30 S V (0 : Int32)) (fun r1 =>
  bd1 (fX4_letHours_30 S V (1 : Int32)) (fun r3 =>
  bd1 (fX4_letHours_30 S V (2 : Int32)) (fun r5 =>
  some (((r1 &&& r3) &&& (r5 ^^^ (-1 : Int32)))))))
set_option maxHeartbeats 4000000 in
set_option maxRecDepth 100000 in
theorem kX4_openPauses_30 (l : Launch) (B : jBT) (D : va_G) (ad : Nat → Nat) (cA : Nat → ClassId) (hI : jI ad TC) (S : Nat → Int32) (V : Nat → Nat → Int32) (L : Nat → Int64) (r0 : Int32) (h : fX4_openPauses_30 S V = some r0) : jM l yX4_openPauses cX4_openPauses 1 (some .int) ({ frames := 2, cells := 0, slots := 0, locals := 44 }) B D TC ad cA [.ref (ad 30)] S V L (some (.int r0)) S V L := by
  refine jM_of (by decide) TC_ok hI (Nat.le_of_ble_eq_true rfl) ?_
  intro p e s m args below meth c C hr hlk
  refine j_lv (lv2 := [(0, .ref (ad 30))]) rfl ?_
  unfold fX4_openPauses_30 at h
  refine j_aload_n C 0 rfl dX4_openPauses_0 rfl ?_
  refine j_iconst C dX4_openPauses_1 ci_0 ?_
  obtain ⟨r1, h2, h⟩ := bd1_elim h
  refine j_callV (As := [.int (0 : Int32)]) (rest := []) C (kX4_letHours_30 l B D ad cA hI S V L (0 : Int32) _ h2) mw_X4_letHours wd589 wd1 wd587 tc_30 rfl rfl ⟨rfl, rfl, by decide, by decide⟩ ⟨Nat.zero_le _, Nat.zero_le _⟩ rfl rfl (Nat.le_of_ble_eq_true rfl) dX4_openPauses_2 ?_
  refine j_aload_n C 0 rfl dX4_openPauses_5 rfl ?_
  refine j_iconst C dX4_openPauses_6 ci_1 ?_
  obtain ⟨r3, h4, h⟩ := bd1_elim h
  refine j_callV (As := [.int (1 : Int32)]) (rest := [.int r1]) C (kX4_letHours_30 l B D ad cA hI S V L (1 : Int32) _ h4) mw_X4_letHours wd589 wd1 wd587 tc_30 rfl rfl ⟨rfl, rfl, by decide, by decide⟩ ⟨Nat.zero_le _, Nat.zero_le _⟩ rfl rfl (Nat.le_of_ble_eq_true rfl) dX4_openPauses_7 ?_
  refine j_iand C dX4_openPauses_10 ?_
  refine j_aload_n C 0 rfl dX4_openPauses_11 rfl ?_
  refine j_iconst C dX4_openPauses_12 ci_2 ?_
  obtain ⟨r5, h6, h⟩ := bd1_elim h
  refine j_callV (As := [.int (2 : Int32)]) (rest := [.int (r1 &&& r3)]) C (kX4_letHours_30 l B D ad cA hI S V L (2 : Int32) _ h6) mw_X4_letHours wd589 wd1 wd587 tc_30 rfl rfl ⟨rfl, rfl, by decide, by decide⟩ ⟨Nat.zero_le _, Nat.zero_le _⟩ rfl rfl (Nat.le_of_ble_eq_true rfl) dX4_openPauses_13 ?_
  refine j_iconst C dX4_openPauses_16 ci_m1 ?_
  refine j_ixor C dX4_openPauses_17 ?_
  refine j_iand C dX4_openPauses_18 ?_
  cases h
  exact j_iret C hr hlk rfl dX4_openPauses_19
theorem dX4_rentOf_0 : decode cX4_rentOf 0 = .ok (.aload_n 0, 1) := by decide +kernel
theorem dX4_rentOf_1 : decode cX4_rentOf 1 = .ok (.getfield 27, 3) := by decide +kernel
theorem dX4_rentOf_4 : decode cX4_rentOf 4 = .ok (.getfield 116, 3) := by decide +kernel
theorem dX4_rentOf_7 : decode cX4_rentOf 7 = .ok (.iload_n 1, 1) := by decide +kernel
theorem dX4_rentOf_8 : decode cX4_rentOf 8 = .ok (.iaload, 1) := by decide +kernel
theorem dX4_rentOf_9 : decode cX4_rentOf 9 = .ok (.istore_n 2, 1) := by decide +kernel
theorem dX4_rentOf_10 : decode cX4_rentOf 10 = .ok (.iload_n 2, 1) := by decide +kernel
theorem dX4_rentOf_11 : decode cX4_rentOf 11 = .ok (.aload_n 0, 1) := by decide +kernel
theorem dX4_rentOf_12 : decode cX4_rentOf 12 = .ok (.iload_n 1, 1) := by decide +kernel
theorem dX4_rentOf_13 : decode cX4_rentOf 13 = .ok (.invokevirtual 119, 3) := by decide +kernel
theorem dX4_rentOf_16 : decode cX4_rentOf 16 = .ok (.imul, 1) := by decide +kernel
theorem dX4_rentOf_17 : decode cX4_rentOf 17 = .ok (.iload_n 2, 1) := by decide +kernel
theorem dX4_rentOf_18 : decode cX4_rentOf 18 = .ok (.aload_n 0, 1) := by decide +kernel
theorem dX4_rentOf_19 : decode cX4_rentOf 19 = .ok (.iload_n 1, 1) := by decide +kernel
theorem dX4_rentOf_20 : decode cX4_rentOf 20 = .ok (.invokevirtual 113, 3) := by decide +kernel
theorem dX4_rentOf_23 : decode cX4_rentOf 23 = .ok (.imul, 1) := by decide +kernel
theorem dX4_rentOf_24 : decode cX4_rentOf 24 = .ok (.iconst 1, 1) := by decide +kernel
theorem dX4_rentOf_25 : decode cX4_rentOf 25 = .ok (.iadd, 1) := by decide +kernel
theorem dX4_rentOf_26 : decode cX4_rentOf 26 = .ok (.iconst 2, 1) := by decide +kernel
theorem dX4_rentOf_27 : decode cX4_rentOf 27 = .ok (.idiv, 1) := by decide +kernel
theorem dX4_rentOf_28 : decode cX4_rentOf 28 = .ok (.iadd, 1) := by decide +kernel
theorem dX4_rentOf_29 : decode cX4_rentOf 29 = .ok (.ireturn, 1) := by decide +kernel
def fX4_rentOf_30 (S : Nat → Int32) (V : Nat → Nat → Int32) (a1 : Int32) : Option (Int32) :=
  gd (ib a1 6) (
  lt ((V 7 (a1).toNatClampNeg)) (fun x2 =>
  bd1 (fX4_hoursInHalves_30 S V a1) (fun r3 =>
  bd1 (fX4_hoursInPauses_30 S V a1) (fun r5 =>
  some (((x2 * r3) + (((x2 * r5) + (1 : Int32)) / (2 : Int32))))))))
set_option maxHeartbeats 4000000 in
set_option maxRecDepth 100000 in
theorem kX4_rentOf_30 (l : Launch) (B : jBT) (D : va_G) (ad : Nat → Nat) (cA : Nat → ClassId) (hI : jI ad TC) (S : Nat → Int32) (V : Nat → Nat → Int32) (L : Nat → Int64) (a1 : Int32) (r0 : Int32) (h : fX4_rentOf_30 S V a1 = some r0) : jM l yX4_rentOf cX4_rentOf 3 (some .int) ({ frames := 3, cells := 0, slots := 0, locals := 65 }) B D TC ad cA [.ref (ad 30), .int a1] S V L (some (.int r0)) S V L := by
  refine jM_of (by decide) TC_ok hI (Nat.le_of_ble_eq_true rfl) ?_
  intro p e s m args below meth c C hr hlk
  refine j_lv (lv2 := [(0, .ref (ad 30)), (1, .int a1)]) rfl ?_
  unfold fX4_rentOf_30 at h
  refine j_aload_n C 0 rfl dX4_rentOf_0 rfl ?_
  refine fg_X4_27_TC_30 C dX4_rentOf_1 ?_
  refine fg_X4_116_TC_3 C dX4_rentOf_4 ?_
  refine j_iload_n C 1 rfl dX4_rentOf_7 rfl ?_
  obtain ⟨g1, h⟩ := gd_elim h
  refine j_iald C tc_7 (ib_in g1) dX4_rentOf_8 ?_
  refine lt_elim h (fun x2 e_x2 h => ?_)
  refine j_top e_x2 ?_
  refine j_istore_n C [(2, .int x2), (0, .ref (ad 30)), (1, .int a1)] dX4_rentOf_9 rfl (by decide) rfl ?_
  refine j_iload_n C 0 rfl dX4_rentOf_10 rfl ?_
  refine j_aload_n C 1 rfl dX4_rentOf_11 rfl ?_
  refine j_iload_n C 2 rfl dX4_rentOf_12 rfl ?_
  obtain ⟨r3, h4, h⟩ := bd1_elim h
  refine j_callV (As := [.int a1]) (rest := [.int x2]) C (kX4_hoursInHalves_30 l B D ad cA hI S V L a1 _ h4) mw_X4_hoursInHalves wd1088 wd1089 wd1330 tc_30 rfl rfl ⟨rfl, rfl, by decide, by decide⟩ ⟨Nat.zero_le _, Nat.zero_le _⟩ rfl rfl (Nat.le_of_ble_eq_true rfl) dX4_rentOf_13 ?_
  refine j_imul C dX4_rentOf_16 ?_
  refine j_iload_n C 0 rfl dX4_rentOf_17 rfl ?_
  refine j_aload_n C 1 rfl dX4_rentOf_18 rfl ?_
  refine j_iload_n C 2 rfl dX4_rentOf_19 rfl ?_
  obtain ⟨r5, h6, h⟩ := bd1_elim h
  refine j_callV (As := [.int a1]) (rest := [.int x2, .int (x2 * r3)]) C (kX4_hoursInPauses_30 l B D ad cA hI S V L a1 _ h6) mw_X4_hoursInPauses wd1098 wd1099 wd1097 tc_30 rfl rfl ⟨rfl, rfl, by decide, by decide⟩ ⟨Nat.zero_le _, Nat.zero_le _⟩ rfl rfl (Nat.le_of_ble_eq_true rfl) dX4_rentOf_20 ?_
  refine j_imul C dX4_rentOf_23 ?_
  refine j_iconst C dX4_rentOf_24 ci_1 ?_
  refine j_iadd C dX4_rentOf_25 ?_
  refine j_iconst C dX4_rentOf_26 ci_2 ?_
  refine j_idiv C dX4_rentOf_27 (by decide) ?_
  refine j_iadd C dX4_rentOf_28 ?_
  cases h
  exact j_iret C hr hlk rfl dX4_rentOf_29
