def fX12_valueOf_0_13 (V : Nat → Nat → Int32) (a1 : Int32) (a2 : Int32) (a3 : Int32) (a4 : Int32) : Option (Int32) :=
  lt ((((4 : Int32) * a3) + (1 : Int32))) (fun x1 =>
  gd (ib x1 52) (
  lt ((V 13 (x1).toNatClampNeg)) (fun x3 =>
  (if a1 = (0 : Int32) then
  lt (((4 : Int32) * a3)) (fun x5 =>
  gd (ib x5 52) (
  lt (((4 : Int32) * (V 13 (x5).toNatClampNeg))) (fun x7 =>
  gd (ib x7 24) (
  some ((V 1 (x7).toNatClampNeg))))))
  else
  (if a1 = (1 : Int32) then
  some x3
  else
  (if a1 = (2 : Int32) then
  some a4
  else
  (if a1 = (3 : Int32) then
  lt ((((4 : Int32) * a3) + (3 : Int32))) (fun x12 =>
  gd (ib x12 52) (
  lt ((((4 : Int32) * a3) + (2 : Int32))) (fun x14 =>
  gd (ib x14 52) (
  some ((((V 13 (x12).toNatClampNeg) - (V 13 (x14).toNatClampNeg)) + (1 : Int32)))))))
  else
  (if a1 = (4 : Int32) then
  (if (2 : Int32) ≤ x3 then
  bd1 (fX12_inOf_13 V a2 (0 : Int32) a4) (fun r18 =>
  bd1 (fX12_weightOf_0 V r18) (fun r20 =>
  bd1 (fX12_inOf_13 V a2 (1 : Int32) a4) (fun r22 =>
  bd1 (fX12_weightOf_0 V r22) (fun r24 =>
  some ((r20 + r24))))))
  else
  bd1 (fX12_inOf_13 V a2 (((1 : Int32) - x3)) a4) (fun r26 =>
  bd1 (fX12_weightOf_0 V r26) (fun r28 =>
  some r28)))
  else
  lt (((4 : Int32) * a3)) (fun x30 =>
  gd (ib x30 52) (
  lt ((V 13 (x30).toNatClampNeg)) (fun x32 =>
  gd (ib x32 6) (
  bd1 (fX12_allIn_13 V a2 a4) (fun r34 =>
  bd1 (fX12_bits (((V 2 (x32).toNatClampNeg) &&& r34))) (fun r36 =>
  some r36))))))))))))))
set_option maxHeartbeats 4000000 in
set_option maxRecDepth 100000 in
theorem kX12_valueOf_0_13 (l : Launch) (B : jBT) (D : va_G) (ad : Nat → Nat) (cA : Nat → ClassId) (hI : jI ad TR) (S : Nat → Int32) (V : Nat → Nat → Int32) (L : Nat → Int64) (a1 : Int32) (a2 : Int32) (a3 : Int32) (a4 : Int32) (r0 : Int32) (h : fX12_valueOf_0_13 V a1 a2 a3 a4 = some r0) : jM l yX12_valueOf cX12_valueOf 7 (some .int) ({ frames := 2, cells := 0, slots := 0, locals := 49 }) B D TR ad cA [.ref (ad 0), .int a1, .ref (ad 13), .int a2, .int a3, .int a4] S V L (some (.int r0)) S V L := by
  refine jM_of (plainFor_of_name (by decide)) TR_ok hI (Nat.le_of_ble_eq_true rfl) ?_
  intro p e s m args below meth c C hr hlk
  refine j_lv (lv2 := [(0, .ref (ad 0)), (1, .int a1), (2, .ref (ad 13)), (3, .int a2), (4, .int a3), (5, .int a4)]) rfl ?_
  unfold fX12_valueOf_0_13 at h
  refine j_aload_n C 2 rfl dX12_valueOf_0 rfl ?_
  refine j_iconst C dX12_valueOf_1 ci_4 ?_
  refine j_iload C 4 rfl dX12_valueOf_2 ?_
  refine j_imul C dX12_valueOf_4 ?_
  refine j_iconst C dX12_valueOf_5 ci_1 ?_
  refine j_iadd C dX12_valueOf_6 ?_
  refine lt_elim h (fun x1 e_x1 h => ?_)
  refine j_top e_x1 ?_
  obtain ⟨g2, h⟩ := gd_elim h
  refine j_iald C tr_13 (ib_in g2) dX12_valueOf_7 ?_
  refine lt_elim h (fun x3 e_x3 h => ?_)
  refine j_top e_x3 ?_
  refine j_istore C [(6, .int x3), (0, .ref (ad 0)), (1, .int a1), (2, .ref (ad 13)), (3, .int a2), (4, .int a3), (5, .int a4)] dX12_valueOf_8 (by decide) rfl ?_
  refine j_iload_n C 2 rfl dX12_valueOf_10 rfl ?_
  by_cases c4 : a1 = (0 : Int32)
  · have h := (if_pos c4).symm.trans h
    refine j_tableIn (tgt := 44) C dX12_valueOf_11 (by rw [c4]; decide) (by rw [c4]; decide) (by rw [c4]; rfl) (by decide) ?_
    refine j_aload_n C 1 rfl dX12_valueOf_44 rfl ?_
    refine fg_X12_19_TR_0 C dX12_valueOf_45 ?_
    refine j_iconst C dX12_valueOf_48 ci_4 ?_
    refine j_aload_n C 3 rfl dX12_valueOf_49 rfl ?_
    refine j_iconst C dX12_valueOf_50 ci_4 ?_
    refine j_iload C 5 rfl dX12_valueOf_51 ?_
    refine j_imul C dX12_valueOf_53 ?_
    refine lt_elim h (fun x5 e_x5 h => ?_)
    refine j_top e_x5 ?_
    obtain ⟨g6, h⟩ := gd_elim h
    refine j_iald C tr_13 (ib_in g6) dX12_valueOf_54 ?_
    refine j_imul C dX12_valueOf_55 ?_
    refine lt_elim h (fun x7 e_x7 h => ?_)
    refine j_top e_x7 ?_
    obtain ⟨g8, h⟩ := gd_elim h
    refine j_iald C tr_1 (ib_in g8) dX12_valueOf_56 ?_
    cases h
    exact j_iret C hr hlk rfl dX12_valueOf_57
  have h := (if_neg c4).symm.trans h
  have n_c4 := ne_toInt (z := 0) (by decide) c4
  by_cases c9 : a1 = (1 : Int32)
  · have h := (if_pos c9).symm.trans h
    refine j_tableIn (tgt := 58) C dX12_valueOf_11 (by rw [c9]; decide) (by rw [c9]; decide) (by rw [c9]; rfl) (by decide) ?_
    refine j_iload C 0 rfl dX12_valueOf_58 ?_
    cases h
    exact j_iret C hr hlk rfl dX12_valueOf_60
  have h := (if_neg c9).symm.trans h
  have n_c9 := ne_toInt (z := 1) (by decide) c9
  by_cases c10 : a1 = (2 : Int32)
  · have h := (if_pos c10).symm.trans h
    refine j_tableIn (tgt := 61) C dX12_valueOf_11 (by rw [c10]; decide) (by rw [c10]; decide) (by rw [c10]; rfl) (by decide) ?_
    refine j_iload C 6 rfl dX12_valueOf_61 ?_
    cases h
    exact j_iret C hr hlk rfl dX12_valueOf_63
  have h := (if_neg c10).symm.trans h
  have n_c10 := ne_toInt (z := 2) (by decide) c10
  by_cases c11 : a1 = (3 : Int32)
  · have h := (if_pos c11).symm.trans h
    refine j_tableIn (tgt := 64) C dX12_valueOf_11 (by rw [c11]; decide) (by rw [c11]; decide) (by rw [c11]; rfl) (by decide) ?_
    refine j_aload_n C 3 rfl dX12_valueOf_64 rfl ?_
    refine j_iconst C dX12_valueOf_65 ci_4 ?_
    refine j_iload C 5 rfl dX12_valueOf_66 ?_
    refine j_imul C dX12_valueOf_68 ?_
    refine j_iconst C dX12_valueOf_69 ci_3 ?_
    refine j_iadd C dX12_valueOf_70 ?_
    refine lt_elim h (fun x12 e_x12 h => ?_)
    refine j_top e_x12 ?_
    obtain ⟨g13, h⟩ := gd_elim h
    refine j_iald C tr_13 (ib_in g13) dX12_valueOf_71 ?_
    refine j_aload_n C 3 rfl dX12_valueOf_72 rfl ?_
    refine j_iconst C dX12_valueOf_73 ci_4 ?_
    refine j_iload C 5 rfl dX12_valueOf_74 ?_
    refine j_imul C dX12_valueOf_76 ?_
    refine j_iconst C dX12_valueOf_77 ci_2 ?_
    refine j_iadd C dX12_valueOf_78 ?_
    refine lt_elim h (fun x14 e_x14 h => ?_)
    refine j_top e_x14 ?_
    obtain ⟨g15, h⟩ := gd_elim h
    refine j_iald C tr_13 (ib_in g15) dX12_valueOf_79 ?_
    refine j_isub C dX12_valueOf_80 ?_
    refine j_iconst C dX12_valueOf_81 ci_1 ?_
    refine j_iadd C dX12_valueOf_82 ?_
    cases h
    exact j_iret C hr hlk rfl dX12_valueOf_83
  have h := (if_neg c11).symm.trans h
  have n_c11 := ne_toInt (z := 3) (by decide) c11
  by_cases c16 : a1 = (4 : Int32)
  · have h := (if_pos c16).symm.trans h
    refine j_tableIn (tgt := 84) C dX12_valueOf_11 (by rw [c16]; decide) (by rw [c16]; decide) (by rw [c16]; rfl) (by decide) ?_
    refine j_iload C 0 rfl dX12_valueOf_84 ?_
    refine j_iconst C dX12_valueOf_86 ci_2 ?_
    refine j_icmp_ge (tgt := 106) C dX12_valueOf_87 (by decide) (fun c17 => ?_) (fun c17 => ?_)
    · have h := (if_pos c17).symm.trans h
      refine j_aload_n C 1 rfl dX12_valueOf_106 rfl ?_
      refine j_aload_n C 3 rfl dX12_valueOf_107 rfl ?_
      refine j_iload_n C 4 rfl dX12_valueOf_108 rfl ?_
      refine j_iconst C dX12_valueOf_109 ci_0 ?_
      refine j_iload C 6 rfl dX12_valueOf_110 ?_
      obtain ⟨r18, h19, h⟩ := bd1_elim h
      refine j_callS (As := [.ref (ad 13), .int a2, .int (0 : Int32), .int a4]) (rest := [.ref (ad 0)]) C (kX12_inOf_13 l B D ad cA hI S V L a2 (0 : Int32) a4 _ h19) mw_X12_inOf wd1775 wd1774 ⟨rfl, rfl, by decide, by decide⟩ ⟨Nat.zero_le _, Nat.zero_le _⟩ rfl rfl (Nat.le_of_ble_eq_true rfl) dX12_valueOf_112 ?_
      obtain ⟨r20, h21, h⟩ := bd1_elim h
      refine j_callV (As := [.int r18]) (rest := []) C (kX12_weightOf_0 l B D ad cA hI S V L r18 _ h21) mw_X12_weightOf wd1794 wd85 wd1792 tr_0 rfl rfl ⟨rfl, rfl, by decide, by decide⟩ ⟨Nat.zero_le _, Nat.zero_le _⟩ rfl rfl (Nat.le_of_ble_eq_true rfl) dX12_valueOf_115 ?_
      refine j_aload_n C 1 rfl dX12_valueOf_118 rfl ?_
      refine j_aload_n C 3 rfl dX12_valueOf_119 rfl ?_
      refine j_iload_n C 4 rfl dX12_valueOf_120 rfl ?_
      refine j_iconst C dX12_valueOf_121 ci_1 ?_
      refine j_iload C 6 rfl dX12_valueOf_122 ?_
      obtain ⟨r22, h23, h⟩ := bd1_elim h
      refine j_callS (As := [.ref (ad 13), .int a2, .int (1 : Int32), .int a4]) (rest := [.ref (ad 0), .int r20]) C (kX12_inOf_13 l B D ad cA hI S V L a2 (1 : Int32) a4 _ h23) mw_X12_inOf wd1775 wd1774 ⟨rfl, rfl, by decide, by decide⟩ ⟨Nat.zero_le _, Nat.zero_le _⟩ rfl rfl (Nat.le_of_ble_eq_true rfl) dX12_valueOf_124 ?_
      obtain ⟨r24, h25, h⟩ := bd1_elim h
      refine j_callV (As := [.int r22]) (rest := [.int r20]) C (kX12_weightOf_0 l B D ad cA hI S V L r22 _ h25) mw_X12_weightOf wd1794 wd85 wd1792 tr_0 rfl rfl ⟨rfl, rfl, by decide, by decide⟩ ⟨Nat.zero_le _, Nat.zero_le _⟩ rfl rfl (Nat.le_of_ble_eq_true rfl) dX12_valueOf_127 ?_
      refine j_iadd C dX12_valueOf_130 ?_
      cases h
      exact j_iret C hr hlk rfl dX12_valueOf_131
    · have h := (if_neg c17).symm.trans h
      refine j_aload_n C 1 rfl dX12_valueOf_90 rfl ?_
      refine j_aload_n C 3 rfl dX12_valueOf_91 rfl ?_
      refine j_iload_n C 4 rfl dX12_valueOf_92 rfl ?_
      refine j_iconst C dX12_valueOf_93 ci_1 ?_
      refine j_iload C 0 rfl dX12_valueOf_94 ?_
      refine j_isub C dX12_valueOf_96 ?_
      refine j_iload C 6 rfl dX12_valueOf_97 ?_
      obtain ⟨r26, h27, h⟩ := bd1_elim h
      refine j_callS (As := [.ref (ad 13), .int a2, .int ((1 : Int32) - x3), .int a4]) (rest := [.ref (ad 0)]) C (kX12_inOf_13 l B D ad cA hI S V L a2 (((1 : Int32) - x3)) a4 _ h27) mw_X12_inOf wd1775 wd1774 ⟨rfl, rfl, by decide, by decide⟩ ⟨Nat.zero_le _, Nat.zero_le _⟩ rfl rfl (Nat.le_of_ble_eq_true rfl) dX12_valueOf_99 ?_
      obtain ⟨r28, h29, h⟩ := bd1_elim h
      refine j_callV (As := [.int r26]) (rest := []) C (kX12_weightOf_0 l B D ad cA hI S V L r26 _ h29) mw_X12_weightOf wd1794 wd85 wd1792 tr_0 rfl rfl ⟨rfl, rfl, by decide, by decide⟩ ⟨Nat.zero_le _, Nat.zero_le _⟩ rfl rfl (Nat.le_of_ble_eq_true rfl) dX12_valueOf_102 ?_
      cases h
      exact j_iret C hr hlk rfl dX12_valueOf_105
  have h := (if_neg c16).symm.trans h
  have n_c16 := ne_toInt (z := 4) (by decide) c16
  refine j_tableOut (tgt := 132) C dX12_valueOf_11 (by omega) (by decide) ?_
  refine j_aload_n C 1 rfl dX12_valueOf_132 rfl ?_
  refine fg_X12_23_TR_0 C dX12_valueOf_133 ?_
  refine j_aload_n C 3 rfl dX12_valueOf_136 rfl ?_
  refine j_iconst C dX12_valueOf_137 ci_4 ?_
  refine j_iload C 5 rfl dX12_valueOf_138 ?_
  refine j_imul C dX12_valueOf_140 ?_
  refine lt_elim h (fun x30 e_x30 h => ?_)
  refine j_top e_x30 ?_
  obtain ⟨g31, h⟩ := gd_elim h
  refine j_iald C tr_13 (ib_in g31) dX12_valueOf_141 ?_
  refine lt_elim h (fun x32 e_x32 h => ?_)
  refine j_top e_x32 ?_
  obtain ⟨g33, h⟩ := gd_elim h
  refine j_iald C tr_2 (ib_in g33) dX12_valueOf_142 ?_
  refine j_aload_n C 3 rfl dX12_valueOf_143 rfl ?_
  refine j_iload_n C 4 rfl dX12_valueOf_144 rfl ?_
  refine j_iload C 6 rfl dX12_valueOf_145 ?_
  obtain ⟨r34, h35, h⟩ := bd1_elim h
  refine j_callS (As := [.ref (ad 13), .int a2, .int a4]) (rest := [.int (V 2 (x32).toNatClampNeg)]) C (kX12_allIn_13 l B D ad cA hI S V L a2 a4 _ h35) mw_X12_allIn wd1778 wd1777 ⟨rfl, rfl, by decide, by decide⟩ ⟨Nat.zero_le _, Nat.zero_le _⟩ rfl rfl (Nat.le_of_ble_eq_true rfl) dX12_valueOf_147 ?_
  refine j_iand C dX12_valueOf_150 ?_
  obtain ⟨r36, h37, h⟩ := bd1_elim h
  refine j_callS (As := [.int ((V 2 (x32).toNatClampNeg) &&& r34)]) (rest := []) C (kX12_bits l B D ad cA hI S V L (((V 2 (x32).toNatClampNeg) &&& r34)) _ h37) mw_X12_bits wd1797 wd1796 ⟨rfl, rfl, by decide, by decide⟩ ⟨Nat.zero_le _, Nat.zero_le _⟩ rfl rfl (Nat.le_of_ble_eq_true rfl) dX12_valueOf_151 ?_
  cases h
  exact j_iret C hr hlk rfl dX12_valueOf_154
def fX12_reckons_0_13_L6 (E160 : (Nat → Nat → Int32) → Option (Int32 × (Nat → Nat → Int32))) : Nat → Int32 → Int32 → Int32 → Int32 → Int32 → (Nat → Nat → Int32) → Option (Int32 × (Nat → Nat → Int32))
  | 0, _, _, _, _, _, _ => none
  | n + 1, x1, x2, x3, x4, x5, V6 =>
    gd (ib x5 1600) (
    (if (V6 4 (x5).toNatClampNeg) = 0 then
    E160 V6
    else
    gd (ib x5 1600) (
    lt ((V6 4 (x5).toNatClampNeg)) (fun x10 =>
    lt (x5 + (1 : Int32)) (fun x11 =>
    bk (fun (x13 : Int32) (x14 : Int32) (x15 : Int32) (x16 : Int32) (x17 : Int32) (V18 : Nat → Nat → Int32) =>
    fX12_reckons_0_13_L6 E160 n x13 x14 x15 x16 x17 V18) (fun K157_12 =>
    bk (fun (x20 : Int32) (x21 : Int32) (x22 : Int32) (x23 : Int32) (x24 : Int32) (x25 : Int32) (V26 : Nat → Nat → Int32) =>
    bk (fun (x28 : Int32) (x29 : Int32) (x30 : Int32) (x31 : Int32) (x32 : Int32) (x33 : Int32) (x34 : Int32) (V35 : Nat → Nat → Int32) =>
    gd (ib x34 800) (
    lt (va_up V35 15 (upd (V35 15) (x34).toNatClampNeg x33)) (fun V37 =>
    lt (x32 + (1 : Int32)) (fun x38 =>
    lt (x31 + (1 : Int32)) (fun x39 =>
    K157_12 x28 x29 x30 x39 x38 V37))))) (fun K79_27 =>
    (if x25 = (1 : Int32) then
    gd (ib x24 1600) (
    K79_27 x20 x21 x22 x23 x24 ((V26 4 (x24).toNatClampNeg)) x23 V26)
    else
    gd (ib x24 1600) (
    bd1 (fX12_valueOf_0_13 V26 ((V26 4 (x24).toNatClampNeg)) x20 x21 x22) (fun r42 =>
    K79_27 x20 x21 x22 x23 x24 r42 x23 V26))))) (fun K40_19 =>
    (if x10 = (1 : Int32) then
    K40_19 x1 x2 x3 x4 x11 x10 V6
    else
    (if x10 = (2 : Int32) then
    K40_19 x1 x2 x3 x4 x11 x10 V6
    else
    (if x10 = (3 : Int32) then
    lt ((x4 - (1 : Int32))) (fun x57 =>
    gd (ib x57 800) (
    bk (fun (x60 : Int32) (x61 : Int32) (x62 : Int32) (x63 : Int32) (x64 : Int32) (x65 : Int32) (x66 : Int32) (V67 : Nat → Nat → Int32) =>
    gd (ib x66 800) (
    lt (va_up V67 15 (upd (V67 15) (x66).toNatClampNeg x65)) (fun V69 =>
    K157_12 x60 x61 x62 x63 x64 V69))) (fun K120_59 =>
    (if (V6 15 (x57).toNatClampNeg) = 0 then
    K120_59 x1 x2 x3 x4 x11 (1 : Int32) ((x4 - (1 : Int32))) V6
    else
    K120_59 x1 x2 x3 x4 x11 (0 : Int32) ((x4 - (1 : Int32))) V6))))
    else
    lt (x4 + (-1 : Int32)) (fun x48 =>
    lt ((x48 - (1 : Int32))) (fun x49 =>
    gd (ib x49 800) (
    gd (ib x48 800) (
    bd1 (fX12_works x10 ((V6 15 (x49).toNatClampNeg)) ((V6 15 (x48).toNatClampNeg))) (fun r52 =>
    lt ((x48 - (1 : Int32))) (fun x54 =>
    gd (ib x54 800) (
    lt (va_up V6 15 (upd (V6 15) (x54).toNatClampNeg r52)) (fun V56 =>
    K157_12 x1 x2 x3 x48 x11 V56))))))))))))))))))
def fX12_reckons_0_13 (V : Nat → Nat → Int32) (a1 : Int32) (a2 : Int32) (a3 : Int32) (a4 : Int32) : Option (Int32 × (Nat → Nat → Int32)) :=
  bk (fun (V73 : Nat → Nat → Int32) =>
  gd (ib (0 : Int32) 800) (
  some ((V73 15 ((0 : Int32)).toNatClampNeg), V73))) (fun X160_72 =>
  fX12_reckons_0_13_L6 X160_72 FU a2 a3 a4 (0 : Int32) a1 V)
set_option maxHeartbeats 4000000 in
set_option maxRecDepth 100000 in
theorem kX12_reckons_0_13 (l : Launch) (B : jBT) (D : va_G) (ad : Nat → Nat) (cA : Nat → ClassId) (hI : jI ad TR) (S : Nat → Int32) (V : Nat → Nat → Int32) (L : Nat → Int64) (a1 : Int32) (a2 : Int32) (a3 : Int32) (a4 : Int32) (r0 : Int32) (V0 : Nat → Nat → Int32) (h : fX12_reckons_0_13 V a1 a2 a3 a4 = some (r0, V0)) : jM l yX12_reckons cX12_reckons 9 (some .int) ({ frames := 3, cells := 0, slots := 0, locals := 75 }) B D TR ad cA [.ref (ad 0), .int a1, .ref (ad 13), .int a2, .int a3, .int a4] S V L (some (.int r0)) S V0 L := by
  refine jM_of (plainFor_of_name (by decide)) TR_ok hI (Nat.le_of_ble_eq_true rfl) ?_
  intro p e s m args below meth c C hr hlk
  refine j_lv (lv2 := [(0, .ref (ad 0)), (1, .int a1), (2, .ref (ad 13)), (3, .int a2), (4, .int a3), (5, .int a4)]) rfl ?_
  unfold fX12_reckons_0_13 at h
  have H_fX12_reckons_0_13_L6 : ∀ (E160 : (Nat → Nat → Int32) → Option (Int32 × (Nat → Nat → Int32))) (_ : ∀ (V71 : Nat → Nat → Int32), E160 V71 = some (r0, V0) → jW p l e ({ frames := 3, cells := 0, slots := 0, locals := 75 }) s m args below meth c (MQ below (jQc D TR ad cA (some (.int r0)) s.heap.size S V0 L) args s 0 0 (jA ad TR s.heap.size)) D TR ad cA (jA ad TR s.heap.size) 9 0 0 160 [(0, .ref (ad 0))] [] S V71 L) (n : Nat) (x1 : Int32) (x2 : Int32) (x3 : Int32) (x4 : Int32) (x5 : Int32) (V6 : Nat → Nat → Int32), fX12_reckons_0_13_L6 E160 n x1 x2 x3 x4 x5 V6 = some (r0, V0) → jW p l e ({ frames := 3, cells := 0, slots := 0, locals := 75 }) s m args below meth c (MQ below (jQc D TR ad cA (some (.int r0)) s.heap.size S V0 L) args s 0 0 (jA ad TR s.heap.size)) D TR ad cA (jA ad TR s.heap.size) 9 0 0 6 [(0, .ref (ad 0)), (2, .ref (ad 13)), (3, .int x1), (4, .int x2), (5, .int x3), (6, .int x4), (7, .int x5)] [] S V6 L := by
    intro E160 HE160
    intro n
    induction n with
    | zero =>
      intro x1 x2 x3 x4 x5 V6 h
      cases (show (none : Option (Int32 × (Nat → Nat → Int32))) = some (r0, V0) from h)
    | succ n ih =>
      intro x1 x2 x3 x4 x5 V6 h
      unfold fX12_reckons_0_13_L6 at h
      refine j_aload_n C 0 rfl dX12_reckons_6 rfl ?_
      refine fg_X12_29_TR_0 C dX12_reckons_7 ?_
      refine j_iload C 6 rfl dX12_reckons_10 ?_
      obtain ⟨g7, h⟩ := gd_elim h
      refine j_iald C tr_4 (ib_in g7) dX12_reckons_12 ?_
      refine j_if_eq (tgt := 160) C dX12_reckons_13 (by decide) (fun c8 => ?_) (fun c8 => ?_)
      · have h := (if_pos c8).symm.trans h
        exact j_sub [0] rfl (HE160 _ h)
      · have h := (if_neg c8).symm.trans h
        refine j_aload_n C 0 rfl dX12_reckons_16 rfl ?_
        refine fg_X12_29_TR_0 C dX12_reckons_17 ?_
        refine j_iload C 6 rfl dX12_reckons_20 ?_
        obtain ⟨g9, h⟩ := gd_elim h
        refine j_iald C tr_4 (ib_in g9) dX12_reckons_22 ?_
        refine lt_elim h (fun x10 e_x10 h => ?_)
        refine j_top e_x10 ?_
        refine j_istore C [(8, .int x10), (0, .ref (ad 0)), (2, .ref (ad 13)), (3, .int x1), (4, .int x2), (5, .int x3), (6, .int x4), (7, .int x5)] dX12_reckons_23 (by decide) rfl ?_
        refine lt_elim h (fun x11 e_x11 h => ?_)
        refine j_iinc C [(7, .int x11), (8, .int x10), (0, .ref (ad 0)), (2, .ref (ad 13)), (3, .int x1), (4, .int x2), (5, .int x3), (6, .int x4)] 7 dX12_reckons_25 rfl ((iinc_eq ci_1).trans e_x11.symm) (by decide) rfl ?_
        refine j_iload C 1 rfl dX12_reckons_28 ?_
        refine j_iconst C dX12_reckons_30 ci_1 ?_
        refine bk_elim h (fun K157_12 e_K157_12 h => ?_)
        have HK157_12 : ∀ (x13 : Int32) (x14 : Int32) (x15 : Int32) (x16 : Int32) (x17 : Int32) (V18 : Nat → Nat → Int32), K157_12 x13 x14 x15 x16 x17 V18 = some (r0, V0) → jW p l e ({ frames := 3, cells := 0, slots := 0, locals := 75 }) s m args below meth c (MQ below (jQc D TR ad cA (some (.int r0)) s.heap.size S V0 L) args s 0 0 (jA ad TR s.heap.size)) D TR ad cA (jA ad TR s.heap.size) 9 0 0 157 [(0, .ref (ad 0)), (2, .ref (ad 13)), (3, .int x13), (4, .int x14), (5, .int x15), (6, .int x16), (7, .int x17)] [] S V18 L := by
          subst e_K157_12
          intro x13 x14 x15 x16 x17 V18 h
          refine j_goto (tgt := 6) C dX12_reckons_157 (by decide) ?_
          exact j_sub [0, 1, 2, 3, 4, 5, 6] rfl (ih _ _ _ _ _ _ h)
        refine bk_elim h (fun K40_19 e_K40_19 h => ?_)
        have HK40_19 : ∀ (x20 : Int32) (x21 : Int32) (x22 : Int32) (x23 : Int32) (x24 : Int32) (x25 : Int32) (V26 : Nat → Nat → Int32), K40_19 x20 x21 x22 x23 x24 x25 V26 = some (r0, V0) → jW p l e ({ frames := 3, cells := 0, slots := 0, locals := 75 }) s m args below meth c (MQ below (jQc D TR ad cA (some (.int r0)) s.heap.size S V0 L) args s 0 0 (jA ad TR s.heap.size)) D TR ad cA (jA ad TR s.heap.size) 9 0 0 40 [(0, .ref (ad 0)), (2, .ref (ad 13)), (3, .int x20), (4, .int x21), (5, .int x22), (6, .int x23), (7, .int x24), (8, .int x25)] [] S V26 L := by
          subst e_K40_19
          intro x20 x21 x22 x23 x24 x25 V26 h
          refine j_aload_n C 0 rfl dX12_reckons_40 rfl ?_
          refine fg_X12_66_TR_0 C dX12_reckons_41 ?_
          refine j_iload C 5 rfl dX12_reckons_44 ?_
          refine j_iload C 7 rfl dX12_reckons_46 ?_
          refine j_iconst C dX12_reckons_48 ci_1 ?_
          refine bk_elim h (fun K79_27 e_K79_27 h => ?_)
          have HK79_27 : ∀ (x28 : Int32) (x29 : Int32) (x30 : Int32) (x31 : Int32) (x32 : Int32) (x33 : Int32) (x34 : Int32) (V35 : Nat → Nat → Int32), K79_27 x28 x29 x30 x31 x32 x33 x34 V35 = some (r0, V0) → jW p l e ({ frames := 3, cells := 0, slots := 0, locals := 75 }) s m args below meth c (MQ below (jQc D TR ad cA (some (.int r0)) s.heap.size S V0 L) args s 0 0 (jA ad TR s.heap.size)) D TR ad cA (jA ad TR s.heap.size) 9 0 0 79 [(0, .ref (ad 0)), (2, .ref (ad 13)), (3, .int x28), (4, .int x29), (5, .int x30), (6, .int x31), (7, .int x32)] [.int x33, .int x34, .ref (ad 15)] S V35 L := by
            subst e_K79_27
            intro x28 x29 x30 x31 x32 x33 x34 V35 h
            obtain ⟨g36, h⟩ := gd_elim h
            refine j_iast C tr_15 (ib_in g36) dX12_reckons_79 ?_
            refine lt_elim h (fun V37 e_V37 h => ?_)
            refine j_V e_V37 ?_
            refine lt_elim h (fun x38 e_x38 h => ?_)
            refine j_iinc C [(7, .int x38), (0, .ref (ad 0)), (2, .ref (ad 13)), (3, .int x28), (4, .int x29), (5, .int x30), (6, .int x31)] 6 dX12_reckons_80 rfl ((iinc_eq ci_1).trans e_x38.symm) (by decide) rfl ?_
            refine lt_elim h (fun x39 e_x39 h => ?_)
            refine j_iinc C [(6, .int x39), (7, .int x38), (0, .ref (ad 0)), (2, .ref (ad 13)), (3, .int x28), (4, .int x29), (5, .int x30)] 6 dX12_reckons_83 rfl ((iinc_eq ci_1).trans e_x39.symm) (by decide) rfl ?_
            refine j_goto (tgt := 157) C dX12_reckons_86 (by decide) ?_
            exact j_sub [2, 3, 4, 5, 6, 0, 1] rfl (HK157_12 _ _ _ _ _ _ h)
          refine j_icmp_ne (tgt := 62) C dX12_reckons_49 (by decide) (fun c40 => ?_) (fun c40 => ?_)
          · have h := (if_neg c40).symm.trans h
            refine j_aload_n C 0 rfl dX12_reckons_62 rfl ?_
            refine j_aload_n C 0 rfl dX12_reckons_63 rfl ?_
            refine fg_X12_29_TR_0 C dX12_reckons_64 ?_
            refine j_iload C 6 rfl dX12_reckons_67 ?_
            obtain ⟨g41, h⟩ := gd_elim h
            refine j_iald C tr_4 (ib_in g41) dX12_reckons_69 ?_
            refine j_aload_n C 1 rfl dX12_reckons_70 rfl ?_
            refine j_iload_n C 2 rfl dX12_reckons_71 rfl ?_
            refine j_iload C 3 rfl dX12_reckons_72 ?_
            refine j_iload C 4 rfl dX12_reckons_74 ?_
            obtain ⟨r42, h43, h⟩ := bd1_elim h
            refine j_callV (As := [.int (V26 4 (x24).toNatClampNeg), .ref (ad 13), .int x20, .int x21, .int x22]) (rest := [.int x23, .ref (ad 15)]) C (kX12_valueOf_0_13 l B D ad cA hI S V26 L ((V26 4 (x24).toNatClampNeg)) x20 x21 x22 _ h43) mw_X12_valueOf wd1790 wd84 wd1788 tr_0 rfl rfl ⟨rfl, rfl, by decide, by decide⟩ ⟨Nat.zero_le _, Nat.zero_le _⟩ rfl rfl (Nat.le_of_ble_eq_true rfl) dX12_reckons_76 ?_
            exact j_sub [0, 1, 2, 3, 4, 5, 6] rfl (HK79_27 _ _ _ _ _ _ _ _ h)
          · have h := (if_pos c40).symm.trans h
            refine j_aload_n C 0 rfl dX12_reckons_52 rfl ?_
            refine fg_X12_29_TR_0 C dX12_reckons_53 ?_
            refine j_iload C 6 rfl dX12_reckons_56 ?_
            obtain ⟨g44, h⟩ := gd_elim h
            refine j_iald C tr_4 (ib_in g44) dX12_reckons_58 ?_
            refine j_goto (tgt := 79) C dX12_reckons_59 (by decide) ?_
            exact j_sub [0, 1, 2, 3, 4, 5, 6] rfl (HK79_27 _ _ _ _ _ _ _ _ h)
        refine j_icmp_eq (tgt := 40) C dX12_reckons_31 (by decide) (fun c45 => ?_) (fun c45 => ?_)
        · have h := (if_pos c45).symm.trans h
          exact j_sub [2, 3, 4, 5, 6, 7, 0, 1] rfl (HK40_19 _ _ _ _ _ _ _ h)
        · have h := (if_neg c45).symm.trans h
          refine j_iload C 1 rfl dX12_reckons_34 ?_
          refine j_iconst C dX12_reckons_36 ci_2 ?_
          refine j_icmp_ne (tgt := 89) C dX12_reckons_37 (by decide) (fun c46 => ?_) (fun c46 => ?_)
          · have h := (if_neg c46).symm.trans h
            refine j_iload C 1 rfl dX12_reckons_89 ?_
            refine j_iconst C dX12_reckons_91 ci_3 ?_
            refine j_icmp_ne (tgt := 124) C dX12_reckons_92 (by decide) (fun c47 => ?_) (fun c47 => ?_)
            · have h := (if_neg c47).symm.trans h
              refine lt_elim h (fun x48 e_x48 h => ?_)
              refine j_iinc C [(6, .int x48), (7, .int x11), (8, .int x10), (0, .ref (ad 0)), (2, .ref (ad 13)), (3, .int x1), (4, .int x2), (5, .int x3)] 7 dX12_reckons_124 rfl ((iinc_eq ci_m1).trans e_x48.symm) (by decide) rfl ?_
              refine j_aload_n C 3 rfl dX12_reckons_127 rfl ?_
              refine fg_X12_66_TR_0 C dX12_reckons_128 ?_
              refine j_iload C 0 rfl dX12_reckons_131 ?_
              refine j_iconst C dX12_reckons_133 ci_1 ?_
              refine j_isub C dX12_reckons_134 ?_
              refine j_iload C 2 rfl dX12_reckons_135 ?_
              refine j_aload_n C 3 rfl dX12_reckons_137 rfl ?_
              refine fg_X12_66_TR_0 C dX12_reckons_138 ?_
              refine j_iload C 0 rfl dX12_reckons_141 ?_
              refine j_iconst C dX12_reckons_143 ci_1 ?_
              refine j_isub C dX12_reckons_144 ?_
              refine lt_elim h (fun x49 e_x49 h => ?_)
              refine j_top e_x49 ?_
              obtain ⟨g50, h⟩ := gd_elim h
              refine j_iald C tr_15 (ib_in g50) dX12_reckons_145 ?_
              refine j_aload_n C 3 rfl dX12_reckons_146 rfl ?_
              refine fg_X12_66_TR_0 C dX12_reckons_147 ?_
              refine j_iload C 0 rfl dX12_reckons_150 ?_
              obtain ⟨g51, h⟩ := gd_elim h
              refine j_iald C tr_15 (ib_in g51) dX12_reckons_152 ?_
              obtain ⟨r52, h53, h⟩ := bd1_elim h
              refine j_callS (As := [.int x10, .int (V6 15 (x49).toNatClampNeg), .int (V6 15 (x48).toNatClampNeg)]) (rest := [.int (x48 - (1 : Int32)), .ref (ad 15)]) C (kX12_works l B D ad cA hI S V6 L x10 ((V6 15 (x49).toNatClampNeg)) ((V6 15 (x48).toNatClampNeg)) _ h53) mw_X12_works wd1800 wd1799 ⟨rfl, rfl, by decide, by decide⟩ ⟨Nat.zero_le _, Nat.zero_le _⟩ rfl rfl (Nat.le_of_ble_eq_true rfl) dX12_reckons_153 ?_
              refine lt_elim h (fun x54 e_x54 h => ?_)
              refine j_top2 e_x54 ?_
              obtain ⟨g55, h⟩ := gd_elim h
              refine j_iast C tr_15 (ib_in g55) dX12_reckons_156 ?_
              refine lt_elim h (fun V56 e_V56 h => ?_)
              refine j_V e_V56 ?_
              exact j_sub [3, 4, 5, 6, 7, 0, 1] rfl (HK157_12 _ _ _ _ _ _ h)
            · have h := (if_pos c47).symm.trans h
              refine j_aload_n C 2 rfl dX12_reckons_95 rfl ?_
              refine fg_X12_66_TR_0 C dX12_reckons_96 ?_
              refine j_iload C 7 rfl dX12_reckons_99 ?_
              refine j_iconst C dX12_reckons_101 ci_1 ?_
              refine j_isub C dX12_reckons_102 ?_
              refine j_aload_n C 2 rfl dX12_reckons_103 rfl ?_
              refine fg_X12_66_TR_0 C dX12_reckons_104 ?_
              refine j_iload C 7 rfl dX12_reckons_107 ?_
              refine j_iconst C dX12_reckons_109 ci_1 ?_
              refine j_isub C dX12_reckons_110 ?_
              refine lt_elim h (fun x57 e_x57 h => ?_)
              refine j_top e_x57 ?_
              obtain ⟨g58, h⟩ := gd_elim h
              refine j_iald C tr_15 (ib_in g58) dX12_reckons_111 ?_
              refine bk_elim h (fun K120_59 e_K120_59 h => ?_)
              have HK120_59 : ∀ (x60 : Int32) (x61 : Int32) (x62 : Int32) (x63 : Int32) (x64 : Int32) (x65 : Int32) (x66 : Int32) (V67 : Nat → Nat → Int32), K120_59 x60 x61 x62 x63 x64 x65 x66 V67 = some (r0, V0) → jW p l e ({ frames := 3, cells := 0, slots := 0, locals := 75 }) s m args below meth c (MQ below (jQc D TR ad cA (some (.int r0)) s.heap.size S V0 L) args s 0 0 (jA ad TR s.heap.size)) D TR ad cA (jA ad TR s.heap.size) 9 0 0 120 [(0, .ref (ad 0)), (2, .ref (ad 13)), (3, .int x60), (4, .int x61), (5, .int x62), (6, .int x63), (7, .int x64)] [.int x65, .int x66, .ref (ad 15)] S V67 L := by
                subst e_K120_59
                intro x60 x61 x62 x63 x64 x65 x66 V67 h
                obtain ⟨g68, h⟩ := gd_elim h
                refine j_iast C tr_15 (ib_in g68) dX12_reckons_120 ?_
                refine lt_elim h (fun V69 e_V69 h => ?_)
                refine j_V e_V69 ?_
                refine j_goto (tgt := 157) C dX12_reckons_121 (by decide) ?_
                exact j_sub [0, 1, 2, 3, 4, 5, 6] rfl (HK157_12 _ _ _ _ _ _ h)
              refine j_if_ne (tgt := 119) C dX12_reckons_112 (by decide) (fun c70 => ?_) (fun c70 => ?_)
              · have h := (if_neg c70).symm.trans h
                refine j_iconst C dX12_reckons_119 ci_0 ?_
                exact j_sub [2, 3, 4, 5, 6, 7, 0] rfl (HK120_59 _ _ _ _ _ _ _ _ h)
              · have h := (if_pos c70).symm.trans h
                refine j_iconst C dX12_reckons_115 ci_1 ?_
                refine j_goto (tgt := 120) C dX12_reckons_116 (by decide) ?_
                exact j_sub [2, 3, 4, 5, 6, 7, 0] rfl (HK120_59 _ _ _ _ _ _ _ _ h)
          · have h := (if_pos c46).symm.trans h
            exact j_sub [2, 3, 4, 5, 6, 7, 0, 1] rfl (HK40_19 _ _ _ _ _ _ _ h)
  refine j_iconst C dX12_reckons_0 ci_0 ?_
  refine j_istore C [(6, .int (0 : Int32)), (0, .ref (ad 0)), (1, .int a1), (2, .ref (ad 13)), (3, .int a2), (4, .int a3), (5, .int a4)] dX12_reckons_1 (by decide) rfl ?_
  refine j_iload_n C 2 rfl dX12_reckons_3 rfl ?_
  refine j_istore C [(7, .int a1), (6, .int (0 : Int32)), (0, .ref (ad 0)), (1, .int a1), (2, .ref (ad 13)), (3, .int a2), (4, .int a3), (5, .int a4)] dX12_reckons_4 (by decide) rfl ?_
  refine bk_elim h (fun X160_72 e_X160_72 h => ?_)
  have HX160_72 : ∀ (V73 : Nat → Nat → Int32), X160_72 V73 = some (r0, V0) → jW p l e ({ frames := 3, cells := 0, slots := 0, locals := 75 }) s m args below meth c (MQ below (jQc D TR ad cA (some (.int r0)) s.heap.size S V0 L) args s 0 0 (jA ad TR s.heap.size)) D TR ad cA (jA ad TR s.heap.size) 9 0 0 160 [(0, .ref (ad 0))] [] S V73 L := by
    subst e_X160_72
    intro V73 h
    refine j_aload_n C 0 rfl dX12_reckons_160 rfl ?_
    refine fg_X12_66_TR_0 C dX12_reckons_161 ?_
    refine j_iconst C dX12_reckons_164 ci_0 ?_
    obtain ⟨g74, h⟩ := gd_elim h
    refine j_iald C tr_15 (ib_in g74) dX12_reckons_165 ?_
    cases h
    exact j_iret C hr hlk rfl dX12_reckons_166
  exact j_sub [2, 4, 5, 6, 7, 1, 0] rfl (H_fX12_reckons_0_13_L6 _ HX160_72 FU _ _ _ _ _ _ h)
def fX12_holds_0_13_L31 (E67 : Int32 → Int32 → Int32 → (Nat → Nat → Int32) → Option (Int32 × (Nat → Nat → Int32))) (S : Nat → Int32) : Nat → Int32 → Int32 → Int32 → Int32 → (Nat → Nat → Int32) → Option (Int32 × (Nat → Nat → Int32))
  | 0, _, _, _, _, _ => none
  | n + 1, x15, x16, x17, x18, V19 =>
    (if (S 7) ≤ x18 then
    E67 x15 x16 x17 V19
    else
    gd (ib x18 4) (
    bd2 (fX12_reckons_0_13 V19 ((V19 3 (x18).toNatClampNeg)) x15 x16 x17) (fun r22 V23 =>
    (if r22 = 0 then
    some ((0 : Int32), V23)
    else
    lt (x18 + (1 : Int32)) (fun x26 =>
    fX12_holds_0_13_L31 E67 S n x15 x16 x17 x26 V23)))))
def fX12_holds_0_13_L16 (E73 : Int32 → Int32 → (Nat → Nat → Int32) → Option (Int32 × (Nat → Nat → Int32))) (S : Nat → Int32) : Nat → Int32 → Int32 → Int32 → (Nat → Nat → Int32) → Option (Int32 × (Nat → Nat → Int32))
  | 0, _, _, _, _ => none
  | n + 1, x8, x9, x10, V11 =>
    lt ((((4 : Int32) * x9) + (3 : Int32))) (fun x12 =>
    gd (ib x12 52) (
    (if (V11 13 (x12).toNatClampNeg) < x10 then
    E73 x8 x9 V11
    else
    bk (fun (x32 : Int32) (x33 : Int32) (x34 : Int32) (V35 : Nat → Nat → Int32) =>
    lt (x34 + (1 : Int32)) (fun x36 =>
    fX12_holds_0_13_L16 E73 S n x32 x33 x36 V35)) (fun X67_31 =>
    fX12_holds_0_13_L31 X67_31 S FU x8 x9 x10 (0 : Int32) V11))))
def fX12_holds_0_13_L2 (S : Nat → Int32) : Nat → Int32 → Int32 → (Nat → Nat → Int32) → Option (Int32 × (Nat → Nat → Int32))
  | 0, _, _, _ => none
  | n + 1, x1, x2, V3 =>
    (if x1 ≤ x2 then
    some ((1 : Int32), V3)
    else
    lt ((((4 : Int32) * x2) + (2 : Int32))) (fun x5 =>
    gd (ib x5 52) (
    lt ((V3 13 (x5).toNatClampNeg)) (fun x7 =>
    bk (fun (x41 : Int32) (x42 : Int32) (V43 : Nat → Nat → Int32) =>
    lt (x42 + (1 : Int32)) (fun x44 =>
    fX12_holds_0_13_L2 S n x41 x44 V43)) (fun X73_40 =>
    fX12_holds_0_13_L16 X73_40 S FU x1 x2 x7 V3)))))
def fX12_holds_0_13 (S : Nat → Int32) (V : Nat → Nat → Int32) (a1 : Int32) : Option (Int32 × (Nat → Nat → Int32)) :=
  fX12_holds_0_13_L2 S FU a1 (0 : Int32) V
set_option maxHeartbeats 4000000 in
set_option maxRecDepth 100000 in
theorem kX12_holds_0_13 (l : Launch) (B : jBT) (D : va_G) (ad : Nat → Nat) (cA : Nat → ClassId) (hI : jI ad TR) (S : Nat → Int32) (V : Nat → Nat → Int32) (L : Nat → Int64) (a1 : Int32) (r0 : Int32) (V0 : Nat → Nat → Int32) (h : fX12_holds_0_13 S V a1 = some (r0, V0)) : jM l yX12_holds cX12_holds 6 (some .boolean) ({ frames := 4, cells := 0, slots := 0, locals := 103 }) B D TR ad cA [.ref (ad 0), .ref (ad 13), .int a1] S V L (some (.int r0)) S V0 L := by
  refine jM_of (plainFor_of_name (by decide)) TR_ok hI (Nat.le_of_ble_eq_true rfl) ?_
  intro p e s m args below meth c C hr hlk
  refine j_lv (lv2 := [(0, .ref (ad 0)), (1, .ref (ad 13)), (2, .int a1)]) rfl ?_
  unfold fX12_holds_0_13 at h
  have H_fX12_holds_0_13_L31 : ∀ (E67 : Int32 → Int32 → Int32 → (Nat → Nat → Int32) → Option (Int32 × (Nat → Nat → Int32))) (_ : ∀ (x27 : Int32) (x28 : Int32) (x29 : Int32) (V30 : Nat → Nat → Int32), E67 x27 x28 x29 V30 = some (r0, V0) → jW p l e ({ frames := 4, cells := 0, slots := 0, locals := 103 }) s m args below meth c (MQ below (jQc D TR ad cA (some (.int r0)) s.heap.size S V0 L) args s 0 0 (jA ad TR s.heap.size)) D TR ad cA (jA ad TR s.heap.size) 6 0 0 67 [(0, .ref (ad 0)), (1, .ref (ad 13)), (2, .int x27), (3, .int x28), (4, .int x29)] [] S V30 L) (n : Nat) (x15 : Int32) (x16 : Int32) (x17 : Int32) (x18 : Int32) (V19 : Nat → Nat → Int32), fX12_holds_0_13_L31 E67 S n x15 x16 x17 x18 V19 = some (r0, V0) → jW p l e ({ frames := 4, cells := 0, slots := 0, locals := 103 }) s m args below meth c (MQ below (jQc D TR ad cA (some (.int r0)) s.heap.size S V0 L) args s 0 0 (jA ad TR s.heap.size)) D TR ad cA (jA ad TR s.heap.size) 6 0 0 31 [(0, .ref (ad 0)), (1, .ref (ad 13)), (2, .int x15), (3, .int x16), (4, .int x17), (5, .int x18)] [] S V19 L := by
    intro E67 HE67
    intro n
    induction n with
    | zero =>
      intro x15 x16 x17 x18 V19 h
      cases (show (none : Option (Int32 × (Nat → Nat → Int32))) = some (r0, V0) from h)
    | succ n ih =>
      intro x15 x16 x17 x18 V19 h
      unfold fX12_holds_0_13_L31 at h
      refine j_iload C 5 rfl dX12_holds_31 ?_
      refine j_aload_n C 0 rfl dX12_holds_33 rfl ?_
      refine fg_X12_271_TR_0 C dX12_holds_34 ?_
      refine j_icmp_ge (tgt := 67) C dX12_holds_37 (by decide) (fun c20 => ?_) (fun c20 => ?_)
      · have h := (if_pos c20).symm.trans h
        exact j_sub [0, 1, 2, 3, 4] rfl (HE67 _ _ _ _ h)
      · have h := (if_neg c20).symm.trans h
        refine j_aload_n C 0 rfl dX12_holds_40 rfl ?_
        refine j_aload_n C 0 rfl dX12_holds_41 rfl ?_
        refine fg_X12_26_TR_0 C dX12_holds_42 ?_
        refine j_iload C 5 rfl dX12_holds_45 ?_
        obtain ⟨g21, h⟩ := gd_elim h
        refine j_iald C tr_3 (ib_in g21) dX12_holds_47 ?_
        refine j_aload_n C 1 rfl dX12_holds_48 rfl ?_
        refine j_iload_n C 2 rfl dX12_holds_49 rfl ?_
        refine j_iload_n C 3 rfl dX12_holds_50 rfl ?_
        refine j_iload C 4 rfl dX12_holds_51 ?_
        obtain ⟨r22, V23, h24, h⟩ := bd2_elim h
        refine j_callV (As := [.int (V19 3 (x18).toNatClampNeg), .ref (ad 13), .int x15, .int x16, .int x17]) (rest := []) C (kX12_reckons_0_13 l B D ad cA hI S V19 L ((V19 3 (x18).toNatClampNeg)) x15 x16 x17 _ _ h24) mw_X12_reckons wd1786 wd83 wd1784 tr_0 rfl rfl ⟨rfl, rfl, by decide, by decide⟩ ⟨Nat.zero_le _, Nat.zero_le _⟩ rfl rfl (Nat.le_of_ble_eq_true rfl) dX12_holds_53 ?_
        refine j_if_ne (tgt := 61) C dX12_holds_56 (by decide) (fun c25 => ?_) (fun c25 => ?_)
        · have h := (if_neg c25).symm.trans h
          refine lt_elim h (fun x26 e_x26 h => ?_)
          refine j_iinc C [(5, .int x26), (0, .ref (ad 0)), (1, .ref (ad 13)), (2, .int x15), (3, .int x16), (4, .int x17)] 5 dX12_holds_61 rfl ((iinc_eq ci_1).trans e_x26.symm) (by decide) rfl ?_
          refine j_goto (tgt := 31) C dX12_holds_64 (by decide) ?_
          exact j_sub [1, 2, 3, 4, 5, 0] rfl (ih _ _ _ _ _ h)
        · have h := (if_pos c25).symm.trans h
          refine j_iconst C dX12_holds_59 ci_0 ?_
          cases h
          exact j_zret C hr hlk rfl rfl dX12_holds_60
  have H_fX12_holds_0_13_L16 : ∀ (E73 : Int32 → Int32 → (Nat → Nat → Int32) → Option (Int32 × (Nat → Nat → Int32))) (_ : ∀ (x37 : Int32) (x38 : Int32) (V39 : Nat → Nat → Int32), E73 x37 x38 V39 = some (r0, V0) → jW p l e ({ frames := 4, cells := 0, slots := 0, locals := 103 }) s m args below meth c (MQ below (jQc D TR ad cA (some (.int r0)) s.heap.size S V0 L) args s 0 0 (jA ad TR s.heap.size)) D TR ad cA (jA ad TR s.heap.size) 6 0 0 73 [(0, .ref (ad 0)), (1, .ref (ad 13)), (2, .int x37), (3, .int x38)] [] S V39 L) (n : Nat) (x8 : Int32) (x9 : Int32) (x10 : Int32) (V11 : Nat → Nat → Int32), fX12_holds_0_13_L16 E73 S n x8 x9 x10 V11 = some (r0, V0) → jW p l e ({ frames := 4, cells := 0, slots := 0, locals := 103 }) s m args below meth c (MQ below (jQc D TR ad cA (some (.int r0)) s.heap.size S V0 L) args s 0 0 (jA ad TR s.heap.size)) D TR ad cA (jA ad TR s.heap.size) 6 0 0 16 [(0, .ref (ad 0)), (1, .ref (ad 13)), (2, .int x8), (3, .int x9), (4, .int x10)] [] S V11 L := by
    intro E73 HE73
    intro n
    induction n with
    | zero =>
      intro x8 x9 x10 V11 h
      cases (show (none : Option (Int32 × (Nat → Nat → Int32))) = some (r0, V0) from h)
    | succ n ih =>
      intro x8 x9 x10 V11 h
      unfold fX12_holds_0_13_L16 at h
      refine j_iload C 4 rfl dX12_holds_16 ?_
      refine j_aload_n C 1 rfl dX12_holds_18 rfl ?_
      refine j_iconst C dX12_holds_19 ci_4 ?_
      refine j_iload_n C 3 rfl dX12_holds_20 rfl ?_
      refine j_imul C dX12_holds_21 ?_
      refine j_iconst C dX12_holds_22 ci_3 ?_
      refine j_iadd C dX12_holds_23 ?_
      refine lt_elim h (fun x12 e_x12 h => ?_)
      refine j_top e_x12 ?_
      obtain ⟨g13, h⟩ := gd_elim h
      refine j_iald C tr_13 (ib_in g13) dX12_holds_24 ?_
      refine j_icmp_gt (tgt := 73) C dX12_holds_25 (by decide) (fun c14 => ?_) (fun c14 => ?_)
      · have h := (if_pos c14).symm.trans h
        exact j_sub [0, 1, 2, 3] rfl (HE73 _ _ _ h)
      · have h := (if_neg c14).symm.trans h
        refine j_iconst C dX12_holds_28 ci_0 ?_
        refine j_istore C [(5, .int (0 : Int32)), (0, .ref (ad 0)), (1, .ref (ad 13)), (2, .int x8), (3, .int x9), (4, .int x10)] dX12_holds_29 (by decide) rfl ?_
        refine bk_elim h (fun X67_31 e_X67_31 h => ?_)
        have HX67_31 : ∀ (x32 : Int32) (x33 : Int32) (x34 : Int32) (V35 : Nat → Nat → Int32), X67_31 x32 x33 x34 V35 = some (r0, V0) → jW p l e ({ frames := 4, cells := 0, slots := 0, locals := 103 }) s m args below meth c (MQ below (jQc D TR ad cA (some (.int r0)) s.heap.size S V0 L) args s 0 0 (jA ad TR s.heap.size)) D TR ad cA (jA ad TR s.heap.size) 6 0 0 67 [(0, .ref (ad 0)), (1, .ref (ad 13)), (2, .int x32), (3, .int x33), (4, .int x34)] [] S V35 L := by
          subst e_X67_31
          intro x32 x33 x34 V35 h
          refine lt_elim h (fun x36 e_x36 h => ?_)
          refine j_iinc C [(4, .int x36), (0, .ref (ad 0)), (1, .ref (ad 13)), (2, .int x32), (3, .int x33)] 4 dX12_holds_67 rfl ((iinc_eq ci_1).trans e_x36.symm) (by decide) rfl ?_
          refine j_goto (tgt := 16) C dX12_holds_70 (by decide) ?_
          exact j_sub [1, 2, 3, 4, 0] rfl (ih _ _ _ _ h)
        exact j_sub [1, 2, 3, 4, 5, 0] rfl (H_fX12_holds_0_13_L31 _ HX67_31 FU _ _ _ _ _ h)
  have H_fX12_holds_0_13_L2 : ∀ (n : Nat) (x1 : Int32) (x2 : Int32) (V3 : Nat → Nat → Int32), fX12_holds_0_13_L2 S n x1 x2 V3 = some (r0, V0) → jW p l e ({ frames := 4, cells := 0, slots := 0, locals := 103 }) s m args below meth c (MQ below (jQc D TR ad cA (some (.int r0)) s.heap.size S V0 L) args s 0 0 (jA ad TR s.heap.size)) D TR ad cA (jA ad TR s.heap.size) 6 0 0 2 [(0, .ref (ad 0)), (1, .ref (ad 13)), (2, .int x1), (3, .int x2)] [] S V3 L := by
    intro n
    induction n with
    | zero =>
      intro x1 x2 V3 h
      cases (show (none : Option (Int32 × (Nat → Nat → Int32))) = some (r0, V0) from h)
    | succ n ih =>
      intro x1 x2 V3 h
      unfold fX12_holds_0_13_L2 at h
      refine j_iload_n C 3 rfl dX12_holds_2 rfl ?_
      refine j_iload_n C 2 rfl dX12_holds_3 rfl ?_
      refine j_icmp_ge (tgt := 79) C dX12_holds_4 (by decide) (fun c4 => ?_) (fun c4 => ?_)
      · have h := (if_pos c4).symm.trans h
        refine j_iconst C dX12_holds_79 ci_1 ?_
        cases h
        exact j_zret C hr hlk rfl rfl dX12_holds_80
      · have h := (if_neg c4).symm.trans h
        refine j_aload_n C 1 rfl dX12_holds_7 rfl ?_
        refine j_iconst C dX12_holds_8 ci_4 ?_
        refine j_iload_n C 3 rfl dX12_holds_9 rfl ?_
        refine j_imul C dX12_holds_10 ?_
        refine j_iconst C dX12_holds_11 ci_2 ?_
        refine j_iadd C dX12_holds_12 ?_
        refine lt_elim h (fun x5 e_x5 h => ?_)
        refine j_top e_x5 ?_
        obtain ⟨g6, h⟩ := gd_elim h
        refine j_iald C tr_13 (ib_in g6) dX12_holds_13 ?_
        refine lt_elim h (fun x7 e_x7 h => ?_)
        refine j_top e_x7 ?_
        refine j_istore C [(4, .int x7), (0, .ref (ad 0)), (1, .ref (ad 13)), (2, .int x1), (3, .int x2)] dX12_holds_14 (by decide) rfl ?_
        refine bk_elim h (fun X73_40 e_X73_40 h => ?_)
        have HX73_40 : ∀ (x41 : Int32) (x42 : Int32) (V43 : Nat → Nat → Int32), X73_40 x41 x42 V43 = some (r0, V0) → jW p l e ({ frames := 4, cells := 0, slots := 0, locals := 103 }) s m args below meth c (MQ below (jQc D TR ad cA (some (.int r0)) s.heap.size S V0 L) args s 0 0 (jA ad TR s.heap.size)) D TR ad cA (jA ad TR s.heap.size) 6 0 0 73 [(0, .ref (ad 0)), (1, .ref (ad 13)), (2, .int x41), (3, .int x42)] [] S V43 L := by
          subst e_X73_40
          intro x41 x42 V43 h
          refine lt_elim h (fun x44 e_x44 h => ?_)
          refine j_iinc C [(3, .int x44), (0, .ref (ad 0)), (1, .ref (ad 13)), (2, .int x41)] 3 dX12_holds_73 rfl ((iinc_eq ci_1).trans e_x44.symm) (by decide) rfl ?_
          refine j_goto (tgt := 2) C dX12_holds_76 (by decide) ?_
          exact j_sub [1, 2, 3, 0] rfl (ih _ _ _ h)
        exact j_sub [1, 2, 3, 4, 0] rfl (H_fX12_holds_0_13_L16 _ HX73_40 FU _ _ _ _ h)
  refine j_iconst C dX12_holds_0 ci_0 ?_
  refine j_istore_n C [(3, .int (0 : Int32)), (0, .ref (ad 0)), (1, .ref (ad 13)), (2, .int a1)] dX12_holds_1 rfl (by decide) rfl ?_
  exact j_sub [1, 2, 3, 0] rfl (H_fX12_holds_0_13_L2 FU _ _ _ h)
theorem dX12_trouble_0 : decode cX12_trouble 0 = .ok (.iload_n 1, 1) := by decide +kernel
theorem dX12_trouble_1 : decode cX12_trouble 1 = .ok (.ifCond .lt 41, 3) := by decide +kernel
theorem dX12_trouble_4 : decode cX12_trouble 4 = .ok (.iload_n 1, 1) := by decide +kernel
theorem dX12_trouble_5 : decode cX12_trouble 5 = .ok (.aload_n 0, 1) := by decide +kernel
theorem dX12_trouble_6 : decode cX12_trouble 6 = .ok (.getfield 265, 3) := by decide +kernel
theorem dX12_trouble_9 : decode cX12_trouble 9 = .ok (.if_icmp .ge 33, 3) := by decide +kernel
theorem dX12_trouble_12 : decode cX12_trouble 12 = .ok (.iload_n 2, 1) := by decide +kernel
theorem dX12_trouble_13 : decode cX12_trouble 13 = .ok (.iconst 0, 1) := by decide +kernel
theorem dX12_trouble_14 : decode cX12_trouble 14 = .ok (.iconst 2, 1) := by decide +kernel
theorem dX12_trouble_15 : decode cX12_trouble 15 = .ok (.invokestatic 294, 3) := by decide +kernel
theorem dX12_trouble_18 : decode cX12_trouble 18 = .ok (.ifCond .eq 24, 3) := by decide +kernel
theorem dX12_trouble_21 : decode cX12_trouble 21 = .ok (.iload_n 3, 1) := by decide +kernel
theorem dX12_trouble_22 : decode cX12_trouble 22 = .ok (.iconst 0, 1) := by decide +kernel
theorem dX12_trouble_23 : decode cX12_trouble 23 = .ok (.bipush 23, 2) := by decide +kernel
theorem dX12_trouble_25 : decode cX12_trouble 25 = .ok (.invokestatic 294, 3) := by decide +kernel
theorem dX12_trouble_28 : decode cX12_trouble 28 = .ok (.ifCond .eq 14, 3) := by decide +kernel
theorem dX12_trouble_31 : decode cX12_trouble 31 = .ok (.iload 4, 2) := by decide +kernel
theorem dX12_trouble_33 : decode cX12_trouble 33 = .ok (.iload_n 3, 1) := by decide +kernel
theorem dX12_trouble_34 : decode cX12_trouble 34 = .ok (.bipush 23, 2) := by decide +kernel
theorem dX12_trouble_36 : decode cX12_trouble 36 = .ok (.invokestatic 294, 3) := by decide +kernel
theorem dX12_trouble_39 : decode cX12_trouble 39 = .ok (.ifCond .ne 5, 3) := by decide +kernel
theorem dX12_trouble_42 : decode cX12_trouble 42 = .ok (.iconst 1, 1) := by decide +kernel
theorem dX12_trouble_43 : decode cX12_trouble 43 = .ok (.ireturn, 1) := by decide +kernel
theorem dX12_trouble_44 : decode cX12_trouble 44 = .ok (.aload_n 0, 1) := by decide +kernel
theorem dX12_trouble_45 : decode cX12_trouble 45 = .ok (.iload_n 1, 1) := by decide +kernel
theorem dX12_trouble_46 : decode cX12_trouble 46 = .ok (.iload_n 2, 1) := by decide +kernel
theorem dX12_trouble_47 : decode cX12_trouble 47 = .ok (.invokevirtual 323, 3) := by decide +kernel
theorem dX12_trouble_50 : decode cX12_trouble 50 = .ok (.ifCond .ne 5, 3) := by decide +kernel
theorem dX12_trouble_53 : decode cX12_trouble 53 = .ok (.iconst 2, 1) := by decide +kernel
theorem dX12_trouble_54 : decode cX12_trouble 54 = .ok (.ireturn, 1) := by decide +kernel
theorem dX12_trouble_55 : decode cX12_trouble 55 = .ok (.iconst 0, 1) := by decide +kernel
theorem dX12_trouble_56 : decode cX12_trouble 56 = .ok (.istore 5, 2) := by decide +kernel
theorem dX12_trouble_58 : decode cX12_trouble 58 = .ok (.iconst 0, 1) := by decide +kernel
theorem dX12_trouble_59 : decode cX12_trouble 59 = .ok (.istore 6, 2) := by decide +kernel
theorem dX12_trouble_61 : decode cX12_trouble 61 = .ok (.iconst 0, 1) := by decide +kernel
theorem dX12_trouble_62 : decode cX12_trouble 62 = .ok (.istore 7, 2) := by decide +kernel
theorem dX12_trouble_64 : decode cX12_trouble 64 = .ok (.iload_n 3, 1) := by decide +kernel
theorem dX12_trouble_65 : decode cX12_trouble 65 = .ok (.istore 8, 2) := by decide +kernel
theorem dX12_trouble_67 : decode cX12_trouble 67 = .ok (.iload 8, 2) := by decide +kernel
theorem dX12_trouble_69 : decode cX12_trouble 69 = .ok (.iload 4, 2) := by decide +kernel
theorem dX12_trouble_71 : decode cX12_trouble 71 = .ok (.if_icmp .gt 125, 3) := by decide +kernel
theorem dX12_trouble_74 : decode cX12_trouble 74 = .ok (.iload 5, 2) := by decide +kernel
theorem dX12_trouble_76 : decode cX12_trouble 76 = .ok (.ifCond .ne 21, 3) := by decide +kernel
theorem dX12_trouble_79 : decode cX12_trouble 79 = .ok (.aload_n 0, 1) := by decide +kernel
theorem dX12_trouble_80 : decode cX12_trouble 80 = .ok (.getfield 60, 3) := by decide +kernel
theorem dX12_trouble_83 : decode cX12_trouble 83 = .ok (.aload_n 0, 1) := by decide +kernel
theorem dX12_trouble_84 : decode cX12_trouble 84 = .ok (.getfield 278, 3) := by decide +kernel
theorem dX12_trouble_87 : decode cX12_trouble 87 = .ok (.iload_n 2, 1) := by decide +kernel
theorem dX12_trouble_88 : decode cX12_trouble 88 = .ok (.iload 8, 2) := by decide +kernel
theorem dX12_trouble_90 : decode cX12_trouble 90 = .ok (.invokestatic 298, 3) := by decide +kernel
theorem dX12_trouble_93 : decode cX12_trouble 93 = .ok (.iconst (-1), 1) := by decide +kernel
theorem dX12_trouble_94 : decode cX12_trouble 94 = .ok (.if_icmp .eq 7, 3) := by decide +kernel
theorem dX12_trouble_97 : decode cX12_trouble 97 = .ok (.iconst 1, 1) := by decide +kernel
theorem dX12_trouble_98 : decode cX12_trouble 98 = .ok (.goto 4, 3) := by decide +kernel
theorem dX12_trouble_101 : decode cX12_trouble 101 = .ok (.iconst 0, 1) := by decide +kernel
theorem dX12_trouble_102 : decode cX12_trouble 102 = .ok (.istore 5, 2) := by decide +kernel
theorem dX12_trouble_104 : decode cX12_trouble 104 = .ok (.iload 6, 2) := by decide +kernel
theorem dX12_trouble_106 : decode cX12_trouble 106 = .ok (.ifCond .ne 24, 3) := by decide +kernel
theorem dX12_trouble_109 : decode cX12_trouble 109 = .ok (.aload_n 0, 1) := by decide +kernel
theorem dX12_trouble_110 : decode cX12_trouble 110 = .ok (.getfield 60, 3) := by decide +kernel
theorem dX12_trouble_113 : decode cX12_trouble 113 = .ok (.aload_n 0, 1) := by decide +kernel
theorem dX12_trouble_114 : decode cX12_trouble 114 = .ok (.getfield 278, 3) := by decide +kernel
theorem dX12_trouble_117 : decode cX12_trouble 117 = .ok (.iload 8, 2) := by decide +kernel
theorem dX12_trouble_119 : decode cX12_trouble 119 = .ok (.invokestatic 305, 3) := by decide +kernel
theorem dX12_trouble_122 : decode cX12_trouble 122 = .ok (.iload_n 1, 1) := by decide +kernel
theorem dX12_trouble_123 : decode cX12_trouble 123 = .ok (.ishr, 1) := by decide +kernel
theorem dX12_trouble_124 : decode cX12_trouble 124 = .ok (.iconst 1, 1) := by decide +kernel
theorem dX12_trouble_125 : decode cX12_trouble 125 = .ok (.iand, 1) := by decide +kernel
theorem dX12_trouble_126 : decode cX12_trouble 126 = .ok (.iconst 1, 1) := by decide +kernel
theorem dX12_trouble_127 : decode cX12_trouble 127 = .ok (.if_icmp .ne 7, 3) := by decide +kernel
theorem dX12_trouble_130 : decode cX12_trouble 130 = .ok (.iconst 1, 1) := by decide +kernel
theorem dX12_trouble_131 : decode cX12_trouble 131 = .ok (.goto 4, 3) := by decide +kernel
theorem dX12_trouble_134 : decode cX12_trouble 134 = .ok (.iconst 0, 1) := by decide +kernel
theorem dX12_trouble_135 : decode cX12_trouble 135 = .ok (.istore 6, 2) := by decide +kernel
theorem dX12_trouble_137 : decode cX12_trouble 137 = .ok (.iload 7, 2) := by decide +kernel
theorem dX12_trouble_139 : decode cX12_trouble 139 = .ok (.ifCond .ne 44, 3) := by decide +kernel
theorem dX12_trouble_142 : decode cX12_trouble 142 = .ok (.iload_n 2, 1) := by decide +kernel
theorem dX12_trouble_143 : decode cX12_trouble 143 = .ok (.iconst 2, 1) := by decide +kernel
theorem dX12_trouble_144 : decode cX12_trouble 144 = .ok (.if_icmp .ne 43, 3) := by decide +kernel
theorem dX12_trouble_147 : decode cX12_trouble 147 = .ok (.aload_n 0, 1) := by decide +kernel
theorem dX12_trouble_148 : decode cX12_trouble 148 = .ok (.getfield 60, 3) := by decide +kernel
theorem dX12_trouble_151 : decode cX12_trouble 151 = .ok (.aload_n 0, 1) := by decide +kernel
theorem dX12_trouble_152 : decode cX12_trouble 152 = .ok (.getfield 278, 3) := by decide +kernel
theorem dX12_trouble_155 : decode cX12_trouble 155 = .ok (.iconst 0, 1) := by decide +kernel
theorem dX12_trouble_156 : decode cX12_trouble 156 = .ok (.iload 8, 2) := by decide +kernel
theorem dX12_trouble_158 : decode cX12_trouble 158 = .ok (.invokestatic 298, 3) := by decide +kernel
theorem dX12_trouble_161 : decode cX12_trouble 161 = .ok (.iconst (-1), 1) := by decide +kernel
theorem dX12_trouble_162 : decode cX12_trouble 162 = .ok (.if_icmp .eq 21, 3) := by decide +kernel
theorem dX12_trouble_165 : decode cX12_trouble 165 = .ok (.aload_n 0, 1) := by decide +kernel
theorem dX12_trouble_166 : decode cX12_trouble 166 = .ok (.getfield 60, 3) := by decide +kernel
theorem dX12_trouble_169 : decode cX12_trouble 169 = .ok (.aload_n 0, 1) := by decide +kernel
theorem dX12_trouble_170 : decode cX12_trouble 170 = .ok (.getfield 278, 3) := by decide +kernel
theorem dX12_trouble_173 : decode cX12_trouble 173 = .ok (.iconst 1, 1) := by decide +kernel
theorem dX12_trouble_174 : decode cX12_trouble 174 = .ok (.iload 8, 2) := by decide +kernel
theorem dX12_trouble_176 : decode cX12_trouble 176 = .ok (.invokestatic 298, 3) := by decide +kernel
theorem dX12_trouble_179 : decode cX12_trouble 179 = .ok (.iconst (-1), 1) := by decide +kernel
theorem dX12_trouble_180 : decode cX12_trouble 180 = .ok (.if_icmp .ne 7, 3) := by decide +kernel
theorem dX12_trouble_183 : decode cX12_trouble 183 = .ok (.iconst 1, 1) := by decide +kernel
theorem dX12_trouble_184 : decode cX12_trouble 184 = .ok (.goto 4, 3) := by decide +kernel
theorem dX12_trouble_187 : decode cX12_trouble 187 = .ok (.iconst 0, 1) := by decide +kernel
theorem dX12_trouble_188 : decode cX12_trouble 188 = .ok (.istore 7, 2) := by decide +kernel
theorem dX12_trouble_190 : decode cX12_trouble 190 = .ok (.iinc 8 1, 3) := by decide +kernel
theorem dX12_trouble_193 : decode cX12_trouble 193 = .ok (.goto (-126), 3) := by decide +kernel
theorem dX12_trouble_196 : decode cX12_trouble 196 = .ok (.iload 5, 2) := by decide +kernel
theorem dX12_trouble_198 : decode cX12_trouble 198 = .ok (.ifCond .ne 13, 3) := by decide +kernel
theorem dX12_trouble_201 : decode cX12_trouble 201 = .ok (.iload 6, 2) := by decide +kernel
theorem dX12_trouble_203 : decode cX12_trouble 203 = .ok (.ifCond .ne 8, 3) := by decide +kernel
theorem dX12_trouble_206 : decode cX12_trouble 206 = .ok (.iload 7, 2) := by decide +kernel
theorem dX12_trouble_208 : decode cX12_trouble 208 = .ok (.ifCond .eq 23, 3) := by decide +kernel
theorem dX12_trouble_211 : decode cX12_trouble 211 = .ok (.iload 5, 2) := by decide +kernel
theorem dX12_trouble_213 : decode cX12_trouble 213 = .ok (.ifCond .eq 7, 3) := by decide +kernel
theorem dX12_trouble_216 : decode cX12_trouble 216 = .ok (.iconst 3, 1) := by decide +kernel
theorem dX12_trouble_217 : decode cX12_trouble 217 = .ok (.goto 13, 3) := by decide +kernel
theorem dX12_trouble_220 : decode cX12_trouble 220 = .ok (.iload 6, 2) := by decide +kernel
theorem dX12_trouble_222 : decode cX12_trouble 222 = .ok (.ifCond .eq 7, 3) := by decide +kernel
theorem dX12_trouble_225 : decode cX12_trouble 225 = .ok (.iconst 4, 1) := by decide +kernel
theorem dX12_trouble_226 : decode cX12_trouble 226 = .ok (.goto 4, 3) := by decide +kernel
theorem dX12_trouble_229 : decode cX12_trouble 229 = .ok (.iconst 5, 1) := by decide +kernel
theorem dX12_trouble_230 : decode cX12_trouble 230 = .ok (.ireturn, 1) := by decide +kernel
theorem dX12_trouble_231 : decode cX12_trouble 231 = .ok (.aload_n 0, 1) := by decide +kernel
theorem dX12_trouble_232 : decode cX12_trouble 232 = .ok (.getfield 60, 3) := by decide +kernel
theorem dX12_trouble_235 : decode cX12_trouble 235 = .ok (.iconst 4, 1) := by decide +kernel
theorem dX12_trouble_236 : decode cX12_trouble 236 = .ok (.aload_n 0, 1) := by decide +kernel
theorem dX12_trouble_237 : decode cX12_trouble 237 = .ok (.getfield 278, 3) := by decide +kernel
theorem dX12_trouble_240 : decode cX12_trouble 240 = .ok (.imul, 1) := by decide +kernel
theorem dX12_trouble_241 : decode cX12_trouble 241 = .ok (.iload_n 1, 1) := by decide +kernel
theorem dX12_trouble_242 : decode cX12_trouble 242 = .ok (.iastore, 1) := by decide +kernel
theorem dX12_trouble_243 : decode cX12_trouble 243 = .ok (.aload_n 0, 1) := by decide +kernel
theorem dX12_trouble_244 : decode cX12_trouble 244 = .ok (.getfield 60, 3) := by decide +kernel
theorem dX12_trouble_247 : decode cX12_trouble 247 = .ok (.iconst 4, 1) := by decide +kernel
theorem dX12_trouble_248 : decode cX12_trouble 248 = .ok (.aload_n 0, 1) := by decide +kernel
theorem dX12_trouble_249 : decode cX12_trouble 249 = .ok (.getfield 278, 3) := by decide +kernel
theorem dX12_trouble_252 : decode cX12_trouble 252 = .ok (.imul, 1) := by decide +kernel
theorem dX12_trouble_253 : decode cX12_trouble 253 = .ok (.iconst 1, 1) := by decide +kernel
theorem dX12_trouble_254 : decode cX12_trouble 254 = .ok (.iadd, 1) := by decide +kernel
theorem dX12_trouble_255 : decode cX12_trouble 255 = .ok (.iload_n 2, 1) := by decide +kernel
theorem dX12_trouble_256 : decode cX12_trouble 256 = .ok (.iastore, 1) := by decide +kernel
theorem dX12_trouble_257 : decode cX12_trouble 257 = .ok (.aload_n 0, 1) := by decide +kernel
theorem dX12_trouble_258 : decode cX12_trouble 258 = .ok (.getfield 60, 3) := by decide +kernel
theorem dX12_trouble_261 : decode cX12_trouble 261 = .ok (.iconst 4, 1) := by decide +kernel
theorem dX12_trouble_262 : decode cX12_trouble 262 = .ok (.aload_n 0, 1) := by decide +kernel
theorem dX12_trouble_263 : decode cX12_trouble 263 = .ok (.getfield 278, 3) := by decide +kernel
theorem dX12_trouble_266 : decode cX12_trouble 266 = .ok (.imul, 1) := by decide +kernel
theorem dX12_trouble_267 : decode cX12_trouble 267 = .ok (.iconst 2, 1) := by decide +kernel
theorem dX12_trouble_268 : decode cX12_trouble 268 = .ok (.iadd, 1) := by decide +kernel
theorem dX12_trouble_269 : decode cX12_trouble 269 = .ok (.iload_n 3, 1) := by decide +kernel
theorem dX12_trouble_270 : decode cX12_trouble 270 = .ok (.iastore, 1) := by decide +kernel
theorem dX12_trouble_271 : decode cX12_trouble 271 = .ok (.aload_n 0, 1) := by decide +kernel
theorem dX12_trouble_272 : decode cX12_trouble 272 = .ok (.getfield 60, 3) := by decide +kernel
theorem dX12_trouble_275 : decode cX12_trouble 275 = .ok (.iconst 4, 1) := by decide +kernel
theorem dX12_trouble_276 : decode cX12_trouble 276 = .ok (.aload_n 0, 1) := by decide +kernel
theorem dX12_trouble_277 : decode cX12_trouble 277 = .ok (.getfield 278, 3) := by decide +kernel
theorem dX12_trouble_280 : decode cX12_trouble 280 = .ok (.imul, 1) := by decide +kernel
theorem dX12_trouble_281 : decode cX12_trouble 281 = .ok (.iconst 3, 1) := by decide +kernel
theorem dX12_trouble_282 : decode cX12_trouble 282 = .ok (.iadd, 1) := by decide +kernel
theorem dX12_trouble_283 : decode cX12_trouble 283 = .ok (.iload 4, 2) := by decide +kernel
theorem dX12_trouble_285 : decode cX12_trouble 285 = .ok (.iastore, 1) := by decide +kernel
theorem dX12_trouble_286 : decode cX12_trouble 286 = .ok (.aload_n 0, 1) := by decide +kernel
theorem dX12_trouble_287 : decode cX12_trouble 287 = .ok (.aload_n 0, 1) := by decide +kernel
theorem dX12_trouble_288 : decode cX12_trouble 288 = .ok (.getfield 60, 3) := by decide +kernel
theorem dX12_trouble_291 : decode cX12_trouble 291 = .ok (.aload_n 0, 1) := by decide +kernel
theorem dX12_trouble_292 : decode cX12_trouble 292 = .ok (.getfield 278, 3) := by decide +kernel
theorem dX12_trouble_295 : decode cX12_trouble 295 = .ok (.iconst 1, 1) := by decide +kernel
theorem dX12_trouble_296 : decode cX12_trouble 296 = .ok (.iadd, 1) := by decide +kernel
theorem dX12_trouble_297 : decode cX12_trouble 297 = .ok (.invokevirtual 327, 3) := by decide +kernel
theorem dX12_trouble_300 : decode cX12_trouble 300 = .ok (.ifCond .ne 6, 3) := by decide +kernel
theorem dX12_trouble_303 : decode cX12_trouble 303 = .ok (.bipush 6, 2) := by decide +kernel
theorem dX12_trouble_305 : decode cX12_trouble 305 = .ok (.ireturn, 1) := by decide +kernel
theorem dX12_trouble_306 : decode cX12_trouble 306 = .ok (.aload_n 0, 1) := by decide +kernel
theorem dX12_trouble_307 : decode cX12_trouble 307 = .ok (.getfield 278, 3) := by decide +kernel
theorem dX12_trouble_310 : decode cX12_trouble 310 = .ok (.bipush 12, 2) := by decide +kernel
theorem dX12_trouble_312 : decode cX12_trouble 312 = .ok (.if_icmp .ne 8, 3) := by decide +kernel
theorem dX12_trouble_315 : decode cX12_trouble 315 = .ok (.bipush 7, 2) := by decide +kernel
theorem dX12_trouble_317 : decode cX12_trouble 317 = .ok (.goto 4, 3) := by decide +kernel
theorem dX12_trouble_320 : decode cX12_trouble 320 = .ok (.iconst 0, 1) := by decide +kernel
theorem dX12_trouble_321 : decode cX12_trouble 321 = .ok (.ireturn, 1) := by decide +kernel
def fX12_trouble_0_L67 (E196 : Int32 → Int32 → Int32 → Int32 → Int32 → Int32 → Int32 → (Nat → Nat → Int32) → Option (Int32 × (Nat → Nat → Int32))) (S : Nat → Int32) : Nat → Int32 → Int32 → Int32 → Int32 → Int32 → Int32 → Int32 → Int32 → (Nat → Nat → Int32) → Option (Int32 × (Nat → Nat → Int32))
  | 0, _, _, _, _, _, _, _, _, _ => none
  | n + 1, x15, x16, x17, x18, x19, x20, x21, x22, V23 =>
    (if x18 < x22 then
    E196 x15 x16 x17 x18 x19 x20 x21 V23
    else
    bk (fun (x26 : Int32) (x27 : Int32) (x28 : Int32) (x29 : Int32) (x30 : Int32) (x31 : Int32) (x32 : Int32) (x33 : Int32) (V34 : Nat → Nat → Int32) =>
    bk (fun (x36 : Int32) (x37 : Int32) (x38 : Int32) (x39 : Int32) (x40 : Int32) (x41 : Int32) (x42 : Int32) (x43 : Int32) (V44 : Nat → Nat → Int32) =>
    bk (fun (x46 : Int32) (x47 : Int32) (x48 : Int32) (x49 : Int32) (x50 : Int32) (x51 : Int32) (x52 : Int32) (x53 : Int32) (V54 : Nat → Nat → Int32) =>
    lt (x52 + (1 : Int32)) (fun x55 =>
    fX12_trouble_0_L67 E196 S n x46 x47 x48 x49 x50 x51 x53 x55 V54)) (fun K188_45 =>
    bk (fun (x57 : Int32) (x58 : Int32) (x59 : Int32) (x60 : Int32) (x61 : Int32) (x62 : Int32) (x63 : Int32) (V64 : Nat → Nat → Int32) =>
    K188_45 x57 x58 x59 x60 x61 x62 x63 (1 : Int32) V64) (fun K183_56 =>
    (if x41 = 0 then
    bk (fun (x67 : Int32) (x68 : Int32) (x69 : Int32) (x70 : Int32) (x71 : Int32) (x72 : Int32) (x73 : Int32) (V74 : Nat → Nat → Int32) =>
    K188_45 x67 x68 x69 x70 x71 x72 x73 (0 : Int32) V74) (fun K187_66 =>
    (if x37 = (2 : Int32) then
    bd1 (fX12_inOf_13 V44 ((S 42)) (0 : Int32) x42) (fun r76 =>
    (if r76 = (-1 : Int32) then
    K183_56 x36 x37 x38 x39 x40 x43 x42 V44
    else
    bd1 (fX12_inOf_13 V44 ((S 42)) (1 : Int32) x42) (fun r79 =>
    (if r79 = (-1 : Int32) then
    K183_56 x36 x37 x38 x39 x40 x43 x42 V44
    else
    K187_66 x36 x37 x38 x39 x40 x43 x42 V44))))
    else
    K187_66 x36 x37 x38 x39 x40 x43 x42 V44))
    else
    K183_56 x36 x37 x38 x39 x40 x43 x42 V44)))) (fun K135_35 =>
    bk (fun (x83 : Int32) (x84 : Int32) (x85 : Int32) (x86 : Int32) (x87 : Int32) (x88 : Int32) (x89 : Int32) (V90 : Nat → Nat → Int32) =>
    K135_35 x83 x84 x85 x86 x87 x88 x89 (1 : Int32) V90) (fun K130_82 =>
    (if x30 = 0 then
    bd1 (fX12_allIn_13 V34 ((S 42)) x32) (fun r92 =>
    (if ((r92 >>> (x26 &&& 31)) &&& (1 : Int32)) = (1 : Int32) then
    K130_82 x26 x27 x28 x29 x33 x31 x32 V34
    else
    K135_35 x26 x27 x28 x29 x33 x31 x32 (0 : Int32) V34))
    else
    K130_82 x26 x27 x28 x29 x33 x31 x32 V34)))) (fun K102_25 =>
    bk (fun (x96 : Int32) (x97 : Int32) (x98 : Int32) (x99 : Int32) (x100 : Int32) (x101 : Int32) (x102 : Int32) (V103 : Nat → Nat → Int32) =>
    K102_25 x96 x97 x98 x99 x100 x101 x102 (1 : Int32) V103) (fun K97_95 =>
    (if x19 = 0 then
    bd1 (fX12_inOf_13 V23 ((S 42)) x16 x22) (fun r105 =>
    (if r105 = (-1 : Int32) then
    K102_25 x15 x16 x17 x18 x20 x21 x22 (0 : Int32) V23
    else
    K97_95 x15 x16 x17 x18 x20 x21 x22 V23))
    else
    K97_95 x15 x16 x17 x18 x20 x21 x22 V23))))
def fX12_trouble_0 (S : Nat → Int32) (V : Nat → Nat → Int32) (a1 : Int32) (a2 : Int32) (a3 : Int32) (a4 : Int32) : Option (Int32 × (Nat → Nat → Int32)) :=
  (if a1 < 0 then
  some ((1 : Int32), V)
  else
  (if (S 5) ≤ a1 then
  some ((1 : Int32), V)
  else
  bd1 (fX12_within a2 (0 : Int32) (2 : Int32)) (fun r3 =>
  (if r3 = 0 then
  some ((1 : Int32), V)
  else
  bd1 (fX12_within a3 (0 : Int32) (23 : Int32)) (fun r6 =>
  (if r6 = 0 then
  some ((1 : Int32), V)
  else
  bd1 (fX12_within a4 a3 (23 : Int32)) (fun r9 =>
  (if r9 = 0 then
  some ((1 : Int32), V)
  else
  bd1 (fX12_lets_0 V a1 a2) (fun r12 =>
  (if r12 = 0 then
  some ((2 : Int32), V)
  else
  bk (fun (x117 : Int32) (x118 : Int32) (x119 : Int32) (x120 : Int32) (x121 : Int32) (x122 : Int32) (x123 : Int32) (V124 : Nat → Nat → Int32) =>
  bk (fun (x126 : Int32) (x127 : Int32) (V128 : Nat → Nat → Int32) =>
  (if x126 = 0 then
  (if x127 = 0 then
  some ((5 : Int32), V128)
  else
  some ((4 : Int32), V128))
  else
  some ((3 : Int32), V128))) (fun K211_125 =>
  (if x121 = 0 then
  (if x122 = 0 then
  (if x123 = 0 then
  lt (((4 : Int32) * (S 42))) (fun x134 =>
  gd (ib x134 52) (
  lt (va_up V124 13 (upd (V124 13) (x134).toNatClampNeg x117)) (fun V136 =>
  lt ((((4 : Int32) * (S 42)) + (1 : Int32))) (fun x137 =>
  gd (ib x137 52) (
  lt (va_up V136 13 (upd (V136 13) (x137).toNatClampNeg x118)) (fun V139 =>
  lt ((((4 : Int32) * (S 42)) + (2 : Int32))) (fun x140 =>
  gd (ib x140 52) (
  lt (va_up V139 13 (upd (V139 13) (x140).toNatClampNeg x119)) (fun V142 =>
  lt ((((4 : Int32) * (S 42)) + (3 : Int32))) (fun x143 =>
  gd (ib x143 52) (
  lt (va_up V142 13 (upd (V142 13) (x143).toNatClampNeg x120)) (fun V145 =>
  bd2 (fX12_holds_0_13 S V145 (((S 42) + (1 : Int32)))) (fun r146 V147 =>
  (if r146 = 0 then
  some ((6 : Int32), V147)
  else
  (if (S 42) = (12 : Int32) then
  some ((7 : Int32), V147)
  else
  some ((0 : Int32), V147))))))))))))))))
  else
  K211_125 x121 x122 V124)
  else
  K211_125 x121 x122 V124)
  else
  K211_125 x121 x122 V124))) (fun X196_116 =>
  fX12_trouble_0_L67 X196_116 S FU a1 a2 a3 a4 (0 : Int32) (0 : Int32) (0 : Int32) a3 V)))))))))))
set_option maxHeartbeats 4000000 in
set_option maxRecDepth 100000 in
theorem kX12_trouble_0 (l : Launch) (B : jBT) (D : va_G) (ad : Nat → Nat) (cA : Nat → ClassId) (hI : jI ad TR) (S : Nat → Int32) (V : Nat → Nat → Int32) (L : Nat → Int64) (a1 : Int32) (a2 : Int32) (a3 : Int32) (a4 : Int32) (r0 : Int32) (V0 : Nat → Nat → Int32) (h : fX12_trouble_0 S V a1 a2 a3 a4 = some (r0, V0)) : jM l yX12_trouble cX12_trouble 9 (some .int) ({ frames := 5, cells := 0, slots := 0, locals := 128 }) B D TR ad cA [.ref (ad 0), .int a1, .int a2, .int a3, .int a4] S V L (some (.int r0)) S V0 L := by
  refine jM_of (plainFor_of_name (by decide)) TR_ok hI (Nat.le_of_ble_eq_true rfl) ?_
  intro p e s m args below meth c C hr hlk
  refine j_lv (lv2 := [(0, .ref (ad 0)), (1, .int a1), (2, .int a2), (3, .int a3), (4, .int a4)]) rfl ?_
  unfold fX12_trouble_0 at h
  have H_fX12_trouble_0_L67 : ∀ (E196 : Int32 → Int32 → Int32 → Int32 → Int32 → Int32 → Int32 → (Nat → Nat → Int32) → Option (Int32 × (Nat → Nat → Int32))) (_ : ∀ (x108 : Int32) (x109 : Int32) (x110 : Int32) (x111 : Int32) (x112 : Int32) (x113 : Int32) (x114 : Int32) (V115 : Nat → Nat → Int32), E196 x108 x109 x110 x111 x112 x113 x114 V115 = some (r0, V0) → jW p l e ({ frames := 5, cells := 0, slots := 0, locals := 128 }) s m args below meth c (MQ below (jQc D TR ad cA (some (.int r0)) s.heap.size S V0 L) args s 0 0 (jA ad TR s.heap.size)) D TR ad cA (jA ad TR s.heap.size) 9 0 0 196 [(0, .ref (ad 0)), (1, .int x108), (2, .int x109), (3, .int x110), (4, .int x111), (5, .int x112), (6, .int x113), (7, .int x114)] [] S V115 L) (n : Nat) (x15 : Int32) (x16 : Int32) (x17 : Int32) (x18 : Int32) (x19 : Int32) (x20 : Int32) (x21 : Int32) (x22 : Int32) (V23 : Nat → Nat → Int32), fX12_trouble_0_L67 E196 S n x15 x16 x17 x18 x19 x20 x21 x22 V23 = some (r0, V0) → jW p l e ({ frames := 5, cells := 0, slots := 0, locals := 128 }) s m args below meth c (MQ below (jQc D TR ad cA (some (.int r0)) s.heap.size S V0 L) args s 0 0 (jA ad TR s.heap.size)) D TR ad cA (jA ad TR s.heap.size) 9 0 0 67 [(0, .ref (ad 0)), (1, .int x15), (2, .int x16), (3, .int x17), (4, .int x18), (5, .int x19), (6, .int x20), (7, .int x21), (8, .int x22)] [] S V23 L := by
    intro E196 HE196
    intro n
    induction n with
    | zero =>
      intro x15 x16 x17 x18 x19 x20 x21 x22 V23 h
      cases (show (none : Option (Int32 × (Nat → Nat → Int32))) = some (r0, V0) from h)
    | succ n ih =>
      intro x15 x16 x17 x18 x19 x20 x21 x22 V23 h
      unfold fX12_trouble_0_L67 at h
      refine j_iload C 8 rfl dX12_trouble_67 ?_
      refine j_iload C 4 rfl dX12_trouble_69 ?_
      refine j_icmp_gt (tgt := 196) C dX12_trouble_71 (by decide) (fun c24 => ?_) (fun c24 => ?_)
      · have h := (if_pos c24).symm.trans h
        exact j_sub [0, 1, 2, 3, 4, 5, 6, 7] rfl (HE196 _ _ _ _ _ _ _ _ h)
      · have h := (if_neg c24).symm.trans h
        refine j_iload C 5 rfl dX12_trouble_74 ?_
        refine bk_elim h (fun K102_25 e_K102_25 h => ?_)
        have HK102_25 : ∀ (x26 : Int32) (x27 : Int32) (x28 : Int32) (x29 : Int32) (x30 : Int32) (x31 : Int32) (x32 : Int32) (x33 : Int32) (V34 : Nat → Nat → Int32), K102_25 x26 x27 x28 x29 x30 x31 x32 x33 V34 = some (r0, V0) → jW p l e ({ frames := 5, cells := 0, slots := 0, locals := 128 }) s m args below meth c (MQ below (jQc D TR ad cA (some (.int r0)) s.heap.size S V0 L) args s 0 0 (jA ad TR s.heap.size)) D TR ad cA (jA ad TR s.heap.size) 9 0 0 102 [(0, .ref (ad 0)), (1, .int x26), (2, .int x27), (3, .int x28), (4, .int x29), (6, .int x30), (7, .int x31), (8, .int x32)] [.int x33] S V34 L := by
          subst e_K102_25
          intro x26 x27 x28 x29 x30 x31 x32 x33 V34 h
          refine j_istore C [(5, .int x33), (0, .ref (ad 0)), (1, .int x26), (2, .int x27), (3, .int x28), (4, .int x29), (6, .int x30), (7, .int x31), (8, .int x32)] dX12_trouble_102 (by decide) rfl ?_
          refine j_iload C 6 rfl dX12_trouble_104 ?_
          refine bk_elim h (fun K135_35 e_K135_35 h => ?_)
          have HK135_35 : ∀ (x36 : Int32) (x37 : Int32) (x38 : Int32) (x39 : Int32) (x40 : Int32) (x41 : Int32) (x42 : Int32) (x43 : Int32) (V44 : Nat → Nat → Int32), K135_35 x36 x37 x38 x39 x40 x41 x42 x43 V44 = some (r0, V0) → jW p l e ({ frames := 5, cells := 0, slots := 0, locals := 128 }) s m args below meth c (MQ below (jQc D TR ad cA (some (.int r0)) s.heap.size S V0 L) args s 0 0 (jA ad TR s.heap.size)) D TR ad cA (jA ad TR s.heap.size) 9 0 0 135 [(0, .ref (ad 0)), (1, .int x36), (2, .int x37), (3, .int x38), (4, .int x39), (5, .int x40), (7, .int x41), (8, .int x42)] [.int x43] S V44 L := by
            subst e_K135_35
            intro x36 x37 x38 x39 x40 x41 x42 x43 V44 h
            refine j_istore C [(6, .int x43), (0, .ref (ad 0)), (1, .int x36), (2, .int x37), (3, .int x38), (4, .int x39), (5, .int x40), (7, .int x41), (8, .int x42)] dX12_trouble_135 (by decide) rfl ?_
            refine j_iload C 7 rfl dX12_trouble_137 ?_
            refine bk_elim h (fun K188_45 e_K188_45 h => ?_)
            have HK188_45 : ∀ (x46 : Int32) (x47 : Int32) (x48 : Int32) (x49 : Int32) (x50 : Int32) (x51 : Int32) (x52 : Int32) (x53 : Int32) (V54 : Nat → Nat → Int32), K188_45 x46 x47 x48 x49 x50 x51 x52 x53 V54 = some (r0, V0) → jW p l e ({ frames := 5, cells := 0, slots := 0, locals := 128 }) s m args below meth c (MQ below (jQc D TR ad cA (some (.int r0)) s.heap.size S V0 L) args s 0 0 (jA ad TR s.heap.size)) D TR ad cA (jA ad TR s.heap.size) 9 0 0 188 [(0, .ref (ad 0)), (1, .int x46), (2, .int x47), (3, .int x48), (4, .int x49), (5, .int x50), (6, .int x51), (8, .int x52)] [.int x53] S V54 L := by
              subst e_K188_45
              intro x46 x47 x48 x49 x50 x51 x52 x53 V54 h
              refine j_istore C [(7, .int x53), (0, .ref (ad 0)), (1, .int x46), (2, .int x47), (3, .int x48), (4, .int x49), (5, .int x50), (6, .int x51), (8, .int x52)] dX12_trouble_188 (by decide) rfl ?_
              refine lt_elim h (fun x55 e_x55 h => ?_)
              refine j_iinc C [(8, .int x55), (7, .int x53), (0, .ref (ad 0)), (1, .int x46), (2, .int x47), (3, .int x48), (4, .int x49), (5, .int x50), (6, .int x51)] 8 dX12_trouble_190 rfl ((iinc_eq ci_1).trans e_x55.symm) (by decide) rfl ?_
              refine j_goto (tgt := 67) C dX12_trouble_193 (by decide) ?_
              exact j_sub [2, 3, 4, 5, 6, 7, 8, 1, 0] rfl (ih _ _ _ _ _ _ _ _ _ h)
            refine bk_elim h (fun K183_56 e_K183_56 h => ?_)
            have HK183_56 : ∀ (x57 : Int32) (x58 : Int32) (x59 : Int32) (x60 : Int32) (x61 : Int32) (x62 : Int32) (x63 : Int32) (V64 : Nat → Nat → Int32), K183_56 x57 x58 x59 x60 x61 x62 x63 V64 = some (r0, V0) → jW p l e ({ frames := 5, cells := 0, slots := 0, locals := 128 }) s m args below meth c (MQ below (jQc D TR ad cA (some (.int r0)) s.heap.size S V0 L) args s 0 0 (jA ad TR s.heap.size)) D TR ad cA (jA ad TR s.heap.size) 9 0 0 183 [(0, .ref (ad 0)), (1, .int x57), (2, .int x58), (3, .int x59), (4, .int x60), (5, .int x61), (6, .int x62), (8, .int x63)] [] S V64 L := by
              subst e_K183_56
              intro x57 x58 x59 x60 x61 x62 x63 V64 h
              refine j_iconst C dX12_trouble_183 ci_1 ?_
              refine j_goto (tgt := 188) C dX12_trouble_184 (by decide) ?_
              exact j_sub [0, 1, 2, 3, 4, 5, 6, 7] rfl (HK188_45 _ _ _ _ _ _ _ _ _ h)
            refine j_if_ne (tgt := 183) C dX12_trouble_139 (by decide) (fun c65 => ?_) (fun c65 => ?_)
            · have h := (if_neg c65).symm.trans h
              exact j_sub [1, 2, 3, 4, 5, 6, 0, 8] rfl (HK183_56 _ _ _ _ _ _ _ _ h)
            · have h := (if_pos c65).symm.trans h
              refine j_iload_n C 3 rfl dX12_trouble_142 rfl ?_
              refine j_iconst C dX12_trouble_143 ci_2 ?_
              refine bk_elim h (fun K187_66 e_K187_66 h => ?_)
              have HK187_66 : ∀ (x67 : Int32) (x68 : Int32) (x69 : Int32) (x70 : Int32) (x71 : Int32) (x72 : Int32) (x73 : Int32) (V74 : Nat → Nat → Int32), K187_66 x67 x68 x69 x70 x71 x72 x73 V74 = some (r0, V0) → jW p l e ({ frames := 5, cells := 0, slots := 0, locals := 128 }) s m args below meth c (MQ below (jQc D TR ad cA (some (.int r0)) s.heap.size S V0 L) args s 0 0 (jA ad TR s.heap.size)) D TR ad cA (jA ad TR s.heap.size) 9 0 0 187 [(0, .ref (ad 0)), (1, .int x67), (2, .int x68), (3, .int x69), (4, .int x70), (5, .int x71), (6, .int x72), (8, .int x73)] [] S V74 L := by
                subst e_K187_66
                intro x67 x68 x69 x70 x71 x72 x73 V74 h
                refine j_iconst C dX12_trouble_187 ci_0 ?_
                exact j_sub [0, 1, 2, 3, 4, 5, 6, 7] rfl (HK188_45 _ _ _ _ _ _ _ _ _ h)
              refine j_icmp_ne (tgt := 187) C dX12_trouble_144 (by decide) (fun c75 => ?_) (fun c75 => ?_)
              · have h := (if_neg c75).symm.trans h
                exact j_sub [1, 2, 3, 4, 5, 6, 0, 8] rfl (HK187_66 _ _ _ _ _ _ _ _ h)
              · have h := (if_pos c75).symm.trans h
                refine j_aload_n C 1 rfl dX12_trouble_147 rfl ?_
                refine fg_X12_60_TR_0 C dX12_trouble_148 ?_
                refine j_aload_n C 1 rfl dX12_trouble_151 rfl ?_
                refine fg_X12_278_TR_0 C dX12_trouble_152 ?_
                refine j_iconst C dX12_trouble_155 ci_0 ?_
                refine j_iload C 8 rfl dX12_trouble_156 ?_
                obtain ⟨r76, h77, h⟩ := bd1_elim h
                refine j_callS (As := [.ref (ad 13), .int (S 42), .int (0 : Int32), .int x42]) (rest := []) C (kX12_inOf_13 l B D ad cA hI S V44 L ((S 42)) (0 : Int32) x42 _ h77) mw_X12_inOf wd1775 wd1774 ⟨rfl, rfl, by decide, by decide⟩ ⟨Nat.zero_le _, Nat.zero_le _⟩ rfl rfl (Nat.le_of_ble_eq_true rfl) dX12_trouble_158 ?_
                refine j_iconst C dX12_trouble_161 ci_m1 ?_
                refine j_icmp_eq (tgt := 183) C dX12_trouble_162 (by decide) (fun c78 => ?_) (fun c78 => ?_)
                · have h := (if_pos c78).symm.trans h
                  exact j_sub [1, 2, 3, 4, 5, 6, 0, 8] rfl (HK183_56 _ _ _ _ _ _ _ _ h)
                · have h := (if_neg c78).symm.trans h
                  refine j_aload_n C 1 rfl dX12_trouble_165 rfl ?_
                  refine fg_X12_60_TR_0 C dX12_trouble_166 ?_
                  refine j_aload_n C 1 rfl dX12_trouble_169 rfl ?_
                  refine fg_X12_278_TR_0 C dX12_trouble_170 ?_
                  refine j_iconst C dX12_trouble_173 ci_1 ?_
                  refine j_iload C 8 rfl dX12_trouble_174 ?_
                  obtain ⟨r79, h80, h⟩ := bd1_elim h
                  refine j_callS (As := [.ref (ad 13), .int (S 42), .int (1 : Int32), .int x42]) (rest := []) C (kX12_inOf_13 l B D ad cA hI S V44 L ((S 42)) (1 : Int32) x42 _ h80) mw_X12_inOf wd1775 wd1774 ⟨rfl, rfl, by decide, by decide⟩ ⟨Nat.zero_le _, Nat.zero_le _⟩ rfl rfl (Nat.le_of_ble_eq_true rfl) dX12_trouble_176 ?_
                  refine j_iconst C dX12_trouble_179 ci_m1 ?_
                  refine j_icmp_ne (tgt := 187) C dX12_trouble_180 (by decide) (fun c81 => ?_) (fun c81 => ?_)
                  · have h := (if_neg c81).symm.trans h
                    exact j_sub [1, 2, 3, 4, 5, 6, 0, 8] rfl (HK187_66 _ _ _ _ _ _ _ _ h)
                  · have h := (if_pos c81).symm.trans h
                    exact j_sub [1, 2, 3, 4, 5, 6, 0, 8] rfl (HK183_56 _ _ _ _ _ _ _ _ h)
          refine bk_elim h (fun K130_82 e_K130_82 h => ?_)
          have HK130_82 : ∀ (x83 : Int32) (x84 : Int32) (x85 : Int32) (x86 : Int32) (x87 : Int32) (x88 : Int32) (x89 : Int32) (V90 : Nat → Nat → Int32), K130_82 x83 x84 x85 x86 x87 x88 x89 V90 = some (r0, V0) → jW p l e ({ frames := 5, cells := 0, slots := 0, locals := 128 }) s m args below meth c (MQ below (jQc D TR ad cA (some (.int r0)) s.heap.size S V0 L) args s 0 0 (jA ad TR s.heap.size)) D TR ad cA (jA ad TR s.heap.size) 9 0 0 130 [(0, .ref (ad 0)), (1, .int x83), (2, .int x84), (3, .int x85), (4, .int x86), (5, .int x87), (7, .int x88), (8, .int x89)] [] S V90 L := by
            subst e_K130_82
            intro x83 x84 x85 x86 x87 x88 x89 V90 h
            refine j_iconst C dX12_trouble_130 ci_1 ?_
            refine j_goto (tgt := 135) C dX12_trouble_131 (by decide) ?_
            exact j_sub [0, 1, 2, 3, 4, 5, 6, 7] rfl (HK135_35 _ _ _ _ _ _ _ _ _ h)
          refine j_if_ne (tgt := 130) C dX12_trouble_106 (by decide) (fun c91 => ?_) (fun c91 => ?_)
          · have h := (if_neg c91).symm.trans h
            exact j_sub [1, 2, 3, 4, 5, 0, 7, 8] rfl (HK130_82 _ _ _ _ _ _ _ _ h)
          · have h := (if_pos c91).symm.trans h
            refine j_aload_n C 1 rfl dX12_trouble_109 rfl ?_
            refine fg_X12_60_TR_0 C dX12_trouble_110 ?_
            refine j_aload_n C 1 rfl dX12_trouble_113 rfl ?_
            refine fg_X12_278_TR_0 C dX12_trouble_114 ?_
            refine j_iload C 8 rfl dX12_trouble_117 ?_
            obtain ⟨r92, h93, h⟩ := bd1_elim h
            refine j_callS (As := [.ref (ad 13), .int (S 42), .int x32]) (rest := []) C (kX12_allIn_13 l B D ad cA hI S V34 L ((S 42)) x32 _ h93) mw_X12_allIn wd1778 wd1777 ⟨rfl, rfl, by decide, by decide⟩ ⟨Nat.zero_le _, Nat.zero_le _⟩ rfl rfl (Nat.le_of_ble_eq_true rfl) dX12_trouble_119 ?_
            refine j_iload_n C 2 rfl dX12_trouble_122 rfl ?_
            refine j_ishr C dX12_trouble_123 ?_
            refine j_iconst C dX12_trouble_124 ci_1 ?_
            refine j_iand C dX12_trouble_125 ?_
            refine j_iconst C dX12_trouble_126 ci_1 ?_
            refine j_icmp_ne (tgt := 134) C dX12_trouble_127 (by decide) (fun c94 => ?_) (fun c94 => ?_)
            · have h := (if_neg c94).symm.trans h
              refine j_iconst C dX12_trouble_134 ci_0 ?_
              exact j_sub [1, 2, 3, 4, 5, 0, 7, 8] rfl (HK135_35 _ _ _ _ _ _ _ _ _ h)
            · have h := (if_pos c94).symm.trans h
              exact j_sub [1, 2, 3, 4, 5, 0, 7, 8] rfl (HK130_82 _ _ _ _ _ _ _ _ h)
        refine bk_elim h (fun K97_95 e_K97_95 h => ?_)
        have HK97_95 : ∀ (x96 : Int32) (x97 : Int32) (x98 : Int32) (x99 : Int32) (x100 : Int32) (x101 : Int32) (x102 : Int32) (V103 : Nat → Nat → Int32), K97_95 x96 x97 x98 x99 x100 x101 x102 V103 = some (r0, V0) → jW p l e ({ frames := 5, cells := 0, slots := 0, locals := 128 }) s m args below meth c (MQ below (jQc D TR ad cA (some (.int r0)) s.heap.size S V0 L) args s 0 0 (jA ad TR s.heap.size)) D TR ad cA (jA ad TR s.heap.size) 9 0 0 97 [(0, .ref (ad 0)), (1, .int x96), (2, .int x97), (3, .int x98), (4, .int x99), (6, .int x100), (7, .int x101), (8, .int x102)] [] S V103 L := by
          subst e_K97_95
          intro x96 x97 x98 x99 x100 x101 x102 V103 h
          refine j_iconst C dX12_trouble_97 ci_1 ?_
          refine j_goto (tgt := 102) C dX12_trouble_98 (by decide) ?_
          exact j_sub [0, 1, 2, 3, 4, 5, 6, 7] rfl (HK102_25 _ _ _ _ _ _ _ _ _ h)
        refine j_if_ne (tgt := 97) C dX12_trouble_76 (by decide) (fun c104 => ?_) (fun c104 => ?_)
        · have h := (if_neg c104).symm.trans h
          exact j_sub [0, 1, 2, 3, 4, 6, 7, 8] rfl (HK97_95 _ _ _ _ _ _ _ _ h)
        · have h := (if_pos c104).symm.trans h
          refine j_aload_n C 0 rfl dX12_trouble_79 rfl ?_
          refine fg_X12_60_TR_0 C dX12_trouble_80 ?_
          refine j_aload_n C 0 rfl dX12_trouble_83 rfl ?_
          refine fg_X12_278_TR_0 C dX12_trouble_84 ?_
          refine j_iload_n C 2 rfl dX12_trouble_87 rfl ?_
          refine j_iload C 8 rfl dX12_trouble_88 ?_
          obtain ⟨r105, h106, h⟩ := bd1_elim h
          refine j_callS (As := [.ref (ad 13), .int (S 42), .int x16, .int x22]) (rest := []) C (kX12_inOf_13 l B D ad cA hI S V23 L ((S 42)) x16 x22 _ h106) mw_X12_inOf wd1775 wd1774 ⟨rfl, rfl, by decide, by decide⟩ ⟨Nat.zero_le _, Nat.zero_le _⟩ rfl rfl (Nat.le_of_ble_eq_true rfl) dX12_trouble_90 ?_
          refine j_iconst C dX12_trouble_93 ci_m1 ?_
          refine j_icmp_eq (tgt := 101) C dX12_trouble_94 (by decide) (fun c107 => ?_) (fun c107 => ?_)
          · have h := (if_pos c107).symm.trans h
            refine j_iconst C dX12_trouble_101 ci_0 ?_
            exact j_sub [0, 1, 2, 3, 4, 6, 7, 8] rfl (HK102_25 _ _ _ _ _ _ _ _ _ h)
          · have h := (if_neg c107).symm.trans h
            exact j_sub [0, 1, 2, 3, 4, 6, 7, 8] rfl (HK97_95 _ _ _ _ _ _ _ _ h)
  refine j_iload_n C 1 rfl dX12_trouble_0 rfl ?_
  refine j_if_lt (tgt := 42) C dX12_trouble_1 (by decide) (fun c1 => ?_) (fun c1 => ?_)
  · have h := (if_pos c1).symm.trans h
    refine j_iconst C dX12_trouble_42 ci_1 ?_
    cases h
    exact j_iret C hr hlk rfl dX12_trouble_43
  · have h := (if_neg c1).symm.trans h
    refine j_iload_n C 1 rfl dX12_trouble_4 rfl ?_
    refine j_aload_n C 0 rfl dX12_trouble_5 rfl ?_
    refine fg_X12_265_TR_0 C dX12_trouble_6 ?_
    refine j_icmp_ge (tgt := 42) C dX12_trouble_9 (by decide) (fun c2 => ?_) (fun c2 => ?_)
    · have h := (if_pos c2).symm.trans h
      refine j_iconst C dX12_trouble_42 ci_1 ?_
      cases h
      exact j_iret C hr hlk rfl dX12_trouble_43
    · have h := (if_neg c2).symm.trans h
      refine j_iload_n C 2 rfl dX12_trouble_12 rfl ?_
      refine j_iconst C dX12_trouble_13 ci_0 ?_
      refine j_iconst C dX12_trouble_14 ci_2 ?_
      obtain ⟨r3, h4, h⟩ := bd1_elim h
      refine j_callS (As := [.int a2, .int (0 : Int32), .int (2 : Int32)]) (rest := []) C (kX12_within l B D ad cA hI S V L a2 (0 : Int32) (2 : Int32) _ h4) mw_X12_within wd1760 wd1759 ⟨rfl, rfl, by decide, by decide⟩ ⟨Nat.zero_le _, Nat.zero_le _⟩ rfl rfl (Nat.le_of_ble_eq_true rfl) dX12_trouble_15 ?_
      refine j_if_eq (tgt := 42) C dX12_trouble_18 (by decide) (fun c5 => ?_) (fun c5 => ?_)
      · have h := (if_pos c5).symm.trans h
        refine j_iconst C dX12_trouble_42 ci_1 ?_
        cases h
        exact j_iret C hr hlk rfl dX12_trouble_43
      · have h := (if_neg c5).symm.trans h
        refine j_iload_n C 3 rfl dX12_trouble_21 rfl ?_
        refine j_iconst C dX12_trouble_22 ci_0 ?_
        refine j_bipush C dX12_trouble_23 cb_23 ?_
        obtain ⟨r6, h7, h⟩ := bd1_elim h
        refine j_callS (As := [.int a3, .int (0 : Int32), .int (23 : Int32)]) (rest := []) C (kX12_within l B D ad cA hI S V L a3 (0 : Int32) (23 : Int32) _ h7) mw_X12_within wd1760 wd1759 ⟨rfl, rfl, by decide, by decide⟩ ⟨Nat.zero_le _, Nat.zero_le _⟩ rfl rfl (Nat.le_of_ble_eq_true rfl) dX12_trouble_25 ?_
        refine j_if_eq (tgt := 42) C dX12_trouble_28 (by decide) (fun c8 => ?_) (fun c8 => ?_)
        · have h := (if_pos c8).symm.trans h
          refine j_iconst C dX12_trouble_42 ci_1 ?_
          cases h
          exact j_iret C hr hlk rfl dX12_trouble_43
        · have h := (if_neg c8).symm.trans h
          refine j_iload C 4 rfl dX12_trouble_31 ?_
          refine j_iload_n C 3 rfl dX12_trouble_33 rfl ?_
          refine j_bipush C dX12_trouble_34 cb_23 ?_
          obtain ⟨r9, h10, h⟩ := bd1_elim h
          refine j_callS (As := [.int a4, .int a3, .int (23 : Int32)]) (rest := []) C (kX12_within l B D ad cA hI S V L a4 a3 (23 : Int32) _ h10) mw_X12_within wd1760 wd1759 ⟨rfl, rfl, by decide, by decide⟩ ⟨Nat.zero_le _, Nat.zero_le _⟩ rfl rfl (Nat.le_of_ble_eq_true rfl) dX12_trouble_36 ?_
          refine j_if_ne (tgt := 44) C dX12_trouble_39 (by decide) (fun c11 => ?_) (fun c11 => ?_)
          · have h := (if_neg c11).symm.trans h
            refine j_aload_n C 0 rfl dX12_trouble_44 rfl ?_
            refine j_iload_n C 1 rfl dX12_trouble_45 rfl ?_
            refine j_iload_n C 2 rfl dX12_trouble_46 rfl ?_
            obtain ⟨r12, h13, h⟩ := bd1_elim h
            refine j_callV (As := [.int a1, .int a2]) (rest := []) C (kX12_lets_0 l B D ad cA hI S V L a1 a2 _ h13) mw_X12_lets wd1772 wd81 wd1770 tr_0 rfl rfl ⟨rfl, rfl, by decide, by decide⟩ ⟨Nat.zero_le _, Nat.zero_le _⟩ rfl rfl (Nat.le_of_ble_eq_true rfl) dX12_trouble_47 ?_
            refine j_if_ne (tgt := 55) C dX12_trouble_50 (by decide) (fun c14 => ?_) (fun c14 => ?_)
            · have h := (if_neg c14).symm.trans h
              refine j_iconst C dX12_trouble_55 ci_0 ?_
              refine j_istore C [(5, .int (0 : Int32)), (0, .ref (ad 0)), (1, .int a1), (2, .int a2), (3, .int a3), (4, .int a4)] dX12_trouble_56 (by decide) rfl ?_
              refine j_iconst C dX12_trouble_58 ci_0 ?_
              refine j_istore C [(6, .int (0 : Int32)), (5, .int (0 : Int32)), (0, .ref (ad 0)), (1, .int a1), (2, .int a2), (3, .int a3), (4, .int a4)] dX12_trouble_59 (by decide) rfl ?_
              refine j_iconst C dX12_trouble_61 ci_0 ?_
              refine j_istore C [(7, .int (0 : Int32)), (6, .int (0 : Int32)), (5, .int (0 : Int32)), (0, .ref (ad 0)), (1, .int a1), (2, .int a2), (3, .int a3), (4, .int a4)] dX12_trouble_62 (by decide) rfl ?_
              refine j_iload_n C 6 rfl dX12_trouble_64 rfl ?_
              refine j_istore C [(8, .int a3), (7, .int (0 : Int32)), (6, .int (0 : Int32)), (5, .int (0 : Int32)), (0, .ref (ad 0)), (1, .int a1), (2, .int a2), (3, .int a3), (4, .int a4)] dX12_trouble_65 (by decide) rfl ?_
              refine bk_elim h (fun X196_116 e_X196_116 h => ?_)
              have HX196_116 : ∀ (x117 : Int32) (x118 : Int32) (x119 : Int32) (x120 : Int32) (x121 : Int32) (x122 : Int32) (x123 : Int32) (V124 : Nat → Nat → Int32), X196_116 x117 x118 x119 x120 x121 x122 x123 V124 = some (r0, V0) → jW p l e ({ frames := 5, cells := 0, slots := 0, locals := 128 }) s m args below meth c (MQ below (jQc D TR ad cA (some (.int r0)) s.heap.size S V0 L) args s 0 0 (jA ad TR s.heap.size)) D TR ad cA (jA ad TR s.heap.size) 9 0 0 196 [(0, .ref (ad 0)), (1, .int x117), (2, .int x118), (3, .int x119), (4, .int x120), (5, .int x121), (6, .int x122), (7, .int x123)] [] S V124 L := by
                subst e_X196_116
                intro x117 x118 x119 x120 x121 x122 x123 V124 h
                refine j_iload C 5 rfl dX12_trouble_196 ?_
                refine bk_elim h (fun K211_125 e_K211_125 h => ?_)
                have HK211_125 : ∀ (x126 : Int32) (x127 : Int32) (V128 : Nat → Nat → Int32), K211_125 x126 x127 V128 = some (r0, V0) → jW p l e ({ frames := 5, cells := 0, slots := 0, locals := 128 }) s m args below meth c (MQ below (jQc D TR ad cA (some (.int r0)) s.heap.size S V0 L) args s 0 0 (jA ad TR s.heap.size)) D TR ad cA (jA ad TR s.heap.size) 9 0 0 211 [(5, .int x126), (6, .int x127)] [] S V128 L := by
                  subst e_K211_125
                  intro x126 x127 V128 h
                  refine j_iload C 0 rfl dX12_trouble_211 ?_
                  refine j_if_eq (tgt := 220) C dX12_trouble_213 (by decide) (fun c129 => ?_) (fun c129 => ?_)
                  · have h := (if_pos c129).symm.trans h
                    refine j_iload C 1 rfl dX12_trouble_220 ?_
                    refine j_if_eq (tgt := 229) C dX12_trouble_222 (by decide) (fun c130 => ?_) (fun c130 => ?_)
                    · have h := (if_pos c130).symm.trans h
                      refine j_iconst C dX12_trouble_229 ci_5 ?_
                      cases h
                      exact j_iret C hr hlk rfl dX12_trouble_230
                    · have h := (if_neg c130).symm.trans h
                      refine j_iconst C dX12_trouble_225 ci_4 ?_
                      refine j_goto (tgt := 230) C dX12_trouble_226 (by decide) ?_
                      cases h
                      exact j_iret C hr hlk rfl dX12_trouble_230
                  · have h := (if_neg c129).symm.trans h
                    refine j_iconst C dX12_trouble_216 ci_3 ?_
                    refine j_goto (tgt := 230) C dX12_trouble_217 (by decide) ?_
                    cases h
                    exact j_iret C hr hlk rfl dX12_trouble_230
                refine j_if_ne (tgt := 211) C dX12_trouble_198 (by decide) (fun c131 => ?_) (fun c131 => ?_)
                · have h := (if_neg c131).symm.trans h
                  exact j_sub [5, 6] rfl (HK211_125 _ _ _ h)
                · have h := (if_pos c131).symm.trans h
                  refine j_iload C 6 rfl dX12_trouble_201 ?_
                  refine j_if_ne (tgt := 211) C dX12_trouble_203 (by decide) (fun c132 => ?_) (fun c132 => ?_)
                  · have h := (if_neg c132).symm.trans h
                    exact j_sub [5, 6] rfl (HK211_125 _ _ _ h)
                  · have h := (if_pos c132).symm.trans h
                    refine j_iload C 7 rfl dX12_trouble_206 ?_
                    refine j_if_eq (tgt := 231) C dX12_trouble_208 (by decide) (fun c133 => ?_) (fun c133 => ?_)
                    · have h := (if_pos c133).symm.trans h
                      refine j_aload_n C 0 rfl dX12_trouble_231 rfl ?_
                      refine fg_X12_60_TR_0 C dX12_trouble_232 ?_
                      refine j_iconst C dX12_trouble_235 ci_4 ?_
                      refine j_aload_n C 0 rfl dX12_trouble_236 rfl ?_
                      refine fg_X12_278_TR_0 C dX12_trouble_237 ?_
                      refine j_imul C dX12_trouble_240 ?_
                      refine j_iload_n C 1 rfl dX12_trouble_241 rfl ?_
                      refine lt_elim h (fun x134 e_x134 h => ?_)
                      refine j_top2 e_x134 ?_
                      obtain ⟨g135, h⟩ := gd_elim h
                      refine j_iast C tr_13 (ib_in g135) dX12_trouble_242 ?_
                      refine lt_elim h (fun V136 e_V136 h => ?_)
                      refine j_V e_V136 ?_
                      refine j_aload_n C 0 rfl dX12_trouble_243 rfl ?_
                      refine fg_X12_60_TR_0 C dX12_trouble_244 ?_
                      refine j_iconst C dX12_trouble_247 ci_4 ?_
                      refine j_aload_n C 0 rfl dX12_trouble_248 rfl ?_
                      refine fg_X12_278_TR_0 C dX12_trouble_249 ?_
                      refine j_imul C dX12_trouble_252 ?_
                      refine j_iconst C dX12_trouble_253 ci_1 ?_
                      refine j_iadd C dX12_trouble_254 ?_
                      refine j_iload_n C 2 rfl dX12_trouble_255 rfl ?_
                      refine lt_elim h (fun x137 e_x137 h => ?_)
                      refine j_top2 e_x137 ?_
                      obtain ⟨g138, h⟩ := gd_elim h
                      refine j_iast C tr_13 (ib_in g138) dX12_trouble_256 ?_
                      refine lt_elim h (fun V139 e_V139 h => ?_)
                      refine j_V e_V139 ?_
                      refine j_aload_n C 0 rfl dX12_trouble_257 rfl ?_
                      refine fg_X12_60_TR_0 C dX12_trouble_258 ?_
                      refine j_iconst C dX12_trouble_261 ci_4 ?_
                      refine j_aload_n C 0 rfl dX12_trouble_262 rfl ?_
                      refine fg_X12_278_TR_0 C dX12_trouble_263 ?_
                      refine j_imul C dX12_trouble_266 ?_
                      refine j_iconst C dX12_trouble_267 ci_2 ?_
                      refine j_iadd C dX12_trouble_268 ?_
                      refine j_iload_n C 3 rfl dX12_trouble_269 rfl ?_
                      refine lt_elim h (fun x140 e_x140 h => ?_)
                      refine j_top2 e_x140 ?_
                      obtain ⟨g141, h⟩ := gd_elim h
                      refine j_iast C tr_13 (ib_in g141) dX12_trouble_270 ?_
                      refine lt_elim h (fun V142 e_V142 h => ?_)
                      refine j_V e_V142 ?_
                      refine j_aload_n C 0 rfl dX12_trouble_271 rfl ?_
                      refine fg_X12_60_TR_0 C dX12_trouble_272 ?_
                      refine j_iconst C dX12_trouble_275 ci_4 ?_
                      refine j_aload_n C 0 rfl dX12_trouble_276 rfl ?_
                      refine fg_X12_278_TR_0 C dX12_trouble_277 ?_
                      refine j_imul C dX12_trouble_280 ?_
                      refine j_iconst C dX12_trouble_281 ci_3 ?_
                      refine j_iadd C dX12_trouble_282 ?_
                      refine j_iload C 4 rfl dX12_trouble_283 ?_
                      refine lt_elim h (fun x143 e_x143 h => ?_)
                      refine j_top2 e_x143 ?_
                      obtain ⟨g144, h⟩ := gd_elim h
                      refine j_iast C tr_13 (ib_in g144) dX12_trouble_285 ?_
                      refine lt_elim h (fun V145 e_V145 h => ?_)
                      refine j_V e_V145 ?_
                      refine j_aload_n C 0 rfl dX12_trouble_286 rfl ?_
                      refine j_aload_n C 0 rfl dX12_trouble_287 rfl ?_
                      refine fg_X12_60_TR_0 C dX12_trouble_288 ?_
                      refine j_aload_n C 0 rfl dX12_trouble_291 rfl ?_
                      refine fg_X12_278_TR_0 C dX12_trouble_292 ?_
                      refine j_iconst C dX12_trouble_295 ci_1 ?_
                      refine j_iadd C dX12_trouble_296 ?_
                      obtain ⟨r146, V147, h148, h⟩ := bd2_elim h
                      refine j_callV (As := [.ref (ad 13), .int ((S 42) + (1 : Int32))]) (rest := []) C (kX12_holds_0_13 l B D ad cA hI S V145 L (((S 42) + (1 : Int32))) _ _ h148) mw_X12_holds wd1782 wd82 wd1780 tr_0 rfl rfl ⟨rfl, rfl, by decide, by decide⟩ ⟨Nat.zero_le _, Nat.zero_le _⟩ rfl rfl (Nat.le_of_ble_eq_true rfl) dX12_trouble_297 ?_
                      refine j_if_ne (tgt := 306) C dX12_trouble_300 (by decide) (fun c149 => ?_) (fun c149 => ?_)
                      · have h := (if_neg c149).symm.trans h
                        refine j_aload_n C 0 rfl dX12_trouble_306 rfl ?_
                        refine fg_X12_278_TR_0 C dX12_trouble_307 ?_
                        refine j_bipush C dX12_trouble_310 cb_12 ?_
                        refine j_icmp_ne (tgt := 320) C dX12_trouble_312 (by decide) (fun c150 => ?_) (fun c150 => ?_)
                        · have h := (if_neg c150).symm.trans h
                          refine j_iconst C dX12_trouble_320 ci_0 ?_
                          cases h
                          exact j_iret C hr hlk rfl dX12_trouble_321
                        · have h := (if_pos c150).symm.trans h
                          refine j_bipush C dX12_trouble_315 cb_7 ?_
                          refine j_goto (tgt := 321) C dX12_trouble_317 (by decide) ?_
                          cases h
                          exact j_iret C hr hlk rfl dX12_trouble_321
                      · have h := (if_pos c149).symm.trans h
                        refine j_bipush C dX12_trouble_303 cb_6 ?_
                        cases h
                        exact j_iret C hr hlk rfl dX12_trouble_305
                    · have h := (if_neg c133).symm.trans h
                      exact j_sub [5, 6] rfl (HK211_125 _ _ _ h)
              exact j_sub [4, 5, 6, 7, 8, 3, 2, 1, 0] rfl (H_fX12_trouble_0_L67 _ HX196_116 FU _ _ _ _ _ _ _ _ _ h)
            · have h := (if_pos c14).symm.trans h
              refine j_iconst C dX12_trouble_53 ci_2 ?_
              cases h
              exact j_iret C hr hlk rfl dX12_trouble_54
          · have h := (if_pos c11).symm.trans h
            refine j_iconst C dX12_trouble_42 ci_1 ?_
            cases h
            exact j_iret C hr hlk rfl dX12_trouble_43
theorem dX12_judge_0 : decode cX12_judge 0 = .ok (.aload_n 0, 1) := by decide +kernel
theorem dX12_judge_1 : decode cX12_judge 1 = .ok (.iconst 0, 1) := by decide +kernel
theorem dX12_judge_2 : decode cX12_judge 2 = .ok (.putfield 93, 3) := by decide +kernel
theorem dX12_judge_5 : decode cX12_judge 5 = .ok (.aload_n 0, 1) := by decide +kernel
theorem dX12_judge_6 : decode cX12_judge 6 = .ok (.iload_n 1, 1) := by decide +kernel
theorem dX12_judge_7 : decode cX12_judge 7 = .ok (.iload_n 2, 1) := by decide +kernel
theorem dX12_judge_8 : decode cX12_judge 8 = .ok (.iload_n 3, 1) := by decide +kernel
theorem dX12_judge_9 : decode cX12_judge 9 = .ok (.iload 4, 2) := by decide +kernel
theorem dX12_judge_11 : decode cX12_judge 11 = .ok (.invokevirtual 331, 3) := by decide +kernel
theorem dX12_judge_14 : decode cX12_judge 14 = .ok (.ireturn, 1) := by decide +kernel
def fX12_judge_0 (S : Nat → Int32) (V : Nat → Nat → Int32) (a1 : Int32) (a2 : Int32) (a3 : Int32) (a4 : Int32) : Option (Int32 × (Nat → Int32) × (Nat → Nat → Int32)) :=
  lt (va_up S 0 (0 : Int32)) (fun S1 =>
  bd2 (fX12_trouble_0 S1 V a1 a2 a3 a4) (fun r2 V3 =>
  some (r2, S1, V3)))
set_option maxHeartbeats 4000000 in
set_option maxRecDepth 100000 in
theorem kX12_judge_0 (l : Launch) (B : jBT) (D : va_G) (ad : Nat → Nat) (cA : Nat → ClassId) (hI : jI ad TR) (S : Nat → Int32) (V : Nat → Nat → Int32) (L : Nat → Int64) (a1 : Int32) (a2 : Int32) (a3 : Int32) (a4 : Int32) (r0 : Int32) (S0 : Nat → Int32) (V0 : Nat → Nat → Int32) (h : fX12_judge_0 S V a1 a2 a3 a4 = some (r0, S0, V0)) : jM l yX12_judge cX12_judge 5 (some .int) ({ frames := 6, cells := 0, slots := 0, locals := 156 }) B D TR ad cA [.ref (ad 0), .int a1, .int a2, .int a3, .int a4] S V L (some (.int r0)) S0 V0 L := by
  refine jM_of (plainFor_of_name (by decide)) TR_ok hI (Nat.le_of_ble_eq_true rfl) ?_
  intro p e s m args below meth c C hr hlk
  refine j_lv (lv2 := [(0, .ref (ad 0)), (1, .int a1), (2, .int a2), (3, .int a3), (4, .int a4)]) rfl ?_
  unfold fX12_judge_0 at h
  refine j_aload_n C 0 rfl dX12_judge_0 rfl ?_
  refine j_iconst C dX12_judge_1 ci_0 ?_
  refine fp_X12_93_TR_0 C dX12_judge_2 ?_
  refine lt_elim h (fun S1 e_S1 h => ?_)
  refine j_S e_S1 ?_
  refine j_aload_n C 0 rfl dX12_judge_5 rfl ?_
  refine j_iload_n C 1 rfl dX12_judge_6 rfl ?_
  refine j_iload_n C 2 rfl dX12_judge_7 rfl ?_
  refine j_iload_n C 3 rfl dX12_judge_8 rfl ?_
  refine j_iload C 4 rfl dX12_judge_9 ?_
  obtain ⟨r2, V3, h4, h⟩ := bd2_elim h
  refine j_callV (As := [.int a1, .int a2, .int a3, .int a4]) (rest := []) C (kX12_trouble_0 l B D ad cA hI S1 V L a1 a2 a3 a4 _ _ h4) mw_X12_trouble wd1768 wd80 wd1766 tr_0 rfl rfl ⟨rfl, rfl, by decide, by decide⟩ ⟨Nat.zero_le _, Nat.zero_le _⟩ rfl rfl (Nat.le_of_ble_eq_true rfl) dX12_judge_11 ?_
  cases h
  exact j_iret C hr hlk rfl dX12_judge_14
