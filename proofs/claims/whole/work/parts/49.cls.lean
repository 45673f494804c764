theorem dX4_shareOf_0 : decode cX4_shareOf 0 = .ok (.iconst 0, 1) := by decide +kernel
theorem dX4_shareOf_1 : decode cX4_shareOf 1 = .ok (.istore_n 3, 1) := by decide +kernel
theorem dX4_shareOf_2 : decode cX4_shareOf 2 = .ok (.iconst 0, 1) := by decide +kernel
theorem dX4_shareOf_3 : decode cX4_shareOf 3 = .ok (.istore 4, 2) := by decide +kernel
theorem dX4_shareOf_5 : decode cX4_shareOf 5 = .ok (.iload 4, 2) := by decide +kernel
theorem dX4_shareOf_7 : decode cX4_shareOf 7 = .ok (.aload_n 0, 1) := by decide +kernel
theorem dX4_shareOf_8 : decode cX4_shareOf 8 = .ok (.getfield 27, 3) := by decide +kernel
theorem dX4_shareOf_11 : decode cX4_shareOf 11 = .ok (.getfield 122, 3) := by decide +kernel
theorem dX4_shareOf_14 : decode cX4_shareOf 14 = .ok (.if_icmp .ge 18, 3) := by decide +kernel
theorem dX4_shareOf_17 : decode cX4_shareOf 17 = .ok (.iload_n 3, 1) := by decide +kernel
theorem dX4_shareOf_18 : decode cX4_shareOf 18 = .ok (.aload_n 0, 1) := by decide +kernel
theorem dX4_shareOf_19 : decode cX4_shareOf 19 = .ok (.iload 4, 2) := by decide +kernel
theorem dX4_shareOf_21 : decode cX4_shareOf 21 = .ok (.invokevirtual 125, 3) := by decide +kernel
theorem dX4_shareOf_24 : decode cX4_shareOf 24 = .ok (.iadd, 1) := by decide +kernel
theorem dX4_shareOf_25 : decode cX4_shareOf 25 = .ok (.istore_n 3, 1) := by decide +kernel
theorem dX4_shareOf_26 : decode cX4_shareOf 26 = .ok (.iinc 4 1, 3) := by decide +kernel
theorem dX4_shareOf_29 : decode cX4_shareOf 29 = .ok (.goto (-24), 3) := by decide +kernel
theorem dX4_shareOf_32 : decode cX4_shareOf 32 = .ok (.iload_n 3, 1) := by decide +kernel
theorem dX4_shareOf_33 : decode cX4_shareOf 33 = .ok (.ifCond .gt 5, 3) := by decide +kernel
theorem dX4_shareOf_36 : decode cX4_shareOf 36 = .ok (.iconst 0, 1) := by decide +kernel
theorem dX4_shareOf_37 : decode cX4_shareOf 37 = .ok (.ireturn, 1) := by decide +kernel
theorem dX4_shareOf_38 : decode cX4_shareOf 38 = .ok (.iconst 0, 1) := by decide +kernel
theorem dX4_shareOf_39 : decode cX4_shareOf 39 = .ok (.istore 4, 2) := by decide +kernel
theorem dX4_shareOf_41 : decode cX4_shareOf 41 = .ok (.iconst 0, 1) := by decide +kernel
theorem dX4_shareOf_42 : decode cX4_shareOf 42 = .ok (.istore 5, 2) := by decide +kernel
theorem dX4_shareOf_44 : decode cX4_shareOf 44 = .ok (.iload_n 2, 1) := by decide +kernel
theorem dX4_shareOf_45 : decode cX4_shareOf 45 = .ok (.aload_n 0, 1) := by decide +kernel
theorem dX4_shareOf_46 : decode cX4_shareOf 46 = .ok (.iload_n 1, 1) := by decide +kernel
theorem dX4_shareOf_47 : decode cX4_shareOf 47 = .ok (.invokevirtual 125, 3) := by decide +kernel
theorem dX4_shareOf_50 : decode cX4_shareOf 50 = .ok (.imul, 1) := by decide +kernel
theorem dX4_shareOf_51 : decode cX4_shareOf 51 = .ok (.iload_n 3, 1) := by decide +kernel
theorem dX4_shareOf_52 : decode cX4_shareOf 52 = .ok (.irem, 1) := by decide +kernel
theorem dX4_shareOf_53 : decode cX4_shareOf 53 = .ok (.istore 6, 2) := by decide +kernel
theorem dX4_shareOf_55 : decode cX4_shareOf 55 = .ok (.iconst 0, 1) := by decide +kernel
theorem dX4_shareOf_56 : decode cX4_shareOf 56 = .ok (.istore 7, 2) := by decide +kernel
theorem dX4_shareOf_58 : decode cX4_shareOf 58 = .ok (.iload 7, 2) := by decide +kernel
theorem dX4_shareOf_60 : decode cX4_shareOf 60 = .ok (.aload_n 0, 1) := by decide +kernel
theorem dX4_shareOf_61 : decode cX4_shareOf 61 = .ok (.getfield 27, 3) := by decide +kernel
theorem dX4_shareOf_64 : decode cX4_shareOf 64 = .ok (.getfield 122, 3) := by decide +kernel
theorem dX4_shareOf_67 : decode cX4_shareOf 67 = .ok (.if_icmp .ge 57, 3) := by decide +kernel
theorem dX4_shareOf_70 : decode cX4_shareOf 70 = .ok (.iload_n 2, 1) := by decide +kernel
theorem dX4_shareOf_71 : decode cX4_shareOf 71 = .ok (.aload_n 0, 1) := by decide +kernel
theorem dX4_shareOf_72 : decode cX4_shareOf 72 = .ok (.iload 7, 2) := by decide +kernel
theorem dX4_shareOf_74 : decode cX4_shareOf 74 = .ok (.invokevirtual 125, 3) := by decide +kernel
theorem dX4_shareOf_77 : decode cX4_shareOf 77 = .ok (.imul, 1) := by decide +kernel
theorem dX4_shareOf_78 : decode cX4_shareOf 78 = .ok (.istore 8, 2) := by decide +kernel
theorem dX4_shareOf_80 : decode cX4_shareOf 80 = .ok (.iload 4, 2) := by decide +kernel
theorem dX4_shareOf_82 : decode cX4_shareOf 82 = .ok (.iload 8, 2) := by decide +kernel
theorem dX4_shareOf_84 : decode cX4_shareOf 84 = .ok (.iload_n 3, 1) := by decide +kernel
theorem dX4_shareOf_85 : decode cX4_shareOf 85 = .ok (.idiv, 1) := by decide +kernel
theorem dX4_shareOf_86 : decode cX4_shareOf 86 = .ok (.iadd, 1) := by decide +kernel
theorem dX4_shareOf_87 : decode cX4_shareOf 87 = .ok (.istore 4, 2) := by decide +kernel
theorem dX4_shareOf_89 : decode cX4_shareOf 89 = .ok (.iload 8, 2) := by decide +kernel
theorem dX4_shareOf_91 : decode cX4_shareOf 91 = .ok (.iload_n 3, 1) := by decide +kernel
theorem dX4_shareOf_92 : decode cX4_shareOf 92 = .ok (.irem, 1) := by decide +kernel
theorem dX4_shareOf_93 : decode cX4_shareOf 93 = .ok (.istore 9, 2) := by decide +kernel
theorem dX4_shareOf_95 : decode cX4_shareOf 95 = .ok (.iload 9, 2) := by decide +kernel
theorem dX4_shareOf_97 : decode cX4_shareOf 97 = .ok (.iload 6, 2) := by decide +kernel
theorem dX4_shareOf_99 : decode cX4_shareOf 99 = .ok (.if_icmp .gt 16, 3) := by decide +kernel
theorem dX4_shareOf_102 : decode cX4_shareOf 102 = .ok (.iload 9, 2) := by decide +kernel
theorem dX4_shareOf_104 : decode cX4_shareOf 104 = .ok (.iload 6, 2) := by decide +kernel
theorem dX4_shareOf_106 : decode cX4_shareOf 106 = .ok (.if_icmp .ne 12, 3) := by decide +kernel
theorem dX4_shareOf_109 : decode cX4_shareOf 109 = .ok (.iload 7, 2) := by decide +kernel
theorem dX4_shareOf_111 : decode cX4_shareOf 111 = .ok (.iload_n 1, 1) := by decide +kernel
theorem dX4_shareOf_112 : decode cX4_shareOf 112 = .ok (.if_icmp .ge 6, 3) := by decide +kernel
theorem dX4_shareOf_115 : decode cX4_shareOf 115 = .ok (.iinc 5 1, 3) := by decide +kernel
theorem dX4_shareOf_118 : decode cX4_shareOf 118 = .ok (.iinc 7 1, 3) := by decide +kernel
theorem dX4_shareOf_121 : decode cX4_shareOf 121 = .ok (.goto (-63), 3) := by decide +kernel
theorem dX4_shareOf_124 : decode cX4_shareOf 124 = .ok (.iload_n 2, 1) := by decide +kernel
theorem dX4_shareOf_125 : decode cX4_shareOf 125 = .ok (.aload_n 0, 1) := by decide +kernel
theorem dX4_shareOf_126 : decode cX4_shareOf 126 = .ok (.iload_n 1, 1) := by decide +kernel
theorem dX4_shareOf_127 : decode cX4_shareOf 127 = .ok (.invokevirtual 125, 3) := by decide +kernel
theorem dX4_shareOf_130 : decode cX4_shareOf 130 = .ok (.imul, 1) := by decide +kernel
theorem dX4_shareOf_131 : decode cX4_shareOf 131 = .ok (.iload_n 3, 1) := by decide +kernel
theorem dX4_shareOf_132 : decode cX4_shareOf 132 = .ok (.idiv, 1) := by decide +kernel
theorem dX4_shareOf_133 : decode cX4_shareOf 133 = .ok (.iload 5, 2) := by decide +kernel
theorem dX4_shareOf_135 : decode cX4_shareOf 135 = .ok (.iload_n 2, 1) := by decide +kernel
theorem dX4_shareOf_136 : decode cX4_shareOf 136 = .ok (.iload 4, 2) := by decide +kernel
theorem dX4_shareOf_138 : decode cX4_shareOf 138 = .ok (.isub, 1) := by decide +kernel
theorem dX4_shareOf_139 : decode cX4_shareOf 139 = .ok (.if_icmp .ge 7, 3) := by decide +kernel
theorem dX4_shareOf_142 : decode cX4_shareOf 142 = .ok (.iconst 1, 1) := by decide +kernel
theorem dX4_shareOf_143 : decode cX4_shareOf 143 = .ok (.goto 4, 3) := by decide +kernel
theorem dX4_shareOf_146 : decode cX4_shareOf 146 = .ok (.iconst 0, 1) := by decide +kernel
theorem dX4_shareOf_147 : decode cX4_shareOf 147 = .ok (.iadd, 1) := by decide +kernel
theorem dX4_shareOf_148 : decode cX4_shareOf 148 = .ok (.ireturn, 1) := by decide +kernel
def fX4_shareOf_30_L5 (E32 : Int32 → Int32 → Int32 → Option (Int32)) (S : Nat → Int32) (V : Nat → Nat → Int32) : Nat → Int32 → Int32 → Int32 → Int32 → Option (Int32)
  | 0, _, _, _, _ => none
  | n + 1, x1, x2, x3, x4 =>
    (if (S 304) ≤ x4 then
    E32 x1 x2 x3
    else
    bd1 (fX4_rentOf_30 S V x4) (fun r6 =>
    lt ((x3 + r6)) (fun x8 =>
    lt (x4 + (1 : Int32)) (fun x9 =>
    fX4_shareOf_30_L5 E32 S V n x1 x2 x8 x9))))
def fX4_shareOf_30_L58 (E124 : Int32 → Int32 → Int32 → Int32 → Int32 → Option (Int32)) (S : Nat → Int32) (V : Nat → Nat → Int32) : Nat → Int32 → Int32 → Int32 → Int32 → Int32 → Int32 → Int32 → Option (Int32)
  | 0, _, _, _, _, _, _, _ => none
  | n + 1, x23, x24, x25, x26, x27, x28, x29 =>
    (if (S 304) ≤ x29 then
    E124 x23 x24 x25 x26 x27
    else
    bd1 (fX4_rentOf_30 S V x29) (fun r31 =>
    lt ((x24 * r31)) (fun x33 =>
    gd (nz x25) (
    lt ((x26 + (x33 / x25))) (fun x35 =>
    gd (nz x25) (
    lt ((x33 - x33 / x25 * x25)) (fun x37 =>
    bk (fun (x39 : Int32) (x40 : Int32) (x41 : Int32) (x42 : Int32) (x43 : Int32) (x44 : Int32) (x45 : Int32) =>
    lt (x45 + (1 : Int32)) (fun x46 =>
    fX4_shareOf_30_L58 E124 S V n x39 x40 x41 x42 x43 x44 x46)) (fun K118_38 =>
    bk (fun (x48 : Int32) (x49 : Int32) (x50 : Int32) (x51 : Int32) (x52 : Int32) (x53 : Int32) (x54 : Int32) =>
    lt (x52 + (1 : Int32)) (fun x55 =>
    K118_38 x48 x49 x50 x51 x55 x53 x54)) (fun K115_47 =>
    (if x28 < x37 then
    K115_47 x23 x24 x25 x35 x27 x28 x29
    else
    (if x37 = x28 then
    (if x23 ≤ x29 then
    K118_38 x23 x24 x25 x35 x27 x28 x29
    else
    K115_47 x23 x24 x25 x35 x27 x28 x29)
    else
    K118_38 x23 x24 x25 x35 x27 x28 x29)))))))))))
def fX4_shareOf_30 (S : Nat → Int32) (V : Nat → Nat → Int32) (a1 : Int32) (a2 : Int32) : Option (Int32) :=
  bk (fun (x14 : Int32) (x15 : Int32) (x16 : Int32) =>
  (if 0 < x16 then
  bd1 (fX4_rentOf_30 S V x14) (fun r18 =>
  gd (nz x16) (
  lt ((x15 * r18)) (fun x21 =>
  lt ((x21 - x21 / x16 * x16)) (fun x22 =>
  bk (fun (x65 : Int32) (x66 : Int32) (x67 : Int32) (x68 : Int32) (x69 : Int32) =>
  bd1 (fX4_rentOf_30 S V x65) (fun r70 =>
  gd (nz x67) (
  (if (x66 - x68) ≤ x69 then
  some ((((x66 * r70) / x67) + (0 : Int32)))
  else
  some ((((x66 * r70) / x67) + (1 : Int32))))))) (fun X124_64 =>
  fX4_shareOf_30_L58 X124_64 S V FU x14 x15 x16 (0 : Int32) (0 : Int32) x22 (0 : Int32))))))
  else
  some (0 : Int32))) (fun X32_13 =>
  fX4_shareOf_30_L5 X32_13 S V FU a1 a2 (0 : Int32) (0 : Int32))
set_option maxHeartbeats 4000000 in
set_option maxRecDepth 100000 in
theorem kX4_shareOf_30 (l : Launch) (B : jBT) (D : va_G) (ad : Nat → Nat) (cA : Nat → ClassId) (hI : jI ad TC) (S : Nat → Int32) (V : Nat → Nat → Int32) (L : Nat → Int64) (a1 : Int32) (a2 : Int32) (r0 : Int32) (h : fX4_shareOf_30 S V a1 a2 = some r0) : jM l yX4_shareOf cX4_shareOf 10 (some .int) ({ frames := 4, cells := 0, slots := 0, locals := 87 }) B D TC ad cA [.ref (ad 30), .int a1, .int a2] S V L (some (.int r0)) S V L := by
  refine jM_of (by decide) TC_ok hI (Nat.le_of_ble_eq_true rfl) ?_
  intro p e s m args below meth c C hr hlk
  refine j_lv (lv2 := [(0, .ref (ad 30)), (1, .int a1), (2, .int a2)]) rfl ?_
  unfold fX4_shareOf_30 at h
  have H_fX4_shareOf_30_L5 : ∀ (E32 : Int32 → Int32 → Int32 → Option (Int32)) (_ : ∀ (x10 : Int32) (x11 : Int32) (x12 : Int32), E32 x10 x11 x12 = some r0 → jW p l e ({ frames := 4, cells := 0, slots := 0, locals := 87 }) s m args below meth c (MQ below (jQc D TC ad cA (some (.int r0)) s.heap.size S V L) args s 0 0 (jA ad TC s.heap.size)) D TC ad cA (jA ad TC s.heap.size) 10 0 0 32 [(0, .ref (ad 30)), (1, .int x10), (2, .int x11), (3, .int x12)] [] S V L) (n : Nat) (x1 : Int32) (x2 : Int32) (x3 : Int32) (x4 : Int32), fX4_shareOf_30_L5 E32 S V n x1 x2 x3 x4 = some r0 → jW p l e ({ frames := 4, cells := 0, slots := 0, locals := 87 }) s m args below meth c (MQ below (jQc D TC ad cA (some (.int r0)) s.heap.size S V L) args s 0 0 (jA ad TC s.heap.size)) D TC ad cA (jA ad TC s.heap.size) 10 0 0 5 [(0, .ref (ad 30)), (1, .int x1), (2, .int x2), (3, .int x3), (4, .int x4)] [] S V L := by
    intro E32 HE32
    intro n
    induction n with
    | zero =>
      intro x1 x2 x3 x4 h
      cases (show (none : Option (Int32)) = some r0 from h)
    | succ n ih =>
      intro x1 x2 x3 x4 h
      unfold fX4_shareOf_30_L5 at h
      refine j_iload C 4 rfl dX4_shareOf_5 ?_
      refine j_aload_n C 0 rfl dX4_shareOf_7 rfl ?_
      refine fg_X4_27_TC_30 C dX4_shareOf_8 ?_
      refine fg_X4_122_TC_3 C dX4_shareOf_11 ?_
      refine j_icmp_ge (tgt := 32) C dX4_shareOf_14 (by decide) (fun c5 => ?_) (fun c5 => ?_)
      · have h := (if_pos c5).symm.trans h
        exact j_sub [0, 1, 2, 3] rfl (HE32 _ _ _ h)
      · have h := (if_neg c5).symm.trans h
        refine j_iload_n C 3 rfl dX4_shareOf_17 rfl ?_
        refine j_aload_n C 0 rfl dX4_shareOf_18 rfl ?_
        refine j_iload C 4 rfl dX4_shareOf_19 ?_
        obtain ⟨r6, h7, h⟩ := bd1_elim h
        refine j_callV (As := [.int x4]) (rest := [.int x3]) C (kX4_rentOf_30 l B D ad cA hI S V L x4 _ h7) mw_X4_rentOf wd1327 wd1328 wd1343 tc_30 rfl rfl ⟨rfl, rfl, by decide, by decide⟩ ⟨Nat.zero_le _, Nat.zero_le _⟩ rfl rfl (Nat.le_of_ble_eq_true rfl) dX4_shareOf_21 ?_
        refine j_iadd C dX4_shareOf_24 ?_
        refine lt_elim h (fun x8 e_x8 h => ?_)
        refine j_top e_x8 ?_
        refine j_istore_n C [(3, .int x8), (0, .ref (ad 30)), (1, .int x1), (2, .int x2), (4, .int x4)] dX4_shareOf_25 rfl (by decide) rfl ?_
        refine lt_elim h (fun x9 e_x9 h => ?_)
        refine j_iinc C [(4, .int x9), (3, .int x8), (0, .ref (ad 30)), (1, .int x1), (2, .int x2)] 4 dX4_shareOf_26 rfl ((iinc_eq ci_1).trans e_x9.symm) (by decide) rfl ?_
        refine j_goto (tgt := 5) C dX4_shareOf_29 (by decide) ?_
        exact j_sub [2, 3, 4, 1, 0] rfl (ih _ _ _ _ h)
  have H_fX4_shareOf_30_L58 : ∀ (E124 : Int32 → Int32 → Int32 → Int32 → Int32 → Option (Int32)) (_ : ∀ (x59 : Int32) (x60 : Int32) (x61 : Int32) (x62 : Int32) (x63 : Int32), E124 x59 x60 x61 x62 x63 = some r0 → jW p l e ({ frames := 4, cells := 0, slots := 0, locals := 87 }) s m args below meth c (MQ below (jQc D TC ad cA (some (.int r0)) s.heap.size S V L) args s 0 0 (jA ad TC s.heap.size)) D TC ad cA (jA ad TC s.heap.size) 10 0 0 124 [(0, .ref (ad 30)), (1, .int x59), (2, .int x60), (3, .int x61), (4, .int x62), (5, .int x63)] [] S V L) (n : Nat) (x23 : Int32) (x24 : Int32) (x25 : Int32) (x26 : Int32) (x27 : Int32) (x28 : Int32) (x29 : Int32), fX4_shareOf_30_L58 E124 S V n x23 x24 x25 x26 x27 x28 x29 = some r0 → jW p l e ({ frames := 4, cells := 0, slots := 0, locals := 87 }) s m args below meth c (MQ below (jQc D TC ad cA (some (.int r0)) s.heap.size S V L) args s 0 0 (jA ad TC s.heap.size)) D TC ad cA (jA ad TC s.heap.size) 10 0 0 58 [(0, .ref (ad 30)), (1, .int x23), (2, .int x24), (3, .int x25), (4, .int x26), (5, .int x27), (6, .int x28), (7, .int x29)] [] S V L := by
    intro E124 HE124
    intro n
    induction n with
    | zero =>
      intro x23 x24 x25 x26 x27 x28 x29 h
      cases (show (none : Option (Int32)) = some r0 from h)
    | succ n ih =>
      intro x23 x24 x25 x26 x27 x28 x29 h
      unfold fX4_shareOf_30_L58 at h
      refine j_iload C 7 rfl dX4_shareOf_58 ?_
      refine j_aload_n C 0 rfl dX4_shareOf_60 rfl ?_
      refine fg_X4_27_TC_30 C dX4_shareOf_61 ?_
      refine fg_X4_122_TC_3 C dX4_shareOf_64 ?_
      refine j_icmp_ge (tgt := 124) C dX4_shareOf_67 (by decide) (fun c30 => ?_) (fun c30 => ?_)
      · have h := (if_pos c30).symm.trans h
        exact j_sub [0, 1, 2, 3, 4, 5] rfl (HE124 _ _ _ _ _ h)
      · have h := (if_neg c30).symm.trans h
        refine j_iload_n C 2 rfl dX4_shareOf_70 rfl ?_
        refine j_aload_n C 0 rfl dX4_shareOf_71 rfl ?_
        refine j_iload C 7 rfl dX4_shareOf_72 ?_
        obtain ⟨r31, h32, h⟩ := bd1_elim h
        refine j_callV (As := [.int x29]) (rest := [.int x24]) C (kX4_rentOf_30 l B D ad cA hI S V L x29 _ h32) mw_X4_rentOf wd1327 wd1328 wd1343 tc_30 rfl rfl ⟨rfl, rfl, by decide, by decide⟩ ⟨Nat.zero_le _, Nat.zero_le _⟩ rfl rfl (Nat.le_of_ble_eq_true rfl) dX4_shareOf_74 ?_
        refine j_imul C dX4_shareOf_77 ?_
        refine lt_elim h (fun x33 e_x33 h => ?_)
        refine j_top e_x33 ?_
        refine j_istore C [(8, .int x33), (0, .ref (ad 30)), (1, .int x23), (2, .int x24), (3, .int x25), (4, .int x26), (5, .int x27), (6, .int x28), (7, .int x29)] dX4_shareOf_78 (by decide) rfl ?_
        refine j_iload C 5 rfl dX4_shareOf_80 ?_
        refine j_iload C 0 rfl dX4_shareOf_82 ?_
        refine j_iload_n C 4 rfl dX4_shareOf_84 rfl ?_
        obtain ⟨g34, h⟩ := gd_elim h
        refine j_idiv C dX4_shareOf_85 (nz_ne g34) ?_
        refine j_iadd C dX4_shareOf_86 ?_
        refine lt_elim h (fun x35 e_x35 h => ?_)
        refine j_top e_x35 ?_
        refine j_istore C [(4, .int x35), (8, .int x33), (0, .ref (ad 30)), (1, .int x23), (2, .int x24), (3, .int x25), (5, .int x27), (6, .int x28), (7, .int x29)] dX4_shareOf_87 (by decide) rfl ?_
        refine j_iload C 1 rfl dX4_shareOf_89 ?_
        refine j_iload_n C 5 rfl dX4_shareOf_91 rfl ?_
        obtain ⟨g36, h⟩ := gd_elim h
        refine j_irem C dX4_shareOf_92 (nz_ne g36) ?_
        refine lt_elim h (fun x37 e_x37 h => ?_)
        refine j_top e_x37 ?_
        refine j_istore C [(9, .int x37), (4, .int x35), (8, .int x33), (0, .ref (ad 30)), (1, .int x23), (2, .int x24), (3, .int x25), (5, .int x27), (6, .int x28), (7, .int x29)] dX4_shareOf_93 (by decide) rfl ?_
        refine j_iload C 0 rfl dX4_shareOf_95 ?_
        refine j_iload C 8 rfl dX4_shareOf_97 ?_
        refine bk_elim h (fun K118_38 e_K118_38 h => ?_)
        have HK118_38 : ∀ (x39 : Int32) (x40 : Int32) (x41 : Int32) (x42 : Int32) (x43 : Int32) (x44 : Int32) (x45 : Int32), K118_38 x39 x40 x41 x42 x43 x44 x45 = some r0 → jW p l e ({ frames := 4, cells := 0, slots := 0, locals := 87 }) s m args below meth c (MQ below (jQc D TC ad cA (some (.int r0)) s.heap.size S V L) args s 0 0 (jA ad TC s.heap.size)) D TC ad cA (jA ad TC s.heap.size) 10 0 0 118 [(0, .ref (ad 30)), (1, .int x39), (2, .int x40), (3, .int x41), (4, .int x42), (5, .int x43), (6, .int x44), (7, .int x45)] [] S V L := by
          subst e_K118_38
          intro x39 x40 x41 x42 x43 x44 x45 h
          refine lt_elim h (fun x46 e_x46 h => ?_)
          refine j_iinc C [(7, .int x46), (0, .ref (ad 30)), (1, .int x39), (2, .int x40), (3, .int x41), (4, .int x42), (5, .int x43), (6, .int x44)] 7 dX4_shareOf_118 rfl ((iinc_eq ci_1).trans e_x46.symm) (by decide) rfl ?_
          refine j_goto (tgt := 58) C dX4_shareOf_121 (by decide) ?_
          exact j_sub [1, 2, 3, 4, 5, 6, 7, 0] rfl (ih _ _ _ _ _ _ _ h)
        refine bk_elim h (fun K115_47 e_K115_47 h => ?_)
        have HK115_47 : ∀ (x48 : Int32) (x49 : Int32) (x50 : Int32) (x51 : Int32) (x52 : Int32) (x53 : Int32) (x54 : Int32), K115_47 x48 x49 x50 x51 x52 x53 x54 = some r0 → jW p l e ({ frames := 4, cells := 0, slots := 0, locals := 87 }) s m args below meth c (MQ below (jQc D TC ad cA (some (.int r0)) s.heap.size S V L) args s 0 0 (jA ad TC s.heap.size)) D TC ad cA (jA ad TC s.heap.size) 10 0 0 115 [(0, .ref (ad 30)), (1, .int x48), (2, .int x49), (3, .int x50), (4, .int x51), (5, .int x52), (6, .int x53), (7, .int x54)] [] S V L := by
          subst e_K115_47
          intro x48 x49 x50 x51 x52 x53 x54 h
          refine lt_elim h (fun x55 e_x55 h => ?_)
          refine j_iinc C [(5, .int x55), (0, .ref (ad 30)), (1, .int x48), (2, .int x49), (3, .int x50), (4, .int x51), (6, .int x53), (7, .int x54)] 5 dX4_shareOf_115 rfl ((iinc_eq ci_1).trans e_x55.symm) (by decide) rfl ?_
          exact j_sub [1, 2, 3, 4, 5, 0, 6, 7] rfl (HK118_38 _ _ _ _ _ _ _ h)
        refine j_icmp_gt (tgt := 115) C dX4_shareOf_99 (by decide) (fun c56 => ?_) (fun c56 => ?_)
        · have h := (if_pos c56).symm.trans h
          exact j_sub [3, 4, 5, 6, 1, 7, 8, 9] rfl (HK115_47 _ _ _ _ _ _ _ h)
        · have h := (if_neg c56).symm.trans h
          refine j_iload C 0 rfl dX4_shareOf_102 ?_
          refine j_iload C 8 rfl dX4_shareOf_104 ?_
          refine j_icmp_ne (tgt := 118) C dX4_shareOf_106 (by decide) (fun c57 => ?_) (fun c57 => ?_)
          · have h := (if_neg c57).symm.trans h
            exact j_sub [3, 4, 5, 6, 1, 7, 8, 9] rfl (HK118_38 _ _ _ _ _ _ _ h)
          · have h := (if_pos c57).symm.trans h
            refine j_iload C 9 rfl dX4_shareOf_109 ?_
            refine j_iload_n C 4 rfl dX4_shareOf_111 rfl ?_
            refine j_icmp_ge (tgt := 118) C dX4_shareOf_112 (by decide) (fun c58 => ?_) (fun c58 => ?_)
            · have h := (if_pos c58).symm.trans h
              exact j_sub [3, 4, 5, 6, 1, 7, 8, 9] rfl (HK118_38 _ _ _ _ _ _ _ h)
            · have h := (if_neg c58).symm.trans h
              exact j_sub [3, 4, 5, 6, 1, 7, 8, 9] rfl (HK115_47 _ _ _ _ _ _ _ h)
  refine j_iconst C dX4_shareOf_0 ci_0 ?_
  refine j_istore_n C [(3, .int (0 : Int32)), (0, .ref (ad 30)), (1, .int a1), (2, .int a2)] dX4_shareOf_1 rfl (by decide) rfl ?_
  refine j_iconst C dX4_shareOf_2 ci_0 ?_
  refine j_istore C [(4, .int (0 : Int32)), (3, .int (0 : Int32)), (0, .ref (ad 30)), (1, .int a1), (2, .int a2)] dX4_shareOf_3 (by decide) rfl ?_
  refine bk_elim h (fun X32_13 e_X32_13 h => ?_)
  have HX32_13 : ∀ (x14 : Int32) (x15 : Int32) (x16 : Int32), X32_13 x14 x15 x16 = some r0 → jW p l e ({ frames := 4, cells := 0, slots := 0, locals := 87 }) s m args below meth c (MQ below (jQc D TC ad cA (some (.int r0)) s.heap.size S V L) args s 0 0 (jA ad TC s.heap.size)) D TC ad cA (jA ad TC s.heap.size) 10 0 0 32 [(0, .ref (ad 30)), (1, .int x14), (2, .int x15), (3, .int x16)] [] S V L := by
    subst e_X32_13
    intro x14 x15 x16 h
    refine j_iload_n C 3 rfl dX4_shareOf_32 rfl ?_
    refine j_if_gt (tgt := 38) C dX4_shareOf_33 (by decide) (fun c17 => ?_) (fun c17 => ?_)
    · have h := (if_pos c17).symm.trans h
      refine j_iconst C dX4_shareOf_38 ci_0 ?_
      refine j_istore C [(4, .int (0 : Int32)), (0, .ref (ad 30)), (1, .int x14), (2, .int x15), (3, .int x16)] dX4_shareOf_39 (by decide) rfl ?_
      refine j_iconst C dX4_shareOf_41 ci_0 ?_
      refine j_istore C [(5, .int (0 : Int32)), (4, .int (0 : Int32)), (0, .ref (ad 30)), (1, .int x14), (2, .int x15), (3, .int x16)] dX4_shareOf_42 (by decide) rfl ?_
      refine j_iload_n C 4 rfl dX4_shareOf_44 rfl ?_
      refine j_aload_n C 2 rfl dX4_shareOf_45 rfl ?_
      refine j_iload_n C 3 rfl dX4_shareOf_46 rfl ?_
      obtain ⟨r18, h19, h⟩ := bd1_elim h
      refine j_callV (As := [.int x14]) (rest := [.int x15]) C (kX4_rentOf_30 l B D ad cA hI S V L x14 _ h19) mw_X4_rentOf wd1327 wd1328 wd1343 tc_30 rfl rfl ⟨rfl, rfl, by decide, by decide⟩ ⟨Nat.zero_le _, Nat.zero_le _⟩ rfl rfl (Nat.le_of_ble_eq_true rfl) dX4_shareOf_47 ?_
      refine j_imul C dX4_shareOf_50 ?_
      refine j_iload_n C 5 rfl dX4_shareOf_51 rfl ?_
      obtain ⟨g20, h⟩ := gd_elim h
      refine lt_elim h (fun x21 e_x21 h => ?_)
      refine j_top2 e_x21 ?_
      refine j_irem C dX4_shareOf_52 (nz_ne g20) ?_
      refine lt_elim h (fun x22 e_x22 h => ?_)
      refine j_top e_x22 ?_
      refine j_istore C [(6, .int x22), (5, .int (0 : Int32)), (4, .int (0 : Int32)), (0, .ref (ad 30)), (1, .int x14), (2, .int x15), (3, .int x16)] dX4_shareOf_53 (by decide) rfl ?_
      refine j_iconst C dX4_shareOf_55 ci_0 ?_
      refine j_istore C [(7, .int (0 : Int32)), (6, .int x22), (5, .int (0 : Int32)), (4, .int (0 : Int32)), (0, .ref (ad 30)), (1, .int x14), (2, .int x15), (3, .int x16)] dX4_shareOf_56 (by decide) rfl ?_
      refine bk_elim h (fun X124_64 e_X124_64 h => ?_)
      have HX124_64 : ∀ (x65 : Int32) (x66 : Int32) (x67 : Int32) (x68 : Int32) (x69 : Int32), X124_64 x65 x66 x67 x68 x69 = some r0 → jW p l e ({ frames := 4, cells := 0, slots := 0, locals := 87 }) s m args below meth c (MQ below (jQc D TC ad cA (some (.int r0)) s.heap.size S V L) args s 0 0 (jA ad TC s.heap.size)) D TC ad cA (jA ad TC s.heap.size) 10 0 0 124 [(0, .ref (ad 30)), (1, .int x65), (2, .int x66), (3, .int x67), (4, .int x68), (5, .int x69)] [] S V L := by
        subst e_X124_64
        intro x65 x66 x67 x68 x69 h
        refine j_iload_n C 2 rfl dX4_shareOf_124 rfl ?_
        refine j_aload_n C 0 rfl dX4_shareOf_125 rfl ?_
        refine j_iload_n C 1 rfl dX4_shareOf_126 rfl ?_
        obtain ⟨r70, h71, h⟩ := bd1_elim h
        refine j_callV (As := [.int x65]) (rest := [.int x66]) C (kX4_rentOf_30 l B D ad cA hI S V L x65 _ h71) mw_X4_rentOf wd1327 wd1328 wd1343 tc_30 rfl rfl ⟨rfl, rfl, by decide, by decide⟩ ⟨Nat.zero_le _, Nat.zero_le _⟩ rfl rfl (Nat.le_of_ble_eq_true rfl) dX4_shareOf_127 ?_
        refine j_imul C dX4_shareOf_130 ?_
        refine j_iload_n C 3 rfl dX4_shareOf_131 rfl ?_
        obtain ⟨g72, h⟩ := gd_elim h
        refine j_idiv C dX4_shareOf_132 (nz_ne g72) ?_
        refine j_iload C 5 rfl dX4_shareOf_133 ?_
        refine j_iload_n C 2 rfl dX4_shareOf_135 rfl ?_
        refine j_iload C 4 rfl dX4_shareOf_136 ?_
        refine j_isub C dX4_shareOf_138 ?_
        refine j_icmp_ge (tgt := 146) C dX4_shareOf_139 (by decide) (fun c73 => ?_) (fun c73 => ?_)
        · have h := (if_pos c73).symm.trans h
          refine j_iconst C dX4_shareOf_146 ci_0 ?_
          refine j_iadd C dX4_shareOf_147 ?_
          cases h
          exact j_iret C hr hlk rfl dX4_shareOf_148
        · have h := (if_neg c73).symm.trans h
          refine j_iconst C dX4_shareOf_142 ci_1 ?_
          refine j_goto (tgt := 147) C dX4_shareOf_143 (by decide) ?_
          refine j_iadd C dX4_shareOf_147 ?_
          cases h
          exact j_iret C hr hlk rfl dX4_shareOf_148
      exact j_sub [4, 5, 6, 7, 3, 2, 1, 0] rfl (H_fX4_shareOf_30_L58 _ HX124_64 FU _ _ _ _ _ _ _ h)
    · have h := (if_neg c17).symm.trans h
      refine j_iconst C dX4_shareOf_36 ci_0 ?_
      cases h
      exact j_iret C hr hlk rfl dX4_shareOf_37
  exact j_sub [2, 3, 4, 1, 0] rfl (H_fX4_shareOf_30_L5 _ HX32_13 FU _ _ _ _ h)
theorem dX5_coinsOf_0 : decode cX5_coinsOf 0 = .ok (.iload_n 2, 1) := by decide +kernel
theorem dX5_coinsOf_1 : decode cX5_coinsOf 1 = .ok (.istore_n 3, 1) := by decide +kernel
theorem dX5_coinsOf_2 : decode cX5_coinsOf 2 = .ok (.iconst 0, 1) := by decide +kernel
theorem dX5_coinsOf_3 : decode cX5_coinsOf 3 = .ok (.istore 4, 2) := by decide +kernel
theorem dX5_coinsOf_5 : decode cX5_coinsOf 5 = .ok (.iconst 0, 1) := by decide +kernel
theorem dX5_coinsOf_6 : decode cX5_coinsOf 6 = .ok (.istore 5, 2) := by decide +kernel
theorem dX5_coinsOf_8 : decode cX5_coinsOf 8 = .ok (.iload 5, 2) := by decide +kernel
theorem dX5_coinsOf_10 : decode cX5_coinsOf 10 = .ok (.aload_n 0, 1) := by decide +kernel
theorem dX5_coinsOf_11 : decode cX5_coinsOf 11 = .ok (.getfield 18, 3) := by decide +kernel
theorem dX5_coinsOf_14 : decode cX5_coinsOf 14 = .ok (.if_icmp .ge 58, 3) := by decide +kernel
theorem dX5_coinsOf_17 : decode cX5_coinsOf 17 = .ok (.iload_n 1, 1) := by decide +kernel
theorem dX5_coinsOf_18 : decode cX5_coinsOf 18 = .ok (.iload 5, 2) := by decide +kernel
theorem dX5_coinsOf_20 : decode cX5_coinsOf 20 = .ok (.ishr, 1) := by decide +kernel
theorem dX5_coinsOf_21 : decode cX5_coinsOf 21 = .ok (.iconst 1, 1) := by decide +kernel
theorem dX5_coinsOf_22 : decode cX5_coinsOf 22 = .ok (.iand, 1) := by decide +kernel
theorem dX5_coinsOf_23 : decode cX5_coinsOf 23 = .ok (.ifCond .eq 43, 3) := by decide +kernel
theorem dX5_coinsOf_26 : decode cX5_coinsOf 26 = .ok (.aload_n 0, 1) := by decide +kernel
theorem dX5_coinsOf_27 : decode cX5_coinsOf 27 = .ok (.getfield 9, 3) := by decide +kernel
theorem dX5_coinsOf_30 : decode cX5_coinsOf 30 = .ok (.iload 5, 2) := by decide +kernel
theorem dX5_coinsOf_32 : decode cX5_coinsOf 32 = .ok (.iaload, 1) := by decide +kernel
theorem dX5_coinsOf_33 : decode cX5_coinsOf 33 = .ok (.iload_n 3, 1) := by decide +kernel
theorem dX5_coinsOf_34 : decode cX5_coinsOf 34 = .ok (.iconst (-1), 1) := by decide +kernel
theorem dX5_coinsOf_35 : decode cX5_coinsOf 35 = .ok (.ixor, 1) := by decide +kernel
theorem dX5_coinsOf_36 : decode cX5_coinsOf 36 = .ok (.iand, 1) := by decide +kernel
theorem dX5_coinsOf_37 : decode cX5_coinsOf 37 = .ok (.ifCond .eq 5, 3) := by decide +kernel
theorem dX5_coinsOf_40 : decode cX5_coinsOf 40 = .ok (.iconst (-1), 1) := by decide +kernel
theorem dX5_coinsOf_41 : decode cX5_coinsOf 41 = .ok (.ireturn, 1) := by decide +kernel
theorem dX5_coinsOf_42 : decode cX5_coinsOf 42 = .ok (.iload_n 3, 1) := by decide +kernel
theorem dX5_coinsOf_43 : decode cX5_coinsOf 43 = .ok (.aload_n 0, 1) := by decide +kernel
theorem dX5_coinsOf_44 : decode cX5_coinsOf 44 = .ok (.getfield 9, 3) := by decide +kernel
theorem dX5_coinsOf_47 : decode cX5_coinsOf 47 = .ok (.iload 5, 2) := by decide +kernel
theorem dX5_coinsOf_49 : decode cX5_coinsOf 49 = .ok (.iaload, 1) := by decide +kernel
theorem dX5_coinsOf_50 : decode cX5_coinsOf 50 = .ok (.iconst (-1), 1) := by decide +kernel
theorem dX5_coinsOf_51 : decode cX5_coinsOf 51 = .ok (.ixor, 1) := by decide +kernel
theorem dX5_coinsOf_52 : decode cX5_coinsOf 52 = .ok (.iand, 1) := by decide +kernel
theorem dX5_coinsOf_53 : decode cX5_coinsOf 53 = .ok (.istore_n 3, 1) := by decide +kernel
theorem dX5_coinsOf_54 : decode cX5_coinsOf 54 = .ok (.iload 4, 2) := by decide +kernel
theorem dX5_coinsOf_56 : decode cX5_coinsOf 56 = .ok (.aload_n 0, 1) := by decide +kernel
theorem dX5_coinsOf_57 : decode cX5_coinsOf 57 = .ok (.getfield 15, 3) := by decide +kernel
theorem dX5_coinsOf_60 : decode cX5_coinsOf 60 = .ok (.iload 5, 2) := by decide +kernel
theorem dX5_coinsOf_62 : decode cX5_coinsOf 62 = .ok (.iaload, 1) := by decide +kernel
theorem dX5_coinsOf_63 : decode cX5_coinsOf 63 = .ok (.iadd, 1) := by decide +kernel
theorem dX5_coinsOf_64 : decode cX5_coinsOf 64 = .ok (.istore 4, 2) := by decide +kernel
theorem dX5_coinsOf_66 : decode cX5_coinsOf 66 = .ok (.iinc 5 1, 3) := by decide +kernel
theorem dX5_coinsOf_69 : decode cX5_coinsOf 69 = .ok (.goto (-61), 3) := by decide +kernel
theorem dX5_coinsOf_72 : decode cX5_coinsOf 72 = .ok (.iload 4, 2) := by decide +kernel
theorem dX5_coinsOf_74 : decode cX5_coinsOf 74 = .ok (.ireturn, 1) := by decide +kernel
def fX5_coinsOf_42_L8 (S : Nat → Int32) (V : Nat → Nat → Int32) : Nat → Int32 → Int32 → Int32 → Int32 → Option (Int32)
  | 0, _, _, _, _ => none
  | n + 1, x1, x2, x3, x4 =>
    (if (S 4200) ≤ x4 then
    some x3
    else
    bk (fun (x7 : Int32) (x8 : Int32) (x9 : Int32) (x10 : Int32) =>
    lt (x10 + (1 : Int32)) (fun x11 =>
    fX5_coinsOf_42_L8 S V n x7 x8 x9 x11)) (fun K66_6 =>
    (if ((x1 >>> (x4 &&& 31)) &&& (1 : Int32)) = 0 then
    K66_6 x1 x2 x3 x4
    else
    gd (ib x4 8) (
    (if ((V 43 (x4).toNatClampNeg) &&& (x2 ^^^ (-1 : Int32))) = 0 then
    gd (ib x4 8) (
    lt ((x2 &&& ((V 43 (x4).toNatClampNeg) ^^^ (-1 : Int32)))) (fun x16 =>
    gd (ib x4 8) (
    lt ((x3 + (V 44 (x4).toNatClampNeg))) (fun x18 =>
    K66_6 x1 x16 x18 x4))))
    else
    some (-1 : Int32))))))
def fX5_coinsOf_42 (S : Nat → Int32) (V : Nat → Nat → Int32) (a1 : Int32) (a2 : Int32) : Option (Int32) :=
  fX5_coinsOf_42_L8 S V FU a1 a2 (0 : Int32) (0 : Int32)
set_option maxHeartbeats 4000000 in
set_option maxRecDepth 100000 in
theorem kX5_coinsOf_42 (l : Launch) (B : jBT) (D : va_G) (ad : Nat → Nat) (cA : Nat → ClassId) (hI : jI ad TC) (S : Nat → Int32) (V : Nat → Nat → Int32) (L : Nat → Int64) (a1 : Int32) (a2 : Int32) (r0 : Int32) (h : fX5_coinsOf_42 S V a1 a2 = some r0) : jM l yX5_coinsOf cX5_coinsOf 6 (some .int) ({ frames := 0, cells := 0, slots := 0, locals := 0 }) B D TC ad cA [.ref (ad 42), .int a1, .int a2] S V L (some (.int r0)) S V L := by
  refine jM_of (by decide) TC_ok hI (Nat.le_of_ble_eq_true rfl) ?_
  intro p e s m args below meth c C hr hlk
  refine j_lv (lv2 := [(0, .ref (ad 42)), (1, .int a1), (2, .int a2)]) rfl ?_
  unfold fX5_coinsOf_42 at h
  have H_fX5_coinsOf_42_L8 : ∀ (n : Nat) (x1 : Int32) (x2 : Int32) (x3 : Int32) (x4 : Int32), fX5_coinsOf_42_L8 S V n x1 x2 x3 x4 = some r0 → jW p l e ({ frames := 0, cells := 0, slots := 0, locals := 0 }) s m args below meth c (MQ below (jQc D TC ad cA (some (.int r0)) s.heap.size S V L) args s 0 0 (jA ad TC s.heap.size)) D TC ad cA (jA ad TC s.heap.size) 6 0 0 8 [(0, .ref (ad 42)), (1, .int x1), (3, .int x2), (4, .int x3), (5, .int x4)] [] S V L := by
    intro n
    induction n with
    | zero =>
      intro x1 x2 x3 x4 h
      cases (show (none : Option (Int32)) = some r0 from h)
    | succ n ih =>
      intro x1 x2 x3 x4 h
      unfold fX5_coinsOf_42_L8 at h
      refine j_iload C 4 rfl dX5_coinsOf_8 ?_
      refine j_aload_n C 0 rfl dX5_coinsOf_10 rfl ?_
      refine fg_X5_18_TC_42 C dX5_coinsOf_11 ?_
      refine j_icmp_ge (tgt := 72) C dX5_coinsOf_14 (by decide) (fun c5 => ?_) (fun c5 => ?_)
      · have h := (if_pos c5).symm.trans h
        refine j_iload C 3 rfl dX5_coinsOf_72 ?_
        cases h
        exact j_iret C hr hlk rfl dX5_coinsOf_74
      · have h := (if_neg c5).symm.trans h
        refine j_iload_n C 1 rfl dX5_coinsOf_17 rfl ?_
        refine j_iload C 4 rfl dX5_coinsOf_18 ?_
        refine j_ishr C dX5_coinsOf_20 ?_
        refine j_iconst C dX5_coinsOf_21 ci_1 ?_
        refine j_iand C dX5_coinsOf_22 ?_
        refine bk_elim h (fun K66_6 e_K66_6 h => ?_)
        have HK66_6 : ∀ (x7 : Int32) (x8 : Int32) (x9 : Int32) (x10 : Int32), K66_6 x7 x8 x9 x10 = some r0 → jW p l e ({ frames := 0, cells := 0, slots := 0, locals := 0 }) s m args below meth c (MQ below (jQc D TC ad cA (some (.int r0)) s.heap.size S V L) args s 0 0 (jA ad TC s.heap.size)) D TC ad cA (jA ad TC s.heap.size) 6 0 0 66 [(0, .ref (ad 42)), (1, .int x7), (3, .int x8), (4, .int x9), (5, .int x10)] [] S V L := by
          subst e_K66_6
          intro x7 x8 x9 x10 h
          refine lt_elim h (fun x11 e_x11 h => ?_)
          refine j_iinc C [(5, .int x11), (0, .ref (ad 42)), (1, .int x7), (3, .int x8), (4, .int x9)] 4 dX5_coinsOf_66 rfl ((iinc_eq ci_1).trans e_x11.symm) (by decide) rfl ?_
          refine j_goto (tgt := 8) C dX5_coinsOf_69 (by decide) ?_
          exact j_sub [1, 2, 3, 4, 0] rfl (ih _ _ _ _ h)
        refine j_if_eq (tgt := 66) C dX5_coinsOf_23 (by decide) (fun c12 => ?_) (fun c12 => ?_)
        · have h := (if_pos c12).symm.trans h
          exact j_sub [0, 1, 2, 3, 4] rfl (HK66_6 _ _ _ _ h)
        · have h := (if_neg c12).symm.trans h
          refine j_aload_n C 0 rfl dX5_coinsOf_26 rfl ?_
          refine fg_X5_9_TC_42 C dX5_coinsOf_27 ?_
          refine j_iload C 4 rfl dX5_coinsOf_30 ?_
          obtain ⟨g13, h⟩ := gd_elim h
          refine j_iald C tc_43 (ib_in g13) dX5_coinsOf_32 ?_
          refine j_iload_n C 2 rfl dX5_coinsOf_33 rfl ?_
          refine j_iconst C dX5_coinsOf_34 ci_m1 ?_
          refine j_ixor C dX5_coinsOf_35 ?_
          refine j_iand C dX5_coinsOf_36 ?_
          refine j_if_eq (tgt := 42) C dX5_coinsOf_37 (by decide) (fun c14 => ?_) (fun c14 => ?_)
          · have h := (if_pos c14).symm.trans h
            refine j_iload_n C 2 rfl dX5_coinsOf_42 rfl ?_
            refine j_aload_n C 0 rfl dX5_coinsOf_43 rfl ?_
            refine fg_X5_9_TC_42 C dX5_coinsOf_44 ?_
            refine j_iload C 4 rfl dX5_coinsOf_47 ?_
            obtain ⟨g15, h⟩ := gd_elim h
            refine j_iald C tc_43 (ib_in g15) dX5_coinsOf_49 ?_
            refine j_iconst C dX5_coinsOf_50 ci_m1 ?_
            refine j_ixor C dX5_coinsOf_51 ?_
            refine j_iand C dX5_coinsOf_52 ?_
            refine lt_elim h (fun x16 e_x16 h => ?_)
            refine j_top e_x16 ?_
            refine j_istore_n C [(3, .int x16), (0, .ref (ad 42)), (1, .int x1), (4, .int x3), (5, .int x4)] dX5_coinsOf_53 rfl (by decide) rfl ?_
            refine j_iload C 3 rfl dX5_coinsOf_54 ?_
            refine j_aload_n C 1 rfl dX5_coinsOf_56 rfl ?_
            refine fg_X5_15_TC_42 C dX5_coinsOf_57 ?_
            refine j_iload C 4 rfl dX5_coinsOf_60 ?_
            obtain ⟨g17, h⟩ := gd_elim h
            refine j_iald C tc_44 (ib_in g17) dX5_coinsOf_62 ?_
            refine j_iadd C dX5_coinsOf_63 ?_
            refine lt_elim h (fun x18 e_x18 h => ?_)
            refine j_top e_x18 ?_
            refine j_istore C [(4, .int x18), (3, .int x16), (0, .ref (ad 42)), (1, .int x1), (5, .int x4)] dX5_coinsOf_64 (by decide) rfl ?_
            exact j_sub [2, 3, 1, 0, 4] rfl (HK66_6 _ _ _ _ h)
          · have h := (if_neg c14).symm.trans h
            refine j_iconst C dX5_coinsOf_40 ci_m1 ?_
            cases h
            exact j_iret C hr hlk rfl dX5_coinsOf_41
  refine j_iload_n C 2 rfl dX5_coinsOf_0 rfl ?_
  refine j_istore_n C [(3, .int a2), (0, .ref (ad 42)), (1, .int a1), (2, .int a2)] dX5_coinsOf_1 rfl (by decide) rfl ?_
  refine j_iconst C dX5_coinsOf_2 ci_0 ?_
  refine j_istore C [(4, .int (0 : Int32)), (3, .int a2), (0, .ref (ad 42)), (1, .int a1), (2, .int a2)] dX5_coinsOf_3 (by decide) rfl ?_
  refine j_iconst C dX5_coinsOf_5 ci_0 ?_
  refine j_istore C [(5, .int (0 : Int32)), (4, .int (0 : Int32)), (3, .int a2), (0, .ref (ad 42)), (1, .int a1), (2, .int a2)] dX5_coinsOf_6 (by decide) rfl ?_
  exact j_sub [3, 4, 2, 1, 0] rfl (H_fX5_coinsOf_42_L8 FU _ _ _ _ h)
theorem dX5_choose_0 : decode cX5_choose 0 = .ok (.aload_n 0, 1) := by decide +kernel
theorem dX5_choose_1 : decode cX5_choose 1 = .ok (.iconst 0, 1) := by decide +kernel
theorem dX5_choose_2 : decode cX5_choose 2 = .ok (.putfield 32, 3) := by decide +kernel
theorem dX5_choose_5 : decode cX5_choose 5 = .ok (.aload_n 0, 1) := by decide +kernel
theorem dX5_choose_6 : decode cX5_choose 6 = .ok (.iconst 0, 1) := by decide +kernel
theorem dX5_choose_7 : decode cX5_choose 7 = .ok (.putfield 35, 3) := by decide +kernel
theorem dX5_choose_10 : decode cX5_choose 10 = .ok (.iconst 1, 1) := by decide +kernel
theorem dX5_choose_11 : decode cX5_choose 11 = .ok (.istore_n 2, 1) := by decide +kernel
theorem dX5_choose_12 : decode cX5_choose 12 = .ok (.iload_n 2, 1) := by decide +kernel
theorem dX5_choose_13 : decode cX5_choose 13 = .ok (.iconst 1, 1) := by decide +kernel
theorem dX5_choose_14 : decode cX5_choose 14 = .ok (.aload_n 0, 1) := by decide +kernel
theorem dX5_choose_15 : decode cX5_choose 15 = .ok (.getfield 18, 3) := by decide +kernel
theorem dX5_choose_18 : decode cX5_choose 18 = .ok (.ishl, 1) := by decide +kernel
theorem dX5_choose_19 : decode cX5_choose 19 = .ok (.if_icmp .ge 34, 3) := by decide +kernel
theorem dX5_choose_22 : decode cX5_choose 22 = .ok (.aload_n 0, 1) := by decide +kernel
theorem dX5_choose_23 : decode cX5_choose 23 = .ok (.iload_n 2, 1) := by decide +kernel
theorem dX5_choose_24 : decode cX5_choose 24 = .ok (.iload_n 1, 1) := by decide +kernel
theorem dX5_choose_25 : decode cX5_choose 25 = .ok (.invokevirtual 38, 3) := by decide +kernel
theorem dX5_choose_28 : decode cX5_choose 28 = .ok (.istore_n 3, 1) := by decide +kernel
theorem dX5_choose_29 : decode cX5_choose 29 = .ok (.iload_n 3, 1) := by decide +kernel
theorem dX5_choose_30 : decode cX5_choose 30 = .ok (.aload_n 0, 1) := by decide +kernel
theorem dX5_choose_31 : decode cX5_choose 31 = .ok (.getfield 32, 3) := by decide +kernel
theorem dX5_choose_34 : decode cX5_choose 34 = .ok (.if_icmp .le 13, 3) := by decide +kernel
theorem dX5_choose_37 : decode cX5_choose 37 = .ok (.aload_n 0, 1) := by decide +kernel
theorem dX5_choose_38 : decode cX5_choose 38 = .ok (.iload_n 3, 1) := by decide +kernel
theorem dX5_choose_39 : decode cX5_choose 39 = .ok (.putfield 32, 3) := by decide +kernel
theorem dX5_choose_42 : decode cX5_choose 42 = .ok (.aload_n 0, 1) := by decide +kernel
theorem dX5_choose_43 : decode cX5_choose 43 = .ok (.iload_n 2, 1) := by decide +kernel
theorem dX5_choose_44 : decode cX5_choose 44 = .ok (.putfield 35, 3) := by decide +kernel
theorem dX5_choose_47 : decode cX5_choose 47 = .ok (.iinc 2 1, 3) := by decide +kernel
theorem dX5_choose_50 : decode cX5_choose 50 = .ok (.goto (-38), 3) := by decide +kernel
theorem dX5_choose_53 : decode cX5_choose 53 = .ok (.return_, 1) := by decide +kernel
def fX5_choose_42_L12 (V : Nat → Nat → Int32) : Nat → Int32 → Int32 → (Nat → Int32) → Option ((Nat → Int32))
  | 0, _, _, _ => none
  | n + 1, x3, x4, S5 =>
    (if ((1 : Int32) <<< ((S5 4200) &&& 31)) ≤ x4 then
    some S5
    else
    bd1 (fX5_coinsOf_42 S5 V x4 x3) (fun r7 =>
    bk (fun (x10 : Int32) (x11 : Int32) (S12 : Nat → Int32) =>
    lt (x11 + (1 : Int32)) (fun x13 =>
    fX5_choose_42_L12 V n x10 x13 S12)) (fun K47_9 =>
    (if r7 ≤ (S5 4203) then
    K47_9 x3 x4 S5
    else
    lt (va_up S5 4203 r7) (fun S15 =>
    lt (va_up S15 4204 x4) (fun S16 =>
    K47_9 x3 x4 S16))))))
def fX5_choose_42 (S : Nat → Int32) (V : Nat → Nat → Int32) (a1 : Int32) : Option ((Nat → Int32)) :=
  lt (va_up S 4203 (0 : Int32)) (fun S1 =>
  lt (va_up S1 4204 (0 : Int32)) (fun S2 =>
  fX5_choose_42_L12 V FU a1 (1 : Int32) S2))
set_option maxHeartbeats 4000000 in
set_option maxRecDepth 100000 in
theorem kX5_choose_42 (l : Launch) (B : jBT) (D : va_G) (ad : Nat → Nat) (cA : Nat → ClassId) (hI : jI ad TC) (S : Nat → Int32) (V : Nat → Nat → Int32) (L : Nat → Int64) (a1 : Int32) (S0 : Nat → Int32) (h : fX5_choose_42 S V a1 = some S0) : jM l yX5_choose cX5_choose 4 none ({ frames := 1, cells := 0, slots := 0, locals := 25 }) B D TC ad cA [.ref (ad 42), .int a1] S V L none S0 V L := by
  refine jM_of (by decide) TC_ok hI (Nat.le_of_ble_eq_true rfl) ?_
  intro p e s m args below meth c C hr hlk
  refine j_lv (lv2 := [(0, .ref (ad 42)), (1, .int a1)]) rfl ?_
  unfold fX5_choose_42 at h
  have H_fX5_choose_42_L12 : ∀ (n : Nat) (x3 : Int32) (x4 : Int32) (S5 : Nat → Int32), fX5_choose_42_L12 V n x3 x4 S5 = some S0 → jW p l e ({ frames := 1, cells := 0, slots := 0, locals := 25 }) s m args below meth c (MQ below (jQc D TC ad cA none s.heap.size S0 V L) args s 0 0 (jA ad TC s.heap.size)) D TC ad cA (jA ad TC s.heap.size) 4 0 0 12 [(0, .ref (ad 42)), (1, .int x3), (2, .int x4)] [] S5 V L := by
    intro n
    induction n with
    | zero =>
      intro x3 x4 S5 h
      cases (show (none : Option ((Nat → Int32))) = some S0 from h)
    | succ n ih =>
      intro x3 x4 S5 h
      unfold fX5_choose_42_L12 at h
      refine j_iload_n C 2 rfl dX5_choose_12 rfl ?_
      refine j_iconst C dX5_choose_13 ci_1 ?_
      refine j_aload_n C 0 rfl dX5_choose_14 rfl ?_
      refine fg_X5_18_TC_42 C dX5_choose_15 ?_
      refine j_ishl C dX5_choose_18 ?_
      refine j_icmp_ge (tgt := 53) C dX5_choose_19 (by decide) (fun c6 => ?_) (fun c6 => ?_)
      · have h := (if_pos c6).symm.trans h
        cases h
        exact j_vret C hr hlk rfl dX5_choose_53
      · have h := (if_neg c6).symm.trans h
        refine j_aload_n C 0 rfl dX5_choose_22 rfl ?_
        refine j_iload_n C 2 rfl dX5_choose_23 rfl ?_
        refine j_iload_n C 1 rfl dX5_choose_24 rfl ?_
        obtain ⟨r7, h8, h⟩ := bd1_elim h
        refine j_callV (As := [.int x4, .int x3]) (rest := []) C (kX5_coinsOf_42 l B D ad cA hI S5 V L x4 x3 _ h8) mw_X5_coinsOf wd1362 wd54 wd1360 tc_42 rfl rfl ⟨rfl, rfl, by decide, by decide⟩ ⟨Nat.zero_le _, Nat.zero_le _⟩ rfl rfl (Nat.le_of_ble_eq_true rfl) dX5_choose_25 ?_
        refine j_istore_n C [(3, .int r7), (0, .ref (ad 42)), (1, .int x3), (2, .int x4)] dX5_choose_28 rfl (by decide) rfl ?_
        refine j_iload_n C 0 rfl dX5_choose_29 rfl ?_
        refine j_aload_n C 1 rfl dX5_choose_30 rfl ?_
        refine fg_X5_32_TC_42 C dX5_choose_31 ?_
        refine bk_elim h (fun K47_9 e_K47_9 h => ?_)
        have HK47_9 : ∀ (x10 : Int32) (x11 : Int32) (S12 : Nat → Int32), K47_9 x10 x11 S12 = some S0 → jW p l e ({ frames := 1, cells := 0, slots := 0, locals := 25 }) s m args below meth c (MQ below (jQc D TC ad cA none s.heap.size S0 V L) args s 0 0 (jA ad TC s.heap.size)) D TC ad cA (jA ad TC s.heap.size) 4 0 0 47 [(0, .ref (ad 42)), (1, .int x10), (2, .int x11)] [] S12 V L := by
          subst e_K47_9
          intro x10 x11 S12 h
          refine lt_elim h (fun x13 e_x13 h => ?_)
          refine j_iinc C [(2, .int x13), (0, .ref (ad 42)), (1, .int x10)] 2 dX5_choose_47 rfl ((iinc_eq ci_1).trans e_x13.symm) (by decide) rfl ?_
          refine j_goto (tgt := 12) C dX5_choose_50 (by decide) ?_
          exact j_sub [1, 2, 0] rfl (ih _ _ _ h)
        refine j_icmp_le (tgt := 47) C dX5_choose_34 (by decide) (fun c14 => ?_) (fun c14 => ?_)
        · have h := (if_pos c14).symm.trans h
          exact j_sub [1, 2, 3] rfl (HK47_9 _ _ _ h)
        · have h := (if_neg c14).symm.trans h
          refine j_aload_n C 1 rfl dX5_choose_37 rfl ?_
          refine j_iload_n C 0 rfl dX5_choose_38 rfl ?_
          refine fp_X5_32_TC_42 C dX5_choose_39 ?_
          refine lt_elim h (fun S15 e_S15 h => ?_)
          refine j_S e_S15 ?_
          refine j_aload_n C 1 rfl dX5_choose_42 rfl ?_
          refine j_iload_n C 3 rfl dX5_choose_43 rfl ?_
          refine fp_X5_35_TC_42 C dX5_choose_44 ?_
          refine lt_elim h (fun S16 e_S16 h => ?_)
          refine j_S e_S16 ?_
          exact j_sub [1, 2, 3] rfl (HK47_9 _ _ _ h)
  refine j_aload_n C 0 rfl dX5_choose_0 rfl ?_
  refine j_iconst C dX5_choose_1 ci_0 ?_
  refine fp_X5_32_TC_42 C dX5_choose_2 ?_
  refine lt_elim h (fun S1 e_S1 h => ?_)
  refine j_S e_S1 ?_
  refine j_aload_n C 0 rfl dX5_choose_5 rfl ?_
  refine j_iconst C dX5_choose_6 ci_0 ?_
  refine fp_X5_35_TC_42 C dX5_choose_7 ?_
  refine lt_elim h (fun S2 e_S2 h => ?_)
  refine j_S e_S2 ?_
  refine j_iconst C dX5_choose_10 ci_1 ?_
  refine j_istore_n C [(2, .int (1 : Int32)), (0, .ref (ad 42)), (1, .int a1)] dX5_choose_11 rfl (by decide) rfl ?_
  exact j_sub [1, 2, 0] rfl (H_fX5_choose_42_L12 FU _ _ _ h)
theorem dX5_clear_0 : decode cX5_clear 0 = .ok (.aload_n 0, 1) := by decide +kernel
theorem dX5_clear_1 : decode cX5_clear 1 = .ok (.iconst 0, 1) := by decide +kernel
theorem dX5_clear_2 : decode cX5_clear 2 = .ok (.putfield 18, 3) := by decide +kernel
theorem dX5_clear_5 : decode cX5_clear 5 = .ok (.return_, 1) := by decide +kernel
def fX5_clear_42 (S : Nat → Int32) : Option ((Nat → Int32)) :=
  lt (va_up S 4200 (0 : Int32)) (fun S1 =>
  some S1)
set_option maxHeartbeats 4000000 in
set_option maxRecDepth 100000 in
theorem kX5_clear_42 (l : Launch) (B : jBT) (D : va_G) (ad : Nat → Nat) (cA : Nat → ClassId) (hI : jI ad TC) (S : Nat → Int32) (V : Nat → Nat → Int32) (L : Nat → Int64) (S0 : Nat → Int32) (h : fX5_clear_42 S = some S0) : jM l yX5_clear cX5_clear 1 none ({ frames := 0, cells := 0, slots := 0, locals := 0 }) B D TC ad cA [.ref (ad 42)] S V L none S0 V L := by
  refine jM_of (by decide) TC_ok hI (Nat.le_of_ble_eq_true rfl) ?_
  intro p e s m args below meth c C hr hlk
  refine j_lv (lv2 := [(0, .ref (ad 42))]) rfl ?_
  unfold fX5_clear_42 at h
  refine j_aload_n C 0 rfl dX5_clear_0 rfl ?_
  refine j_iconst C dX5_clear_1 ci_0 ?_
  refine fp_X5_18_TC_42 C dX5_clear_2 ?_
  refine lt_elim h (fun S1 e_S1 h => ?_)
  refine j_S e_S1 ?_
  cases h
  exact j_vret C hr hlk rfl dX5_clear_5
theorem dX6_daysToADay_0 : decode cX6_daysToADay 0 = .ok (.iload_n 1, 1) := by decide +kernel
theorem dX6_daysToADay_1 : decode cX6_daysToADay 1 = .ok (.ifCond .gt 9, 3) := by decide +kernel
theorem dX6_daysToADay_4 : decode cX6_daysToADay 4 = .ok (.sipush 10001, 3) := by decide +kernel
theorem dX6_daysToADay_7 : decode cX6_daysToADay 7 = .ok (.goto 14, 3) := by decide +kernel
theorem dX6_daysToADay_10 : decode cX6_daysToADay 10 = .ok (.sipush 1440, 3) := by decide +kernel
theorem dX6_daysToADay_13 : decode cX6_daysToADay 13 = .ok (.iload_n 0, 1) := by decide +kernel
theorem dX6_daysToADay_14 : decode cX6_daysToADay 14 = .ok (.isub, 1) := by decide +kernel
theorem dX6_daysToADay_15 : decode cX6_daysToADay 15 = .ok (.iload_n 1, 1) := by decide +kernel
theorem dX6_daysToADay_16 : decode cX6_daysToADay 16 = .ok (.iadd, 1) := by decide +kernel
theorem dX6_daysToADay_17 : decode cX6_daysToADay 17 = .ok (.iconst 1, 1) := by decide +kernel
theorem dX6_daysToADay_18 : decode cX6_daysToADay 18 = .ok (.isub, 1) := by decide +kernel
theorem dX6_daysToADay_19 : decode cX6_daysToADay 19 = .ok (.iload_n 1, 1) := by decide +kernel
theorem dX6_daysToADay_20 : decode cX6_daysToADay 20 = .ok (.idiv, 1) := by decide +kernel
theorem dX6_daysToADay_21 : decode cX6_daysToADay 21 = .ok (.ireturn, 1) := by decide +kernel
def fX6_daysToADay (a1 : Int32) (a2 : Int32) : Option (Int32) :=
  (if 0 < a2 then
  gd (nz a2) (
  some ((((((1440 : Int32) - a1) + a2) - (1 : Int32)) / a2)))
  else
  some (10001 : Int32))
set_option maxHeartbeats 4000000 in
set_option maxRecDepth 100000 in
theorem kX6_daysToADay (l : Launch) (B : jBT) (D : va_G) (ad : Nat → Nat) (cA : Nat → ClassId) (hI : jI ad TC) (S : Nat → Int32) (V : Nat → Nat → Int32) (L : Nat → Int64) (a1 : Int32) (a2 : Int32) (r0 : Int32) (h : fX6_daysToADay a1 a2 = some r0) : jM l yX6_daysToADay cX6_daysToADay 2 (some .int) ({ frames := 0, cells := 0, slots := 0, locals := 0 }) B D TC ad cA [.int a1, .int a2] S V L (some (.int r0)) S V L := by
  refine jM_of (by decide) TC_ok hI (Nat.le_of_ble_eq_true rfl) ?_
  intro p e s m args below meth c C hr hlk
  refine j_lv (lv2 := [(0, .int a1), (1, .int a2)]) rfl ?_
  unfold fX6_daysToADay at h
  refine j_iload_n C 1 rfl dX6_daysToADay_0 rfl ?_
  refine j_if_gt (tgt := 10) C dX6_daysToADay_1 (by decide) (fun c1 => ?_) (fun c1 => ?_)
  · have h := (if_pos c1).symm.trans h
    refine j_sipush C dX6_daysToADay_10 cs_1440 ?_
    refine j_iload_n C 0 rfl dX6_daysToADay_13 rfl ?_
    refine j_isub C dX6_daysToADay_14 ?_
    refine j_iload_n C 1 rfl dX6_daysToADay_15 rfl ?_
    refine j_iadd C dX6_daysToADay_16 ?_
    refine j_iconst C dX6_daysToADay_17 ci_1 ?_
    refine j_isub C dX6_daysToADay_18 ?_
    refine j_iload_n C 1 rfl dX6_daysToADay_19 rfl ?_
    obtain ⟨g2, h⟩ := gd_elim h
    refine j_idiv C dX6_daysToADay_20 (nz_ne g2) ?_
    cases h
    exact j_iret C hr hlk rfl dX6_daysToADay_21
  · have h := (if_neg c1).symm.trans h
    refine j_sipush C dX6_daysToADay_4 cs_10001 ?_
    refine j_goto (tgt := 21) C dX6_daysToADay_7 (by decide) ?_
    cases h
    exact j_iret C hr hlk rfl dX6_daysToADay_21
