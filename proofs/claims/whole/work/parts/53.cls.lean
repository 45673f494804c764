theorem dX7_firstHour_0 : decode cX7_firstHour 0 = .ok (.iconst 0, 1) := by decide +kernel
theorem dX7_firstHour_1 : decode cX7_firstHour 1 = .ok (.istore 4, 2) := by decide +kernel
theorem dX7_firstHour_3 : decode cX7_firstHour 3 = .ok (.iload 4, 2) := by decide +kernel
theorem dX7_firstHour_5 : decode cX7_firstHour 5 = .ok (.bipush 24, 2) := by decide +kernel
theorem dX7_firstHour_7 : decode cX7_firstHour 7 = .ok (.if_icmp .ge 37, 3) := by decide +kernel
theorem dX7_firstHour_10 : decode cX7_firstHour 10 = .ok (.iload_n 1, 1) := by decide +kernel
theorem dX7_firstHour_11 : decode cX7_firstHour 11 = .ok (.iload 4, 2) := by decide +kernel
theorem dX7_firstHour_13 : decode cX7_firstHour 13 = .ok (.ishr, 1) := by decide +kernel
theorem dX7_firstHour_14 : decode cX7_firstHour 14 = .ok (.iconst 1, 1) := by decide +kernel
theorem dX7_firstHour_15 : decode cX7_firstHour 15 = .ok (.iand, 1) := by decide +kernel
theorem dX7_firstHour_16 : decode cX7_firstHour 16 = .ok (.ifCond .eq 22, 3) := by decide +kernel
theorem dX7_firstHour_19 : decode cX7_firstHour 19 = .ok (.aload_n 0, 1) := by decide +kernel
theorem dX7_firstHour_20 : decode cX7_firstHour 20 = .ok (.iload_n 2, 1) := by decide +kernel
theorem dX7_firstHour_21 : decode cX7_firstHour 21 = .ok (.iload_n 3, 1) := by decide +kernel
theorem dX7_firstHour_22 : decode cX7_firstHour 22 = .ok (.iconst 1, 1) := by decide +kernel
theorem dX7_firstHour_23 : decode cX7_firstHour 23 = .ok (.iload 4, 2) := by decide +kernel
theorem dX7_firstHour_25 : decode cX7_firstHour 25 = .ok (.ishl, 1) := by decide +kernel
theorem dX7_firstHour_26 : decode cX7_firstHour 26 = .ok (.iconst (-1), 1) := by decide +kernel
theorem dX7_firstHour_27 : decode cX7_firstHour 27 = .ok (.ixor, 1) := by decide +kernel
theorem dX7_firstHour_28 : decode cX7_firstHour 28 = .ok (.iand, 1) := by decide +kernel
theorem dX7_firstHour_29 : decode cX7_firstHour 29 = .ok (.invokevirtual 36, 3) := by decide +kernel
theorem dX7_firstHour_32 : decode cX7_firstHour 32 = .ok (.ifCond .eq 6, 3) := by decide +kernel
theorem dX7_firstHour_35 : decode cX7_firstHour 35 = .ok (.iload 4, 2) := by decide +kernel
theorem dX7_firstHour_37 : decode cX7_firstHour 37 = .ok (.ireturn, 1) := by decide +kernel
theorem dX7_firstHour_38 : decode cX7_firstHour 38 = .ok (.iinc 4 1, 3) := by decide +kernel
theorem dX7_firstHour_41 : decode cX7_firstHour 41 = .ok (.goto (-38), 3) := by decide +kernel
theorem dX7_firstHour_44 : decode cX7_firstHour 44 = .ok (.iconst (-1), 1) := by decide +kernel
theorem dX7_firstHour_45 : decode cX7_firstHour 45 = .ok (.ireturn, 1) := by decide +kernel
def fX7_firstHour_59_L3 (V : Nat → Nat → Int32) : Nat → Int32 → Int32 → Int32 → Int32 → Option (Int32)
  | 0, _, _, _, _ => none
  | n + 1, x1, x2, x3, x4 =>
    (if (24 : Int32) ≤ x4 then
    some (-1 : Int32)
    else
    bk (fun (x7 : Int32) (x8 : Int32) (x9 : Int32) (x10 : Int32) =>
    lt (x10 + (1 : Int32)) (fun x11 =>
    fX7_firstHour_59_L3 V n x7 x8 x9 x11)) (fun K38_6 =>
    (if ((x1 >>> (x4 &&& 31)) &&& (1 : Int32)) = 0 then
    K38_6 x1 x2 x3 x4
    else
    bd1 (fX7_canVisit_59 V x2 ((x3 &&& (((1 : Int32) <<< (x4 &&& 31)) ^^^ (-1 : Int32))))) (fun r13 =>
    (if r13 = 0 then
    K38_6 x1 x2 x3 x4
    else
    some x4)))))
def fX7_firstHour_59 (V : Nat → Nat → Int32) (a1 : Int32) (a2 : Int32) (a3 : Int32) : Option (Int32) :=
  fX7_firstHour_59_L3 V FU a1 a2 a3 (0 : Int32)
set_option maxHeartbeats 4000000 in
set_option maxRecDepth 100000 in
theorem kX7_firstHour_59 (l : Launch) (B : jBT) (D : va_G) (ad : Nat → Nat) (cA : Nat → ClassId) (hI : jI ad TC) (S : Nat → Int32) (V : Nat → Nat → Int32) (L : Nat → Int64) (a1 : Int32) (a2 : Int32) (a3 : Int32) (r0 : Int32) (h : fX7_firstHour_59 V a1 a2 a3 = some r0) : jM l yX7_firstHour cX7_firstHour 5 (some .int) ({ frames := 2, cells := 0, slots := 0, locals := 43 }) B D TC ad cA [.ref (ad 59), .int a1, .int a2, .int a3] S V L (some (.int r0)) S V L := by
  refine jM_of (plainFor_of_name (by decide)) TC_ok hI (Nat.le_of_ble_eq_true rfl) ?_
  intro p e s m args below meth c C hr hlk
  refine j_lv (lv2 := [(0, .ref (ad 59)), (1, .int a1), (2, .int a2), (3, .int a3)]) rfl ?_
  unfold fX7_firstHour_59 at h
  have H_fX7_firstHour_59_L3 : ∀ (n : Nat) (x1 : Int32) (x2 : Int32) (x3 : Int32) (x4 : Int32), fX7_firstHour_59_L3 V n x1 x2 x3 x4 = some r0 → jW p l e ({ frames := 2, cells := 0, slots := 0, locals := 43 }) s m args below meth c (MQ below (jQc D TC ad cA (some (.int r0)) s.heap.size S V L) args s 0 0 (jA ad TC s.heap.size)) D TC ad cA (jA ad TC s.heap.size) 5 0 0 3 [(0, .ref (ad 59)), (1, .int x1), (2, .int x2), (3, .int x3), (4, .int x4)] [] S V L := by
    intro n
    induction n with
    | zero =>
      intro x1 x2 x3 x4 h
      cases (show (none : Option (Int32)) = some r0 from h)
    | succ n ih =>
      intro x1 x2 x3 x4 h
      unfold fX7_firstHour_59_L3 at h
      refine j_iload C 4 rfl dX7_firstHour_3 ?_
      refine j_bipush C dX7_firstHour_5 cb_24 ?_
      refine j_icmp_ge (tgt := 44) C dX7_firstHour_7 (by decide) (fun c5 => ?_) (fun c5 => ?_)
      · have h := (if_pos c5).symm.trans h
        refine j_iconst C dX7_firstHour_44 ci_m1 ?_
        cases h
        exact j_iret C hr hlk rfl dX7_firstHour_45
      · have h := (if_neg c5).symm.trans h
        refine j_iload_n C 1 rfl dX7_firstHour_10 rfl ?_
        refine j_iload C 4 rfl dX7_firstHour_11 ?_
        refine j_ishr C dX7_firstHour_13 ?_
        refine j_iconst C dX7_firstHour_14 ci_1 ?_
        refine j_iand C dX7_firstHour_15 ?_
        refine bk_elim h (fun K38_6 e_K38_6 h => ?_)
        have HK38_6 : ∀ (x7 : Int32) (x8 : Int32) (x9 : Int32) (x10 : Int32), K38_6 x7 x8 x9 x10 = some r0 → jW p l e ({ frames := 2, cells := 0, slots := 0, locals := 43 }) s m args below meth c (MQ below (jQc D TC ad cA (some (.int r0)) s.heap.size S V L) args s 0 0 (jA ad TC s.heap.size)) D TC ad cA (jA ad TC s.heap.size) 5 0 0 38 [(0, .ref (ad 59)), (1, .int x7), (2, .int x8), (3, .int x9), (4, .int x10)] [] S V L := by
          subst e_K38_6
          intro x7 x8 x9 x10 h
          refine lt_elim h (fun x11 e_x11 h => ?_)
          refine j_iinc C [(4, .int x11), (0, .ref (ad 59)), (1, .int x7), (2, .int x8), (3, .int x9)] 4 dX7_firstHour_38 rfl ((iinc_eq ci_1).trans e_x11.symm) (by decide) rfl ?_
          refine j_goto (tgt := 3) C dX7_firstHour_41 (by decide) ?_
          exact j_sub [1, 2, 3, 4, 0] rfl (ih _ _ _ _ h)
        refine j_if_eq (tgt := 38) C dX7_firstHour_16 (by decide) (fun c12 => ?_) (fun c12 => ?_)
        · have h := (if_pos c12).symm.trans h
          exact j_sub [0, 1, 2, 3, 4] rfl (HK38_6 _ _ _ _ h)
        · have h := (if_neg c12).symm.trans h
          refine j_aload_n C 0 rfl dX7_firstHour_19 rfl ?_
          refine j_iload_n C 2 rfl dX7_firstHour_20 rfl ?_
          refine j_iload_n C 3 rfl dX7_firstHour_21 rfl ?_
          refine j_iconst C dX7_firstHour_22 ci_1 ?_
          refine j_iload C 4 rfl dX7_firstHour_23 ?_
          refine j_ishl C dX7_firstHour_25 ?_
          refine j_iconst C dX7_firstHour_26 ci_m1 ?_
          refine j_ixor C dX7_firstHour_27 ?_
          refine j_iand C dX7_firstHour_28 ?_
          obtain ⟨r13, h14, h⟩ := bd1_elim h
          refine j_callV (As := [.int x2, .int (x3 &&& (((1 : Int32) <<< (x4 &&& 31)) ^^^ (-1 : Int32)))]) (rest := []) C (kX7_canVisit_59 l B D ad cA hI S V L x2 ((x3 &&& (((1 : Int32) <<< (x4 &&& 31)) ^^^ (-1 : Int32)))) _ h14) mw_X7_canVisit wd1299 wd51 wd1297 tc_59 rfl rfl ⟨rfl, rfl, by decide, by decide⟩ ⟨Nat.zero_le _, Nat.zero_le _⟩ rfl rfl (Nat.le_of_ble_eq_true rfl) dX7_firstHour_29 ?_
          refine j_if_eq (tgt := 38) C dX7_firstHour_32 (by decide) (fun c15 => ?_) (fun c15 => ?_)
          · have h := (if_pos c15).symm.trans h
            exact j_sub [0, 1, 2, 3, 4] rfl (HK38_6 _ _ _ _ h)
          · have h := (if_neg c15).symm.trans h
            refine j_iload C 4 rfl dX7_firstHour_35 ?_
            cases h
            exact j_iret C hr hlk rfl dX7_firstHour_37
  refine j_iconst C dX7_firstHour_0 ci_0 ?_
  refine j_istore C [(4, .int (0 : Int32)), (0, .ref (ad 59)), (1, .int a1), (2, .int a2), (3, .int a3)] dX7_firstHour_1 (by decide) rfl ?_
  exact j_sub [1, 2, 3, 4, 0] rfl (H_fX7_firstHour_59_L3 FU _ _ _ _ h)
theorem dX7_choose_0 : decode cX7_choose 0 = .ok (.iload_n 1, 1) := by decide +kernel
theorem dX7_choose_1 : decode cX7_choose 1 = .ok (.istore_n 3, 1) := by decide +kernel
theorem dX7_choose_2 : decode cX7_choose 2 = .ok (.iload_n 2, 1) := by decide +kernel
theorem dX7_choose_3 : decode cX7_choose 3 = .ok (.istore 4, 2) := by decide +kernel
theorem dX7_choose_5 : decode cX7_choose 5 = .ok (.iconst 0, 1) := by decide +kernel
theorem dX7_choose_6 : decode cX7_choose 6 = .ok (.istore 5, 2) := by decide +kernel
theorem dX7_choose_8 : decode cX7_choose 8 = .ok (.iload 5, 2) := by decide +kernel
theorem dX7_choose_10 : decode cX7_choose 10 = .ok (.bipush 6, 2) := by decide +kernel
theorem dX7_choose_12 : decode cX7_choose 12 = .ok (.if_icmp .ge 77, 3) := by decide +kernel
theorem dX7_choose_15 : decode cX7_choose 15 = .ok (.aload_n 0, 1) := by decide +kernel
theorem dX7_choose_16 : decode cX7_choose 16 = .ok (.getfield 15, 3) := by decide +kernel
theorem dX7_choose_19 : decode cX7_choose 19 = .ok (.iload 5, 2) := by decide +kernel
theorem dX7_choose_21 : decode cX7_choose 21 = .ok (.iconst (-1), 1) := by decide +kernel
theorem dX7_choose_22 : decode cX7_choose 22 = .ok (.iastore, 1) := by decide +kernel
theorem dX7_choose_23 : decode cX7_choose 23 = .ok (.iload_n 1, 1) := by decide +kernel
theorem dX7_choose_24 : decode cX7_choose 24 = .ok (.iload 5, 2) := by decide +kernel
theorem dX7_choose_26 : decode cX7_choose 26 = .ok (.ishr, 1) := by decide +kernel
theorem dX7_choose_27 : decode cX7_choose 27 = .ok (.iconst 1, 1) := by decide +kernel
theorem dX7_choose_28 : decode cX7_choose 28 = .ok (.iand, 1) := by decide +kernel
theorem dX7_choose_29 : decode cX7_choose 29 = .ok (.ifCond .eq 54, 3) := by decide +kernel
theorem dX7_choose_32 : decode cX7_choose 32 = .ok (.iload_n 3, 1) := by decide +kernel
theorem dX7_choose_33 : decode cX7_choose 33 = .ok (.iconst 1, 1) := by decide +kernel
theorem dX7_choose_34 : decode cX7_choose 34 = .ok (.iload 5, 2) := by decide +kernel
theorem dX7_choose_36 : decode cX7_choose 36 = .ok (.ishl, 1) := by decide +kernel
theorem dX7_choose_37 : decode cX7_choose 37 = .ok (.iconst (-1), 1) := by decide +kernel
theorem dX7_choose_38 : decode cX7_choose 38 = .ok (.ixor, 1) := by decide +kernel
theorem dX7_choose_39 : decode cX7_choose 39 = .ok (.iand, 1) := by decide +kernel
theorem dX7_choose_40 : decode cX7_choose 40 = .ok (.istore_n 3, 1) := by decide +kernel
theorem dX7_choose_41 : decode cX7_choose 41 = .ok (.aload_n 0, 1) := by decide +kernel
theorem dX7_choose_42 : decode cX7_choose 42 = .ok (.getfield 15, 3) := by decide +kernel
theorem dX7_choose_45 : decode cX7_choose 45 = .ok (.iload 5, 2) := by decide +kernel
theorem dX7_choose_47 : decode cX7_choose 47 = .ok (.aload_n 0, 1) := by decide +kernel
theorem dX7_choose_48 : decode cX7_choose 48 = .ok (.aload_n 0, 1) := by decide +kernel
theorem dX7_choose_49 : decode cX7_choose 49 = .ok (.getfield 9, 3) := by decide +kernel
theorem dX7_choose_52 : decode cX7_choose 52 = .ok (.iconst 1, 1) := by decide +kernel
theorem dX7_choose_53 : decode cX7_choose 53 = .ok (.iload 5, 2) := by decide +kernel
theorem dX7_choose_55 : decode cX7_choose 55 = .ok (.ishl, 1) := by decide +kernel
theorem dX7_choose_56 : decode cX7_choose 56 = .ok (.iaload, 1) := by decide +kernel
theorem dX7_choose_57 : decode cX7_choose 57 = .ok (.iload 4, 2) := by decide +kernel
theorem dX7_choose_59 : decode cX7_choose 59 = .ok (.iand, 1) := by decide +kernel
theorem dX7_choose_60 : decode cX7_choose 60 = .ok (.iload_n 3, 1) := by decide +kernel
theorem dX7_choose_61 : decode cX7_choose 61 = .ok (.iload 4, 2) := by decide +kernel
theorem dX7_choose_63 : decode cX7_choose 63 = .ok (.invokevirtual 61, 3) := by decide +kernel
theorem dX7_choose_66 : decode cX7_choose 66 = .ok (.iastore, 1) := by decide +kernel
theorem dX7_choose_67 : decode cX7_choose 67 = .ok (.iload 4, 2) := by decide +kernel
theorem dX7_choose_69 : decode cX7_choose 69 = .ok (.iconst 1, 1) := by decide +kernel
theorem dX7_choose_70 : decode cX7_choose 70 = .ok (.aload_n 0, 1) := by decide +kernel
theorem dX7_choose_71 : decode cX7_choose 71 = .ok (.getfield 15, 3) := by decide +kernel
theorem dX7_choose_74 : decode cX7_choose 74 = .ok (.iload 5, 2) := by decide +kernel
theorem dX7_choose_76 : decode cX7_choose 76 = .ok (.iaload, 1) := by decide +kernel
theorem dX7_choose_77 : decode cX7_choose 77 = .ok (.ishl, 1) := by decide +kernel
theorem dX7_choose_78 : decode cX7_choose 78 = .ok (.iconst (-1), 1) := by decide +kernel
theorem dX7_choose_79 : decode cX7_choose 79 = .ok (.ixor, 1) := by decide +kernel
theorem dX7_choose_80 : decode cX7_choose 80 = .ok (.iand, 1) := by decide +kernel
theorem dX7_choose_81 : decode cX7_choose 81 = .ok (.istore 4, 2) := by decide +kernel
theorem dX7_choose_83 : decode cX7_choose 83 = .ok (.iinc 5 1, 3) := by decide +kernel
theorem dX7_choose_86 : decode cX7_choose 86 = .ok (.goto (-78), 3) := by decide +kernel
theorem dX7_choose_89 : decode cX7_choose 89 = .ok (.return_, 1) := by decide +kernel
def fX7_choose_59_L8 : Nat → Int32 → Int32 → Int32 → Int32 → (Nat → Nat → Int32) → Option ((Nat → Nat → Int32))
  | 0, _, _, _, _, _ => none
  | n + 1, x1, x2, x3, x4, V5 =>
    (if (6 : Int32) ≤ x4 then
    some V5
    else
    gd (ib x4 6) (
    lt (va_up V5 61 (upd (V5 61) (x4).toNatClampNeg (-1 : Int32))) (fun V8 =>
    bk (fun (x10 : Int32) (x11 : Int32) (x12 : Int32) (x13 : Int32) (V14 : Nat → Nat → Int32) =>
    lt (x13 + (1 : Int32)) (fun x15 =>
    fX7_choose_59_L8 n x10 x11 x12 x15 V14)) (fun K83_9 =>
    (if ((x1 >>> (x4 &&& 31)) &&& (1 : Int32)) = 0 then
    K83_9 x1 x2 x3 x4 V8
    else
    lt ((x2 &&& (((1 : Int32) <<< (x4 &&& 31)) ^^^ (-1 : Int32)))) (fun x17 =>
    lt (((1 : Int32) <<< (x4 &&& 31))) (fun x18 =>
    gd (ib x18 64) (
    bd1 (fX7_firstHour_59 V8 (((V8 60 (x18).toNatClampNeg) &&& x3)) x17 x3) (fun r20 =>
    gd (ib x4 6) (
    lt (va_up V8 61 (upd (V8 61) (x4).toNatClampNeg r20)) (fun V23 =>
    gd (ib x4 6) (
    lt ((x3 &&& (((1 : Int32) <<< ((V23 61 (x4).toNatClampNeg) &&& 31)) ^^^ (-1 : Int32)))) (fun x25 =>
    K83_9 x1 x17 x25 x4 V23)))))))))))))
def fX7_choose_59 (V : Nat → Nat → Int32) (a1 : Int32) (a2 : Int32) : Option ((Nat → Nat → Int32)) :=
  fX7_choose_59_L8 FU a1 a1 a2 (0 : Int32) V
set_option maxHeartbeats 4000000 in
set_option maxRecDepth 100000 in
theorem kX7_choose_59 (l : Launch) (B : jBT) (D : va_G) (ad : Nat → Nat) (cA : Nat → ClassId) (hI : jI ad TC) (S : Nat → Int32) (V : Nat → Nat → Int32) (L : Nat → Int64) (a1 : Int32) (a2 : Int32) (V0 : Nat → Nat → Int32) (h : fX7_choose_59 V a1 a2 = some V0) : jM l yX7_choose cX7_choose 6 none ({ frames := 3, cells := 0, slots := 0, locals := 67 }) B D TC ad cA [.ref (ad 59), .int a1, .int a2] S V L none S V0 L := by
  refine jM_of (plainFor_of_name (by decide)) TC_ok hI (Nat.le_of_ble_eq_true rfl) ?_
  intro p e s m args below meth c C hr hlk
  refine j_lv (lv2 := [(0, .ref (ad 59)), (1, .int a1), (2, .int a2)]) rfl ?_
  unfold fX7_choose_59 at h
  have H_fX7_choose_59_L8 : ∀ (n : Nat) (x1 : Int32) (x2 : Int32) (x3 : Int32) (x4 : Int32) (V5 : Nat → Nat → Int32), fX7_choose_59_L8 n x1 x2 x3 x4 V5 = some V0 → jW p l e ({ frames := 3, cells := 0, slots := 0, locals := 67 }) s m args below meth c (MQ below (jQc D TC ad cA none s.heap.size S V0 L) args s 0 0 (jA ad TC s.heap.size)) D TC ad cA (jA ad TC s.heap.size) 6 0 0 8 [(0, .ref (ad 59)), (1, .int x1), (3, .int x2), (4, .int x3), (5, .int x4)] [] S V5 L := by
    intro n
    induction n with
    | zero =>
      intro x1 x2 x3 x4 V5 h
      cases (show (none : Option ((Nat → Nat → Int32))) = some V0 from h)
    | succ n ih =>
      intro x1 x2 x3 x4 V5 h
      unfold fX7_choose_59_L8 at h
      refine j_iload C 4 rfl dX7_choose_8 ?_
      refine j_bipush C dX7_choose_10 cb_6 ?_
      refine j_icmp_ge (tgt := 89) C dX7_choose_12 (by decide) (fun c6 => ?_) (fun c6 => ?_)
      · have h := (if_pos c6).symm.trans h
        cases h
        exact j_vret C hr hlk rfl dX7_choose_89
      · have h := (if_neg c6).symm.trans h
        refine j_aload_n C 0 rfl dX7_choose_15 rfl ?_
        refine fg_X7_15_TC_59 C dX7_choose_16 ?_
        refine j_iload C 4 rfl dX7_choose_19 ?_
        refine j_iconst C dX7_choose_21 ci_m1 ?_
        obtain ⟨g7, h⟩ := gd_elim h
        refine j_iast C tc_61 (ib_in g7) dX7_choose_22 ?_
        refine lt_elim h (fun V8 e_V8 h => ?_)
        refine j_V e_V8 ?_
        refine j_iload_n C 1 rfl dX7_choose_23 rfl ?_
        refine j_iload C 4 rfl dX7_choose_24 ?_
        refine j_ishr C dX7_choose_26 ?_
        refine j_iconst C dX7_choose_27 ci_1 ?_
        refine j_iand C dX7_choose_28 ?_
        refine bk_elim h (fun K83_9 e_K83_9 h => ?_)
        have HK83_9 : ∀ (x10 : Int32) (x11 : Int32) (x12 : Int32) (x13 : Int32) (V14 : Nat → Nat → Int32), K83_9 x10 x11 x12 x13 V14 = some V0 → jW p l e ({ frames := 3, cells := 0, slots := 0, locals := 67 }) s m args below meth c (MQ below (jQc D TC ad cA none s.heap.size S V0 L) args s 0 0 (jA ad TC s.heap.size)) D TC ad cA (jA ad TC s.heap.size) 6 0 0 83 [(0, .ref (ad 59)), (1, .int x10), (3, .int x11), (4, .int x12), (5, .int x13)] [] S V14 L := by
          subst e_K83_9
          intro x10 x11 x12 x13 V14 h
          refine lt_elim h (fun x15 e_x15 h => ?_)
          refine j_iinc C [(5, .int x15), (0, .ref (ad 59)), (1, .int x10), (3, .int x11), (4, .int x12)] 4 dX7_choose_83 rfl ((iinc_eq ci_1).trans e_x15.symm) (by decide) rfl ?_
          refine j_goto (tgt := 8) C dX7_choose_86 (by decide) ?_
          exact j_sub [1, 2, 3, 4, 0] rfl (ih _ _ _ _ _ h)
        refine j_if_eq (tgt := 83) C dX7_choose_29 (by decide) (fun c16 => ?_) (fun c16 => ?_)
        · have h := (if_pos c16).symm.trans h
          exact j_sub [0, 1, 2, 3, 4] rfl (HK83_9 _ _ _ _ _ h)
        · have h := (if_neg c16).symm.trans h
          refine j_iload_n C 2 rfl dX7_choose_32 rfl ?_
          refine j_iconst C dX7_choose_33 ci_1 ?_
          refine j_iload C 4 rfl dX7_choose_34 ?_
          refine j_ishl C dX7_choose_36 ?_
          refine j_iconst C dX7_choose_37 ci_m1 ?_
          refine j_ixor C dX7_choose_38 ?_
          refine j_iand C dX7_choose_39 ?_
          refine lt_elim h (fun x17 e_x17 h => ?_)
          refine j_top e_x17 ?_
          refine j_istore_n C [(3, .int x17), (0, .ref (ad 59)), (1, .int x1), (4, .int x3), (5, .int x4)] dX7_choose_40 rfl (by decide) rfl ?_
          refine j_aload_n C 1 rfl dX7_choose_41 rfl ?_
          refine fg_X7_15_TC_59 C dX7_choose_42 ?_
          refine j_iload C 4 rfl dX7_choose_45 ?_
          refine j_aload_n C 1 rfl dX7_choose_47 rfl ?_
          refine j_aload_n C 1 rfl dX7_choose_48 rfl ?_
          refine fg_X7_9_TC_59 C dX7_choose_49 ?_
          refine j_iconst C dX7_choose_52 ci_1 ?_
          refine j_iload C 4 rfl dX7_choose_53 ?_
          refine j_ishl C dX7_choose_55 ?_
          refine lt_elim h (fun x18 e_x18 h => ?_)
          refine j_top e_x18 ?_
          obtain ⟨g19, h⟩ := gd_elim h
          refine j_iald C tc_60 (ib_in g19) dX7_choose_56 ?_
          refine j_iload C 3 rfl dX7_choose_57 ?_
          refine j_iand C dX7_choose_59 ?_
          refine j_iload_n C 0 rfl dX7_choose_60 rfl ?_
          refine j_iload C 3 rfl dX7_choose_61 ?_
          obtain ⟨r20, h21, h⟩ := bd1_elim h
          refine j_callV (As := [.int ((V8 60 (x18).toNatClampNeg) &&& x3), .int x17, .int x3]) (rest := [.int x4, .ref (ad 61)]) C (kX7_firstHour_59 l B D ad cA hI S V8 L (((V8 60 (x18).toNatClampNeg) &&& x3)) x17 x3 _ h21) mw_X7_firstHour wd1308 wd53 wd1306 tc_59 rfl rfl ⟨rfl, rfl, by decide, by decide⟩ ⟨Nat.zero_le _, Nat.zero_le _⟩ rfl rfl (Nat.le_of_ble_eq_true rfl) dX7_choose_63 ?_
          obtain ⟨g22, h⟩ := gd_elim h
          refine j_iast C tc_61 (ib_in g22) dX7_choose_66 ?_
          refine lt_elim h (fun V23 e_V23 h => ?_)
          refine j_V e_V23 ?_
          refine j_iload C 3 rfl dX7_choose_67 ?_
          refine j_iconst C dX7_choose_69 ci_1 ?_
          refine j_aload_n C 1 rfl dX7_choose_70 rfl ?_
          refine fg_X7_15_TC_59 C dX7_choose_71 ?_
          refine j_iload C 4 rfl dX7_choose_74 ?_
          obtain ⟨g24, h⟩ := gd_elim h
          refine j_iald C tc_61 (ib_in g24) dX7_choose_76 ?_
          refine j_ishl C dX7_choose_77 ?_
          refine j_iconst C dX7_choose_78 ci_m1 ?_
          refine j_ixor C dX7_choose_79 ?_
          refine j_iand C dX7_choose_80 ?_
          refine lt_elim h (fun x25 e_x25 h => ?_)
          refine j_top e_x25 ?_
          refine j_istore C [(4, .int x25), (3, .int x17), (0, .ref (ad 59)), (1, .int x1), (5, .int x4)] dX7_choose_81 (by decide) rfl ?_
          exact j_sub [2, 3, 1, 0, 4] rfl (HK83_9 _ _ _ _ _ h)
  refine j_iload_n C 1 rfl dX7_choose_0 rfl ?_
  refine j_istore_n C [(3, .int a1), (0, .ref (ad 59)), (1, .int a1), (2, .int a2)] dX7_choose_1 rfl (by decide) rfl ?_
  refine j_iload_n C 3 rfl dX7_choose_2 rfl ?_
  refine j_istore C [(4, .int a2), (3, .int a1), (0, .ref (ad 59)), (1, .int a1), (2, .int a2)] dX7_choose_3 (by decide) rfl ?_
  refine j_iconst C dX7_choose_5 ci_0 ?_
  refine j_istore C [(5, .int (0 : Int32)), (4, .int a2), (3, .int a1), (0, .ref (ad 59)), (1, .int a1), (2, .int a2)] dX7_choose_6 (by decide) rfl ?_
  exact j_sub [3, 4, 2, 1, 0] rfl (H_fX7_choose_59_L8 FU _ _ _ _ _ h)
theorem dX7_gatherHours_0 : decode cX7_gatherHours 0 = .ok (.aload_n 0, 1) := by decide +kernel
theorem dX7_gatherHours_1 : decode cX7_gatherHours 1 = .ok (.getfield 9, 3) := by decide +kernel
theorem dX7_gatherHours_4 : decode cX7_gatherHours 4 = .ok (.iconst 0, 1) := by decide +kernel
theorem dX7_gatherHours_5 : decode cX7_gatherHours 5 = .ok (.iconst 0, 1) := by decide +kernel
theorem dX7_gatherHours_6 : decode cX7_gatherHours 6 = .ok (.iastore, 1) := by decide +kernel
theorem dX7_gatherHours_7 : decode cX7_gatherHours 7 = .ok (.iconst 0, 1) := by decide +kernel
theorem dX7_gatherHours_8 : decode cX7_gatherHours 8 = .ok (.istore_n 1, 1) := by decide +kernel
theorem dX7_gatherHours_9 : decode cX7_gatherHours 9 = .ok (.iload_n 1, 1) := by decide +kernel
theorem dX7_gatherHours_10 : decode cX7_gatherHours 10 = .ok (.bipush 6, 2) := by decide +kernel
theorem dX7_gatherHours_12 : decode cX7_gatherHours 12 = .ok (.if_icmp .ge 55, 3) := by decide +kernel
theorem dX7_gatherHours_15 : decode cX7_gatherHours 15 = .ok (.aload_n 0, 1) := by decide +kernel
theorem dX7_gatherHours_16 : decode cX7_gatherHours 16 = .ok (.getfield 21, 3) := by decide +kernel
theorem dX7_gatherHours_19 : decode cX7_gatherHours 19 = .ok (.iload_n 1, 1) := by decide +kernel
theorem dX7_gatherHours_20 : decode cX7_gatherHours 20 = .ok (.invokevirtual 50, 3) := by decide +kernel
theorem dX7_gatherHours_23 : decode cX7_gatherHours 23 = .ok (.istore_n 2, 1) := by decide +kernel
theorem dX7_gatherHours_24 : decode cX7_gatherHours 24 = .ok (.iconst 1, 1) := by decide +kernel
theorem dX7_gatherHours_25 : decode cX7_gatherHours 25 = .ok (.iload_n 1, 1) := by decide +kernel
theorem dX7_gatherHours_26 : decode cX7_gatherHours 26 = .ok (.ishl, 1) := by decide +kernel
theorem dX7_gatherHours_27 : decode cX7_gatherHours 27 = .ok (.istore_n 3, 1) := by decide +kernel
theorem dX7_gatherHours_28 : decode cX7_gatherHours 28 = .ok (.iconst 0, 1) := by decide +kernel
theorem dX7_gatherHours_29 : decode cX7_gatherHours 29 = .ok (.istore 4, 2) := by decide +kernel
theorem dX7_gatherHours_31 : decode cX7_gatherHours 31 = .ok (.iload 4, 2) := by decide +kernel
theorem dX7_gatherHours_33 : decode cX7_gatherHours 33 = .ok (.iload_n 3, 1) := by decide +kernel
theorem dX7_gatherHours_34 : decode cX7_gatherHours 34 = .ok (.if_icmp .ge 27, 3) := by decide +kernel
theorem dX7_gatherHours_37 : decode cX7_gatherHours 37 = .ok (.aload_n 0, 1) := by decide +kernel
theorem dX7_gatherHours_38 : decode cX7_gatherHours 38 = .ok (.getfield 9, 3) := by decide +kernel
theorem dX7_gatherHours_41 : decode cX7_gatherHours 41 = .ok (.iload_n 3, 1) := by decide +kernel
theorem dX7_gatherHours_42 : decode cX7_gatherHours 42 = .ok (.iload 4, 2) := by decide +kernel
theorem dX7_gatherHours_44 : decode cX7_gatherHours 44 = .ok (.iadd, 1) := by decide +kernel
theorem dX7_gatherHours_45 : decode cX7_gatherHours 45 = .ok (.aload_n 0, 1) := by decide +kernel
theorem dX7_gatherHours_46 : decode cX7_gatherHours 46 = .ok (.getfield 9, 3) := by decide +kernel
theorem dX7_gatherHours_49 : decode cX7_gatherHours 49 = .ok (.iload 4, 2) := by decide +kernel
theorem dX7_gatherHours_51 : decode cX7_gatherHours 51 = .ok (.iaload, 1) := by decide +kernel
theorem dX7_gatherHours_52 : decode cX7_gatherHours 52 = .ok (.iload_n 2, 1) := by decide +kernel
theorem dX7_gatherHours_53 : decode cX7_gatherHours 53 = .ok (.ior, 1) := by decide +kernel
theorem dX7_gatherHours_54 : decode cX7_gatherHours 54 = .ok (.iastore, 1) := by decide +kernel
theorem dX7_gatherHours_55 : decode cX7_gatherHours 55 = .ok (.iinc 4 1, 3) := by decide +kernel
theorem dX7_gatherHours_58 : decode cX7_gatherHours 58 = .ok (.goto (-27), 3) := by decide +kernel
theorem dX7_gatherHours_61 : decode cX7_gatherHours 61 = .ok (.iinc 1 1, 3) := by decide +kernel
theorem dX7_gatherHours_64 : decode cX7_gatherHours 64 = .ok (.goto (-55), 3) := by decide +kernel
theorem dX7_gatherHours_67 : decode cX7_gatherHours 67 = .ok (.return_, 1) := by decide +kernel
def fX7_gatherHours_59_L31 (E61 : Int32 → (Nat → Nat → Int32) → Option ((Nat → Nat → Int32))) (S : Nat → Int32) : Nat → Int32 → Int32 → Int32 → Int32 → (Nat → Nat → Int32) → Option ((Nat → Nat → Int32))
  | 0, _, _, _, _, _ => none
  | n + 1, x9, x10, x11, x12, V13 =>
    (if x11 ≤ x12 then
    E61 x9 V13
    else
    gd (ib x12 64) (
    lt (((V13 60 (x12).toNatClampNeg) ||| x10)) (fun x16 =>
    lt ((x11 + x12)) (fun x17 =>
    gd (ib x17 64) (
    lt (va_up V13 60 (upd (V13 60) (x17).toNatClampNeg x16)) (fun V19 =>
    lt (x12 + (1 : Int32)) (fun x20 =>
    fX7_gatherHours_59_L31 E61 S n x9 x10 x11 x20 V19)))))))
def fX7_gatherHours_59_L9 (S : Nat → Int32) : Nat → Int32 → (Nat → Nat → Int32) → Option ((Nat → Nat → Int32))
  | 0, _, _ => none
  | n + 1, x3, V4 =>
    (if (6 : Int32) ≤ x3 then
    some V4
    else
    bd1 (fX4_hoursOf_30 S V4 x3) (fun r6 =>
    lt (((1 : Int32) <<< (x3 &&& 31))) (fun x8 =>
    bk (fun (x24 : Int32) (V25 : Nat → Nat → Int32) =>
    lt (x24 + (1 : Int32)) (fun x26 =>
    fX7_gatherHours_59_L9 S n x26 V25)) (fun X61_23 =>
    fX7_gatherHours_59_L31 X61_23 S FU x3 r6 x8 (0 : Int32) V4))))
def fX7_gatherHours_59 (S : Nat → Int32) (V : Nat → Nat → Int32) : Option ((Nat → Nat → Int32)) :=
  gd (ib (0 : Int32) 64) (
  lt (va_up V 60 (upd (V 60) ((0 : Int32)).toNatClampNeg (0 : Int32))) (fun V2 =>
  fX7_gatherHours_59_L9 S FU (0 : Int32) V2))
set_option maxHeartbeats 4000000 in
set_option maxRecDepth 100000 in
theorem kX7_gatherHours_59 (l : Launch) (B : jBT) (D : va_G) (ad : Nat → Nat) (cA : Nat → ClassId) (hI : jI ad TC) (S : Nat → Int32) (V : Nat → Nat → Int32) (L : Nat → Int64) (V0 : Nat → Nat → Int32) (h : fX7_gatherHours_59 S V = some V0) : jM l yX7_gatherHours cX7_gatherHours 5 none ({ frames := 2, cells := 0, slots := 0, locals := 44 }) B D TC ad cA [.ref (ad 59)] S V L none S V0 L := by
  refine jM_of (plainFor_of_name (by decide)) TC_ok hI (Nat.le_of_ble_eq_true rfl) ?_
  intro p e s m args below meth c C hr hlk
  refine j_lv (lv2 := [(0, .ref (ad 59))]) rfl ?_
  unfold fX7_gatherHours_59 at h
  have H_fX7_gatherHours_59_L31 : ∀ (E61 : Int32 → (Nat → Nat → Int32) → Option ((Nat → Nat → Int32))) (_ : ∀ (x21 : Int32) (V22 : Nat → Nat → Int32), E61 x21 V22 = some V0 → jW p l e ({ frames := 2, cells := 0, slots := 0, locals := 44 }) s m args below meth c (MQ below (jQc D TC ad cA none s.heap.size S V0 L) args s 0 0 (jA ad TC s.heap.size)) D TC ad cA (jA ad TC s.heap.size) 5 0 0 61 [(0, .ref (ad 59)), (1, .int x21)] [] S V22 L) (n : Nat) (x9 : Int32) (x10 : Int32) (x11 : Int32) (x12 : Int32) (V13 : Nat → Nat → Int32), fX7_gatherHours_59_L31 E61 S n x9 x10 x11 x12 V13 = some V0 → jW p l e ({ frames := 2, cells := 0, slots := 0, locals := 44 }) s m args below meth c (MQ below (jQc D TC ad cA none s.heap.size S V0 L) args s 0 0 (jA ad TC s.heap.size)) D TC ad cA (jA ad TC s.heap.size) 5 0 0 31 [(0, .ref (ad 59)), (1, .int x9), (2, .int x10), (3, .int x11), (4, .int x12)] [] S V13 L := by
    intro E61 HE61
    intro n
    induction n with
    | zero =>
      intro x9 x10 x11 x12 V13 h
      cases (show (none : Option ((Nat → Nat → Int32))) = some V0 from h)
    | succ n ih =>
      intro x9 x10 x11 x12 V13 h
      unfold fX7_gatherHours_59_L31 at h
      refine j_iload C 4 rfl dX7_gatherHours_31 ?_
      refine j_iload_n C 3 rfl dX7_gatherHours_33 rfl ?_
      refine j_icmp_ge (tgt := 61) C dX7_gatherHours_34 (by decide) (fun c14 => ?_) (fun c14 => ?_)
      · have h := (if_pos c14).symm.trans h
        exact j_sub [0, 1] rfl (HE61 _ _ h)
      · have h := (if_neg c14).symm.trans h
        refine j_aload_n C 0 rfl dX7_gatherHours_37 rfl ?_
        refine fg_X7_9_TC_59 C dX7_gatherHours_38 ?_
        refine j_iload_n C 3 rfl dX7_gatherHours_41 rfl ?_
        refine j_iload C 4 rfl dX7_gatherHours_42 ?_
        refine j_iadd C dX7_gatherHours_44 ?_
        refine j_aload_n C 0 rfl dX7_gatherHours_45 rfl ?_
        refine fg_X7_9_TC_59 C dX7_gatherHours_46 ?_
        refine j_iload C 4 rfl dX7_gatherHours_49 ?_
        obtain ⟨g15, h⟩ := gd_elim h
        refine j_iald C tc_60 (ib_in g15) dX7_gatherHours_51 ?_
        refine j_iload_n C 2 rfl dX7_gatherHours_52 rfl ?_
        refine j_ior C dX7_gatherHours_53 ?_
        refine lt_elim h (fun x16 e_x16 h => ?_)
        refine j_top e_x16 ?_
        refine lt_elim h (fun x17 e_x17 h => ?_)
        refine j_top2 e_x17 ?_
        obtain ⟨g18, h⟩ := gd_elim h
        refine j_iast C tc_60 (ib_in g18) dX7_gatherHours_54 ?_
        refine lt_elim h (fun V19 e_V19 h => ?_)
        refine j_V e_V19 ?_
        refine lt_elim h (fun x20 e_x20 h => ?_)
        refine j_iinc C [(4, .int x20), (0, .ref (ad 59)), (1, .int x9), (2, .int x10), (3, .int x11)] 4 dX7_gatherHours_55 rfl ((iinc_eq ci_1).trans e_x20.symm) (by decide) rfl ?_
        refine j_goto (tgt := 31) C dX7_gatherHours_58 (by decide) ?_
        exact j_sub [1, 2, 3, 4, 0] rfl (ih _ _ _ _ _ h)
  have H_fX7_gatherHours_59_L9 : ∀ (n : Nat) (x3 : Int32) (V4 : Nat → Nat → Int32), fX7_gatherHours_59_L9 S n x3 V4 = some V0 → jW p l e ({ frames := 2, cells := 0, slots := 0, locals := 44 }) s m args below meth c (MQ below (jQc D TC ad cA none s.heap.size S V0 L) args s 0 0 (jA ad TC s.heap.size)) D TC ad cA (jA ad TC s.heap.size) 5 0 0 9 [(0, .ref (ad 59)), (1, .int x3)] [] S V4 L := by
    intro n
    induction n with
    | zero =>
      intro x3 V4 h
      cases (show (none : Option ((Nat → Nat → Int32))) = some V0 from h)
    | succ n ih =>
      intro x3 V4 h
      unfold fX7_gatherHours_59_L9 at h
      refine j_iload_n C 1 rfl dX7_gatherHours_9 rfl ?_
      refine j_bipush C dX7_gatherHours_10 cb_6 ?_
      refine j_icmp_ge (tgt := 67) C dX7_gatherHours_12 (by decide) (fun c5 => ?_) (fun c5 => ?_)
      · have h := (if_pos c5).symm.trans h
        cases h
        exact j_vret C hr hlk rfl dX7_gatherHours_67
      · have h := (if_neg c5).symm.trans h
        refine j_aload_n C 0 rfl dX7_gatherHours_15 rfl ?_
        refine fg_X7_21_TC_59 C dX7_gatherHours_16 ?_
        refine j_iload_n C 1 rfl dX7_gatherHours_19 rfl ?_
        obtain ⟨r6, h7, h⟩ := bd1_elim h
        refine j_callV (As := [.int x3]) (rest := []) C (kX4_hoursOf_30 l B D ad cA hI S V4 L x3 _ h7) mw_X4_hoursOf wd592 wd593 wd1295 tc_30 rfl rfl ⟨rfl, rfl, by decide, by decide⟩ ⟨Nat.zero_le _, Nat.zero_le _⟩ rfl rfl (Nat.le_of_ble_eq_true rfl) dX7_gatherHours_20 ?_
        refine j_istore_n C [(2, .int r6), (0, .ref (ad 59)), (1, .int x3)] dX7_gatherHours_23 rfl (by decide) rfl ?_
        refine j_iconst C dX7_gatherHours_24 ci_1 ?_
        refine j_iload_n C 2 rfl dX7_gatherHours_25 rfl ?_
        refine j_ishl C dX7_gatherHours_26 ?_
        refine lt_elim h (fun x8 e_x8 h => ?_)
        refine j_top e_x8 ?_
        refine j_istore_n C [(3, .int x8), (2, .int r6), (0, .ref (ad 59)), (1, .int x3)] dX7_gatherHours_27 rfl (by decide) rfl ?_
        refine j_iconst C dX7_gatherHours_28 ci_0 ?_
        refine j_istore C [(4, .int (0 : Int32)), (3, .int x8), (2, .int r6), (0, .ref (ad 59)), (1, .int x3)] dX7_gatherHours_29 (by decide) rfl ?_
        refine bk_elim h (fun X61_23 e_X61_23 h => ?_)
        have HX61_23 : ∀ (x24 : Int32) (V25 : Nat → Nat → Int32), X61_23 x24 V25 = some V0 → jW p l e ({ frames := 2, cells := 0, slots := 0, locals := 44 }) s m args below meth c (MQ below (jQc D TC ad cA none s.heap.size S V0 L) args s 0 0 (jA ad TC s.heap.size)) D TC ad cA (jA ad TC s.heap.size) 5 0 0 61 [(0, .ref (ad 59)), (1, .int x24)] [] S V25 L := by
          subst e_X61_23
          intro x24 V25 h
          refine lt_elim h (fun x26 e_x26 h => ?_)
          refine j_iinc C [(1, .int x26), (0, .ref (ad 59))] 1 dX7_gatherHours_61 rfl ((iinc_eq ci_1).trans e_x26.symm) (by decide) rfl ?_
          refine j_goto (tgt := 9) C dX7_gatherHours_64 (by decide) ?_
          exact j_sub [1, 0] rfl (ih _ _ h)
        exact j_sub [3, 4, 2, 1, 0] rfl (H_fX7_gatherHours_59_L31 _ HX61_23 FU _ _ _ _ _ h)
  refine j_aload_n C 0 rfl dX7_gatherHours_0 rfl ?_
  refine fg_X7_9_TC_59 C dX7_gatherHours_1 ?_
  refine j_iconst C dX7_gatherHours_4 ci_0 ?_
  refine j_iconst C dX7_gatherHours_5 ci_0 ?_
  obtain ⟨g1, h⟩ := gd_elim h
  refine j_iast C tc_60 (ib_in g1) dX7_gatherHours_6 ?_
  refine lt_elim h (fun V2 e_V2 h => ?_)
  refine j_V e_V2 ?_
  refine j_iconst C dX7_gatherHours_7 ci_0 ?_
  refine j_istore_n C [(1, .int (0 : Int32)), (0, .ref (ad 59))] dX7_gatherHours_8 rfl (by decide) rfl ?_
  exact j_sub [1, 0] rfl (H_fX7_gatherHours_59_L9 FU _ _ h)
theorem dX7_find_0 : decode cX7_find 0 = .ok (.aload_n 0, 1) := by decide +kernel
theorem dX7_find_1 : decode cX7_find 1 = .ok (.invokevirtual 29, 3) := by decide +kernel
theorem dX7_find_4 : decode cX7_find 4 = .ok (.iload_n 2, 1) := by decide +kernel
theorem dX7_find_5 : decode cX7_find 5 = .ok (.istore_n 3, 1) := by decide +kernel
theorem dX7_find_6 : decode cX7_find 6 = .ok (.iload_n 3, 1) := by decide +kernel
theorem dX7_find_7 : decode cX7_find 7 = .ok (.bipush 23, 2) := by decide +kernel
theorem dX7_find_9 : decode cX7_find 9 = .ok (.if_icmp .gt 55, 3) := by decide +kernel
theorem dX7_find_12 : decode cX7_find 12 = .ok (.iload_n 2, 1) := by decide +kernel
theorem dX7_find_13 : decode cX7_find 13 = .ok (.iload_n 3, 1) := by decide +kernel
theorem dX7_find_14 : decode cX7_find 14 = .ok (.invokestatic 32, 3) := by decide +kernel
theorem dX7_find_17 : decode cX7_find 17 = .ok (.istore 4, 2) := by decide +kernel
theorem dX7_find_19 : decode cX7_find 19 = .ok (.aload_n 0, 1) := by decide +kernel
theorem dX7_find_20 : decode cX7_find 20 = .ok (.iload_n 1, 1) := by decide +kernel
theorem dX7_find_21 : decode cX7_find 21 = .ok (.iload 4, 2) := by decide +kernel
theorem dX7_find_23 : decode cX7_find 23 = .ok (.invokevirtual 36, 3) := by decide +kernel
theorem dX7_find_26 : decode cX7_find 26 = .ok (.ifCond .eq 32, 3) := by decide +kernel
theorem dX7_find_29 : decode cX7_find 29 = .ok (.aload_n 0, 1) := by decide +kernel
theorem dX7_find_30 : decode cX7_find 30 = .ok (.iload_n 1, 1) := by decide +kernel
theorem dX7_find_31 : decode cX7_find 31 = .ok (.iload 4, 2) := by decide +kernel
theorem dX7_find_33 : decode cX7_find 33 = .ok (.invokevirtual 40, 3) := by decide +kernel
theorem dX7_find_36 : decode cX7_find 36 = .ok (.aload_n 0, 1) := by decide +kernel
theorem dX7_find_37 : decode cX7_find 37 = .ok (.getfield 15, 3) := by decide +kernel
theorem dX7_find_40 : decode cX7_find 40 = .ok (.iconst 0, 1) := by decide +kernel
theorem dX7_find_41 : decode cX7_find 41 = .ok (.aload_n 0, 1) := by decide +kernel
theorem dX7_find_42 : decode cX7_find 42 = .ok (.getfield 18, 3) := by decide +kernel
theorem dX7_find_45 : decode cX7_find 45 = .ok (.iconst 0, 1) := by decide +kernel
theorem dX7_find_46 : decode cX7_find 46 = .ok (.bipush 6, 2) := by decide +kernel
theorem dX7_find_48 : decode cX7_find 48 = .ok (.invokestatic 44, 3) := by decide +kernel
theorem dX7_find_51 : decode cX7_find 51 = .ok (.aload_n 0, 1) := by decide +kernel
theorem dX7_find_52 : decode cX7_find 52 = .ok (.iconst 1, 1) := by decide +kernel
theorem dX7_find_53 : decode cX7_find 53 = .ok (.putfield 25, 3) := by decide +kernel
theorem dX7_find_56 : decode cX7_find 56 = .ok (.iload_n 3, 1) := by decide +kernel
theorem dX7_find_57 : decode cX7_find 57 = .ok (.ireturn, 1) := by decide +kernel
theorem dX7_find_58 : decode cX7_find 58 = .ok (.iinc 3 1, 3) := by decide +kernel
theorem dX7_find_61 : decode cX7_find 61 = .ok (.goto (-55), 3) := by decide +kernel
theorem dX7_find_64 : decode cX7_find 64 = .ok (.iconst (-1), 1) := by decide +kernel
theorem dX7_find_65 : decode cX7_find 65 = .ok (.ireturn, 1) := by decide +kernel
def fX7_find_59_L6 (E29 : Int32 → Int32 → Int32 → (Nat → Int32) → (Nat → Nat → Int32) → Option (Int32 × (Nat → Int32) × (Nat → Nat → Int32))) : Nat → Int32 → Int32 → Int32 → (Nat → Int32) → (Nat → Nat → Int32) → Option (Int32 × (Nat → Int32) × (Nat → Nat → Int32))
  | 0, _, _, _, _, _ => none
  | n + 1, x3, x4, x5, S6, V7 =>
    (if (23 : Int32) < x5 then
    some ((-1 : Int32), S6, V7)
    else
    bd1 (fX11_hourBits x4 x5) (fun r9 =>
    bd1 (fX7_canVisit_59 V7 x3 r9) (fun r11 =>
    (if r11 = 0 then
    lt (x5 + (1 : Int32)) (fun x14 =>
    fX7_find_59_L6 E29 n x3 x4 x14 S6 V7)
    else
    E29 x3 x5 r9 S6 V7))))
def fX7_find_59 (S : Nat → Int32) (V : Nat → Nat → Int32) (a1 : Int32) (a2 : Int32) : Option (Int32 × (Nat → Int32) × (Nat → Nat → Int32)) :=
  bd1 (fX7_gatherHours_59 S V) (fun V1 =>
  bk (fun (x21 : Int32) (x22 : Int32) (x23 : Int32) (S24 : Nat → Int32) (V25 : Nat → Nat → Int32) =>
  bd1 (fX7_choose_59 V25 x21 x23) (fun V26 =>
  gd (cpr (0 : Int32) (0 : Int32) (6 : Int32) 6 6) (
  lt (va_up V26 62 (va_cpy (V26 61) (V26 62) ((0 : Int32)).toNatClampNeg ((0 : Int32)).toNatClampNeg ((6 : Int32)).toNatClampNeg)) (fun V29 =>
  lt (va_up S24 5903 (1 : Int32)) (fun S30 =>
  some (x22, S30, V29)))))) (fun X29_20 =>
  fX7_find_59_L6 X29_20 FU a1 a2 a2 S V1))
set_option maxHeartbeats 4000000 in
set_option maxRecDepth 100000 in
theorem kX7_find_59 (l : Launch) (B : jBT) (D : va_G) (ad : Nat → Nat) (cA : Nat → ClassId) (hI : jI ad TC) (S : Nat → Int32) (V : Nat → Nat → Int32) (L : Nat → Int64) (a1 : Int32) (a2 : Int32) (r0 : Int32) (S0 : Nat → Int32) (V0 : Nat → Nat → Int32) (h : fX7_find_59 S V a1 a2 = some (r0, S0, V0)) : jM l yX7_find cX7_find 5 (some .int) ({ frames := 4, cells := 0, slots := 0, locals := 92 }) B D TC ad cA [.ref (ad 59), .int a1, .int a2] S V L (some (.int r0)) S0 V0 L := by
  refine jM_of (plainFor_of_name (by decide)) TC_ok hI (Nat.le_of_ble_eq_true rfl) ?_
  intro p e s m args below meth c C hr hlk
  refine j_lv (lv2 := [(0, .ref (ad 59)), (1, .int a1), (2, .int a2)]) rfl ?_
  unfold fX7_find_59 at h
  have H_fX7_find_59_L6 : ∀ (E29 : Int32 → Int32 → Int32 → (Nat → Int32) → (Nat → Nat → Int32) → Option (Int32 × (Nat → Int32) × (Nat → Nat → Int32))) (_ : ∀ (x15 : Int32) (x16 : Int32) (x17 : Int32) (S18 : Nat → Int32) (V19 : Nat → Nat → Int32), E29 x15 x16 x17 S18 V19 = some (r0, S0, V0) → jW p l e ({ frames := 4, cells := 0, slots := 0, locals := 92 }) s m args below meth c (MQ below (jQc D TC ad cA (some (.int r0)) s.heap.size S0 V0 L) args s 0 0 (jA ad TC s.heap.size)) D TC ad cA (jA ad TC s.heap.size) 5 0 0 29 [(0, .ref (ad 59)), (1, .int x15), (3, .int x16), (4, .int x17)] [] S18 V19 L) (n : Nat) (x3 : Int32) (x4 : Int32) (x5 : Int32) (S6 : Nat → Int32) (V7 : Nat → Nat → Int32), fX7_find_59_L6 E29 n x3 x4 x5 S6 V7 = some (r0, S0, V0) → jW p l e ({ frames := 4, cells := 0, slots := 0, locals := 92 }) s m args below meth c (MQ below (jQc D TC ad cA (some (.int r0)) s.heap.size S0 V0 L) args s 0 0 (jA ad TC s.heap.size)) D TC ad cA (jA ad TC s.heap.size) 5 0 0 6 [(0, .ref (ad 59)), (1, .int x3), (2, .int x4), (3, .int x5)] [] S6 V7 L := by
    intro E29 HE29
    intro n
    induction n with
    | zero =>
      intro x3 x4 x5 S6 V7 h
      cases (show (none : Option (Int32 × (Nat → Int32) × (Nat → Nat → Int32))) = some (r0, S0, V0) from h)
    | succ n ih =>
      intro x3 x4 x5 S6 V7 h
      unfold fX7_find_59_L6 at h
      refine j_iload_n C 3 rfl dX7_find_6 rfl ?_
      refine j_bipush C dX7_find_7 cb_23 ?_
      refine j_icmp_gt (tgt := 64) C dX7_find_9 (by decide) (fun c8 => ?_) (fun c8 => ?_)
      · have h := (if_pos c8).symm.trans h
        refine j_iconst C dX7_find_64 ci_m1 ?_
        cases h
        exact j_iret C hr hlk rfl dX7_find_65
      · have h := (if_neg c8).symm.trans h
        refine j_iload_n C 2 rfl dX7_find_12 rfl ?_
        refine j_iload_n C 3 rfl dX7_find_13 rfl ?_
        obtain ⟨r9, h10, h⟩ := bd1_elim h
        refine j_callN (As := [.int x4, .int x5]) (rest := []) (host := "ClockLodgers") C (kX11_hourBits l B D ad cA hI S6 V7 L x4 x5 _ h10) mw_X11_hourBits wd585 (by decide +kernel) ⟨rfl, rfl, by decide, by decide⟩ ⟨Nat.zero_le _, Nat.zero_le _⟩ rfl rfl (Nat.le_of_ble_eq_true rfl) dX7_find_14 ?_
        refine j_istore C [(4, .int r9), (0, .ref (ad 59)), (1, .int x3), (2, .int x4), (3, .int x5)] dX7_find_17 (by decide) rfl ?_
        refine j_aload_n C 1 rfl dX7_find_19 rfl ?_
        refine j_iload_n C 2 rfl dX7_find_20 rfl ?_
        refine j_iload C 0 rfl dX7_find_21 ?_
        obtain ⟨r11, h12, h⟩ := bd1_elim h
        refine j_callV (As := [.int x3, .int r9]) (rest := []) C (kX7_canVisit_59 l B D ad cA hI S6 V7 L x3 r9 _ h12) mw_X7_canVisit wd1299 wd51 wd1297 tc_59 rfl rfl ⟨rfl, rfl, by decide, by decide⟩ ⟨Nat.zero_le _, Nat.zero_le _⟩ rfl rfl (Nat.le_of_ble_eq_true rfl) dX7_find_23 ?_
        refine j_if_eq (tgt := 58) C dX7_find_26 (by decide) (fun c13 => ?_) (fun c13 => ?_)
        · have h := (if_pos c13).symm.trans h
          refine lt_elim h (fun x14 e_x14 h => ?_)
          refine j_iinc C [(3, .int x14), (4, .int r9), (0, .ref (ad 59)), (1, .int x3), (2, .int x4)] 4 dX7_find_58 rfl ((iinc_eq ci_1).trans e_x14.symm) (by decide) rfl ?_
          refine j_goto (tgt := 6) C dX7_find_61 (by decide) ?_
          exact j_sub [2, 3, 4, 0] rfl (ih _ _ _ _ _ h)
        · have h := (if_neg c13).symm.trans h
          exact j_sub [1, 2, 4, 0] rfl (HE29 _ _ _ _ _ h)
  refine j_aload_n C 0 rfl dX7_find_0 rfl ?_
  obtain ⟨V1, h2, h⟩ := bd1_elim h
  refine j_callV (As := []) (rest := []) C (kX7_gatherHours_59 l B D ad cA hI S V L _ h2) mw_X7_gatherHours wd1293 wd50 wd1291 tc_59 rfl rfl ⟨rfl, rfl, by decide, by decide⟩ ⟨Nat.zero_le _, Nat.zero_le _⟩ rfl rfl (Nat.le_of_ble_eq_true rfl) dX7_find_1 ?_
  refine j_iload_n C 2 rfl dX7_find_4 rfl ?_
  refine j_istore_n C [(3, .int a2), (0, .ref (ad 59)), (1, .int a1), (2, .int a2)] dX7_find_5 rfl (by decide) rfl ?_
  refine bk_elim h (fun X29_20 e_X29_20 h => ?_)
  have HX29_20 : ∀ (x21 : Int32) (x22 : Int32) (x23 : Int32) (S24 : Nat → Int32) (V25 : Nat → Nat → Int32), X29_20 x21 x22 x23 S24 V25 = some (r0, S0, V0) → jW p l e ({ frames := 4, cells := 0, slots := 0, locals := 92 }) s m args below meth c (MQ below (jQc D TC ad cA (some (.int r0)) s.heap.size S0 V0 L) args s 0 0 (jA ad TC s.heap.size)) D TC ad cA (jA ad TC s.heap.size) 5 0 0 29 [(0, .ref (ad 59)), (1, .int x21), (3, .int x22), (4, .int x23)] [] S24 V25 L := by
    subst e_X29_20
    intro x21 x22 x23 S24 V25 h
    refine j_aload_n C 0 rfl dX7_find_29 rfl ?_
    refine j_iload_n C 1 rfl dX7_find_30 rfl ?_
    refine j_iload C 3 rfl dX7_find_31 ?_
    obtain ⟨V26, h27, h⟩ := bd1_elim h
    refine j_callV (As := [.int x21, .int x23]) (rest := []) C (kX7_choose_59 l B D ad cA hI S24 V25 L x21 x23 _ h27) mw_X7_choose wd1304 wd52 wd1302 tc_59 rfl rfl ⟨rfl, rfl, by decide, by decide⟩ ⟨Nat.zero_le _, Nat.zero_le _⟩ rfl rfl (Nat.le_of_ble_eq_true rfl) dX7_find_33 ?_
    refine j_aload_n C 0 rfl dX7_find_36 rfl ?_
    refine fg_X7_15_TC_59 C dX7_find_37 ?_
    refine j_iconst C dX7_find_40 ci_0 ?_
    refine j_aload_n C 0 rfl dX7_find_41 rfl ?_
    refine fg_X7_18_TC_59 C dX7_find_42 ?_
    refine j_iconst C dX7_find_45 ci_0 ?_
    refine j_bipush C dX7_find_46 cb_6 ?_
    obtain ⟨g28, h⟩ := gd_elim h
    refine j_copy C tc_61 tc_62 wd1310 wd674 wd673 wd122 rfl g28 (fun _ _ => rfl) (by decide) (Nat.le_of_ble_eq_true rfl) dX7_find_48 ?_
    refine lt_elim h (fun V29 e_V29 h => ?_)
    refine j_V e_V29 ?_
    refine j_aload_n C 0 rfl dX7_find_51 rfl ?_
    refine j_iconst C dX7_find_52 ci_1 ?_
    refine fp_X7_25_TC_59 C rfl rfl dX7_find_53 ?_
    refine lt_elim h (fun S30 e_S30 h => ?_)
    refine j_S e_S30 ?_
    refine j_iload_n C 2 rfl dX7_find_56 rfl ?_
    cases h
    exact j_iret C hr hlk rfl dX7_find_57
  exact j_sub [1, 2, 3, 0] rfl (H_fX7_find_59_L6 _ HX29_20 FU _ _ _ _ _ h)
theorem dX7_forget_0 : decode cX7_forget 0 = .ok (.aload_n 0, 1) := by decide +kernel
theorem dX7_forget_1 : decode cX7_forget 1 = .ok (.iconst 0, 1) := by decide +kernel
theorem dX7_forget_2 : decode cX7_forget 2 = .ok (.putfield 25, 3) := by decide +kernel
theorem dX7_forget_5 : decode cX7_forget 5 = .ok (.return_, 1) := by decide +kernel
def fX7_forget_59 (S : Nat → Int32) : Option ((Nat → Int32)) :=
  lt (va_up S 5903 (0 : Int32)) (fun S1 =>
  some S1)
set_option maxHeartbeats 4000000 in
set_option maxRecDepth 100000 in
theorem kX7_forget_59 (l : Launch) (B : jBT) (D : va_G) (ad : Nat → Nat) (cA : Nat → ClassId) (hI : jI ad TC) (S : Nat → Int32) (V : Nat → Nat → Int32) (L : Nat → Int64) (S0 : Nat → Int32) (h : fX7_forget_59 S = some S0) : jM l yX7_forget cX7_forget 1 none ({ frames := 0, cells := 0, slots := 0, locals := 0 }) B D TC ad cA [.ref (ad 59)] S V L none S0 V L := by
  refine jM_of (plainFor_of_name (by decide)) TC_ok hI (Nat.le_of_ble_eq_true rfl) ?_
  intro p e s m args below meth c C hr hlk
  refine j_lv (lv2 := [(0, .ref (ad 59))]) rfl ?_
  unfold fX7_forget_59 at h
  refine j_aload_n C 0 rfl dX7_forget_0 rfl ?_
  refine j_iconst C dX7_forget_1 ci_0 ?_
  refine fp_X7_25_TC_59 C rfl rfl dX7_forget_2 ?_
  refine lt_elim h (fun S1 e_S1 h => ?_)
  refine j_S e_S1 ?_
  cases h
  exact j_vret C hr hlk rfl dX7_forget_5
theorem dX2_copyFrom_0 : decode cX2_copyFrom 0 = .ok (.aload_n 0, 1) := by decide +kernel
theorem dX2_copyFrom_1 : decode cX2_copyFrom 1 = .ok (.aload_n 1, 1) := by decide +kernel
theorem dX2_copyFrom_2 : decode cX2_copyFrom 2 = .ok (.getfield 33, 3) := by decide +kernel
theorem dX2_copyFrom_5 : decode cX2_copyFrom 5 = .ok (.putfield 33, 3) := by decide +kernel
theorem dX2_copyFrom_8 : decode cX2_copyFrom 8 = .ok (.aload_n 0, 1) := by decide +kernel
theorem dX2_copyFrom_9 : decode cX2_copyFrom 9 = .ok (.aload_n 1, 1) := by decide +kernel
theorem dX2_copyFrom_10 : decode cX2_copyFrom 10 = .ok (.getfield 43, 3) := by decide +kernel
theorem dX2_copyFrom_13 : decode cX2_copyFrom 13 = .ok (.putfield 43, 3) := by decide +kernel
theorem dX2_copyFrom_16 : decode cX2_copyFrom 16 = .ok (.aload_n 0, 1) := by decide +kernel
theorem dX2_copyFrom_17 : decode cX2_copyFrom 17 = .ok (.aload_n 1, 1) := by decide +kernel
theorem dX2_copyFrom_18 : decode cX2_copyFrom 18 = .ok (.getfield 37, 3) := by decide +kernel
theorem dX2_copyFrom_21 : decode cX2_copyFrom 21 = .ok (.putfield 37, 3) := by decide +kernel
theorem dX2_copyFrom_24 : decode cX2_copyFrom 24 = .ok (.aload_n 0, 1) := by decide +kernel
theorem dX2_copyFrom_25 : decode cX2_copyFrom 25 = .ok (.aload_n 1, 1) := by decide +kernel
theorem dX2_copyFrom_26 : decode cX2_copyFrom 26 = .ok (.getfield 40, 3) := by decide +kernel
theorem dX2_copyFrom_29 : decode cX2_copyFrom 29 = .ok (.putfield 40, 3) := by decide +kernel
theorem dX2_copyFrom_32 : decode cX2_copyFrom 32 = .ok (.aload_n 0, 1) := by decide +kernel
theorem dX2_copyFrom_33 : decode cX2_copyFrom 33 = .ok (.aload_n 1, 1) := by decide +kernel
theorem dX2_copyFrom_34 : decode cX2_copyFrom 34 = .ok (.getfield 46, 3) := by decide +kernel
theorem dX2_copyFrom_37 : decode cX2_copyFrom 37 = .ok (.putfield 46, 3) := by decide +kernel
theorem dX2_copyFrom_40 : decode cX2_copyFrom 40 = .ok (.aload_n 0, 1) := by decide +kernel
theorem dX2_copyFrom_41 : decode cX2_copyFrom 41 = .ok (.aload_n 1, 1) := by decide +kernel
theorem dX2_copyFrom_42 : decode cX2_copyFrom 42 = .ok (.getfield 49, 3) := by decide +kernel
theorem dX2_copyFrom_45 : decode cX2_copyFrom 45 = .ok (.putfield 49, 3) := by decide +kernel
theorem dX2_copyFrom_48 : decode cX2_copyFrom 48 = .ok (.aload_n 0, 1) := by decide +kernel
theorem dX2_copyFrom_49 : decode cX2_copyFrom 49 = .ok (.aload_n 1, 1) := by decide +kernel
theorem dX2_copyFrom_50 : decode cX2_copyFrom 50 = .ok (.getfield 52, 3) := by decide +kernel
theorem dX2_copyFrom_53 : decode cX2_copyFrom 53 = .ok (.putfield 52, 3) := by decide +kernel
theorem dX2_copyFrom_56 : decode cX2_copyFrom 56 = .ok (.aload_n 0, 1) := by decide +kernel
theorem dX2_copyFrom_57 : decode cX2_copyFrom 57 = .ok (.aload_n 1, 1) := by decide +kernel
theorem dX2_copyFrom_58 : decode cX2_copyFrom 58 = .ok (.getfield 55, 3) := by decide +kernel
theorem dX2_copyFrom_61 : decode cX2_copyFrom 61 = .ok (.putfield 55, 3) := by decide +kernel
theorem dX2_copyFrom_64 : decode cX2_copyFrom 64 = .ok (.aload_n 1, 1) := by decide +kernel
theorem dX2_copyFrom_65 : decode cX2_copyFrom 65 = .ok (.getfield 9, 3) := by decide +kernel
theorem dX2_copyFrom_68 : decode cX2_copyFrom 68 = .ok (.iconst 0, 1) := by decide +kernel
theorem dX2_copyFrom_69 : decode cX2_copyFrom 69 = .ok (.aload_n 0, 1) := by decide +kernel
theorem dX2_copyFrom_70 : decode cX2_copyFrom 70 = .ok (.getfield 9, 3) := by decide +kernel
theorem dX2_copyFrom_73 : decode cX2_copyFrom 73 = .ok (.iconst 0, 1) := by decide +kernel
theorem dX2_copyFrom_74 : decode cX2_copyFrom 74 = .ok (.bipush 6, 2) := by decide +kernel
theorem dX2_copyFrom_76 : decode cX2_copyFrom 76 = .ok (.invokestatic 58, 3) := by decide +kernel
theorem dX2_copyFrom_79 : decode cX2_copyFrom 79 = .ok (.aload_n 1, 1) := by decide +kernel
theorem dX2_copyFrom_80 : decode cX2_copyFrom 80 = .ok (.getfield 15, 3) := by decide +kernel
theorem dX2_copyFrom_83 : decode cX2_copyFrom 83 = .ok (.iconst 0, 1) := by decide +kernel
theorem dX2_copyFrom_84 : decode cX2_copyFrom 84 = .ok (.aload_n 0, 1) := by decide +kernel
theorem dX2_copyFrom_85 : decode cX2_copyFrom 85 = .ok (.getfield 15, 3) := by decide +kernel
theorem dX2_copyFrom_88 : decode cX2_copyFrom 88 = .ok (.iconst 0, 1) := by decide +kernel
theorem dX2_copyFrom_89 : decode cX2_copyFrom 89 = .ok (.bipush 6, 2) := by decide +kernel
theorem dX2_copyFrom_91 : decode cX2_copyFrom 91 = .ok (.invokestatic 58, 3) := by decide +kernel
theorem dX2_copyFrom_94 : decode cX2_copyFrom 94 = .ok (.aload_n 1, 1) := by decide +kernel
theorem dX2_copyFrom_95 : decode cX2_copyFrom 95 = .ok (.getfield 18, 3) := by decide +kernel
theorem dX2_copyFrom_98 : decode cX2_copyFrom 98 = .ok (.iconst 0, 1) := by decide +kernel
theorem dX2_copyFrom_99 : decode cX2_copyFrom 99 = .ok (.aload_n 0, 1) := by decide +kernel
theorem dX2_copyFrom_100 : decode cX2_copyFrom 100 = .ok (.getfield 18, 3) := by decide +kernel
theorem dX2_copyFrom_103 : decode cX2_copyFrom 103 = .ok (.iconst 0, 1) := by decide +kernel
theorem dX2_copyFrom_104 : decode cX2_copyFrom 104 = .ok (.bipush 6, 2) := by decide +kernel
theorem dX2_copyFrom_106 : decode cX2_copyFrom 106 = .ok (.invokestatic 58, 3) := by decide +kernel
theorem dX2_copyFrom_109 : decode cX2_copyFrom 109 = .ok (.aload_n 1, 1) := by decide +kernel
theorem dX2_copyFrom_110 : decode cX2_copyFrom 110 = .ok (.getfield 21, 3) := by decide +kernel
theorem dX2_copyFrom_113 : decode cX2_copyFrom 113 = .ok (.iconst 0, 1) := by decide +kernel
theorem dX2_copyFrom_114 : decode cX2_copyFrom 114 = .ok (.aload_n 0, 1) := by decide +kernel
theorem dX2_copyFrom_115 : decode cX2_copyFrom 115 = .ok (.getfield 21, 3) := by decide +kernel
theorem dX2_copyFrom_118 : decode cX2_copyFrom 118 = .ok (.iconst 0, 1) := by decide +kernel
theorem dX2_copyFrom_119 : decode cX2_copyFrom 119 = .ok (.bipush 6, 2) := by decide +kernel
theorem dX2_copyFrom_121 : decode cX2_copyFrom 121 = .ok (.invokestatic 58, 3) := by decide +kernel
theorem dX2_copyFrom_124 : decode cX2_copyFrom 124 = .ok (.aload_n 1, 1) := by decide +kernel
theorem dX2_copyFrom_125 : decode cX2_copyFrom 125 = .ok (.getfield 24, 3) := by decide +kernel
theorem dX2_copyFrom_128 : decode cX2_copyFrom 128 = .ok (.iconst 0, 1) := by decide +kernel
theorem dX2_copyFrom_129 : decode cX2_copyFrom 129 = .ok (.aload_n 0, 1) := by decide +kernel
theorem dX2_copyFrom_130 : decode cX2_copyFrom 130 = .ok (.getfield 24, 3) := by decide +kernel
theorem dX2_copyFrom_133 : decode cX2_copyFrom 133 = .ok (.iconst 0, 1) := by decide +kernel
theorem dX2_copyFrom_134 : decode cX2_copyFrom 134 = .ok (.bipush 6, 2) := by decide +kernel
theorem dX2_copyFrom_136 : decode cX2_copyFrom 136 = .ok (.invokestatic 58, 3) := by decide +kernel
theorem dX2_copyFrom_139 : decode cX2_copyFrom 139 = .ok (.aload_n 1, 1) := by decide +kernel
theorem dX2_copyFrom_140 : decode cX2_copyFrom 140 = .ok (.getfield 30, 3) := by decide +kernel
theorem dX2_copyFrom_143 : decode cX2_copyFrom 143 = .ok (.iconst 0, 1) := by decide +kernel
theorem dX2_copyFrom_144 : decode cX2_copyFrom 144 = .ok (.aload_n 0, 1) := by decide +kernel
theorem dX2_copyFrom_145 : decode cX2_copyFrom 145 = .ok (.getfield 30, 3) := by decide +kernel
theorem dX2_copyFrom_148 : decode cX2_copyFrom 148 = .ok (.iconst 0, 1) := by decide +kernel
theorem dX2_copyFrom_149 : decode cX2_copyFrom 149 = .ok (.iconst 4, 1) := by decide +kernel
theorem dX2_copyFrom_150 : decode cX2_copyFrom 150 = .ok (.invokestatic 58, 3) := by decide +kernel
theorem dX2_copyFrom_153 : decode cX2_copyFrom 153 = .ok (.aload_n 1, 1) := by decide +kernel
theorem dX2_copyFrom_154 : decode cX2_copyFrom 154 = .ok (.getfield 27, 3) := by decide +kernel
theorem dX2_copyFrom_157 : decode cX2_copyFrom 157 = .ok (.iconst 0, 1) := by decide +kernel
theorem dX2_copyFrom_158 : decode cX2_copyFrom 158 = .ok (.aload_n 0, 1) := by decide +kernel
theorem dX2_copyFrom_159 : decode cX2_copyFrom 159 = .ok (.getfield 27, 3) := by decide +kernel
theorem dX2_copyFrom_162 : decode cX2_copyFrom 162 = .ok (.iconst 0, 1) := by decide +kernel
theorem dX2_copyFrom_163 : decode cX2_copyFrom 163 = .ok (.aload_n 0, 1) := by decide +kernel
theorem dX2_copyFrom_164 : decode cX2_copyFrom 164 = .ok (.getfield 55, 3) := by decide +kernel
theorem dX2_copyFrom_167 : decode cX2_copyFrom 167 = .ok (.invokestatic 58, 3) := by decide +kernel
theorem dX2_copyFrom_170 : decode cX2_copyFrom 170 = .ok (.return_, 1) := by decide +kernel
def fX2_copyFrom_3_12 (S : Nat → Int32) (V : Nat → Nat → Int32) : Option ((Nat → Int32) × (Nat → Nat → Int32)) :=
  lt ((S 1200)) (fun x1 =>
  lt (va_up S 300 x1) (fun S2 =>
  lt ((S2 1201)) (fun x3 =>
  lt (va_up S2 301 x3) (fun S4 =>
  lt ((S4 1202)) (fun x5 =>
  lt (va_up S4 302 x5) (fun S6 =>
  lt ((S6 1203)) (fun x7 =>
  lt (va_up S6 303 x7) (fun S8 =>
  lt ((S8 1204)) (fun x9 =>
  lt (va_up S8 304 x9) (fun S10 =>
  lt ((S10 1205)) (fun x11 =>
  lt (va_up S10 305 x11) (fun S12 =>
  lt ((S12 1206)) (fun x13 =>
  lt (va_up S12 306 x13) (fun S14 =>
  lt ((S14 1213)) (fun x15 =>
  lt (va_up S14 313 x15) (fun S16 =>
  gd (cpr (0 : Int32) (0 : Int32) (6 : Int32) 6 6) (
  lt (va_up V 4 (va_cpy (V 13) (V 4) ((0 : Int32)).toNatClampNeg ((0 : Int32)).toNatClampNeg ((6 : Int32)).toNatClampNeg)) (fun V18 =>
  gd (cpr (0 : Int32) (0 : Int32) (6 : Int32) 6 6) (
  lt (va_up V18 5 (va_cpy (V18 14) (V18 5) ((0 : Int32)).toNatClampNeg ((0 : Int32)).toNatClampNeg ((6 : Int32)).toNatClampNeg)) (fun V20 =>
  gd (cpr (0 : Int32) (0 : Int32) (6 : Int32) 6 6) (
  lt (va_up V20 6 (va_cpy (V20 15) (V20 6) ((0 : Int32)).toNatClampNeg ((0 : Int32)).toNatClampNeg ((6 : Int32)).toNatClampNeg)) (fun V22 =>
  gd (cpr (0 : Int32) (0 : Int32) (6 : Int32) 6 6) (
  lt (va_up V22 7 (va_cpy (V22 16) (V22 7) ((0 : Int32)).toNatClampNeg ((0 : Int32)).toNatClampNeg ((6 : Int32)).toNatClampNeg)) (fun V24 =>
  gd (cpr (0 : Int32) (0 : Int32) (6 : Int32) 6 6) (
  lt (va_up V24 8 (va_cpy (V24 17) (V24 8) ((0 : Int32)).toNatClampNeg ((0 : Int32)).toNatClampNeg ((6 : Int32)).toNatClampNeg)) (fun V26 =>
  gd (cpr (0 : Int32) (0 : Int32) (4 : Int32) 4 4) (
  lt (va_up V26 10 (va_cpy (V26 19) (V26 10) ((0 : Int32)).toNatClampNeg ((0 : Int32)).toNatClampNeg ((4 : Int32)).toNatClampNeg)) (fun V28 =>
  lt ((S16 313)) (fun x29 =>
  gd (cpr (0 : Int32) (0 : Int32) x29 600 600) (
  lt (va_up V28 9 (va_cpy (V28 18) (V28 9) ((0 : Int32)).toNatClampNeg ((0 : Int32)).toNatClampNeg (x29).toNatClampNeg)) (fun V31 =>
  some (S16, V31))))))))))))))))))))))))))))))))
set_option maxHeartbeats 4000000 in
set_option maxRecDepth 100000 in
theorem kX2_copyFrom_3_12 (l : Launch) (B : jBT) (D : va_G) (ad : Nat → Nat) (cA : Nat → ClassId) (hI : jI ad TC) (S : Nat → Int32) (V : Nat → Nat → Int32) (L : Nat → Int64) (S0 : Nat → Int32) (V0 : Nat → Nat → Int32) (h : fX2_copyFrom_3_12 S V = some (S0, V0)) : jM l yX2_copyFrom cX2_copyFrom 2 none ({ frames := 1, cells := 0, slots := 0, locals := 60 }) B D TC ad cA [.ref (ad 3), .ref (ad 12)] S V L none S0 V0 L := by
  refine jM_of (plainFor_of_name (by decide)) TC_ok hI (Nat.le_of_ble_eq_true rfl) ?_
  intro p e s m args below meth c C hr hlk
  refine j_lv (lv2 := [(0, .ref (ad 3)), (1, .ref (ad 12))]) rfl ?_
  unfold fX2_copyFrom_3_12 at h
  refine j_aload_n C 0 rfl dX2_copyFrom_0 rfl ?_
  refine j_aload_n C 1 rfl dX2_copyFrom_1 rfl ?_
  refine fg_X2_33_TC_12 C dX2_copyFrom_2 ?_
  refine lt_elim h (fun x1 e_x1 h => ?_)
  refine j_top e_x1 ?_
  refine fp_X2_33_TC_3 C dX2_copyFrom_5 ?_
  refine lt_elim h (fun S2 e_S2 h => ?_)
  refine j_S e_S2 ?_
  refine j_aload_n C 0 rfl dX2_copyFrom_8 rfl ?_
  refine j_aload_n C 1 rfl dX2_copyFrom_9 rfl ?_
  refine fg_X2_43_TC_12 C dX2_copyFrom_10 ?_
  refine lt_elim h (fun x3 e_x3 h => ?_)
  refine j_top e_x3 ?_
  refine fp_X2_43_TC_3 C dX2_copyFrom_13 ?_
  refine lt_elim h (fun S4 e_S4 h => ?_)
  refine j_S e_S4 ?_
  refine j_aload_n C 0 rfl dX2_copyFrom_16 rfl ?_
  refine j_aload_n C 1 rfl dX2_copyFrom_17 rfl ?_
  refine fg_X2_37_TC_12 C dX2_copyFrom_18 ?_
  refine lt_elim h (fun x5 e_x5 h => ?_)
  refine j_top e_x5 ?_
  refine fp_X2_37_TC_3 C dX2_copyFrom_21 ?_
  refine lt_elim h (fun S6 e_S6 h => ?_)
  refine j_S e_S6 ?_
  refine j_aload_n C 0 rfl dX2_copyFrom_24 rfl ?_
  refine j_aload_n C 1 rfl dX2_copyFrom_25 rfl ?_
  refine fg_X2_40_TC_12 C dX2_copyFrom_26 ?_
  refine lt_elim h (fun x7 e_x7 h => ?_)
  refine j_top e_x7 ?_
  refine fp_X2_40_TC_3 C dX2_copyFrom_29 ?_
  refine lt_elim h (fun S8 e_S8 h => ?_)
  refine j_S e_S8 ?_
  refine j_aload_n C 0 rfl dX2_copyFrom_32 rfl ?_
  refine j_aload_n C 1 rfl dX2_copyFrom_33 rfl ?_
  refine fg_X2_46_TC_12 C dX2_copyFrom_34 ?_
  refine lt_elim h (fun x9 e_x9 h => ?_)
  refine j_top e_x9 ?_
  refine fp_X2_46_TC_3 C dX2_copyFrom_37 ?_
  refine lt_elim h (fun S10 e_S10 h => ?_)
  refine j_S e_S10 ?_
  refine j_aload_n C 0 rfl dX2_copyFrom_40 rfl ?_
  refine j_aload_n C 1 rfl dX2_copyFrom_41 rfl ?_
  refine fg_X2_49_TC_12 C dX2_copyFrom_42 ?_
  refine lt_elim h (fun x11 e_x11 h => ?_)
  refine j_top e_x11 ?_
  refine fp_X2_49_TC_3 C dX2_copyFrom_45 ?_
  refine lt_elim h (fun S12 e_S12 h => ?_)
  refine j_S e_S12 ?_
  refine j_aload_n C 0 rfl dX2_copyFrom_48 rfl ?_
  refine j_aload_n C 1 rfl dX2_copyFrom_49 rfl ?_
  refine fg_X2_52_TC_12 C dX2_copyFrom_50 ?_
  refine lt_elim h (fun x13 e_x13 h => ?_)
  refine j_top e_x13 ?_
  refine fp_X2_52_TC_3 C dX2_copyFrom_53 ?_
  refine lt_elim h (fun S14 e_S14 h => ?_)
  refine j_S e_S14 ?_
  refine j_aload_n C 0 rfl dX2_copyFrom_56 rfl ?_
  refine j_aload_n C 1 rfl dX2_copyFrom_57 rfl ?_
  refine fg_X2_55_TC_12 C dX2_copyFrom_58 ?_
  refine lt_elim h (fun x15 e_x15 h => ?_)
  refine j_top e_x15 ?_
  refine fp_X2_55_TC_3 C dX2_copyFrom_61 ?_
  refine lt_elim h (fun S16 e_S16 h => ?_)
  refine j_S e_S16 ?_
  refine j_aload_n C 1 rfl dX2_copyFrom_64 rfl ?_
  refine fg_X2_9_TC_12 C dX2_copyFrom_65 ?_
  refine j_iconst C dX2_copyFrom_68 ci_0 ?_
  refine j_aload_n C 0 rfl dX2_copyFrom_69 rfl ?_
  refine fg_X2_9_TC_3 C dX2_copyFrom_70 ?_
  refine j_iconst C dX2_copyFrom_73 ci_0 ?_
  refine j_bipush C dX2_copyFrom_74 cb_6 ?_
  obtain ⟨g17, h⟩ := gd_elim h
  refine j_copy C tc_13 tc_4 wd1033 wd674 wd673 wd122 rfl g17 (fun _ _ => rfl) (by decide) (Nat.le_of_ble_eq_true rfl) dX2_copyFrom_76 ?_
  refine lt_elim h (fun V18 e_V18 h => ?_)
  refine j_V e_V18 ?_
  refine j_aload_n C 1 rfl dX2_copyFrom_79 rfl ?_
  refine fg_X2_15_TC_12 C dX2_copyFrom_80 ?_
  refine j_iconst C dX2_copyFrom_83 ci_0 ?_
  refine j_aload_n C 0 rfl dX2_copyFrom_84 rfl ?_
  refine fg_X2_15_TC_3 C dX2_copyFrom_85 ?_
  refine j_iconst C dX2_copyFrom_88 ci_0 ?_
  refine j_bipush C dX2_copyFrom_89 cb_6 ?_
  obtain ⟨g19, h⟩ := gd_elim h
  refine j_copy C tc_14 tc_5 wd1033 wd674 wd673 wd122 rfl g19 (fun _ _ => rfl) (by decide) (Nat.le_of_ble_eq_true rfl) dX2_copyFrom_91 ?_
  refine lt_elim h (fun V20 e_V20 h => ?_)
  refine j_V e_V20 ?_
  refine j_aload_n C 1 rfl dX2_copyFrom_94 rfl ?_
  refine fg_X2_18_TC_12 C dX2_copyFrom_95 ?_
  refine j_iconst C dX2_copyFrom_98 ci_0 ?_
  refine j_aload_n C 0 rfl dX2_copyFrom_99 rfl ?_
  refine fg_X2_18_TC_3 C dX2_copyFrom_100 ?_
  refine j_iconst C dX2_copyFrom_103 ci_0 ?_
  refine j_bipush C dX2_copyFrom_104 cb_6 ?_
  obtain ⟨g21, h⟩ := gd_elim h
  refine j_copy C tc_15 tc_6 wd1033 wd674 wd673 wd122 rfl g21 (fun _ _ => rfl) (by decide) (Nat.le_of_ble_eq_true rfl) dX2_copyFrom_106 ?_
  refine lt_elim h (fun V22 e_V22 h => ?_)
  refine j_V e_V22 ?_
  refine j_aload_n C 1 rfl dX2_copyFrom_109 rfl ?_
  refine fg_X2_21_TC_12 C dX2_copyFrom_110 ?_
  refine j_iconst C dX2_copyFrom_113 ci_0 ?_
  refine j_aload_n C 0 rfl dX2_copyFrom_114 rfl ?_
  refine fg_X2_21_TC_3 C dX2_copyFrom_115 ?_
  refine j_iconst C dX2_copyFrom_118 ci_0 ?_
  refine j_bipush C dX2_copyFrom_119 cb_6 ?_
  obtain ⟨g23, h⟩ := gd_elim h
  refine j_copy C tc_16 tc_7 wd1033 wd674 wd673 wd122 rfl g23 (fun _ _ => rfl) (by decide) (Nat.le_of_ble_eq_true rfl) dX2_copyFrom_121 ?_
  refine lt_elim h (fun V24 e_V24 h => ?_)
  refine j_V e_V24 ?_
  refine j_aload_n C 1 rfl dX2_copyFrom_124 rfl ?_
  refine fg_X2_24_TC_12 C dX2_copyFrom_125 ?_
  refine j_iconst C dX2_copyFrom_128 ci_0 ?_
  refine j_aload_n C 0 rfl dX2_copyFrom_129 rfl ?_
  refine fg_X2_24_TC_3 C dX2_copyFrom_130 ?_
  refine j_iconst C dX2_copyFrom_133 ci_0 ?_
  refine j_bipush C dX2_copyFrom_134 cb_6 ?_
  obtain ⟨g25, h⟩ := gd_elim h
  refine j_copy C tc_17 tc_8 wd1033 wd674 wd673 wd122 rfl g25 (fun _ _ => rfl) (by decide) (Nat.le_of_ble_eq_true rfl) dX2_copyFrom_136 ?_
  refine lt_elim h (fun V26 e_V26 h => ?_)
  refine j_V e_V26 ?_
  refine j_aload_n C 1 rfl dX2_copyFrom_139 rfl ?_
  refine fg_X2_30_TC_12 C dX2_copyFrom_140 ?_
  refine j_iconst C dX2_copyFrom_143 ci_0 ?_
  refine j_aload_n C 0 rfl dX2_copyFrom_144 rfl ?_
  refine fg_X2_30_TC_3 C dX2_copyFrom_145 ?_
  refine j_iconst C dX2_copyFrom_148 ci_0 ?_
  refine j_iconst C dX2_copyFrom_149 ci_4 ?_
  obtain ⟨g27, h⟩ := gd_elim h
  refine j_copy C tc_19 tc_10 wd1033 wd674 wd673 wd122 rfl g27 (fun _ _ => rfl) (by decide) (Nat.le_of_ble_eq_true rfl) dX2_copyFrom_150 ?_
  refine lt_elim h (fun V28 e_V28 h => ?_)
  refine j_V e_V28 ?_
  refine j_aload_n C 1 rfl dX2_copyFrom_153 rfl ?_
  refine fg_X2_27_TC_12 C dX2_copyFrom_154 ?_
  refine j_iconst C dX2_copyFrom_157 ci_0 ?_
  refine j_aload_n C 0 rfl dX2_copyFrom_158 rfl ?_
  refine fg_X2_27_TC_3 C dX2_copyFrom_159 ?_
  refine j_iconst C dX2_copyFrom_162 ci_0 ?_
  refine j_aload_n C 0 rfl dX2_copyFrom_163 rfl ?_
  refine fg_X2_55_TC_3 C dX2_copyFrom_164 ?_
  refine lt_elim h (fun x29 e_x29 h => ?_)
  refine j_top e_x29 ?_
  obtain ⟨g30, h⟩ := gd_elim h
  refine j_copy C tc_18 tc_9 wd1033 wd674 wd673 wd122 rfl g30 (fun _ _ => rfl) (by decide) (Nat.le_of_ble_eq_true rfl) dX2_copyFrom_167 ?_
  refine lt_elim h (fun V31 e_V31 h => ?_)
  refine j_V e_V31 ?_
  cases h
  exact j_vret C hr hlk rfl dX2_copyFrom_170
