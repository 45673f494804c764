theorem dX7_gatherHours_0 : decode cX7_gatherHours 0 = .ok (.aload_n 0, 1) := by decide +kernel
theorem dX7_gatherHours_1 : decode cX7_gatherHours 1 = .ok (.getfield 9, 3) := by decide +kernel
theorem dX7_gatherHours_4 : decode cX7_gatherHours 4 = .ok (.iconst 0, 1) := by decide +kernel
theorem dX7_gatherHours_5 : decode cX7_gatherHours 5 = .ok (.iconst 0, 1) := by decide +kernel
theorem dX7_gatherHours_6 : decode cX7_gatherHours 6 = .ok (.iastore, 1) := by decide +kernel
theorem dX7_gatherHours_7 : decode cX7_gatherHours 7 = .ok (.iconst 0, 1) := by decide +kernel
theorem dX7_gatherHours_8 : decode cX7_gatherHours 8 = .ok (.istore_n 1, 1) := by decide +kernel
theorem dX7_gatherHours_9 : decode cX7_gatherHours 9 = .ok (.iload_n 1, 1) := by decide +kernel
theorem dX7_gatherHours_10 : decode cX7_gatherHours 10 = .ok (.bipush 6, 2) := by decide +kernel
theorem dX7_gatherHours_12 : decode cX7_gatherHours 12 = .ok (.if_icmp .ge 55, 3) := by decide +kernel
theorem dX7_gatherHours_15 : decode cX7_gatherHours 15 = .ok (.aload_n 0, 1) := by decide +kernel
theorem dX7_gatherHours_16 : decode cX7_gatherHours 16 = .ok (.getfield 21, 3) := by decide +kernel
theorem dX7_gatherHours_19 : decode cX7_gatherHours 19 = .ok (.iload_n 1, 1) := by decide +kernel
theorem dX7_gatherHours_20 : decode cX7_gatherHours 20 = .ok (.invokevirtual 50, 3) := by decide +kernel
theorem dX7_gatherHours_23 : decode cX7_gatherHours 23 = .ok (.istore_n 2, 1) := by decide +kernel
theorem dX7_gatherHours_24 : decode cX7_gatherHours 24 = .ok (.iconst 1, 1) := by decide +kernel
theorem dX7_gatherHours_25 : decode cX7_gatherHours 25 = .ok (.iload_n 1, 1) := by decide +kernel
theorem dX7_gatherHours_26 : decode cX7_gatherHours 26 = .ok (.ishl, 1) := by decide +kernel
theorem dX7_gatherHours_27 : decode cX7_gatherHours 27 = .ok (.istore_n 3, 1) := by decide +kernel
theorem dX7_gatherHours_28 : decode cX7_gatherHours 28 = .ok (.iconst 0, 1) := by decide +kernel
theorem dX7_gatherHours_29 : decode cX7_gatherHours 29 = .ok (.istore 4, 2) := by decide +kernel
theorem dX7_gatherHours_31 : decode cX7_gatherHours 31 = .ok (.iload 4, 2) := by decide +kernel
theorem dX7_gatherHours_33 : decode cX7_gatherHours 33 = .ok (.iload_n 3, 1) := by decide +kernel
theorem dX7_gatherHours_34 : decode cX7_gatherHours 34 = .ok (.if_icmp .ge 27, 3) := by decide +kernel
theorem dX7_gatherHours_37 : decode cX7_gatherHours 37 = .ok (.aload_n 0, 1) := by decide +kernel
theorem dX7_gatherHours_38 : decode cX7_gatherHours 38 = .ok (.getfield 9, 3) := by decide +kernel
theorem dX7_gatherHours_41 : decode cX7_gatherHours 41 = .ok (.iload_n 3, 1) := by decide +kernel
theorem dX7_gatherHours_42 : decode cX7_gatherHours 42 = .ok (.iload 4, 2) := by decide +kernel
theorem dX7_gatherHours_44 : decode cX7_gatherHours 44 = .ok (.iadd, 1) := by decide +kernel
theorem dX7_gatherHours_45 : decode cX7_gatherHours 45 = .ok (.aload_n 0, 1) := by decide +kernel
theorem dX7_gatherHours_46 : decode cX7_gatherHours 46 = .ok (.getfield 9, 3) := by decide +kernel
theorem dX7_gatherHours_49 : decode cX7_gatherHours 49 = .ok (.iload 4, 2) := by decide +kernel
theorem dX7_gatherHours_51 : decode cX7_gatherHours 51 = .ok (.iaload, 1) := by decide +kernel
theorem dX7_gatherHours_52 : decode cX7_gatherHours 52 = .ok (.iload_n 2, 1) := by decide +kernel
theorem dX7_gatherHours_53 : decode cX7_gatherHours 53 = .ok (.ior, 1) := by decide +kernel
theorem dX7_gatherHours_54 : decode cX7_gatherHours 54 = .ok (.iastore, 1) := by decide +kernel
theorem dX7_gatherHours_55 : decode cX7_gatherHours 55 = .ok (.iinc 4 1, 3) := by decide +kernel
theorem dX7_gatherHours_58 : decode cX7_gatherHours 58 = .ok (.goto (-27), 3) := by decide +kernel
theorem dX7_gatherHours_61 : decode cX7_gatherHours 61 = .ok (.iinc 1 1, 3) := by decide +kernel
theorem dX7_gatherHours_64 : decode cX7_gatherHours 64 = .ok (.goto (-55), 3) := by decide +kernel
theorem dX7_gatherHours_67 : decode cX7_gatherHours 67 = .ok (.return_, 1) := by decide +kernel
def fX7_gatherHours_59_L31 (E61 : Int32 → (Nat → Nat → Int32) → Option ((Nat → Nat → Int32))) (S : Nat → Int32) : Nat → Int32 → Int32 → Int32 → Int32 → (Nat → Nat → Int32) → Option ((Nat → Nat → Int32))
  | 0, _, _, _, _, _ => none
  | n + 1, x9, x10, x11, x12, V13 =>
    (if x11 ≤ x12 then
    E61 x9 V13
    else
    gd (ib x12 64) (
    lt (((V13 60 (x12).toNatClampNeg) ||| x10)) (fun x16 =>
    lt ((x11 + x12)) (fun x17 =>
    gd (ib x17 64) (
    lt (va_up V13 60 (upd (V13 60) (x17).toNatClampNeg x16)) (fun V19 =>
    lt (x12 + (1 : Int32)) (fun x20 =>
    fX7_gatherHours_59_L31 E61 S n x9 x10 x11 x20 V19)))))))
def fX7_gatherHours_59_L9 (S : Nat → Int32) : Nat → Int32 → (Nat → Nat → Int32) → Option ((Nat → Nat → Int32))
  | 0, _, _ => none
  | n + 1, x3, V4 =>
    (if (6 : Int32) ≤ x3 then
    some V4
    else
    bd1 (fX4_hoursOf_30 S V4 x3) (fun r6 =>
    lt (((1 : Int32) <<< (x3 &&& 31))) (fun x8 =>
    bk (fun (x24 : Int32) (V25 : Nat → Nat → Int32) =>
    lt (x24 + (1 : Int32)) (fun x26 =>
    fX7_gatherHours_59_L9 S n x26 V25)) (fun X61_23 =>
    fX7_gatherHours_59_L31 X61_23 S FU x3 r6 x8 (0 : Int32) V4))))
def fX7_gatherHours_59 (S : Nat → Int32) (V : Nat → Nat → Int32) : Option ((Nat → Nat → Int32)) :=
  gd (ib (0 : Int32) 64) (
  lt (va_up V 60 (upd (V 60) ((0 : Int32)).toNatClampNeg (0 : Int32))) (fun V2 =>
  fX7_gatherHours_59_L9 S FU (0 : Int32) V2))
set_option maxHeartbeats 4000000 in
set_option maxRecDepth 100000 in
theorem kX7_gatherHours_59 (l : Launch) (B : jBT) (D : va_G) (ad : Nat → Nat) (cA : Nat → ClassId) (hI : jI ad TC) (S : Nat → Int32) (V : Nat → Nat → Int32) (L : Nat → Int64) (V0 : Nat → Nat → Int32) (h : fX7_gatherHours_59 S V = some V0) : jM l yX7_gatherHours cX7_gatherHours 5 none ({ frames := 2, cells := 0, slots := 0, locals := 44 }) B D TC ad cA [.ref (ad 59)] S V L none S V0 L := by
  refine jM_of (by decide) TC_ok hI (Nat.le_of_ble_eq_true rfl) ?_
  intro p e s m args below meth c C hr hlk
  refine j_lv (lv2 := [(0, .ref (ad 59))]) rfl ?_
  unfold fX7_gatherHours_59 at h
  have H_fX7_gatherHours_59_L31 : ∀ (E61 : Int32 → (Nat → Nat → Int32) → Option ((Nat → Nat → Int32))) (_ : ∀ (x21 : Int32) (V22 : Nat → Nat → Int32), E61 x21 V22 = some V0 → jW p l e ({ frames := 2, cells := 0, slots := 0, locals := 44 }) s m args below meth c (MQ below (jQc D TC ad cA none s.heap.size S V0 L) args s 0 0 (jA ad TC s.heap.size)) D TC ad cA (jA ad TC s.heap.size) 5 0 0 61 [(0, .ref (ad 59)), (1, .int x21)] [] S V22 L) (n : Nat) (x9 : Int32) (x10 : Int32) (x11 : Int32) (x12 : Int32) (V13 : Nat → Nat → Int32), fX7_gatherHours_59_L31 E61 S n x9 x10 x11 x12 V13 = some V0 → jW p l e ({ frames := 2, cells := 0, slots := 0, locals := 44 }) s m args below meth c (MQ below (jQc D TC ad cA none s.heap.size S V0 L) args s 0 0 (jA ad TC s.heap.size)) D TC ad cA (jA ad TC s.heap.size) 5 0 0 31 [(0, .ref (ad 59)), (1, .int x9), (2, .int x10), (3, .int x11), (4, .int x12)] [] S V13 L := by
    intro E61 HE61
    intro n
    induction n with
    | zero =>
      intro x9 x10 x11 x12 V13 h
      cases (show (none : Option ((Nat → Nat → Int32))) = some V0 from h)
    | succ n ih =>
      intro x9 x10 x11 x12 V13 h
      unfold fX7_gatherHours_59_L31 at h
      refine j_iload C 4 rfl dX7_gatherHours_31 ?_
      refine j_iload_n C 3 rfl dX7_gatherHours_33 rfl ?_
      refine j_icmp_ge (tgt := 61) C dX7_gatherHours_34 (by decide) (fun c14 => ?_) (fun c14 => ?_)
      · have h := (if_pos c14).symm.trans h
        exact j_sub [0, 1] rfl (HE61 _ _ h)
      · have h := (if_neg c14).symm.trans h
        refine j_aload_n C 0 rfl dX7_gatherHours_37 rfl ?_
        refine fg_X7_9_TC_59 C dX7_gatherHours_38 ?_
        refine j_iload_n C 3 rfl dX7_gatherHours_41 rfl ?_
        refine j_iload C 4 rfl dX7_gatherHours_42 ?_
        refine j_iadd C dX7_gatherHours_44 ?_
        refine j_aload_n C 0 rfl dX7_gatherHours_45 rfl ?_
        refine fg_X7_9_TC_59 C dX7_gatherHours_46 ?_
        refine j_iload C 4 rfl dX7_gatherHours_49 ?_
        obtain ⟨g15, h⟩ := gd_elim h
        refine j_iald C tc_60 (ib_in g15) dX7_gatherHours_51 ?_
        refine j_iload_n C 2 rfl dX7_gatherHours_52 rfl ?_
        refine j_ior C dX7_gatherHours_53 ?_
        refine lt_elim h (fun x16 e_x16 h => ?_)
        refine j_top e_x16 ?_
        refine lt_elim h (fun x17 e_x17 h => ?_)
        refine j_top2 e_x17 ?_
        obtain ⟨g18, h⟩ := gd_elim h
        refine j_iast C tc_60 (ib_in g18) dX7_gatherHours_54 ?_
        refine lt_elim h (fun V19 e_V19 h => ?_)
        refine j_V e_V19 ?_
        refine lt_elim h (fun x20 e_x20 h => ?_)
        refine j_iinc C [(4, .int x20), (0, .ref (ad 59)), (1, .int x9), (2, .int x10), (3, .int x11)] 4 dX7_gatherHours_55 rfl ((iinc_eq ci_1).trans e_x20.symm) (by decide) rfl ?_
        refine j_goto (tgt := 31) C dX7_gatherHours_58 (by decide) ?_
        exact j_sub [1, 2, 3, 4, 0] rfl (ih _ _ _ _ _ h)
  have H_fX7_gatherHours_59_L9 : ∀ (n : Nat) (x3 : Int32) (V4 : Nat → Nat → Int32), fX7_gatherHours_59_L9 S n x3 V4 = some V0 → jW p l e ({ frames := 2, cells := 0, slots := 0, locals := 44 }) s m args below meth c (MQ below (jQc D TC ad cA none s.heap.size S V0 L) args s 0 0 (jA ad TC s.heap.size)) D TC ad cA (jA ad TC s.heap.size) 5 0 0 9 [(0, .ref (ad 59)), (1, .int x3)] [] S V4 L := by
    intro n
    induction n with
    | zero =>
      intro x3 V4 h
      cases (show (none : Option ((Nat → Nat → Int32))) = some V0 from h)
    | succ n ih =>
      intro x3 V4 h
      unfold fX7_gatherHours_59_L9 at h
      refine j_iload_n C 1 rfl dX7_gatherHours_9 rfl ?_
      refine j_bipush C dX7_gatherHours_10 cb_6 ?_
      refine j_icmp_ge (tgt := 67) C dX7_gatherHours_12 (by decide) (fun c5 => ?_) (fun c5 => ?_)
      · have h := (if_pos c5).symm.trans h
        cases h
        exact j_vret C hr hlk rfl dX7_gatherHours_67
      · have h := (if_neg c5).symm.trans h
        refine j_aload_n C 0 rfl dX7_gatherHours_15 rfl ?_
        refine fg_X7_21_TC_59 C dX7_gatherHours_16 ?_
        refine j_iload_n C 1 rfl dX7_gatherHours_19 rfl ?_
        obtain ⟨r6, h7, h⟩ := bd1_elim h
        refine j_callV (As := [.int x3]) (rest := []) C (kX4_hoursOf_30 l B D ad cA hI S V4 L x3 _ h7) mw_X4_hoursOf wd592 wd593 wd1295 tc_30 rfl rfl ⟨rfl, rfl, by decide, by decide⟩ ⟨Nat.zero_le _, Nat.zero_le _⟩ rfl rfl (Nat.le_of_ble_eq_true rfl) dX7_gatherHours_20 ?_
        refine j_istore_n C [(2, .int r6), (0, .ref (ad 59)), (1, .int x3)] dX7_gatherHours_23 rfl (by decide) rfl ?_
        refine j_iconst C dX7_gatherHours_24 ci_1 ?_
        refine j_iload_n C 2 rfl dX7_gatherHours_25 rfl ?_
        refine j_ishl C dX7_gatherHours_26 ?_
        refine lt_elim h (fun x8 e_x8 h => ?_)
        refine j_top e_x8 ?_
        refine j_istore_n C [(3, .int x8), (2, .int r6), (0, .ref (ad 59)), (1, .int x3)] dX7_gatherHours_27 rfl (by decide) rfl ?_
        refine j_iconst C dX7_gatherHours_28 ci_0 ?_
        refine j_istore C [(4, .int (0 : Int32)), (3, .int x8), (2, .int r6), (0, .ref (ad 59)), (1, .int x3)] dX7_gatherHours_29 (by decide) rfl ?_
        refine bk_elim h (fun X61_23 e_X61_23 h => ?_)
        have HX61_23 : ∀ (x24 : Int32) (V25 : Nat → Nat → Int32), X61_23 x24 V25 = some V0 → jW p l e ({ frames := 2, cells := 0, slots := 0, locals := 44 }) s m args below meth c (MQ below (jQc D TC ad cA none s.heap.size S V0 L) args s 0 0 (jA ad TC s.heap.size)) D TC ad cA (jA ad TC s.heap.size) 5 0 0 61 [(0, .ref (ad 59)), (1, .int x24)] [] S V25 L := by
          subst e_X61_23
          intro x24 V25 h
          refine lt_elim h (fun x26 e_x26 h => ?_)
          refine j_iinc C [(1, .int x26), (0, .ref (ad 59))] 1 dX7_gatherHours_61 rfl ((iinc_eq ci_1).trans e_x26.symm) (by decide) rfl ?_
          refine j_goto (tgt := 9) C dX7_gatherHours_64 (by decide) ?_
          exact j_sub [1, 0] rfl (ih _ _ h)
        exact j_sub [3, 4, 2, 1, 0] rfl (H_fX7_gatherHours_59_L31 _ HX61_23 FU _ _ _ _ _ h)
  refine j_aload_n C 0 rfl dX7_gatherHours_0 rfl ?_
  refine fg_X7_9_TC_59 C dX7_gatherHours_1 ?_
  refine j_iconst C dX7_gatherHours_4 ci_0 ?_
  refine j_iconst C dX7_gatherHours_5 ci_0 ?_
  obtain ⟨g1, h⟩ := gd_elim h
  refine j_iast C tc_60 (ib_in g1) dX7_gatherHours_6 ?_
  refine lt_elim h (fun V2 e_V2 h => ?_)
  refine j_V e_V2 ?_
  refine j_iconst C dX7_gatherHours_7 ci_0 ?_
  refine j_istore_n C [(1, .int (0 : Int32)), (0, .ref (ad 59))] dX7_gatherHours_8 rfl (by decide) rfl ?_
  exact j_sub [1, 0] rfl (H_fX7_gatherHours_59_L9 FU _ _ h)
theorem dX7_find_0 : decode cX7_find 0 = .ok (.aload_n 0, 1) := by decide +kernel
theorem dX7_find_1 : decode cX7_find 1 = .ok (.invokevirtual 29, 3) := by decide +kernel
theorem dX7_find_4 : decode cX7_find 4 = .ok (.iload_n 2, 1) := by decide +kernel
theorem dX7_find_5 : decode cX7_find 5 = .ok (.istore_n 3, 1) := by decide +kernel
theorem dX7_find_6 : decode cX7_find 6 = .ok (.iload_n 3, 1) := by decide +kernel
theorem dX7_find_7 : decode cX7_find 7 = .ok (.bipush 23, 2) := by decide +kernel
theorem dX7_find_9 : decode cX7_find 9 = .ok (.if_icmp .gt 55, 3) := by decide +kernel
theorem dX7_find_12 : decode cX7_find 12 = .ok (.iload_n 2, 1) := by decide +kernel
theorem dX7_find_13 : decode cX7_find 13 = .ok (.iload_n 3, 1) := by decide +kernel
theorem dX7_find_14 : decode cX7_find 14 = .ok (.invokestatic 32, 3) := by decide +kernel
theorem dX7_find_17 : decode cX7_find 17 = .ok (.istore 4, 2) := by decide +kernel
theorem dX7_find_19 : decode cX7_find 19 = .ok (.aload_n 0, 1) := by decide +kernel
theorem dX7_find_20 : decode cX7_find 20 = .ok (.iload_n 1, 1) := by decide +kernel
theorem dX7_find_21 : decode cX7_find 21 = .ok (.iload 4, 2) := by decide +kernel
theorem dX7_find_23 : decode cX7_find 23 = .ok (.invokevirtual 36, 3) := by decide +kernel
theorem dX7_find_26 : decode cX7_find 26 = .ok (.ifCond .eq 32, 3) := by decide +kernel
theorem dX7_find_29 : decode cX7_find 29 = .ok (.aload_n 0, 1) := by decide +kernel
theorem dX7_find_30 : decode cX7_find 30 = .ok (.iload_n 1, 1) := by decide +kernel
theorem dX7_find_31 : decode cX7_find 31 = .ok (.iload 4, 2) := by decide +kernel
theorem dX7_find_33 : decode cX7_find 33 = .ok (.invokevirtual 40, 3) := by decide +kernel
theorem dX7_find_36 : decode cX7_find 36 = .ok (.aload_n 0, 1) := by decide +kernel
theorem dX7_find_37 : decode cX7_find 37 = .ok (.getfield 15, 3) := by decide +kernel
theorem dX7_find_40 : decode cX7_find 40 = .ok (.iconst 0, 1) := by decide +kernel
theorem dX7_find_41 : decode cX7_find 41 = .ok (.aload_n 0, 1) := by decide +kernel
theorem dX7_find_42 : decode cX7_find 42 = .ok (.getfield 18, 3) := by decide +kernel
theorem dX7_find_45 : decode cX7_find 45 = .ok (.iconst 0, 1) := by decide +kernel
theorem dX7_find_46 : decode cX7_find 46 = .ok (.bipush 6, 2) := by decide +kernel
theorem dX7_find_48 : decode cX7_find 48 = .ok (.invokestatic 44, 3) := by decide +kernel
theorem dX7_find_51 : decode cX7_find 51 = .ok (.aload_n 0, 1) := by decide +kernel
theorem dX7_find_52 : decode cX7_find 52 = .ok (.iconst 1, 1) := by decide +kernel
theorem dX7_find_53 : decode cX7_find 53 = .ok (.putfield 25, 3) := by decide +kernel
theorem dX7_find_56 : decode cX7_find 56 = .ok (.iload_n 3, 1) := by decide +kernel
theorem dX7_find_57 : decode cX7_find 57 = .ok (.ireturn, 1) := by decide +kernel
theorem dX7_find_58 : decode cX7_find 58 = .ok (.iinc 3 1, 3) := by decide +kernel
theorem dX7_find_61 : decode cX7_find 61 = .ok (.goto (-55), 3) := by decide +kernel
theorem dX7_find_64 : decode cX7_find 64 = .ok (.iconst (-1), 1) := by decide +kernel
theorem dX7_find_65 : decode cX7_find 65 = .ok (.ireturn, 1) := by decide +kernel
def fX7_find_59_L6 (E29 : Int32 → Int32 → Int32 → (Nat → Int32) → (Nat → Nat → Int32) → Option (Int32 × (Nat → Int32) × (Nat → Nat → Int32))) : Nat → Int32 → Int32 → Int32 → (Nat → Int32) → (Nat → Nat → Int32) → Option (Int32 × (Nat → Int32) × (Nat → Nat → Int32))
  | 0, _, _, _, _, _ => none
  | n + 1, x3, x4, x5, S6, V7 =>
    (if (23 : Int32) < x5 then
    some ((-1 : Int32), S6, V7)
    else
    bd1 (fX11_hourBits x4 x5) (fun r9 =>
    bd1 (fX7_canVisit_59 V7 x3 r9) (fun r11 =>
    (if r11 = 0 then
    lt (x5 + (1 : Int32)) (fun x14 =>
    fX7_find_59_L6 E29 n x3 x4 x14 S6 V7)
    else
    E29 x3 x5 r9 S6 V7))))
def fX7_find_59 (S : Nat → Int32) (V : Nat → Nat → Int32) (a1 : Int32) (a2 : Int32) : Option (Int32 × (Nat → Int32) × (Nat → Nat → Int32)) :=
  bd1 (fX7_gatherHours_59 S V) (fun V1 =>
  bk (fun (x21 : Int32) (x22 : Int32) (x23 : Int32) (S24 : Nat → Int32) (V25 : Nat → Nat → Int32) =>
  bd1 (fX7_choose_59 V25 x21 x23) (fun V26 =>
  gd (cpr (0 : Int32) (0 : Int32) (6 : Int32) 6 6) (
  lt (va_up V26 62 (va_cpy (V26 61) (V26 62) ((0 : Int32)).toNatClampNeg ((0 : Int32)).toNatClampNeg ((6 : Int32)).toNatClampNeg)) (fun V29 =>
  lt (va_up S24 5903 (1 : Int32)) (fun S30 =>
  some (x22, S30, V29)))))) (fun X29_20 =>
  fX7_find_59_L6 X29_20 FU a1 a2 a2 S V1))
set_option maxHeartbeats 4000000 in
set_option maxRecDepth 100000 in
theorem kX7_find_59 (l : Launch) (B : jBT) (D : va_G) (ad : Nat → Nat) (cA : Nat → ClassId) (hI : jI ad TC) (S : Nat → Int32) (V : Nat → Nat → Int32) (L : Nat → Int64) (a1 : Int32) (a2 : Int32) (r0 : Int32) (S0 : Nat → Int32) (V0 : Nat → Nat → Int32) (h : fX7_find_59 S V a1 a2 = some (r0, S0, V0)) : jM l yX7_find cX7_find 5 (some .int) ({ frames := 4, cells := 0, slots := 0, locals := 92 }) B D TC ad cA [.ref (ad 59), .int a1, .int a2] S V L (some (.int r0)) S0 V0 L := by
  refine jM_of (by decide) TC_ok hI (Nat.le_of_ble_eq_true rfl) ?_
  intro p e s m args below meth c C hr hlk
  refine j_lv (lv2 := [(0, .ref (ad 59)), (1, .int a1), (2, .int a2)]) rfl ?_
  unfold fX7_find_59 at h
  have H_fX7_find_59_L6 : ∀ (E29 : Int32 → Int32 → Int32 → (Nat → Int32) → (Nat → Nat → Int32) → Option (Int32 × (Nat → Int32) × (Nat → Nat → Int32))) (_ : ∀ (x15 : Int32) (x16 : Int32) (x17 : Int32) (S18 : Nat → Int32) (V19 : Nat → Nat → Int32), E29 x15 x16 x17 S18 V19 = some (r0, S0, V0) → jW p l e ({ frames := 4, cells := 0, slots := 0, locals := 92 }) s m args below meth c (MQ below (jQc D TC ad cA (some (.int r0)) s.heap.size S0 V0 L) args s 0 0 (jA ad TC s.heap.size)) D TC ad cA (jA ad TC s.heap.size) 5 0 0 29 [(0, .ref (ad 59)), (1, .int x15), (3, .int x16), (4, .int x17)] [] S18 V19 L) (n : Nat) (x3 : Int32) (x4 : Int32) (x5 : Int32) (S6 : Nat → Int32) (V7 : Nat → Nat → Int32), fX7_find_59_L6 E29 n x3 x4 x5 S6 V7 = some (r0, S0, V0) → jW p l e ({ frames := 4, cells := 0, slots := 0, locals := 92 }) s m args below meth c (MQ below (jQc D TC ad cA (some (.int r0)) s.heap.size S0 V0 L) args s 0 0 (jA ad TC s.heap.size)) D TC ad cA (jA ad TC s.heap.size) 5 0 0 6 [(0, .ref (ad 59)), (1, .int x3), (2, .int x4), (3, .int x5)] [] S6 V7 L := by
    intro E29 HE29
    intro n
    induction n with
    | zero =>
      intro x3 x4 x5 S6 V7 h
      cases (show (none : Option (Int32 × (Nat → Int32) × (Nat → Nat → Int32))) = some (r0, S0, V0) from h)
    | succ n ih =>
      intro x3 x4 x5 S6 V7 h
      unfold fX7_find_59_L6 at h
      refine j_iload_n C 3 rfl dX7_find_6 rfl ?_
      refine j_bipush C dX7_find_7 cb_23 ?_
      refine j_icmp_gt (tgt := 64) C dX7_find_9 (by decide) (fun c8 => ?_) (fun c8 => ?_)
      · have h := (if_pos c8).symm.trans h
        refine j_iconst C dX7_find_64 ci_m1 ?_
        cases h
        exact j_iret C hr hlk rfl dX7_find_65
      · have h := (if_neg c8).symm.trans h
        refine j_iload_n C 2 rfl dX7_find_12 rfl ?_
        refine j_iload_n C 3 rfl dX7_find_13 rfl ?_
        obtain ⟨r9, h10, h⟩ := bd1_elim h
        refine j_callN (As := [.int x4, .int x5]) (rest := []) (host := "ClockLodgers") C (kX11_hourBits l B D ad cA hI S6 V7 L x4 x5 _ h10) mw_X11_hourBits wd585 (by decide +kernel) ⟨rfl, rfl, by decide, by decide⟩ ⟨Nat.zero_le _, Nat.zero_le _⟩ rfl rfl (Nat.le_of_ble_eq_true rfl) dX7_find_14 ?_
        refine j_istore C [(4, .int r9), (0, .ref (ad 59)), (1, .int x3), (2, .int x4), (3, .int x5)] dX7_find_17 (by decide) rfl ?_
        refine j_aload_n C 1 rfl dX7_find_19 rfl ?_
        refine j_iload_n C 2 rfl dX7_find_20 rfl ?_
        refine j_iload C 0 rfl dX7_find_21 ?_
        obtain ⟨r11, h12, h⟩ := bd1_elim h
        refine j_callV (As := [.int x3, .int r9]) (rest := []) C (kX7_canVisit_59 l B D ad cA hI S6 V7 L x3 r9 _ h12) mw_X7_canVisit wd1299 wd51 wd1297 tc_59 rfl rfl ⟨rfl, rfl, by decide, by decide⟩ ⟨Nat.zero_le _, Nat.zero_le _⟩ rfl rfl (Nat.le_of_ble_eq_true rfl) dX7_find_23 ?_
        refine j_if_eq (tgt := 58) C dX7_find_26 (by decide) (fun c13 => ?_) (fun c13 => ?_)
        · have h := (if_pos c13).symm.trans h
          refine lt_elim h (fun x14 e_x14 h => ?_)
          refine j_iinc C [(3, .int x14), (4, .int r9), (0, .ref (ad 59)), (1, .int x3), (2, .int x4)] 4 dX7_find_58 rfl ((iinc_eq ci_1).trans e_x14.symm) (by decide) rfl ?_
          refine j_goto (tgt := 6) C dX7_find_61 (by decide) ?_
          exact j_sub [2, 3, 4, 0] rfl (ih _ _ _ _ _ h)
        · have h := (if_neg c13).symm.trans h
          exact j_sub [1, 2, 4, 0] rfl (HE29 _ _ _ _ _ h)
  refine j_aload_n C 0 rfl dX7_find_0 rfl ?_
  obtain ⟨V1, h2, h⟩ := bd1_elim h
  refine j_callV (As := []) (rest := []) C (kX7_gatherHours_59 l B D ad cA hI S V L _ h2) mw_X7_gatherHours wd1293 wd50 wd1291 tc_59 rfl rfl ⟨rfl, rfl, by decide, by decide⟩ ⟨Nat.zero_le _, Nat.zero_le _⟩ rfl rfl (Nat.le_of_ble_eq_true rfl) dX7_find_1 ?_
  refine j_iload_n C 2 rfl dX7_find_4 rfl ?_
  refine j_istore_n C [(3, .int a2), (0, .ref (ad 59)), (1, .int a1), (2, .int a2)] dX7_find_5 rfl (by decide) rfl ?_
  refine bk_elim h (fun X29_20 e_X29_20 h => ?_)
  have HX29_20 : ∀ (x21 : Int32) (x22 : Int32) (x23 : Int32) (S24 : Nat → Int32) (V25 : Nat → Nat → Int32), X29_20 x21 x22 x23 S24 V25 = some (r0, S0, V0) → jW p l e ({ frames := 4, cells := 0, slots := 0, locals := 92 }) s m args below meth c (MQ below (jQc D TC ad cA (some (.int r0)) s.heap.size S0 V0 L) args s 0 0 (jA ad TC s.heap.size)) D TC ad cA (jA ad TC s.heap.size) 5 0 0 29 [(0, .ref (ad 59)), (1, .int x21), (3, .int x22), (4, .int x23)] [] S24 V25 L := by
    subst e_X29_20
    intro x21 x22 x23 S24 V25 h
    refine j_aload_n C 0 rfl dX7_find_29 rfl ?_
    refine j_iload_n C 1 rfl dX7_find_30 rfl ?_
    refine j_iload C 3 rfl dX7_find_31 ?_
    obtain ⟨V26, h27, h⟩ := bd1_elim h
    refine j_callV (As := [.int x21, .int x23]) (rest := []) C (kX7_choose_59 l B D ad cA hI S24 V25 L x21 x23 _ h27) mw_X7_choose wd1304 wd52 wd1302 tc_59 rfl rfl ⟨rfl, rfl, by decide, by decide⟩ ⟨Nat.zero_le _, Nat.zero_le _⟩ rfl rfl (Nat.le_of_ble_eq_true rfl) dX7_find_33 ?_
    refine j_aload_n C 0 rfl dX7_find_36 rfl ?_
    refine fg_X7_15_TC_59 C dX7_find_37 ?_
    refine j_iconst C dX7_find_40 ci_0 ?_
    refine j_aload_n C 0 rfl dX7_find_41 rfl ?_
    refine fg_X7_18_TC_59 C dX7_find_42 ?_
    refine j_iconst C dX7_find_45 ci_0 ?_
    refine j_bipush C dX7_find_46 cb_6 ?_
    obtain ⟨g28, h⟩ := gd_elim h
    refine j_copy C tc_61 tc_62 wd1310 wd674 wd673 wd122 rfl g28 (fun _ _ => rfl) (by decide) (Nat.le_of_ble_eq_true rfl) dX7_find_48 ?_
    refine lt_elim h (fun V29 e_V29 h => ?_)
    refine j_V e_V29 ?_
    refine j_aload_n C 0 rfl dX7_find_51 rfl ?_
    refine j_iconst C dX7_find_52 ci_1 ?_
    refine fp_X7_25_TC_59 C rfl rfl dX7_find_53 ?_
    refine lt_elim h (fun S30 e_S30 h => ?_)
    refine j_S e_S30 ?_
    refine j_iload_n C 2 rfl dX7_find_56 rfl ?_
    cases h
    exact j_iret C hr hlk rfl dX7_find_57
  exact j_sub [1, 2, 3, 0] rfl (H_fX7_find_59_L6 _ HX29_20 FU _ _ _ _ _ h)
theorem dX7_forget_0 : decode cX7_forget 0 = .ok (.aload_n 0, 1) := by decide +kernel
theorem dX7_forget_1 : decode cX7_forget 1 = .ok (.iconst 0, 1) := by decide +kernel
theorem dX7_forget_2 : decode cX7_forget 2 = .ok (.putfield 25, 3) := by decide +kernel
theorem dX7_forget_5 : decode cX7_forget 5 = .ok (.return_, 1) := by decide +kernel
def fX7_forget_59 (S : Nat → Int32) : Option ((Nat → Int32)) :=
  lt (va_up S 5903 (0 : Int32)) (fun S1 =>
  some S1)
set_option maxHeartbeats 4000000 in
set_option maxRecDepth 100000 in
theorem kX7_forget_59 (l : Launch) (B : jBT) (D : va_G) (ad : Nat → Nat) (cA : Nat → ClassId) (hI : jI ad TC) (S : Nat → Int32) (V : Nat → Nat → Int32) (L : Nat → Int64) (S0 : Nat → Int32) (h : fX7_forget_59 S = some S0) : jM l yX7_forget cX7_forget 1 none ({ frames := 0, cells := 0, slots := 0, locals := 0 }) B D TC ad cA [.ref (ad 59)] S V L none S0 V L := by
  refine jM_of (by decide) TC_ok hI (Nat.le_of_ble_eq_true rfl) ?_
  intro p e s m args below meth c C hr hlk
  refine j_lv (lv2 := [(0, .ref (ad 59))]) rfl ?_
  unfold fX7_forget_59 at h
  refine j_aload_n C 0 rfl dX7_forget_0 rfl ?_
  refine j_iconst C dX7_forget_1 ci_0 ?_
  refine fp_X7_25_TC_59 C rfl rfl dX7_forget_2 ?_
  refine lt_elim h (fun S1 e_S1 h => ?_)
  refine j_S e_S1 ?_
  cases h
  exact j_vret C hr hlk rfl dX7_forget_5
theorem dX9_operatorTold_0 : decode cX9_operatorTold 0 = .ok (.aload_n 0, 1) := by decide +kernel
theorem dX9_operatorTold_1 : decode cX9_operatorTold 1 = .ok (.getfield 15, 3) := by decide +kernel
theorem dX9_operatorTold_4 : decode cX9_operatorTold 4 = .ok (.invokevirtual 42, 3) := by decide +kernel
theorem dX9_operatorTold_7 : decode cX9_operatorTold 7 = .ok (.lookupswitch 93 #[(42, 87), (43, 81), (45, 84), (47, 90), (60, 77), (61, 79), (110, 73), (111, 75)], 73) := by decide +kernel
theorem dX9_operatorTold_80 : decode cX9_operatorTold 80 = .ok (.iconst 1, 1) := by decide +kernel
theorem dX9_operatorTold_81 : decode cX9_operatorTold 81 = .ok (.ireturn, 1) := by decide +kernel
theorem dX9_operatorTold_82 : decode cX9_operatorTold 82 = .ok (.iconst 2, 1) := by decide +kernel
theorem dX9_operatorTold_83 : decode cX9_operatorTold 83 = .ok (.ireturn, 1) := by decide +kernel
theorem dX9_operatorTold_84 : decode cX9_operatorTold 84 = .ok (.iconst 4, 1) := by decide +kernel
theorem dX9_operatorTold_85 : decode cX9_operatorTold 85 = .ok (.ireturn, 1) := by decide +kernel
theorem dX9_operatorTold_86 : decode cX9_operatorTold 86 = .ok (.iconst 5, 1) := by decide +kernel
theorem dX9_operatorTold_87 : decode cX9_operatorTold 87 = .ok (.ireturn, 1) := by decide +kernel
theorem dX9_operatorTold_88 : decode cX9_operatorTold 88 = .ok (.bipush 6, 2) := by decide +kernel
theorem dX9_operatorTold_90 : decode cX9_operatorTold 90 = .ok (.ireturn, 1) := by decide +kernel
theorem dX9_operatorTold_91 : decode cX9_operatorTold 91 = .ok (.bipush 7, 2) := by decide +kernel
theorem dX9_operatorTold_93 : decode cX9_operatorTold 93 = .ok (.ireturn, 1) := by decide +kernel
theorem dX9_operatorTold_94 : decode cX9_operatorTold 94 = .ok (.bipush 8, 2) := by decide +kernel
theorem dX9_operatorTold_96 : decode cX9_operatorTold 96 = .ok (.ireturn, 1) := by decide +kernel
theorem dX9_operatorTold_97 : decode cX9_operatorTold 97 = .ok (.bipush 9, 2) := by decide +kernel
theorem dX9_operatorTold_99 : decode cX9_operatorTold 99 = .ok (.ireturn, 1) := by decide +kernel
theorem dX9_operatorTold_100 : decode cX9_operatorTold 100 = .ok (.iconst (-1), 1) := by decide +kernel
theorem dX9_operatorTold_101 : decode cX9_operatorTold 101 = .ok (.ireturn, 1) := by decide +kernel
def fX9_operatorTold_25 (S : Nat → Int32) (V : Nat → Nat → Int32) : Option (Int32) :=
  bd1 (fX10_kind_20 S V) (fun r1 =>
  (if r1 = (42 : Int32) then
  some (8 : Int32)
  else
  (if r1 = (43 : Int32) then
  some (6 : Int32)
  else
  (if r1 = (45 : Int32) then
  some (7 : Int32)
  else
  (if r1 = (47 : Int32) then
  some (9 : Int32)
  else
  (if r1 = (60 : Int32) then
  some (4 : Int32)
  else
  (if r1 = (61 : Int32) then
  some (5 : Int32)
  else
  (if r1 = (110 : Int32) then
  some (1 : Int32)
  else
  (if r1 = (111 : Int32) then
  some (2 : Int32)
  else
  some (-1 : Int32))))))))))
set_option maxHeartbeats 4000000 in
set_option maxRecDepth 100000 in
theorem kX9_operatorTold_25 (l : Launch) (B : jBT) (D : va_G) (ad : Nat → Nat) (cA : Nat → ClassId) (hI : jI ad TC) (S : Nat → Int32) (V : Nat → Nat → Int32) (L : Nat → Int64) (r0 : Int32) (h : fX9_operatorTold_25 S V = some r0) : jM l yX9_operatorTold cX9_operatorTold 1 (some .int) ({ frames := 1, cells := 0, slots := 0, locals := 20 }) B D TC ad cA [.ref (ad 25)] S V L (some (.int r0)) S V L := by
  refine jM_of (by decide) TC_ok hI (Nat.le_of_ble_eq_true rfl) ?_
  intro p e s m args below meth c C hr hlk
  refine j_lv (lv2 := [(0, .ref (ad 25))]) rfl ?_
  unfold fX9_operatorTold_25 at h
  refine j_aload_n C 0 rfl dX9_operatorTold_0 rfl ?_
  refine fg_X9_15_TC_25 C dX9_operatorTold_1 ?_
  obtain ⟨r1, h2, h⟩ := bd1_elim h
  refine j_callV (As := []) (rest := []) C (kX10_kind_20 l B D ad cA hI S V L _ h2) mw_X10_kind wd911 wd912 wd972 tc_20 rfl rfl ⟨rfl, rfl, by decide, by decide⟩ ⟨Nat.zero_le _, Nat.zero_le _⟩ rfl rfl (Nat.le_of_ble_eq_true rfl) dX9_operatorTold_4 ?_
  by_cases c3 : r1 = (42 : Int32)
  · have h := (if_pos c3).symm.trans h
    refine j_lookup (tgt := 94) C dX9_operatorTold_7 (by decide) (by rw [c3]; rfl) (by decide) ?_
    refine j_bipush C dX9_operatorTold_94 cb_8 ?_
    cases h
    exact j_iret C hr hlk rfl dX9_operatorTold_96
  have h := (if_neg c3).symm.trans h
  have n_c3 := ne_toInt (z := 42) (by decide) c3
  by_cases c4 : r1 = (43 : Int32)
  · have h := (if_pos c4).symm.trans h
    refine j_lookup (tgt := 88) C dX9_operatorTold_7 (by decide) (by rw [c4]; rfl) (by decide) ?_
    refine j_bipush C dX9_operatorTold_88 cb_6 ?_
    cases h
    exact j_iret C hr hlk rfl dX9_operatorTold_90
  have h := (if_neg c4).symm.trans h
  have n_c4 := ne_toInt (z := 43) (by decide) c4
  by_cases c5 : r1 = (45 : Int32)
  · have h := (if_pos c5).symm.trans h
    refine j_lookup (tgt := 91) C dX9_operatorTold_7 (by decide) (by rw [c5]; rfl) (by decide) ?_
    refine j_bipush C dX9_operatorTold_91 cb_7 ?_
    cases h
    exact j_iret C hr hlk rfl dX9_operatorTold_93
  have h := (if_neg c5).symm.trans h
  have n_c5 := ne_toInt (z := 45) (by decide) c5
  by_cases c6 : r1 = (47 : Int32)
  · have h := (if_pos c6).symm.trans h
    refine j_lookup (tgt := 97) C dX9_operatorTold_7 (by decide) (by rw [c6]; rfl) (by decide) ?_
    refine j_bipush C dX9_operatorTold_97 cb_9 ?_
    cases h
    exact j_iret C hr hlk rfl dX9_operatorTold_99
  have h := (if_neg c6).symm.trans h
  have n_c6 := ne_toInt (z := 47) (by decide) c6
  by_cases c7 : r1 = (60 : Int32)
  · have h := (if_pos c7).symm.trans h
    refine j_lookup (tgt := 84) C dX9_operatorTold_7 (by decide) (by rw [c7]; rfl) (by decide) ?_
    refine j_iconst C dX9_operatorTold_84 ci_4 ?_
    cases h
    exact j_iret C hr hlk rfl dX9_operatorTold_85
  have h := (if_neg c7).symm.trans h
  have n_c7 := ne_toInt (z := 60) (by decide) c7
  by_cases c8 : r1 = (61 : Int32)
  · have h := (if_pos c8).symm.trans h
    refine j_lookup (tgt := 86) C dX9_operatorTold_7 (by decide) (by rw [c8]; rfl) (by decide) ?_
    refine j_iconst C dX9_operatorTold_86 ci_5 ?_
    cases h
    exact j_iret C hr hlk rfl dX9_operatorTold_87
  have h := (if_neg c8).symm.trans h
  have n_c8 := ne_toInt (z := 61) (by decide) c8
  by_cases c9 : r1 = (110 : Int32)
  · have h := (if_pos c9).symm.trans h
    refine j_lookup (tgt := 80) C dX9_operatorTold_7 (by decide) (by rw [c9]; rfl) (by decide) ?_
    refine j_iconst C dX9_operatorTold_80 ci_1 ?_
    cases h
    exact j_iret C hr hlk rfl dX9_operatorTold_81
  have h := (if_neg c9).symm.trans h
  have n_c9 := ne_toInt (z := 110) (by decide) c9
  by_cases c10 : r1 = (111 : Int32)
  · have h := (if_pos c10).symm.trans h
    refine j_lookup (tgt := 82) C dX9_operatorTold_7 (by decide) (by rw [c10]; rfl) (by decide) ?_
    refine j_iconst C dX9_operatorTold_82 ci_2 ?_
    cases h
    exact j_iret C hr hlk rfl dX9_operatorTold_83
  have h := (if_neg c10).symm.trans h
  have n_c10 := ne_toInt (z := 111) (by decide) c10
  refine j_lookup (tgt := 100) (off := 93) C dX9_operatorTold_7 (by decide) (by simp [Op.lookupswitch.offset, n_c3, n_c4, n_c5, n_c6, n_c7, n_c8, n_c9, n_c10]) (by decide) ?_
  refine j_iconst C dX9_operatorTold_100 ci_m1 ?_
  cases h
  exact j_iret C hr hlk rfl dX9_operatorTold_101
theorem dX9_push_0 : decode cX9_push 0 = .ok (.aload_n 0, 1) := by decide +kernel
theorem dX9_push_1 : decode cX9_push 1 = .ok (.getfield 23, 3) := by decide +kernel
theorem dX9_push_4 : decode cX9_push 4 = .ok (.bipush 84, 2) := by decide +kernel
theorem dX9_push_6 : decode cX9_push 6 = .ok (.if_icmp .ge 23, 3) := by decide +kernel
theorem dX9_push_9 : decode cX9_push 9 = .ok (.aload_n 0, 1) := by decide +kernel
theorem dX9_push_10 : decode cX9_push 10 = .ok (.getfield 11, 3) := by decide +kernel
theorem dX9_push_13 : decode cX9_push 13 = .ok (.aload_n 0, 1) := by decide +kernel
theorem dX9_push_14 : decode cX9_push 14 = .ok (.getfield 23, 3) := by decide +kernel
theorem dX9_push_17 : decode cX9_push 17 = .ok (.iload_n 1, 1) := by decide +kernel
theorem dX9_push_18 : decode cX9_push 18 = .ok (.iastore, 1) := by decide +kernel
theorem dX9_push_19 : decode cX9_push 19 = .ok (.aload_n 0, 1) := by decide +kernel
theorem dX9_push_20 : decode cX9_push 20 = .ok (.dup, 1) := by decide +kernel
theorem dX9_push_21 : decode cX9_push 21 = .ok (.getfield 23, 3) := by decide +kernel
theorem dX9_push_24 : decode cX9_push 24 = .ok (.iconst 1, 1) := by decide +kernel
theorem dX9_push_25 : decode cX9_push 25 = .ok (.iadd, 1) := by decide +kernel
theorem dX9_push_26 : decode cX9_push 26 = .ok (.putfield 23, 3) := by decide +kernel
theorem dX9_push_29 : decode cX9_push 29 = .ok (.return_, 1) := by decide +kernel
def fX9_push_25 (S : Nat → Int32) (V : Nat → Nat → Int32) (a1 : Int32) : Option ((Nat → Int32) × (Nat → Nat → Int32)) :=
  (if (84 : Int32) ≤ (S 2503) then
  some (S, V)
  else
  lt ((S 2503)) (fun x2 =>
  gd (ib x2 84) (
  lt (va_up V 26 (upd (V 26) (x2).toNatClampNeg a1)) (fun V4 =>
  lt (((S 2503) + (1 : Int32))) (fun x5 =>
  lt (va_up S 2503 x5) (fun S6 =>
  some (S6, V4)))))))
set_option maxHeartbeats 4000000 in
set_option maxRecDepth 100000 in
theorem kX9_push_25 (l : Launch) (B : jBT) (D : va_G) (ad : Nat → Nat) (cA : Nat → ClassId) (hI : jI ad TC) (S : Nat → Int32) (V : Nat → Nat → Int32) (L : Nat → Int64) (a1 : Int32) (S0 : Nat → Int32) (V0 : Nat → Nat → Int32) (h : fX9_push_25 S V a1 = some (S0, V0)) : jM l yX9_push cX9_push 2 none ({ frames := 0, cells := 0, slots := 0, locals := 0 }) B D TC ad cA [.ref (ad 25), .int a1] S V L none S0 V0 L := by
  refine jM_of (by decide) TC_ok hI (Nat.le_of_ble_eq_true rfl) ?_
  intro p e s m args below meth c C hr hlk
  refine j_lv (lv2 := [(0, .ref (ad 25)), (1, .int a1)]) rfl ?_
  unfold fX9_push_25 at h
  refine j_aload_n C 0 rfl dX9_push_0 rfl ?_
  refine fg_X9_23_TC_25 C dX9_push_1 ?_
  refine j_bipush C dX9_push_4 cb_84 ?_
  refine j_icmp_ge (tgt := 29) C dX9_push_6 (by decide) (fun c1 => ?_) (fun c1 => ?_)
  · have h := (if_pos c1).symm.trans h
    cases h
    exact j_vret C hr hlk rfl dX9_push_29
  · have h := (if_neg c1).symm.trans h
    refine j_aload_n C 0 rfl dX9_push_9 rfl ?_
    refine fg_X9_11_TC_25 C dX9_push_10 ?_
    refine j_aload_n C 0 rfl dX9_push_13 rfl ?_
    refine fg_X9_23_TC_25 C dX9_push_14 ?_
    refine j_iload_n C 1 rfl dX9_push_17 rfl ?_
    refine lt_elim h (fun x2 e_x2 h => ?_)
    refine j_top2 e_x2 ?_
    obtain ⟨g3, h⟩ := gd_elim h
    refine j_iast C tc_26 (ib_in g3) dX9_push_18 ?_
    refine lt_elim h (fun V4 e_V4 h => ?_)
    refine j_V e_V4 ?_
    refine j_aload_n C 0 rfl dX9_push_19 rfl ?_
    refine j_dup C dX9_push_20 rfl ?_
    refine fg_X9_23_TC_25 C dX9_push_21 ?_
    refine j_iconst C dX9_push_24 ci_1 ?_
    refine j_iadd C dX9_push_25 ?_
    refine lt_elim h (fun x5 e_x5 h => ?_)
    refine j_top e_x5 ?_
    refine fp_X9_23_TC_25 C dX9_push_26 ?_
    refine lt_elim h (fun S6 e_S6 h => ?_)
    refine j_S e_S6 ?_
    cases h
    exact j_vret C hr hlk rfl dX9_push_29
def fX2_addCode_12 (S : Nat → Int32) (V : Nat → Nat → Int32) (a1 : Int32) : Option ((Nat → Int32) × (Nat → Nat → Int32)) :=
  (if (600 : Int32) ≤ (S 1213) then
  some (S, V)
  else
  lt ((S 1213)) (fun x2 =>
  gd (ib x2 600) (
  lt (va_up V 18 (upd (V 18) (x2).toNatClampNeg a1)) (fun V4 =>
  lt (((S 1213) + (1 : Int32))) (fun x5 =>
  lt (va_up S 1213 x5) (fun S6 =>
  some (S6, V4)))))))
set_option maxHeartbeats 4000000 in
set_option maxRecDepth 100000 in
theorem kX2_addCode_12 (l : Launch) (B : jBT) (D : va_G) (ad : Nat → Nat) (cA : Nat → ClassId) (hI : jI ad TC) (S : Nat → Int32) (V : Nat → Nat → Int32) (L : Nat → Int64) (a1 : Int32) (S0 : Nat → Int32) (V0 : Nat → Nat → Int32) (h : fX2_addCode_12 S V a1 = some (S0, V0)) : jM l yX2_addCode cX2_addCode 2 none ({ frames := 0, cells := 0, slots := 0, locals := 0 }) B D TC ad cA [.ref (ad 12), .int a1] S V L none S0 V0 L := by
  refine jM_of (by decide) TC_ok hI (Nat.le_of_ble_eq_true rfl) ?_
  intro p e s m args below meth c C hr hlk
  refine j_lv (lv2 := [(0, .ref (ad 12)), (1, .int a1)]) rfl ?_
  unfold fX2_addCode_12 at h
  refine j_aload_n C 0 rfl dX2_addCode_0 rfl ?_
  refine fg_X2_55_TC_12 C dX2_addCode_1 ?_
  refine j_sipush C dX2_addCode_4 cs_600 ?_
  refine j_icmp_ge (tgt := 30) C dX2_addCode_7 (by decide) (fun c1 => ?_) (fun c1 => ?_)
  · have h := (if_pos c1).symm.trans h
    cases h
    exact j_vret C hr hlk rfl dX2_addCode_30
  · have h := (if_neg c1).symm.trans h
    refine j_aload_n C 0 rfl dX2_addCode_10 rfl ?_
    refine fg_X2_27_TC_12 C dX2_addCode_11 ?_
    refine j_aload_n C 0 rfl dX2_addCode_14 rfl ?_
    refine fg_X2_55_TC_12 C dX2_addCode_15 ?_
    refine j_iload_n C 1 rfl dX2_addCode_18 rfl ?_
    refine lt_elim h (fun x2 e_x2 h => ?_)
    refine j_top2 e_x2 ?_
    obtain ⟨g3, h⟩ := gd_elim h
    refine j_iast C tc_18 (ib_in g3) dX2_addCode_19 ?_
    refine lt_elim h (fun V4 e_V4 h => ?_)
    refine j_V e_V4 ?_
    refine j_aload_n C 0 rfl dX2_addCode_20 rfl ?_
    refine j_dup C dX2_addCode_21 rfl ?_
    refine fg_X2_55_TC_12 C dX2_addCode_22 ?_
    refine j_iconst C dX2_addCode_25 ci_1 ?_
    refine j_iadd C dX2_addCode_26 ?_
    refine lt_elim h (fun x5 e_x5 h => ?_)
    refine j_top e_x5 ?_
    refine fp_X2_55_TC_12 C dX2_addCode_27 ?_
    refine lt_elim h (fun S6 e_S6 h => ?_)
    refine j_S e_S6 ?_
    cases h
    exact j_vret C hr hlk rfl dX2_addCode_30
theorem dX9_readConstant_0 : decode cX9_readConstant 0 = .ok (.aload_n 0, 1) := by decide +kernel
theorem dX9_readConstant_1 : decode cX9_readConstant 1 = .ok (.getfield 15, 3) := by decide +kernel
theorem dX9_readConstant_4 : decode cX9_readConstant 4 = .ok (.invokevirtual 84, 3) := by decide +kernel
theorem dX9_readConstant_7 : decode cX9_readConstant 7 = .ok (.iconst (-1), 1) := by decide +kernel
theorem dX9_readConstant_8 : decode cX9_readConstant 8 = .ok (.if_icmp .ne 5, 3) := by decide +kernel
theorem dX9_readConstant_11 : decode cX9_readConstant 11 = .ok (.iconst 2, 1) := by decide +kernel
theorem dX9_readConstant_12 : decode cX9_readConstant 12 = .ok (.ireturn, 1) := by decide +kernel
theorem dX9_readConstant_13 : decode cX9_readConstant 13 = .ok (.aload_n 0, 1) := by decide +kernel
theorem dX9_readConstant_14 : decode cX9_readConstant 14 = .ok (.getfield 19, 3) := by decide +kernel
theorem dX9_readConstant_17 : decode cX9_readConstant 17 = .ok (.aload_n 0, 1) := by decide +kernel
theorem dX9_readConstant_18 : decode cX9_readConstant 18 = .ok (.getfield 15, 3) := by decide +kernel
theorem dX9_readConstant_21 : decode cX9_readConstant 21 = .ok (.invokevirtual 84, 3) := by decide +kernel
theorem dX9_readConstant_24 : decode cX9_readConstant 24 = .ok (.invokevirtual 87, 3) := by decide +kernel
theorem dX9_readConstant_27 : decode cX9_readConstant 27 = .ok (.aload_n 0, 1) := by decide +kernel
theorem dX9_readConstant_28 : decode cX9_readConstant 28 = .ok (.iconst 0, 1) := by decide +kernel
theorem dX9_readConstant_29 : decode cX9_readConstant 29 = .ok (.putfield 34, 3) := by decide +kernel
theorem dX9_readConstant_32 : decode cX9_readConstant 32 = .ok (.aload_n 0, 1) := by decide +kernel
theorem dX9_readConstant_33 : decode cX9_readConstant 33 = .ok (.getfield 15, 3) := by decide +kernel
theorem dX9_readConstant_36 : decode cX9_readConstant 36 = .ok (.invokevirtual 81, 3) := by decide +kernel
theorem dX9_readConstant_39 : decode cX9_readConstant 39 = .ok (.iconst 0, 1) := by decide +kernel
theorem dX9_readConstant_40 : decode cX9_readConstant 40 = .ok (.ireturn, 1) := by decide +kernel
def fX9_readConstant_25 (S : Nat → Int32) (V : Nat → Nat → Int32) : Option (Int32 × (Nat → Int32) × (Nat → Nat → Int32)) :=
  bd1 (fX10_number_20 S V) (fun r1 =>
  (if r1 = (-1 : Int32) then
  some ((2 : Int32), S, V)
  else
  bd1 (fX10_number_20 S V) (fun r4 =>
  bd2 (fX2_addCode_12 S V r4) (fun S6 V7 =>
  lt (va_up S6 2505 (0 : Int32)) (fun S9 =>
  bd1 (fX10_advance_20 S9 V7) (fun S10 =>
  some ((0 : Int32), S10, V7)))))))
set_option maxHeartbeats 4000000 in
set_option maxRecDepth 100000 in
theorem kX9_readConstant_25 (l : Launch) (B : jBT) (D : va_G) (ad : Nat → Nat) (cA : Nat → ClassId) (hI : jI ad TC) (S : Nat → Int32) (V : Nat → Nat → Int32) (L : Nat → Int64) (r0 : Int32) (S0 : Nat → Int32) (V0 : Nat → Nat → Int32) (h : fX9_readConstant_25 S V = some (r0, S0, V0)) : jM l yX9_readConstant cX9_readConstant 1 (some .int) ({ frames := 1, cells := 0, slots := 0, locals := 21 }) B D TC ad cA [.ref (ad 25)] S V L (some (.int r0)) S0 V0 L := by
  refine jM_of (by decide) TC_ok hI (Nat.le_of_ble_eq_true rfl) ?_
  intro p e s m args below meth c C hr hlk
  refine j_lv (lv2 := [(0, .ref (ad 25))]) rfl ?_
  unfold fX9_readConstant_25 at h
  refine j_aload_n C 0 rfl dX9_readConstant_0 rfl ?_
  refine fg_X9_15_TC_25 C dX9_readConstant_1 ?_
  obtain ⟨r1, h2, h⟩ := bd1_elim h
  refine j_callV (As := []) (rest := []) C (kX10_number_20 l B D ad cA hI S V L _ h2) mw_X10_number wd931 wd932 wd981 tc_20 rfl rfl ⟨rfl, rfl, by decide, by decide⟩ ⟨Nat.zero_le _, Nat.zero_le _⟩ rfl rfl (Nat.le_of_ble_eq_true rfl) dX9_readConstant_4 ?_
  refine j_iconst C dX9_readConstant_7 ci_m1 ?_
  refine j_icmp_ne (tgt := 13) C dX9_readConstant_8 (by decide) (fun c3 => ?_) (fun c3 => ?_)
  · have h := (if_neg c3).symm.trans h
    refine j_aload_n C 0 rfl dX9_readConstant_13 rfl ?_
    refine fg_X9_19_TC_25 C dX9_readConstant_14 ?_
    refine j_aload_n C 0 rfl dX9_readConstant_17 rfl ?_
    refine fg_X9_15_TC_25 C dX9_readConstant_18 ?_
    obtain ⟨r4, h5, h⟩ := bd1_elim h
    refine j_callV (As := []) (rest := [.ref (ad 12)]) C (kX10_number_20 l B D ad cA hI S V L _ h5) mw_X10_number wd931 wd932 wd981 tc_20 rfl rfl ⟨rfl, rfl, by decide, by decide⟩ ⟨Nat.zero_le _, Nat.zero_le _⟩ rfl rfl (Nat.le_of_ble_eq_true rfl) dX9_readConstant_21 ?_
    obtain ⟨S6, V7, h8, h⟩ := bd2_elim h
    refine j_callV (As := [.int r4]) (rest := []) C (kX2_addCode_12 l B D ad cA hI S V L r4 _ _ h8) mw_X2_addCode wd983 wd984 wd982 tc_12 rfl rfl ⟨rfl, rfl, by decide, by decide⟩ ⟨Nat.zero_le _, Nat.zero_le _⟩ rfl rfl (Nat.le_of_ble_eq_true rfl) dX9_readConstant_24 ?_
    refine j_aload_n C 0 rfl dX9_readConstant_27 rfl ?_
    refine j_iconst C dX9_readConstant_28 ci_0 ?_
    refine fp_X9_34_TC_25 C rfl rfl dX9_readConstant_29 ?_
    refine lt_elim h (fun S9 e_S9 h => ?_)
    refine j_S e_S9 ?_
    refine j_aload_n C 0 rfl dX9_readConstant_32 rfl ?_
    refine fg_X9_15_TC_25 C dX9_readConstant_33 ?_
    obtain ⟨S10, h11, h⟩ := bd1_elim h
    refine j_callV (As := []) (rest := []) C (kX10_advance_20 l B D ad cA hI S9 V7 L _ h11) mw_X10_advance wd923 wd924 wd986 tc_20 rfl rfl ⟨rfl, rfl, by decide, by decide⟩ ⟨Nat.zero_le _, Nat.zero_le _⟩ rfl rfl (Nat.le_of_ble_eq_true rfl) dX9_readConstant_36 ?_
    refine j_iconst C dX9_readConstant_39 ci_0 ?_
    cases h
    exact j_iret C hr hlk rfl dX9_readConstant_40
  · have h := (if_pos c3).symm.trans h
    refine j_iconst C dX9_readConstant_11 ci_2 ?_
    cases h
    exact j_iret C hr hlk rfl dX9_readConstant_12
theorem dX9_readNot_0 : decode cX9_readNot 0 = .ok (.aload_n 0, 1) := by decide +kernel
theorem dX9_readNot_1 : decode cX9_readNot 1 = .ok (.getfield 60, 3) := by decide +kernel
theorem dX9_readNot_4 : decode cX9_readNot 4 = .ok (.bipush 6, 2) := by decide +kernel
theorem dX9_readNot_6 : decode cX9_readNot 6 = .ok (.if_icmp .lt 5, 3) := by decide +kernel
theorem dX9_readNot_9 : decode cX9_readNot 9 = .ok (.iconst 2, 1) := by decide +kernel
theorem dX9_readNot_10 : decode cX9_readNot 10 = .ok (.ireturn, 1) := by decide +kernel
theorem dX9_readNot_11 : decode cX9_readNot 11 = .ok (.aload_n 0, 1) := by decide +kernel
theorem dX9_readNot_12 : decode cX9_readNot 12 = .ok (.dup, 1) := by decide +kernel
theorem dX9_readNot_13 : decode cX9_readNot 13 = .ok (.getfield 60, 3) := by decide +kernel
theorem dX9_readNot_16 : decode cX9_readNot 16 = .ok (.iconst 1, 1) := by decide +kernel
theorem dX9_readNot_17 : decode cX9_readNot 17 = .ok (.iadd, 1) := by decide +kernel
theorem dX9_readNot_18 : decode cX9_readNot 18 = .ok (.putfield 60, 3) := by decide +kernel
theorem dX9_readNot_21 : decode cX9_readNot 21 = .ok (.aload_n 0, 1) := by decide +kernel
theorem dX9_readNot_22 : decode cX9_readNot 22 = .ok (.iconst 3, 1) := by decide +kernel
theorem dX9_readNot_23 : decode cX9_readNot 23 = .ok (.invokevirtual 78, 3) := by decide +kernel
theorem dX9_readNot_26 : decode cX9_readNot 26 = .ok (.aload_n 0, 1) := by decide +kernel
theorem dX9_readNot_27 : decode cX9_readNot 27 = .ok (.getfield 15, 3) := by decide +kernel
theorem dX9_readNot_30 : decode cX9_readNot 30 = .ok (.invokevirtual 81, 3) := by decide +kernel
theorem dX9_readNot_33 : decode cX9_readNot 33 = .ok (.iconst 0, 1) := by decide +kernel
theorem dX9_readNot_34 : decode cX9_readNot 34 = .ok (.ireturn, 1) := by decide +kernel
def fX9_readNot_25 (S : Nat → Int32) (V : Nat → Nat → Int32) : Option (Int32 × (Nat → Int32) × (Nat → Nat → Int32)) :=
  (if (S 2507) < (6 : Int32) then
  lt (((S 2507) + (1 : Int32))) (fun x2 =>
  lt (va_up S 2507 x2) (fun S3 =>
  bd2 (fX9_push_25 S3 V (3 : Int32)) (fun S4 V5 =>
  bd1 (fX10_advance_20 S4 V5) (fun S7 =>
  some ((0 : Int32), S7, V5)))))
  else
  some ((2 : Int32), S, V))
set_option maxHeartbeats 4000000 in
set_option maxRecDepth 100000 in
theorem kX9_readNot_25 (l : Launch) (B : jBT) (D : va_G) (ad : Nat → Nat) (cA : Nat → ClassId) (hI : jI ad TC) (S : Nat → Int32) (V : Nat → Nat → Int32) (L : Nat → Int64) (r0 : Int32) (S0 : Nat → Int32) (V0 : Nat → Nat → Int32) (h : fX9_readNot_25 S V = some (r0, S0, V0)) : jM l yX9_readNot cX9_readNot 1 (some .int) ({ frames := 1, cells := 0, slots := 0, locals := 21 }) B D TC ad cA [.ref (ad 25)] S V L (some (.int r0)) S0 V0 L := by
  refine jM_of (by decide) TC_ok hI (Nat.le_of_ble_eq_true rfl) ?_
  intro p e s m args below meth c C hr hlk
  refine j_lv (lv2 := [(0, .ref (ad 25))]) rfl ?_
  unfold fX9_readNot_25 at h
  refine j_aload_n C 0 rfl dX9_readNot_0 rfl ?_
  refine fg_X9_60_TC_25 C dX9_readNot_1 ?_
  refine j_bipush C dX9_readNot_4 cb_6 ?_
  refine j_icmp_lt (tgt := 11) C dX9_readNot_6 (by decide) (fun c1 => ?_) (fun c1 => ?_)
  · have h := (if_pos c1).symm.trans h
    refine j_aload_n C 0 rfl dX9_readNot_11 rfl ?_
    refine j_dup C dX9_readNot_12 rfl ?_
    refine fg_X9_60_TC_25 C dX9_readNot_13 ?_
    refine j_iconst C dX9_readNot_16 ci_1 ?_
    refine j_iadd C dX9_readNot_17 ?_
    refine lt_elim h (fun x2 e_x2 h => ?_)
    refine j_top e_x2 ?_
    refine fp_X9_60_TC_25 C dX9_readNot_18 ?_
    refine lt_elim h (fun S3 e_S3 h => ?_)
    refine j_S e_S3 ?_
    refine j_aload_n C 0 rfl dX9_readNot_21 rfl ?_
    refine j_iconst C dX9_readNot_22 ci_3 ?_
    obtain ⟨S4, V5, h6, h⟩ := bd2_elim h
    refine j_callV (As := [.int (3 : Int32)]) (rest := []) C (kX9_push_25 l B D ad cA hI S3 V L (3 : Int32) _ _ h6) mw_X9_push wd993 wd29 wd991 tc_25 rfl rfl ⟨rfl, rfl, by decide, by decide⟩ ⟨Nat.zero_le _, Nat.zero_le _⟩ rfl rfl (Nat.le_of_ble_eq_true rfl) dX9_readNot_23 ?_
    refine j_aload_n C 0 rfl dX9_readNot_26 rfl ?_
    refine fg_X9_15_TC_25 C dX9_readNot_27 ?_
    obtain ⟨S7, h8, h⟩ := bd1_elim h
    refine j_callV (As := []) (rest := []) C (kX10_advance_20 l B D ad cA hI S4 V5 L _ h8) mw_X10_advance wd923 wd924 wd986 tc_20 rfl rfl ⟨rfl, rfl, by decide, by decide⟩ ⟨Nat.zero_le _, Nat.zero_le _⟩ rfl rfl (Nat.le_of_ble_eq_true rfl) dX9_readNot_30 ?_
    refine j_iconst C dX9_readNot_33 ci_0 ?_
    cases h
    exact j_iret C hr hlk rfl dX9_readNot_34
  · have h := (if_neg c1).symm.trans h
    refine j_iconst C dX9_readNot_9 ci_2 ?_
    cases h
    exact j_iret C hr hlk rfl dX9_readNot_10
