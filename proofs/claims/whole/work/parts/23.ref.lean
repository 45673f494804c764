theorem dX12_lease_0 : decode cX12_lease 0 = .ok (.aload_n 0, 1) := by decide +kernel
theorem dX12_lease_1 : decode cX12_lease 1 = .ok (.iconst 0, 1) := by decide +kernel
theorem dX12_lease_2 : decode cX12_lease 2 = .ok (.putfield 93, 3) := by decide +kernel
theorem dX12_lease_5 : decode cX12_lease 5 = .ok (.aload_n 0, 1) := by decide +kernel
theorem dX12_lease_6 : decode cX12_lease 6 = .ok (.iload_n 1, 1) := by decide +kernel
theorem dX12_lease_7 : decode cX12_lease 7 = .ok (.iload_n 2, 1) := by decide +kernel
theorem dX12_lease_8 : decode cX12_lease 8 = .ok (.iload_n 3, 1) := by decide +kernel
theorem dX12_lease_9 : decode cX12_lease 9 = .ok (.iload 4, 2) := by decide +kernel
theorem dX12_lease_11 : decode cX12_lease 11 = .ok (.invokevirtual 331, 3) := by decide +kernel
theorem dX12_lease_14 : decode cX12_lease 14 = .ok (.istore 5, 2) := by decide +kernel
theorem dX12_lease_16 : decode cX12_lease 16 = .ok (.iload 5, 2) := by decide +kernel
theorem dX12_lease_18 : decode cX12_lease 18 = .ok (.ifCond .ne 16, 3) := by decide +kernel
theorem dX12_lease_21 : decode cX12_lease 21 = .ok (.aload_n 0, 1) := by decide +kernel
theorem dX12_lease_22 : decode cX12_lease 22 = .ok (.dup, 1) := by decide +kernel
theorem dX12_lease_23 : decode cX12_lease 23 = .ok (.getfield 278, 3) := by decide +kernel
theorem dX12_lease_26 : decode cX12_lease 26 = .ok (.iconst 1, 1) := by decide +kernel
theorem dX12_lease_27 : decode cX12_lease 27 = .ok (.iadd, 1) := by decide +kernel
theorem dX12_lease_28 : decode cX12_lease 28 = .ok (.putfield 278, 3) := by decide +kernel
theorem dX12_lease_31 : decode cX12_lease 31 = .ok (.goto 13, 3) := by decide +kernel
theorem dX12_lease_34 : decode cX12_lease 34 = .ok (.aload_n 0, 1) := by decide +kernel
theorem dX12_lease_35 : decode cX12_lease 35 = .ok (.getfield 38, 3) := by decide +kernel
theorem dX12_lease_38 : decode cX12_lease 38 = .ok (.iconst 1, 1) := by decide +kernel
theorem dX12_lease_39 : decode cX12_lease 39 = .ok (.dup2, 1) := by decide +kernel
theorem dX12_lease_40 : decode cX12_lease 40 = .ok (.iaload, 1) := by decide +kernel
theorem dX12_lease_41 : decode cX12_lease 41 = .ok (.iconst 1, 1) := by decide +kernel
theorem dX12_lease_42 : decode cX12_lease 42 = .ok (.iadd, 1) := by decide +kernel
theorem dX12_lease_43 : decode cX12_lease 43 = .ok (.iastore, 1) := by decide +kernel
theorem dX12_lease_44 : decode cX12_lease 44 = .ok (.iload 5, 2) := by decide +kernel
theorem dX12_lease_46 : decode cX12_lease 46 = .ok (.ireturn, 1) := by decide +kernel
def fX12_lease_0 (S : Nat → Int32) (V : Nat → Nat → Int32) (a1 : Int32) (a2 : Int32) (a3 : Int32) (a4 : Int32) : Option (Int32 × (Nat → Int32) × (Nat → Nat → Int32)) :=
  lt (va_up S 0 (0 : Int32)) (fun S1 =>
  bd2 (fX12_trouble_0 S1 V a1 a2 a3 a4) (fun r2 V3 =>
  (if r2 = 0 then
  lt (((S1 42) + (1 : Int32))) (fun x10 =>
  lt (va_up S1 42 x10) (fun S11 =>
  some (r2, S11, V3)))
  else
  gd (ib (1 : Int32) 3) (
  lt (((V3 6 ((1 : Int32)).toNatClampNeg) + (1 : Int32))) (fun x7 =>
  gd (ib (1 : Int32) 3) (
  lt (va_up V3 6 (upd (V3 6) ((1 : Int32)).toNatClampNeg x7)) (fun V9 =>
  some (r2, S1, V9))))))))
set_option maxHeartbeats 4000000 in
set_option maxRecDepth 100000 in
theorem kX12_lease_0 (l : Launch) (B : jBT) (D : va_G) (ad : Nat → Nat) (cA : Nat → ClassId) (hI : jI ad TR) (S : Nat → Int32) (V : Nat → Nat → Int32) (L : Nat → Int64) (a1 : Int32) (a2 : Int32) (a3 : Int32) (a4 : Int32) (r0 : Int32) (S0 : Nat → Int32) (V0 : Nat → Nat → Int32) (h : fX12_lease_0 S V a1 a2 a3 a4 = some (r0, S0, V0)) : jM l yX12_lease cX12_lease 6 (some .int) ({ frames := 6, cells := 0, slots := 0, locals := 156 }) B D TR ad cA [.ref (ad 0), .int a1, .int a2, .int a3, .int a4] S V L (some (.int r0)) S0 V0 L := by
  refine jM_of (plainFor_of_name (by decide)) TR_ok hI (Nat.le_of_ble_eq_true rfl) ?_
  intro p e s m args below meth c C hr hlk
  refine j_lv (lv2 := [(0, .ref (ad 0)), (1, .int a1), (2, .int a2), (3, .int a3), (4, .int a4)]) rfl ?_
  unfold fX12_lease_0 at h
  refine j_aload_n C 0 rfl dX12_lease_0 rfl ?_
  refine j_iconst C dX12_lease_1 ci_0 ?_
  refine fp_X12_93_TR_0 C dX12_lease_2 ?_
  refine lt_elim h (fun S1 e_S1 h => ?_)
  refine j_S e_S1 ?_
  refine j_aload_n C 0 rfl dX12_lease_5 rfl ?_
  refine j_iload_n C 1 rfl dX12_lease_6 rfl ?_
  refine j_iload_n C 2 rfl dX12_lease_7 rfl ?_
  refine j_iload_n C 3 rfl dX12_lease_8 rfl ?_
  refine j_iload C 4 rfl dX12_lease_9 ?_
  obtain ⟨r2, V3, h4, h⟩ := bd2_elim h
  refine j_callV (As := [.int a1, .int a2, .int a3, .int a4]) (rest := []) C (kX12_trouble_0 l B D ad cA hI S1 V L a1 a2 a3 a4 _ _ h4) mw_X12_trouble wd1768 wd80 wd1766 tr_0 rfl rfl ⟨rfl, rfl, by decide, by decide⟩ ⟨Nat.zero_le _, Nat.zero_le _⟩ rfl rfl (Nat.le_of_ble_eq_true rfl) dX12_lease_11 ?_
  refine j_istore C [(5, .int r2), (0, .ref (ad 0)), (1, .int a1), (2, .int a2), (3, .int a3), (4, .int a4)] dX12_lease_14 (by decide) rfl ?_
  refine j_iload C 0 rfl dX12_lease_16 ?_
  refine j_if_ne (tgt := 34) C dX12_lease_18 (by decide) (fun c5 => ?_) (fun c5 => ?_)
  · have h := (if_neg c5).symm.trans h
    refine j_aload_n C 1 rfl dX12_lease_34 rfl ?_
    refine fg_X12_38_TR_0 C dX12_lease_35 ?_
    refine j_iconst C dX12_lease_38 ci_1 ?_
    refine j_dup2_11 C dX12_lease_39 rfl rfl ?_
    obtain ⟨g6, h⟩ := gd_elim h
    refine j_iald C tr_6 (ib_in g6) dX12_lease_40 ?_
    refine j_iconst C dX12_lease_41 ci_1 ?_
    refine j_iadd C dX12_lease_42 ?_
    refine lt_elim h (fun x7 e_x7 h => ?_)
    refine j_top e_x7 ?_
    obtain ⟨g8, h⟩ := gd_elim h
    refine j_iast C tr_6 (ib_in g8) dX12_lease_43 ?_
    refine lt_elim h (fun V9 e_V9 h => ?_)
    refine j_V e_V9 ?_
    refine j_iload C 0 rfl dX12_lease_44 ?_
    cases h
    exact j_iret C hr hlk rfl dX12_lease_46
  · have h := (if_pos c5).symm.trans h
    refine j_aload_n C 1 rfl dX12_lease_21 rfl ?_
    refine j_dup C dX12_lease_22 rfl ?_
    refine fg_X12_278_TR_0 C dX12_lease_23 ?_
    refine j_iconst C dX12_lease_26 ci_1 ?_
    refine j_iadd C dX12_lease_27 ?_
    refine lt_elim h (fun x10 e_x10 h => ?_)
    refine j_top e_x10 ?_
    refine fp_X12_278_TR_0 C dX12_lease_28 ?_
    refine lt_elim h (fun S11 e_S11 h => ?_)
    refine j_S e_S11 ?_
    refine j_goto (tgt := 44) C dX12_lease_31 (by decide) ?_
    refine j_iload C 0 rfl dX12_lease_44 ?_
    cases h
    exact j_iret C hr hlk rfl dX12_lease_46
theorem dX12_offer_0 : decode cX12_offer 0 = .ok (.aload_n 0, 1) := by decide +kernel
theorem dX12_offer_1 : decode cX12_offer 1 = .ok (.iconst 0, 1) := by decide +kernel
theorem dX12_offer_2 : decode cX12_offer 2 = .ok (.putfield 93, 3) := by decide +kernel
theorem dX12_offer_5 : decode cX12_offer 5 = .ok (.aload_n 0, 1) := by decide +kernel
theorem dX12_offer_6 : decode cX12_offer 6 = .ok (.getfield 281, 3) := by decide +kernel
theorem dX12_offer_9 : decode cX12_offer 9 = .ok (.bipush 8, 2) := by decide +kernel
theorem dX12_offer_11 : decode cX12_offer 11 = .ok (.if_icmp .eq 33, 3) := by decide +kernel
theorem dX12_offer_14 : decode cX12_offer 14 = .ok (.iload_n 1, 1) := by decide +kernel
theorem dX12_offer_15 : decode cX12_offer 15 = .ok (.iconst 0, 1) := by decide +kernel
theorem dX12_offer_16 : decode cX12_offer 16 = .ok (.bipush 23, 2) := by decide +kernel
theorem dX12_offer_18 : decode cX12_offer 18 = .ok (.invokestatic 294, 3) := by decide +kernel
theorem dX12_offer_21 : decode cX12_offer 21 = .ok (.ifCond .eq 23, 3) := by decide +kernel
theorem dX12_offer_24 : decode cX12_offer 24 = .ok (.iload_n 2, 1) := by decide +kernel
theorem dX12_offer_25 : decode cX12_offer 25 = .ok (.iload_n 1, 1) := by decide +kernel
theorem dX12_offer_26 : decode cX12_offer 26 = .ok (.bipush 23, 2) := by decide +kernel
theorem dX12_offer_28 : decode cX12_offer 28 = .ok (.invokestatic 294, 3) := by decide +kernel
theorem dX12_offer_31 : decode cX12_offer 31 = .ok (.ifCond .eq 13, 3) := by decide +kernel
theorem dX12_offer_34 : decode cX12_offer 34 = .ok (.iload_n 3, 1) := by decide +kernel
theorem dX12_offer_35 : decode cX12_offer 35 = .ok (.iconst 0, 1) := by decide +kernel
theorem dX12_offer_36 : decode cX12_offer 36 = .ok (.bipush 99, 2) := by decide +kernel
theorem dX12_offer_38 : decode cX12_offer 38 = .ok (.invokestatic 294, 3) := by decide +kernel
theorem dX12_offer_41 : decode cX12_offer 41 = .ok (.ifCond .ne 15, 3) := by decide +kernel
theorem dX12_offer_44 : decode cX12_offer 44 = .ok (.aload_n 0, 1) := by decide +kernel
theorem dX12_offer_45 : decode cX12_offer 45 = .ok (.getfield 38, 3) := by decide +kernel
theorem dX12_offer_48 : decode cX12_offer 48 = .ok (.iconst 2, 1) := by decide +kernel
theorem dX12_offer_49 : decode cX12_offer 49 = .ok (.dup2, 1) := by decide +kernel
theorem dX12_offer_50 : decode cX12_offer 50 = .ok (.iaload, 1) := by decide +kernel
theorem dX12_offer_51 : decode cX12_offer 51 = .ok (.iconst 1, 1) := by decide +kernel
theorem dX12_offer_52 : decode cX12_offer 52 = .ok (.iadd, 1) := by decide +kernel
theorem dX12_offer_53 : decode cX12_offer 53 = .ok (.iastore, 1) := by decide +kernel
theorem dX12_offer_54 : decode cX12_offer 54 = .ok (.iconst (-1), 1) := by decide +kernel
theorem dX12_offer_55 : decode cX12_offer 55 = .ok (.ireturn, 1) := by decide +kernel
theorem dX12_offer_56 : decode cX12_offer 56 = .ok (.aload_n 0, 1) := by decide +kernel
theorem dX12_offer_57 : decode cX12_offer 57 = .ok (.getfield 84, 3) := by decide +kernel
theorem dX12_offer_60 : decode cX12_offer 60 = .ok (.iconst 3, 1) := by decide +kernel
theorem dX12_offer_61 : decode cX12_offer 61 = .ok (.aload_n 0, 1) := by decide +kernel
theorem dX12_offer_62 : decode cX12_offer 62 = .ok (.getfield 281, 3) := by decide +kernel
theorem dX12_offer_65 : decode cX12_offer 65 = .ok (.imul, 1) := by decide +kernel
theorem dX12_offer_66 : decode cX12_offer 66 = .ok (.iload_n 1, 1) := by decide +kernel
theorem dX12_offer_67 : decode cX12_offer 67 = .ok (.iastore, 1) := by decide +kernel
theorem dX12_offer_68 : decode cX12_offer 68 = .ok (.aload_n 0, 1) := by decide +kernel
theorem dX12_offer_69 : decode cX12_offer 69 = .ok (.getfield 84, 3) := by decide +kernel
theorem dX12_offer_72 : decode cX12_offer 72 = .ok (.iconst 3, 1) := by decide +kernel
theorem dX12_offer_73 : decode cX12_offer 73 = .ok (.aload_n 0, 1) := by decide +kernel
theorem dX12_offer_74 : decode cX12_offer 74 = .ok (.getfield 281, 3) := by decide +kernel
theorem dX12_offer_77 : decode cX12_offer 77 = .ok (.imul, 1) := by decide +kernel
theorem dX12_offer_78 : decode cX12_offer 78 = .ok (.iconst 1, 1) := by decide +kernel
theorem dX12_offer_79 : decode cX12_offer 79 = .ok (.iadd, 1) := by decide +kernel
theorem dX12_offer_80 : decode cX12_offer 80 = .ok (.iload_n 2, 1) := by decide +kernel
theorem dX12_offer_81 : decode cX12_offer 81 = .ok (.iastore, 1) := by decide +kernel
theorem dX12_offer_82 : decode cX12_offer 82 = .ok (.aload_n 0, 1) := by decide +kernel
theorem dX12_offer_83 : decode cX12_offer 83 = .ok (.getfield 84, 3) := by decide +kernel
theorem dX12_offer_86 : decode cX12_offer 86 = .ok (.iconst 3, 1) := by decide +kernel
theorem dX12_offer_87 : decode cX12_offer 87 = .ok (.aload_n 0, 1) := by decide +kernel
theorem dX12_offer_88 : decode cX12_offer 88 = .ok (.getfield 281, 3) := by decide +kernel
theorem dX12_offer_91 : decode cX12_offer 91 = .ok (.imul, 1) := by decide +kernel
theorem dX12_offer_92 : decode cX12_offer 92 = .ok (.iconst 2, 1) := by decide +kernel
theorem dX12_offer_93 : decode cX12_offer 93 = .ok (.iadd, 1) := by decide +kernel
theorem dX12_offer_94 : decode cX12_offer 94 = .ok (.iload_n 3, 1) := by decide +kernel
theorem dX12_offer_95 : decode cX12_offer 95 = .ok (.iastore, 1) := by decide +kernel
theorem dX12_offer_96 : decode cX12_offer 96 = .ok (.aload_n 0, 1) := by decide +kernel
theorem dX12_offer_97 : decode cX12_offer 97 = .ok (.dup, 1) := by decide +kernel
theorem dX12_offer_98 : decode cX12_offer 98 = .ok (.getfield 281, 3) := by decide +kernel
theorem dX12_offer_101 : decode cX12_offer 101 = .ok (.iconst 1, 1) := by decide +kernel
theorem dX12_offer_102 : decode cX12_offer 102 = .ok (.iadd, 1) := by decide +kernel
theorem dX12_offer_103 : decode cX12_offer 103 = .ok (.putfield 281, 3) := by decide +kernel
theorem dX12_offer_106 : decode cX12_offer 106 = .ok (.aload_n 0, 1) := by decide +kernel
theorem dX12_offer_107 : decode cX12_offer 107 = .ok (.getfield 281, 3) := by decide +kernel
theorem dX12_offer_110 : decode cX12_offer 110 = .ok (.ireturn, 1) := by decide +kernel
def fX12_offer_0 (S : Nat → Int32) (V : Nat → Nat → Int32) (a1 : Int32) (a2 : Int32) (a3 : Int32) : Option (Int32 × (Nat → Int32) × (Nat → Nat → Int32)) :=
  lt (va_up S 0 (0 : Int32)) (fun S1 =>
  bk (fun (S3 : Nat → Int32) (V4 : Nat → Nat → Int32) =>
  gd (ib (2 : Int32) 3) (
  lt (((V4 6 ((2 : Int32)).toNatClampNeg) + (1 : Int32))) (fun x6 =>
  gd (ib (2 : Int32) 3) (
  lt (va_up V4 6 (upd (V4 6) ((2 : Int32)).toNatClampNeg x6)) (fun V8 =>
  some ((-1 : Int32), S3, V8)))))) (fun K44_2 =>
  (if (S1 53) = (8 : Int32) then
  K44_2 S1 V
  else
  bd1 (fX12_within a1 (0 : Int32) (23 : Int32)) (fun r10 =>
  (if r10 = 0 then
  K44_2 S1 V
  else
  bd1 (fX12_within a2 a1 (23 : Int32)) (fun r13 =>
  (if r13 = 0 then
  K44_2 S1 V
  else
  bd1 (fX12_within a3 (0 : Int32) (99 : Int32)) (fun r16 =>
  (if r16 = 0 then
  K44_2 S1 V
  else
  lt (((3 : Int32) * (S1 53))) (fun x19 =>
  gd (ib x19 24) (
  lt (va_up V 21 (upd (V 21) (x19).toNatClampNeg a1)) (fun V21 =>
  lt ((((3 : Int32) * (S1 53)) + (1 : Int32))) (fun x22 =>
  gd (ib x22 24) (
  lt (va_up V21 21 (upd (V21 21) (x22).toNatClampNeg a2)) (fun V24 =>
  lt ((((3 : Int32) * (S1 53)) + (2 : Int32))) (fun x25 =>
  gd (ib x25 24) (
  lt (va_up V24 21 (upd (V24 21) (x25).toNatClampNeg a3)) (fun V27 =>
  lt (((S1 53) + (1 : Int32))) (fun x28 =>
  lt (va_up S1 53 x28) (fun S29 =>
  some ((S29 53), S29, V27)))))))))))))))))))))
set_option maxHeartbeats 4000000 in
set_option maxRecDepth 100000 in
theorem kX12_offer_0 (l : Launch) (B : jBT) (D : va_G) (ad : Nat → Nat) (cA : Nat → ClassId) (hI : jI ad TR) (S : Nat → Int32) (V : Nat → Nat → Int32) (L : Nat → Int64) (a1 : Int32) (a2 : Int32) (a3 : Int32) (r0 : Int32) (S0 : Nat → Int32) (V0 : Nat → Nat → Int32) (h : fX12_offer_0 S V a1 a2 a3 = some (r0, S0, V0)) : jM l yX12_offer cX12_offer 4 (some .int) ({ frames := 1, cells := 0, slots := 0, locals := 22 }) B D TR ad cA [.ref (ad 0), .int a1, .int a2, .int a3] S V L (some (.int r0)) S0 V0 L := by
  refine jM_of (plainFor_of_name (by decide)) TR_ok hI (Nat.le_of_ble_eq_true rfl) ?_
  intro p e s m args below meth c C hr hlk
  refine j_lv (lv2 := [(0, .ref (ad 0)), (1, .int a1), (2, .int a2), (3, .int a3)]) rfl ?_
  unfold fX12_offer_0 at h
  refine j_aload_n C 0 rfl dX12_offer_0 rfl ?_
  refine j_iconst C dX12_offer_1 ci_0 ?_
  refine fp_X12_93_TR_0 C dX12_offer_2 ?_
  refine lt_elim h (fun S1 e_S1 h => ?_)
  refine j_S e_S1 ?_
  refine j_aload_n C 0 rfl dX12_offer_5 rfl ?_
  refine fg_X12_281_TR_0 C dX12_offer_6 ?_
  refine j_bipush C dX12_offer_9 cb_8 ?_
  refine bk_elim h (fun K44_2 e_K44_2 h => ?_)
  have HK44_2 : ∀ (S3 : Nat → Int32) (V4 : Nat → Nat → Int32), K44_2 S3 V4 = some (r0, S0, V0) → jW p l e ({ frames := 1, cells := 0, slots := 0, locals := 22 }) s m args below meth c (MQ below (jQc D TR ad cA (some (.int r0)) s.heap.size S0 V0 L) args s 0 0 (jA ad TR s.heap.size)) D TR ad cA (jA ad TR s.heap.size) 4 0 0 44 [(0, .ref (ad 0))] [] S3 V4 L := by
    subst e_K44_2
    intro S3 V4 h
    refine j_aload_n C 0 rfl dX12_offer_44 rfl ?_
    refine fg_X12_38_TR_0 C dX12_offer_45 ?_
    refine j_iconst C dX12_offer_48 ci_2 ?_
    refine j_dup2_11 C dX12_offer_49 rfl rfl ?_
    obtain ⟨g5, h⟩ := gd_elim h
    refine j_iald C tr_6 (ib_in g5) dX12_offer_50 ?_
    refine j_iconst C dX12_offer_51 ci_1 ?_
    refine j_iadd C dX12_offer_52 ?_
    refine lt_elim h (fun x6 e_x6 h => ?_)
    refine j_top e_x6 ?_
    obtain ⟨g7, h⟩ := gd_elim h
    refine j_iast C tr_6 (ib_in g7) dX12_offer_53 ?_
    refine lt_elim h (fun V8 e_V8 h => ?_)
    refine j_V e_V8 ?_
    refine j_iconst C dX12_offer_54 ci_m1 ?_
    cases h
    exact j_iret C hr hlk rfl dX12_offer_55
  refine j_icmp_eq (tgt := 44) C dX12_offer_11 (by decide) (fun c9 => ?_) (fun c9 => ?_)
  · have h := (if_pos c9).symm.trans h
    exact j_sub [0] rfl (HK44_2 _ _ h)
  · have h := (if_neg c9).symm.trans h
    refine j_iload_n C 1 rfl dX12_offer_14 rfl ?_
    refine j_iconst C dX12_offer_15 ci_0 ?_
    refine j_bipush C dX12_offer_16 cb_23 ?_
    obtain ⟨r10, h11, h⟩ := bd1_elim h
    refine j_callS (As := [.int a1, .int (0 : Int32), .int (23 : Int32)]) (rest := []) C (kX12_within l B D ad cA hI S1 V L a1 (0 : Int32) (23 : Int32) _ h11) mw_X12_within wd1760 wd1759 ⟨rfl, rfl, by decide, by decide⟩ ⟨Nat.zero_le _, Nat.zero_le _⟩ rfl rfl (Nat.le_of_ble_eq_true rfl) dX12_offer_18 ?_
    refine j_if_eq (tgt := 44) C dX12_offer_21 (by decide) (fun c12 => ?_) (fun c12 => ?_)
    · have h := (if_pos c12).symm.trans h
      exact j_sub [0] rfl (HK44_2 _ _ h)
    · have h := (if_neg c12).symm.trans h
      refine j_iload_n C 2 rfl dX12_offer_24 rfl ?_
      refine j_iload_n C 1 rfl dX12_offer_25 rfl ?_
      refine j_bipush C dX12_offer_26 cb_23 ?_
      obtain ⟨r13, h14, h⟩ := bd1_elim h
      refine j_callS (As := [.int a2, .int a1, .int (23 : Int32)]) (rest := []) C (kX12_within l B D ad cA hI S1 V L a2 a1 (23 : Int32) _ h14) mw_X12_within wd1760 wd1759 ⟨rfl, rfl, by decide, by decide⟩ ⟨Nat.zero_le _, Nat.zero_le _⟩ rfl rfl (Nat.le_of_ble_eq_true rfl) dX12_offer_28 ?_
      refine j_if_eq (tgt := 44) C dX12_offer_31 (by decide) (fun c15 => ?_) (fun c15 => ?_)
      · have h := (if_pos c15).symm.trans h
        exact j_sub [0] rfl (HK44_2 _ _ h)
      · have h := (if_neg c15).symm.trans h
        refine j_iload_n C 3 rfl dX12_offer_34 rfl ?_
        refine j_iconst C dX12_offer_35 ci_0 ?_
        refine j_bipush C dX12_offer_36 cb_99 ?_
        obtain ⟨r16, h17, h⟩ := bd1_elim h
        refine j_callS (As := [.int a3, .int (0 : Int32), .int (99 : Int32)]) (rest := []) C (kX12_within l B D ad cA hI S1 V L a3 (0 : Int32) (99 : Int32) _ h17) mw_X12_within wd1760 wd1759 ⟨rfl, rfl, by decide, by decide⟩ ⟨Nat.zero_le _, Nat.zero_le _⟩ rfl rfl (Nat.le_of_ble_eq_true rfl) dX12_offer_38 ?_
        refine j_if_ne (tgt := 56) C dX12_offer_41 (by decide) (fun c18 => ?_) (fun c18 => ?_)
        · have h := (if_neg c18).symm.trans h
          refine j_aload_n C 0 rfl dX12_offer_56 rfl ?_
          refine fg_X12_84_TR_0 C dX12_offer_57 ?_
          refine j_iconst C dX12_offer_60 ci_3 ?_
          refine j_aload_n C 0 rfl dX12_offer_61 rfl ?_
          refine fg_X12_281_TR_0 C dX12_offer_62 ?_
          refine j_imul C dX12_offer_65 ?_
          refine j_iload_n C 1 rfl dX12_offer_66 rfl ?_
          refine lt_elim h (fun x19 e_x19 h => ?_)
          refine j_top2 e_x19 ?_
          obtain ⟨g20, h⟩ := gd_elim h
          refine j_iast C tr_21 (ib_in g20) dX12_offer_67 ?_
          refine lt_elim h (fun V21 e_V21 h => ?_)
          refine j_V e_V21 ?_
          refine j_aload_n C 0 rfl dX12_offer_68 rfl ?_
          refine fg_X12_84_TR_0 C dX12_offer_69 ?_
          refine j_iconst C dX12_offer_72 ci_3 ?_
          refine j_aload_n C 0 rfl dX12_offer_73 rfl ?_
          refine fg_X12_281_TR_0 C dX12_offer_74 ?_
          refine j_imul C dX12_offer_77 ?_
          refine j_iconst C dX12_offer_78 ci_1 ?_
          refine j_iadd C dX12_offer_79 ?_
          refine j_iload_n C 2 rfl dX12_offer_80 rfl ?_
          refine lt_elim h (fun x22 e_x22 h => ?_)
          refine j_top2 e_x22 ?_
          obtain ⟨g23, h⟩ := gd_elim h
          refine j_iast C tr_21 (ib_in g23) dX12_offer_81 ?_
          refine lt_elim h (fun V24 e_V24 h => ?_)
          refine j_V e_V24 ?_
          refine j_aload_n C 0 rfl dX12_offer_82 rfl ?_
          refine fg_X12_84_TR_0 C dX12_offer_83 ?_
          refine j_iconst C dX12_offer_86 ci_3 ?_
          refine j_aload_n C 0 rfl dX12_offer_87 rfl ?_
          refine fg_X12_281_TR_0 C dX12_offer_88 ?_
          refine j_imul C dX12_offer_91 ?_
          refine j_iconst C dX12_offer_92 ci_2 ?_
          refine j_iadd C dX12_offer_93 ?_
          refine j_iload_n C 3 rfl dX12_offer_94 rfl ?_
          refine lt_elim h (fun x25 e_x25 h => ?_)
          refine j_top2 e_x25 ?_
          obtain ⟨g26, h⟩ := gd_elim h
          refine j_iast C tr_21 (ib_in g26) dX12_offer_95 ?_
          refine lt_elim h (fun V27 e_V27 h => ?_)
          refine j_V e_V27 ?_
          refine j_aload_n C 0 rfl dX12_offer_96 rfl ?_
          refine j_dup C dX12_offer_97 rfl ?_
          refine fg_X12_281_TR_0 C dX12_offer_98 ?_
          refine j_iconst C dX12_offer_101 ci_1 ?_
          refine j_iadd C dX12_offer_102 ?_
          refine lt_elim h (fun x28 e_x28 h => ?_)
          refine j_top e_x28 ?_
          refine fp_X12_281_TR_0 C dX12_offer_103 ?_
          refine lt_elim h (fun S29 e_S29 h => ?_)
          refine j_S e_S29 ?_
          refine j_aload_n C 0 rfl dX12_offer_106 rfl ?_
          refine fg_X12_281_TR_0 C dX12_offer_107 ?_
          cases h
          exact j_iret C hr hlk rfl dX12_offer_110
        · have h := (if_pos c18).symm.trans h
          exact j_sub [0] rfl (HK44_2 _ _ h)
theorem dX12_rentOf_0 : decode cX12_rentOf 0 = .ok (.aload_n 0, 1) := by decide +kernel
theorem dX12_rentOf_1 : decode cX12_rentOf 1 = .ok (.getfield 19, 3) := by decide +kernel
theorem dX12_rentOf_4 : decode cX12_rentOf 4 = .ok (.iconst 4, 1) := by decide +kernel
theorem dX12_rentOf_5 : decode cX12_rentOf 5 = .ok (.iload_n 1, 1) := by decide +kernel
theorem dX12_rentOf_6 : decode cX12_rentOf 6 = .ok (.imul, 1) := by decide +kernel
theorem dX12_rentOf_7 : decode cX12_rentOf 7 = .ok (.iconst 3, 1) := by decide +kernel
theorem dX12_rentOf_8 : decode cX12_rentOf 8 = .ok (.iadd, 1) := by decide +kernel
theorem dX12_rentOf_9 : decode cX12_rentOf 9 = .ok (.iaload, 1) := by decide +kernel
theorem dX12_rentOf_10 : decode cX12_rentOf 10 = .ok (.aload_n 0, 1) := by decide +kernel
theorem dX12_rentOf_11 : decode cX12_rentOf 11 = .ok (.iload_n 1, 1) := by decide +kernel
theorem dX12_rentOf_12 : decode cX12_rentOf 12 = .ok (.iconst 0, 1) := by decide +kernel
theorem dX12_rentOf_13 : decode cX12_rentOf 13 = .ok (.invokevirtual 338, 3) := by decide +kernel
theorem dX12_rentOf_16 : decode cX12_rentOf 16 = .ok (.imul, 1) := by decide +kernel
theorem dX12_rentOf_17 : decode cX12_rentOf 17 = .ok (.aload_n 0, 1) := by decide +kernel
theorem dX12_rentOf_18 : decode cX12_rentOf 18 = .ok (.getfield 19, 3) := by decide +kernel
theorem dX12_rentOf_21 : decode cX12_rentOf 21 = .ok (.iconst 4, 1) := by decide +kernel
theorem dX12_rentOf_22 : decode cX12_rentOf 22 = .ok (.iload_n 1, 1) := by decide +kernel
theorem dX12_rentOf_23 : decode cX12_rentOf 23 = .ok (.imul, 1) := by decide +kernel
theorem dX12_rentOf_24 : decode cX12_rentOf 24 = .ok (.iconst 3, 1) := by decide +kernel
theorem dX12_rentOf_25 : decode cX12_rentOf 25 = .ok (.iadd, 1) := by decide +kernel
theorem dX12_rentOf_26 : decode cX12_rentOf 26 = .ok (.iaload, 1) := by decide +kernel
theorem dX12_rentOf_27 : decode cX12_rentOf 27 = .ok (.aload_n 0, 1) := by decide +kernel
theorem dX12_rentOf_28 : decode cX12_rentOf 28 = .ok (.iload_n 1, 1) := by decide +kernel
theorem dX12_rentOf_29 : decode cX12_rentOf 29 = .ok (.iconst 1, 1) := by decide +kernel
theorem dX12_rentOf_30 : decode cX12_rentOf 30 = .ok (.invokevirtual 338, 3) := by decide +kernel
theorem dX12_rentOf_33 : decode cX12_rentOf 33 = .ok (.imul, 1) := by decide +kernel
theorem dX12_rentOf_34 : decode cX12_rentOf 34 = .ok (.iconst 1, 1) := by decide +kernel
theorem dX12_rentOf_35 : decode cX12_rentOf 35 = .ok (.iadd, 1) := by decide +kernel
theorem dX12_rentOf_36 : decode cX12_rentOf 36 = .ok (.iconst 2, 1) := by decide +kernel
theorem dX12_rentOf_37 : decode cX12_rentOf 37 = .ok (.idiv, 1) := by decide +kernel
theorem dX12_rentOf_38 : decode cX12_rentOf 38 = .ok (.iadd, 1) := by decide +kernel
theorem dX12_rentOf_39 : decode cX12_rentOf 39 = .ok (.ireturn, 1) := by decide +kernel
def fX12_rentOf_0 (S : Nat → Int32) (V : Nat → Nat → Int32) (a1 : Int32) : Option (Int32) :=
  lt ((((4 : Int32) * a1) + (3 : Int32))) (fun x1 =>
  gd (ib x1 24) (
  bd1 (fX12_hoursOf_0 S V a1 (0 : Int32)) (fun r3 =>
  lt ((((4 : Int32) * a1) + (3 : Int32))) (fun x5 =>
  gd (ib x5 24) (
  bd1 (fX12_hoursOf_0 S V a1 (1 : Int32)) (fun r7 =>
  some ((((V 1 (x1).toNatClampNeg) * r3) + ((((V 1 (x5).toNatClampNeg) * r7) + (1 : Int32)) / (2 : Int32))))))))))
set_option maxHeartbeats 4000000 in
set_option maxRecDepth 100000 in
theorem kX12_rentOf_0 (l : Launch) (B : jBT) (D : va_G) (ad : Nat → Nat) (cA : Nat → ClassId) (hI : jI ad TR) (S : Nat → Int32) (V : Nat → Nat → Int32) (L : Nat → Int64) (a1 : Int32) (r0 : Int32) (h : fX12_rentOf_0 S V a1 = some r0) : jM l yX12_rentOf cX12_rentOf 2 (some .int) ({ frames := 1, cells := 0, slots := 0, locals := 24 }) B D TR ad cA [.ref (ad 0), .int a1] S V L (some (.int r0)) S V L := by
  refine jM_of (plainFor_of_name (by decide)) TR_ok hI (Nat.le_of_ble_eq_true rfl) ?_
  intro p e s m args below meth c C hr hlk
  refine j_lv (lv2 := [(0, .ref (ad 0)), (1, .int a1)]) rfl ?_
  unfold fX12_rentOf_0 at h
  refine j_aload_n C 0 rfl dX12_rentOf_0 rfl ?_
  refine fg_X12_19_TR_0 C dX12_rentOf_1 ?_
  refine j_iconst C dX12_rentOf_4 ci_4 ?_
  refine j_iload_n C 1 rfl dX12_rentOf_5 rfl ?_
  refine j_imul C dX12_rentOf_6 ?_
  refine j_iconst C dX12_rentOf_7 ci_3 ?_
  refine j_iadd C dX12_rentOf_8 ?_
  refine lt_elim h (fun x1 e_x1 h => ?_)
  refine j_top e_x1 ?_
  obtain ⟨g2, h⟩ := gd_elim h
  refine j_iald C tr_1 (ib_in g2) dX12_rentOf_9 ?_
  refine j_aload_n C 0 rfl dX12_rentOf_10 rfl ?_
  refine j_iload_n C 1 rfl dX12_rentOf_11 rfl ?_
  refine j_iconst C dX12_rentOf_12 ci_0 ?_
  obtain ⟨r3, h4, h⟩ := bd1_elim h
  refine j_callV (As := [.int a1, .int (0 : Int32)]) (rest := [.int (V 1 (x1).toNatClampNeg)]) C (kX12_hoursOf_0 l B D ad cA hI S V L a1 (0 : Int32) _ h4) mw_X12_hoursOf wd1820 wd87 wd1818 tr_0 rfl rfl ⟨rfl, rfl, by decide, by decide⟩ ⟨Nat.zero_le _, Nat.zero_le _⟩ rfl rfl (Nat.le_of_ble_eq_true rfl) dX12_rentOf_13 ?_
  refine j_imul C dX12_rentOf_16 ?_
  refine j_aload_n C 0 rfl dX12_rentOf_17 rfl ?_
  refine fg_X12_19_TR_0 C dX12_rentOf_18 ?_
  refine j_iconst C dX12_rentOf_21 ci_4 ?_
  refine j_iload_n C 1 rfl dX12_rentOf_22 rfl ?_
  refine j_imul C dX12_rentOf_23 ?_
  refine j_iconst C dX12_rentOf_24 ci_3 ?_
  refine j_iadd C dX12_rentOf_25 ?_
  refine lt_elim h (fun x5 e_x5 h => ?_)
  refine j_top e_x5 ?_
  obtain ⟨g6, h⟩ := gd_elim h
  refine j_iald C tr_1 (ib_in g6) dX12_rentOf_26 ?_
  refine j_aload_n C 0 rfl dX12_rentOf_27 rfl ?_
  refine j_iload_n C 1 rfl dX12_rentOf_28 rfl ?_
  refine j_iconst C dX12_rentOf_29 ci_1 ?_
  obtain ⟨r7, h8, h⟩ := bd1_elim h
  refine j_callV (As := [.int a1, .int (1 : Int32)]) (rest := [.int (V 1 (x5).toNatClampNeg), .int ((V 1 (x1).toNatClampNeg) * r3)]) C (kX12_hoursOf_0 l B D ad cA hI S V L a1 (1 : Int32) _ h8) mw_X12_hoursOf wd1820 wd87 wd1818 tr_0 rfl rfl ⟨rfl, rfl, by decide, by decide⟩ ⟨Nat.zero_le _, Nat.zero_le _⟩ rfl rfl (Nat.le_of_ble_eq_true rfl) dX12_rentOf_30 ?_
  refine j_imul C dX12_rentOf_33 ?_
  refine j_iconst C dX12_rentOf_34 ci_1 ?_
  refine j_iadd C dX12_rentOf_35 ?_
  refine j_iconst C dX12_rentOf_36 ci_2 ?_
  refine j_idiv C dX12_rentOf_37 (by decide) ?_
  refine j_iadd C dX12_rentOf_38 ?_
  cases h
  exact j_iret C hr hlk rfl dX12_rentOf_39
theorem dX12_rent_0 : decode cX12_rent 0 = .ok (.aload_n 0, 1) := by decide +kernel
theorem dX12_rent_1 : decode cX12_rent 1 = .ok (.iconst 0, 1) := by decide +kernel
theorem dX12_rent_2 : decode cX12_rent 2 = .ok (.putfield 93, 3) := by decide +kernel
theorem dX12_rent_5 : decode cX12_rent 5 = .ok (.aload_n 0, 1) := by decide +kernel
theorem dX12_rent_6 : decode cX12_rent 6 = .ok (.iload_n 1, 1) := by decide +kernel
theorem dX12_rent_7 : decode cX12_rent 7 = .ok (.invokevirtual 335, 3) := by decide +kernel
theorem dX12_rent_10 : decode cX12_rent 10 = .ok (.ifCond .eq 11, 3) := by decide +kernel
theorem dX12_rent_13 : decode cX12_rent 13 = .ok (.aload_n 0, 1) := by decide +kernel
theorem dX12_rent_14 : decode cX12_rent 14 = .ok (.iload_n 1, 1) := by decide +kernel
theorem dX12_rent_15 : decode cX12_rent 15 = .ok (.invokevirtual 385, 3) := by decide +kernel
theorem dX12_rent_18 : decode cX12_rent 18 = .ok (.goto 4, 3) := by decide +kernel
theorem dX12_rent_21 : decode cX12_rent 21 = .ok (.iconst 0, 1) := by decide +kernel
theorem dX12_rent_22 : decode cX12_rent 22 = .ok (.ireturn, 1) := by decide +kernel
def fX12_rent_0 (S : Nat → Int32) (V : Nat → Nat → Int32) (a1 : Int32) : Option (Int32 × (Nat → Int32)) :=
  lt (va_up S 0 (0 : Int32)) (fun S1 =>
  bd2 (fX12_isTenant_0 S1 a1) (fun r2 S3 =>
  (if r2 = 0 then
  some ((0 : Int32), S3)
  else
  bd1 (fX12_rentOf_0 S3 V a1) (fun r6 =>
  some (r6, S3)))))
set_option maxHeartbeats 4000000 in
set_option maxRecDepth 100000 in
theorem kX12_rent_0 (l : Launch) (B : jBT) (D : va_G) (ad : Nat → Nat) (cA : Nat → ClassId) (hI : jI ad TR) (S : Nat → Int32) (V : Nat → Nat → Int32) (L : Nat → Int64) (a1 : Int32) (r0 : Int32) (S0 : Nat → Int32) (h : fX12_rent_0 S V a1 = some (r0, S0)) : jM l yX12_rent cX12_rent 2 (some .int) ({ frames := 2, cells := 0, slots := 0, locals := 45 }) B D TR ad cA [.ref (ad 0), .int a1] S V L (some (.int r0)) S0 V L := by
  refine jM_of (plainFor_of_name (by decide)) TR_ok hI (Nat.le_of_ble_eq_true rfl) ?_
  intro p e s m args below meth c C hr hlk
  refine j_lv (lv2 := [(0, .ref (ad 0)), (1, .int a1)]) rfl ?_
  unfold fX12_rent_0 at h
  refine j_aload_n C 0 rfl dX12_rent_0 rfl ?_
  refine j_iconst C dX12_rent_1 ci_0 ?_
  refine fp_X12_93_TR_0 C dX12_rent_2 ?_
  refine lt_elim h (fun S1 e_S1 h => ?_)
  refine j_S e_S1 ?_
  refine j_aload_n C 0 rfl dX12_rent_5 rfl ?_
  refine j_iload_n C 1 rfl dX12_rent_6 rfl ?_
  obtain ⟨r2, S3, h4, h⟩ := bd2_elim h
  refine j_callV (As := [.int a1]) (rest := []) C (kX12_isTenant_0 l B D ad cA hI S1 V L a1 _ _ h4) mw_X12_isTenant wd1816 wd86 wd1814 tr_0 rfl rfl ⟨rfl, rfl, by decide, by decide⟩ ⟨Nat.zero_le _, Nat.zero_le _⟩ rfl rfl (Nat.le_of_ble_eq_true rfl) dX12_rent_7 ?_
  refine j_if_eq (tgt := 21) C dX12_rent_10 (by decide) (fun c5 => ?_) (fun c5 => ?_)
  · have h := (if_pos c5).symm.trans h
    refine j_iconst C dX12_rent_21 ci_0 ?_
    cases h
    exact j_iret C hr hlk rfl dX12_rent_22
  · have h := (if_neg c5).symm.trans h
    refine j_aload_n C 0 rfl dX12_rent_13 rfl ?_
    refine j_iload_n C 1 rfl dX12_rent_14 rfl ?_
    obtain ⟨r6, h7, h⟩ := bd1_elim h
    refine j_callV (As := [.int a1]) (rest := []) C (kX12_rentOf_0 l B D ad cA hI S3 V L a1 _ h7) mw_X12_rentOf wd1918 wd100 wd1916 tr_0 rfl rfl ⟨rfl, rfl, by decide, by decide⟩ ⟨Nat.zero_le _, Nat.zero_le _⟩ rfl rfl (Nat.le_of_ble_eq_true rfl) dX12_rent_15 ?_
    refine j_goto (tgt := 22) C dX12_rent_18 (by decide) ?_
    cases h
    exact j_iret C hr hlk rfl dX12_rent_22
def fX12_copies_0_22_13_L2 : Nat → Int32 → (Nat → Nat → Int32) → Option ((Nat → Nat → Int32))
  | 0, _, _ => none
  | n + 1, x1, V2 =>
    (if (52 : Int32) ≤ x1 then
    some V2
    else
    gd (ib x1 52) (
    lt ((V2 22 (x1).toNatClampNeg)) (fun x5 =>
    gd (ib x1 52) (
    lt (va_up V2 13 (upd (V2 13) (x1).toNatClampNeg x5)) (fun V7 =>
    lt (x1 + (1 : Int32)) (fun x8 =>
    fX12_copies_0_22_13_L2 n x8 V7))))))
def fX12_copies_0_22_13 (V : Nat → Nat → Int32) : Option ((Nat → Nat → Int32)) :=
  fX12_copies_0_22_13_L2 FU (0 : Int32) V
set_option maxHeartbeats 4000000 in
set_option maxRecDepth 100000 in
theorem kX12_copies_0_22_13 (l : Launch) (B : jBT) (D : va_G) (ad : Nat → Nat) (cA : Nat → ClassId) (hI : jI ad TR) (S : Nat → Int32) (V : Nat → Nat → Int32) (L : Nat → Int64) (V0 : Nat → Nat → Int32) (h : fX12_copies_0_22_13 V = some V0) : jM l yX12_copies cX12_copies 4 none ({ frames := 0, cells := 0, slots := 0, locals := 0 }) B D TR ad cA [.ref (ad 0), .ref (ad 22), .ref (ad 13)] S V L none S V0 L := by
  refine jM_of (plainFor_of_name (by decide)) TR_ok hI (Nat.le_of_ble_eq_true rfl) ?_
  intro p e s m args below meth c C hr hlk
  refine j_lv (lv2 := [(0, .ref (ad 0)), (1, .ref (ad 22)), (2, .ref (ad 13))]) rfl ?_
  unfold fX12_copies_0_22_13 at h
  have H_fX12_copies_0_22_13_L2 : ∀ (n : Nat) (x1 : Int32) (V2 : Nat → Nat → Int32), fX12_copies_0_22_13_L2 n x1 V2 = some V0 → jW p l e ({ frames := 0, cells := 0, slots := 0, locals := 0 }) s m args below meth c (MQ below (jQc D TR ad cA none s.heap.size S V0 L) args s 0 0 (jA ad TR s.heap.size)) D TR ad cA (jA ad TR s.heap.size) 4 0 0 2 [(1, .ref (ad 22)), (2, .ref (ad 13)), (3, .int x1)] [] S V2 L := by
    intro n
    induction n with
    | zero =>
      intro x1 V2 h
      cases (show (none : Option ((Nat → Nat → Int32))) = some V0 from h)
    | succ n ih =>
      intro x1 V2 h
      unfold fX12_copies_0_22_13_L2 at h
      refine j_iload_n C 2 rfl dX12_copies_2 rfl ?_
      refine j_aload_n C 0 rfl dX12_copies_3 rfl ?_
      refine j_alen (v := (52 : Int32)) C tr_22 (by decide) dX12_copies_4 ?_
      refine j_icmp_ge (tgt := 20) C dX12_copies_5 (by decide) (fun c3 => ?_) (fun c3 => ?_)
      · have h := (if_pos c3).symm.trans h
        cases h
        exact j_vret C hr hlk rfl dX12_copies_20
      · have h := (if_neg c3).symm.trans h
        refine j_aload_n C 1 rfl dX12_copies_8 rfl ?_
        refine j_iload_n C 2 rfl dX12_copies_9 rfl ?_
        refine j_aload_n C 0 rfl dX12_copies_10 rfl ?_
        refine j_iload_n C 2 rfl dX12_copies_11 rfl ?_
        obtain ⟨g4, h⟩ := gd_elim h
        refine j_iald C tr_22 (ib_in g4) dX12_copies_12 ?_
        refine lt_elim h (fun x5 e_x5 h => ?_)
        refine j_top e_x5 ?_
        obtain ⟨g6, h⟩ := gd_elim h
        refine j_iast C tr_13 (ib_in g6) dX12_copies_13 ?_
        refine lt_elim h (fun V7 e_V7 h => ?_)
        refine j_V e_V7 ?_
        refine lt_elim h (fun x8 e_x8 h => ?_)
        refine j_iinc C [(3, .int x8), (1, .ref (ad 22)), (2, .ref (ad 13))] 2 dX12_copies_14 rfl ((iinc_eq ci_1).trans e_x8.symm) (by decide) rfl ?_
        refine j_goto (tgt := 2) C dX12_copies_17 (by decide) ?_
        exact j_sub [1, 2, 0] rfl (ih _ _ h)
  refine j_iconst C dX12_copies_0 ci_0 ?_
  refine j_istore_n C [(3, .int (0 : Int32)), (0, .ref (ad 0)), (1, .ref (ad 22)), (2, .ref (ad 13))] dX12_copies_1 rfl (by decide) rfl ?_
  exact j_sub [2, 3, 0] rfl (H_fX12_copies_0_22_13_L2 FU _ _ h)
def fX12_copies_0_23_21_L2 : Nat → Int32 → (Nat → Nat → Int32) → Option ((Nat → Nat → Int32))
  | 0, _, _ => none
  | n + 1, x1, V2 =>
    (if (24 : Int32) ≤ x1 then
    some V2
    else
    gd (ib x1 24) (
    lt ((V2 23 (x1).toNatClampNeg)) (fun x5 =>
    gd (ib x1 24) (
    lt (va_up V2 21 (upd (V2 21) (x1).toNatClampNeg x5)) (fun V7 =>
    lt (x1 + (1 : Int32)) (fun x8 =>
    fX12_copies_0_23_21_L2 n x8 V7))))))
def fX12_copies_0_23_21 (V : Nat → Nat → Int32) : Option ((Nat → Nat → Int32)) :=
  fX12_copies_0_23_21_L2 FU (0 : Int32) V
set_option maxHeartbeats 4000000 in
set_option maxRecDepth 100000 in
theorem kX12_copies_0_23_21 (l : Launch) (B : jBT) (D : va_G) (ad : Nat → Nat) (cA : Nat → ClassId) (hI : jI ad TR) (S : Nat → Int32) (V : Nat → Nat → Int32) (L : Nat → Int64) (V0 : Nat → Nat → Int32) (h : fX12_copies_0_23_21 V = some V0) : jM l yX12_copies cX12_copies 4 none ({ frames := 0, cells := 0, slots := 0, locals := 0 }) B D TR ad cA [.ref (ad 0), .ref (ad 23), .ref (ad 21)] S V L none S V0 L := by
  refine jM_of (plainFor_of_name (by decide)) TR_ok hI (Nat.le_of_ble_eq_true rfl) ?_
  intro p e s m args below meth c C hr hlk
  refine j_lv (lv2 := [(0, .ref (ad 0)), (1, .ref (ad 23)), (2, .ref (ad 21))]) rfl ?_
  unfold fX12_copies_0_23_21 at h
  have H_fX12_copies_0_23_21_L2 : ∀ (n : Nat) (x1 : Int32) (V2 : Nat → Nat → Int32), fX12_copies_0_23_21_L2 n x1 V2 = some V0 → jW p l e ({ frames := 0, cells := 0, slots := 0, locals := 0 }) s m args below meth c (MQ below (jQc D TR ad cA none s.heap.size S V0 L) args s 0 0 (jA ad TR s.heap.size)) D TR ad cA (jA ad TR s.heap.size) 4 0 0 2 [(1, .ref (ad 23)), (2, .ref (ad 21)), (3, .int x1)] [] S V2 L := by
    intro n
    induction n with
    | zero =>
      intro x1 V2 h
      cases (show (none : Option ((Nat → Nat → Int32))) = some V0 from h)
    | succ n ih =>
      intro x1 V2 h
      unfold fX12_copies_0_23_21_L2 at h
      refine j_iload_n C 2 rfl dX12_copies_2 rfl ?_
      refine j_aload_n C 0 rfl dX12_copies_3 rfl ?_
      refine j_alen (v := (24 : Int32)) C tr_23 (by decide) dX12_copies_4 ?_
      refine j_icmp_ge (tgt := 20) C dX12_copies_5 (by decide) (fun c3 => ?_) (fun c3 => ?_)
      · have h := (if_pos c3).symm.trans h
        cases h
        exact j_vret C hr hlk rfl dX12_copies_20
      · have h := (if_neg c3).symm.trans h
        refine j_aload_n C 1 rfl dX12_copies_8 rfl ?_
        refine j_iload_n C 2 rfl dX12_copies_9 rfl ?_
        refine j_aload_n C 0 rfl dX12_copies_10 rfl ?_
        refine j_iload_n C 2 rfl dX12_copies_11 rfl ?_
        obtain ⟨g4, h⟩ := gd_elim h
        refine j_iald C tr_23 (ib_in g4) dX12_copies_12 ?_
        refine lt_elim h (fun x5 e_x5 h => ?_)
        refine j_top e_x5 ?_
        obtain ⟨g6, h⟩ := gd_elim h
        refine j_iast C tr_21 (ib_in g6) dX12_copies_13 ?_
        refine lt_elim h (fun V7 e_V7 h => ?_)
        refine j_V e_V7 ?_
        refine lt_elim h (fun x8 e_x8 h => ?_)
        refine j_iinc C [(3, .int x8), (1, .ref (ad 23)), (2, .ref (ad 21))] 2 dX12_copies_14 rfl ((iinc_eq ci_1).trans e_x8.symm) (by decide) rfl ?_
        refine j_goto (tgt := 2) C dX12_copies_17 (by decide) ?_
        exact j_sub [1, 2, 0] rfl (ih _ _ h)
  refine j_iconst C dX12_copies_0 ci_0 ?_
  refine j_istore_n C [(3, .int (0 : Int32)), (0, .ref (ad 0)), (1, .ref (ad 23)), (2, .ref (ad 21))] dX12_copies_1 rfl (by decide) rfl ?_
  exact j_sub [2, 3, 0] rfl (H_fX12_copies_0_23_21_L2 FU _ _ h)
theorem dX12_restore_0 : decode cX12_restore 0 = .ok (.aload_n 0, 1) := by decide +kernel
theorem dX12_restore_1 : decode cX12_restore 1 = .ok (.iconst 0, 1) := by decide +kernel
theorem dX12_restore_2 : decode cX12_restore 2 = .ok (.putfield 93, 3) := by decide +kernel
theorem dX12_restore_5 : decode cX12_restore 5 = .ok (.aload_n 0, 1) := by decide +kernel
theorem dX12_restore_6 : decode cX12_restore 6 = .ok (.getfield 291, 3) := by decide +kernel
theorem dX12_restore_9 : decode cX12_restore 9 = .ok (.ifCond .ne 5, 3) := by decide +kernel
theorem dX12_restore_12 : decode cX12_restore 12 = .ok (.iconst 0, 1) := by decide +kernel
theorem dX12_restore_13 : decode cX12_restore 13 = .ok (.ireturn, 1) := by decide +kernel
theorem dX12_restore_14 : decode cX12_restore 14 = .ok (.aload_n 0, 1) := by decide +kernel
theorem dX12_restore_15 : decode cX12_restore 15 = .ok (.aload_n 0, 1) := by decide +kernel
theorem dX12_restore_16 : decode cX12_restore 16 = .ok (.getfield 393, 3) := by decide +kernel
theorem dX12_restore_19 : decode cX12_restore 19 = .ok (.putfield 278, 3) := by decide +kernel
theorem dX12_restore_22 : decode cX12_restore 22 = .ok (.aload_n 0, 1) := by decide +kernel
theorem dX12_restore_23 : decode cX12_restore 23 = .ok (.aload_n 0, 1) := by decide +kernel
theorem dX12_restore_24 : decode cX12_restore 24 = .ok (.getfield 396, 3) := by decide +kernel
theorem dX12_restore_27 : decode cX12_restore 27 = .ok (.putfield 281, 3) := by decide +kernel
theorem dX12_restore_30 : decode cX12_restore 30 = .ok (.aload_n 0, 1) := by decide +kernel
theorem dX12_restore_31 : decode cX12_restore 31 = .ok (.aload_n 0, 1) := by decide +kernel
theorem dX12_restore_32 : decode cX12_restore 32 = .ok (.getfield 87, 3) := by decide +kernel
theorem dX12_restore_35 : decode cX12_restore 35 = .ok (.aload_n 0, 1) := by decide +kernel
theorem dX12_restore_36 : decode cX12_restore 36 = .ok (.getfield 60, 3) := by decide +kernel
theorem dX12_restore_39 : decode cX12_restore 39 = .ok (.invokevirtual 274, 3) := by decide +kernel
theorem dX12_restore_42 : decode cX12_restore 42 = .ok (.aload_n 0, 1) := by decide +kernel
theorem dX12_restore_43 : decode cX12_restore 43 = .ok (.aload_n 0, 1) := by decide +kernel
theorem dX12_restore_44 : decode cX12_restore 44 = .ok (.getfield 90, 3) := by decide +kernel
theorem dX12_restore_47 : decode cX12_restore 47 = .ok (.aload_n 0, 1) := by decide +kernel
theorem dX12_restore_48 : decode cX12_restore 48 = .ok (.getfield 84, 3) := by decide +kernel
theorem dX12_restore_51 : decode cX12_restore 51 = .ok (.invokevirtual 274, 3) := by decide +kernel
theorem dX12_restore_54 : decode cX12_restore 54 = .ok (.iconst 1, 1) := by decide +kernel
theorem dX12_restore_55 : decode cX12_restore 55 = .ok (.ireturn, 1) := by decide +kernel
def fX12_restore_0 (S : Nat → Int32) (V : Nat → Nat → Int32) : Option (Int32 × (Nat → Int32) × (Nat → Nat → Int32)) :=
  lt (va_up S 0 (0 : Int32)) (fun S1 =>
  (if (S1 55) = 0 then
  some ((0 : Int32), S1, V)
  else
  lt ((S1 56)) (fun x3 =>
  lt (va_up S1 42 x3) (fun S4 =>
  lt ((S4 57)) (fun x5 =>
  lt (va_up S4 53 x5) (fun S6 =>
  bd1 (fX12_copies_0_22_13 V) (fun V7 =>
  bd1 (fX12_copies_0_23_21 V7) (fun V9 =>
  some ((1 : Int32), S6, V9)))))))))
set_option maxHeartbeats 4000000 in
set_option maxRecDepth 100000 in
theorem kX12_restore_0 (l : Launch) (B : jBT) (D : va_G) (ad : Nat → Nat) (cA : Nat → ClassId) (hI : jI ad TR) (S : Nat → Int32) (V : Nat → Nat → Int32) (L : Nat → Int64) (r0 : Int32) (S0 : Nat → Int32) (V0 : Nat → Nat → Int32) (h : fX12_restore_0 S V = some (r0, S0, V0)) : jM l yX12_restore cX12_restore 1 (some .boolean) ({ frames := 1, cells := 0, slots := 0, locals := 23 }) B D TR ad cA [.ref (ad 0)] S V L (some (.int r0)) S0 V0 L := by
  refine jM_of (plainFor_of_name (by decide)) TR_ok hI (Nat.le_of_ble_eq_true rfl) ?_
  intro p e s m args below meth c C hr hlk
  refine j_lv (lv2 := [(0, .ref (ad 0))]) rfl ?_
  unfold fX12_restore_0 at h
  refine j_aload_n C 0 rfl dX12_restore_0 rfl ?_
  refine j_iconst C dX12_restore_1 ci_0 ?_
  refine fp_X12_93_TR_0 C dX12_restore_2 ?_
  refine lt_elim h (fun S1 e_S1 h => ?_)
  refine j_S e_S1 ?_
  refine j_aload_n C 0 rfl dX12_restore_5 rfl ?_
  refine fg_X12_291_TR_0 C dX12_restore_6 ?_
  refine j_if_ne (tgt := 14) C dX12_restore_9 (by decide) (fun c2 => ?_) (fun c2 => ?_)
  · have h := (if_neg c2).symm.trans h
    refine j_aload_n C 0 rfl dX12_restore_14 rfl ?_
    refine j_aload_n C 0 rfl dX12_restore_15 rfl ?_
    refine fg_X12_393_TR_0 C dX12_restore_16 ?_
    refine lt_elim h (fun x3 e_x3 h => ?_)
    refine j_top e_x3 ?_
    refine fp_X12_278_TR_0 C dX12_restore_19 ?_
    refine lt_elim h (fun S4 e_S4 h => ?_)
    refine j_S e_S4 ?_
    refine j_aload_n C 0 rfl dX12_restore_22 rfl ?_
    refine j_aload_n C 0 rfl dX12_restore_23 rfl ?_
    refine fg_X12_396_TR_0 C dX12_restore_24 ?_
    refine lt_elim h (fun x5 e_x5 h => ?_)
    refine j_top e_x5 ?_
    refine fp_X12_281_TR_0 C dX12_restore_27 ?_
    refine lt_elim h (fun S6 e_S6 h => ?_)
    refine j_S e_S6 ?_
    refine j_aload_n C 0 rfl dX12_restore_30 rfl ?_
    refine j_aload_n C 0 rfl dX12_restore_31 rfl ?_
    refine fg_X12_87_TR_0 C dX12_restore_32 ?_
    refine j_aload_n C 0 rfl dX12_restore_35 rfl ?_
    refine fg_X12_60_TR_0 C dX12_restore_36 ?_
    obtain ⟨V7, h8, h⟩ := bd1_elim h
    refine j_callV (As := [.ref (ad 22), .ref (ad 13)]) (rest := []) C (kX12_copies_0_22_13 l B D ad cA hI S6 V L _ h8) mw_X12_copies wd1749 wd79 wd1747 tr_0 rfl rfl ⟨rfl, rfl, by decide, by decide⟩ ⟨Nat.zero_le _, Nat.zero_le _⟩ rfl rfl (Nat.le_of_ble_eq_true rfl) dX12_restore_39 ?_
    refine j_aload_n C 0 rfl dX12_restore_42 rfl ?_
    refine j_aload_n C 0 rfl dX12_restore_43 rfl ?_
    refine fg_X12_90_TR_0 C dX12_restore_44 ?_
    refine j_aload_n C 0 rfl dX12_restore_47 rfl ?_
    refine fg_X12_84_TR_0 C dX12_restore_48 ?_
    obtain ⟨V9, h10, h⟩ := bd1_elim h
    refine j_callV (As := [.ref (ad 23), .ref (ad 21)]) (rest := []) C (kX12_copies_0_23_21 l B D ad cA hI S6 V7 L _ h10) mw_X12_copies wd1749 wd79 wd1747 tr_0 rfl rfl ⟨rfl, rfl, by decide, by decide⟩ ⟨Nat.zero_le _, Nat.zero_le _⟩ rfl rfl (Nat.le_of_ble_eq_true rfl) dX12_restore_51 ?_
    refine j_iconst C dX12_restore_54 ci_1 ?_
    cases h
    exact j_zret C hr hlk rfl rfl dX12_restore_55
  · have h := (if_pos c2).symm.trans h
    refine j_iconst C dX12_restore_12 ci_0 ?_
    cases h
    exact j_zret C hr hlk rfl rfl dX12_restore_13
