/-! ===== the law's entry in the words of the J layer ===== -/
def sxT (i : Nat) : Term := Term.string (sx.getD i ("", 0, "")).1 (sx.getD i ("", 0, "")).2.1
def fl : List Cond := flatC (Jvm.Cond.and given_1 narrow_1)
def ixS (i : Nat) : Nat := ([52, 86, 190, 205, 225, 247, 280, 302, 325, 349, 394, 446, 480, 510, 553, 589, 629, 673, 720, 763] : List Nat).getD i 0
def blkA (i : Nat) : List Cond := [Cond.exactly (sxT i) "java/lang/String", Cond.eq (.field (sxT i) "java/lang/String" "coder" "B") (.int 0), Cond.arrayOf (.field (sxT i) "java/lang/String" "value" "[B") .byte, Cond.eq (.length (.field (sxT i) "java/lang/String" "value" "[B")) (.int (Int32.ofNat (sxL.getD i 0)))]
def blkE (i : Nat) : List Cond := (List.range (sxL.getD i 0)).map (fun j => Cond.eq (.elem (.field (sxT i) "java/lang/String" "value" "[B") (.int (Int32.ofNat j))) (.int ((sxB.getD i []).getD j 0)))
def blkN (i : Nat) : List Cond := (List.range i).map (fun j => Cond.not (Cond.eq (sxT j) (sxT i)))
def blk (i : Nat) : List Cond := blkA i ++ (blkE i ++ blkN i)
theorem fl_b0 : (fl.drop (ixS 0)).take (4 + sxL.getD 0 0 + 0) = blk 0 := by decide +kernel
theorem fl_b1 : (fl.drop (ixS 1)).take (4 + sxL.getD 1 0 + 1) = blk 1 := by decide +kernel
theorem fl_b2 : (fl.drop (ixS 2)).take (4 + sxL.getD 2 0 + 2) = blk 2 := by decide +kernel
theorem fl_b3 : (fl.drop (ixS 3)).take (4 + sxL.getD 3 0 + 3) = blk 3 := by decide +kernel
theorem fl_b4 : (fl.drop (ixS 4)).take (4 + sxL.getD 4 0 + 4) = blk 4 := by decide +kernel
theorem fl_b5 : (fl.drop (ixS 5)).take (4 + sxL.getD 5 0 + 5) = blk 5 := by decide +kernel
theorem fl_b6 : (fl.drop (ixS 6)).take (4 + sxL.getD 6 0 + 6) = blk 6 := by decide +kernel
theorem fl_b7 : (fl.drop (ixS 7)).take (4 + sxL.getD 7 0 + 7) = blk 7 := by decide +kernel
theorem fl_b8 : (fl.drop (ixS 8)).take (4 + sxL.getD 8 0 + 8) = blk 8 := by decide +kernel
theorem fl_b9 : (fl.drop (ixS 9)).take (4 + sxL.getD 9 0 + 9) = blk 9 := by decide +kernel
theorem fl_b10 : (fl.drop (ixS 10)).take (4 + sxL.getD 10 0 + 10) = blk 10 := by decide +kernel
theorem fl_b11 : (fl.drop (ixS 11)).take (4 + sxL.getD 11 0 + 11) = blk 11 := by decide +kernel
theorem fl_b12 : (fl.drop (ixS 12)).take (4 + sxL.getD 12 0 + 12) = blk 12 := by decide +kernel
theorem fl_b13 : (fl.drop (ixS 13)).take (4 + sxL.getD 13 0 + 13) = blk 13 := by decide +kernel
theorem fl_b14 : (fl.drop (ixS 14)).take (4 + sxL.getD 14 0 + 14) = blk 14 := by decide +kernel
theorem fl_b15 : (fl.drop (ixS 15)).take (4 + sxL.getD 15 0 + 15) = blk 15 := by decide +kernel
theorem fl_b16 : (fl.drop (ixS 16)).take (4 + sxL.getD 16 0 + 16) = blk 16 := by decide +kernel
theorem fl_b17 : (fl.drop (ixS 17)).take (4 + sxL.getD 17 0 + 17) = blk 17 := by decide +kernel
theorem fl_b18 : (fl.drop (ixS 18)).take (4 + sxL.getD 18 0 + 18) = blk 18 := by decide +kernel
theorem fl_b19 : (fl.drop (ixS 19)).take (4 + sxL.getD 19 0 + 19) = blk 19 := by decide +kernel
theorem fl_blk : ∀ i, i < 20 → ∀ c ∈ blk i, c ∈ fl := fun i hi c hc => by
  have h : (fl.drop (ixS i)).take (4 + sxL.getD i 0 + i) = blk i := by
    match i, hi with
    | 0, _ => exact fl_b0
    | 1, _ => exact fl_b1
    | 2, _ => exact fl_b2
    | 3, _ => exact fl_b3
    | 4, _ => exact fl_b4
    | 5, _ => exact fl_b5
    | 6, _ => exact fl_b6
    | 7, _ => exact fl_b7
    | 8, _ => exact fl_b8
    | 9, _ => exact fl_b9
    | 10, _ => exact fl_b10
    | 11, _ => exact fl_b11
    | 12, _ => exact fl_b12
    | 13, _ => exact fl_b13
    | 14, _ => exact fl_b14
    | 15, _ => exact fl_b15
    | 16, _ => exact fl_b16
    | 17, _ => exact fl_b17
    | 18, _ => exact fl_b18
    | 19, _ => exact fl_b19
    | n + 20, h => exact absurd h (by omega)
  rw [← h] at hc
  exact List.mem_of_mem_drop (List.mem_of_mem_take hc)
theorem fl_ex : ∀ i, i < 20 → Cond.exactly (sxT i) "java/lang/String" ∈ fl := fun i hi => fl_blk i hi _ (List.mem_append_left _ List.mem_cons_self)
theorem fl_co : ∀ i, i < 20 → Cond.eq (.field (sxT i) "java/lang/String" "coder" "B") (.int 0) ∈ fl := fun i hi => fl_blk i hi _ (List.mem_append_left _ (List.mem_cons_of_mem _ List.mem_cons_self))
theorem fl_ar : ∀ i, i < 20 → Cond.arrayOf (.field (sxT i) "java/lang/String" "value" "[B") .byte ∈ fl := fun i hi => fl_blk i hi _ (List.mem_append_left _ (List.mem_cons_of_mem _ (List.mem_cons_of_mem _ List.mem_cons_self)))
theorem fl_le : ∀ i, i < 20 → Cond.eq (.length (.field (sxT i) "java/lang/String" "value" "[B")) (.int (Int32.ofNat (sxL.getD i 0))) ∈ fl := fun i hi => fl_blk i hi _ (List.mem_append_left _ (List.mem_cons_of_mem _ (List.mem_cons_of_mem _ (List.mem_cons_of_mem _ List.mem_cons_self))))
theorem fl_el : ∀ i, i < 20 → ∀ j, j < sxL.getD i 0 → Cond.eq (.elem (.field (sxT i) "java/lang/String" "value" "[B") (.int (Int32.ofNat j))) (.int ((sxB.getD i []).getD j 0)) ∈ fl := fun i hi j hj => fl_blk i hi _ (List.mem_append_right _ (List.mem_append_left _ (List.mem_map.mpr ⟨j, List.mem_range.mpr hj, rfl⟩)))
theorem fl_ne : ∀ i, i < 20 → ∀ j, j < 20 → i ≠ j → Cond.not (Cond.eq (sxT i) (sxT j)) ∈ fl ∨ Cond.not (Cond.eq (sxT j) (sxT i)) ∈ fl := fun i hi j hj h => by
  rcases Nat.lt_or_ge i j with h1 | h1
  · exact Or.inl (fl_blk j hj _ (List.mem_append_right _ (List.mem_append_right _ (List.mem_map.mpr ⟨i, List.mem_range.mpr h1, rfl⟩))))
  · exact Or.inr (fl_blk i hi _ (List.mem_append_right _ (List.mem_append_right _ (List.mem_map.mpr ⟨j, List.mem_range.mpr (by omega), rfl⟩))))
theorem fl_bl : Cond.eq (.length (.static "ClockLodgers$RuleReader" "BINDS" "[I")) (.int (Int32.ofNat 10)) ∈ fl := by decide +kernel
theorem fl_be : ∀ j, j < 10 → Cond.eq (.elem (.static "ClockLodgers$RuleReader" "BINDS" "[I") (.int (Int32.ofNat j))) (.int (bnd j)) ∈ fl := by decide +kernel
theorem fl_ba : Cond.arrayOf (.static "ClockLodgers$RuleReader" "BINDS" "[I") .int ∈ fl := by decide +kernel
theorem fl_u : Cond.isRef (.static Bundle.tN "UNASSIGNED_STACK" Bundle.steD) ∈ fl := by decide +kernel
theorem fl_s : Cond.isRef (.static Bundle.tN "SUPPRESSED_SENTINEL" Bundle.listD) ∈ fl := by decide +kernel
theorem fl_c : Cond.eq (.static "java/lang/String" "COMPACT_STRINGS" "Z") (.int 1) ∈ fl := by decide +kernel
theorem fl_o : Cond.isRef (.static "jdk/internal/util/Preconditions" "SIOOBE_FORMATTER" "Ljava/util/function/BiFunction;") ∈ fl := by decide +kernel
theorem fl_nc : Cond.not (.castable "java/lang/IllegalArgumentException" "java/util/NoSuchElementException") ∈ fl := by decide +kernel
theorem ls_u : Cond.laysStatic "java/lang/Throwable" "UNASSIGNED_STACK" "[Ljava/lang/StackTraceElement;" ∈ lw_tbl := List.mem_of_getElem? (i := 719) (by decide +kernel)
theorem ls_s : Cond.laysStatic "java/lang/Throwable" "SUPPRESSED_SENTINEL" "Ljava/util/List;" ∈ lw_tbl := List.mem_of_getElem? (i := 721) (by decide +kernel)
theorem ls_c : Cond.laysStatic "java/lang/String" "COMPACT_STRINGS" "Z" ∈ lw_tbl := List.mem_of_getElem? (i := 803) (by decide +kernel)
theorem ls_o : Cond.laysStatic "jdk/internal/util/Preconditions" "SIOOBE_FORMATTER" "Ljava/util/function/BiFunction;" ∈ lw_tbl := List.mem_of_getElem? (i := 819) (by decide +kernel)
theorem ls_b : Cond.laysStatic "ClockLodgers$RuleReader" "BINDS" "[I" ∈ lw_tbl := List.mem_of_getElem? (i := 1004) (by decide +kernel)
theorem sr_in : ∀ i, i < 20 → Cond.stringRef (sx.getD i ("", 0, "")).1 (sx.getD i ("", 0, "")).2.1 (sx.getD i ("", 0, "")).2.2 ∈ lw_tbl := by decide +kernel
theorem nw_in : ∀ q ∈ nw, Cond.methodLinkNest q.1 q.2.1 q.2.2.1 q.2.2.2 ∈ lw_tbl := by decide +kernel
theorem cst_in : ∀ q ∈ cst, Cond.castable q.1 q.2 ∈ lw_tbl := by decide +kernel
theorem in_t : Cond.initialized "java/lang/Throwable" ∈ lw_tbl := List.mem_of_getElem? (i := 117) (by decide +kernel)
theorem in_s : Cond.initialized "java/lang/String" ∈ lw_tbl := List.mem_of_getElem? (i := 123) (by decide +kernel)
theorem in_p : Cond.initialized "jdk/internal/util/Preconditions" ∈ lw_tbl := List.mem_of_getElem? (i := 125) (by decide +kernel)
theorem in_r : Cond.initialized "ClockLodgers$RuleReader" ∈ lw_tbl := List.mem_of_getElem? (i := 107) (by decide +kernel)
theorem bg_tbl : ∀ w ∈ bg, w ∈ lw_tbl := fun w h => (List.mem_filter.mp h).1
theorem st_bk {s : State} {args : Array Value} (hts : ∀ w ∈ lw_tbl, w.before args s = true) (hgv : (Jvm.Cond.and given_1 narrow_1).before args s = true) : ∃ B : jBT, jBk B (fun q => s.heap.size ≤ q) s s.heap := by
  have hf : ∀ w ∈ fl, w.before args s = true := flat_of_before _ hgv
  have hA : ∀ a : Nat, a < s.heap.size → ¬ (fun q : Nat => s.heap.size ≤ q) a := fun a h => Nat.not_le.mpr h
  obtain ⟨tB, hB1, hB2⟩ := va_Tof (f := bndV) (A := fun q => s.heap.size ≤ q) (by decide) (hf _ fl_ba) (va_eqt (hf _ fl_bl)) (fun j hj => va_eqt (hf _ (fl_be j hj))) hA
  obtain ⟨adK, adV, hS1, hS2⟩ := vk_Sof (N := 20) (tm := sxT) (len := sxL) (byt := sxB) (A := fun q => s.heap.size ≤ q) (by decide +kernel) (fun i hi => hf _ (fl_ex i hi)) (fun i hi => hf _ (fl_co i hi)) (fun i hi => hf _ (fl_ar i hi)) (fun i hi => hf _ (fl_le i hi)) (fun i hi j hj => hf _ (fl_el i hi j hj)) (fun i j hi hj hij => (fl_ne i hi j hj hij).imp (hf _) (hf _)) hA
  refine ⟨(tB, adK, adV), ⟨va_Zof (hts _ ls_b) (hts _ in_r) hB1 hA, hB2⟩, ⟨hS1, fun i q hq => ?_⟩, ⟨vx_Zqof (hts _ ls_u) (hts _ in_t) (hf _ fl_u) hA, vx_Zqof (hts _ ls_s) (hts _ in_t) (hf _ fl_s) hA⟩, va_Zof (hts _ ls_c) (hts _ in_s) (va_eqt (hf _ fl_c)) hA, va_Zqof (hts _ ls_o) (hts _ in_p) (hf _ fl_o) hA⟩
  have hi : i < 20 := (List.getElem?_eq_some_iff.mp hq).1
  have hg : sx.getD i ("", 0, "") = q := by rw [List.getD_eq_getElem?_getD, hq]; rfl
  have h1 := hts _ (sr_in i hi)
  have h2 := hS2 i hi
  unfold sxT at h2
  rw [hg] at h1 h2
  exact vk_R.of h1 h2
theorem st_N {s : State} {args : Array Value} (hts : ∀ w ∈ lw_tbl, w.before args s = true) : jN s := ⟨fun q hq => va_Nw.of rfl (hts _ (nw_in q hq)), fun q hq => va_Nw.of rfl (hts _ (cst_in q hq))⟩
theorem st_arr {s : State} {args : Array Value} {ty : FieldType} (h : (Cond.arrayClass ty).before args s = true) : ∃ c : ClassId, ArrOfT s c ty ∧ s.vm.findClass ("[" ++ ty.toString) = some c := by
  obtain ⟨c, k, comp, h1, h2, h3⟩ := Cond.arrayClass_spec h
  exact ⟨c, fun n z => ⟨fun k h => (by cases h), k, h2, comp, h3⟩, h1⟩
theorem st_K {s : State} {args : Array Value} (hts : ∀ w ∈ lw_tbl, w.before args s = true) : ∃ D : va_G, ∀ (k : Nat) (q : vw_C), vwCl[k]? = some q → u_Kn s q.1 q.2.1 q.2.2 (D.1 k) (D.2 k) := by
  obtain ⟨c0, i0, h0⟩ := u_known (C := RX0) (T := TX0) (N := 13) (n := 13) hts (fun w h => bg_tbl w (inB_X0 w h)) (hts (.instantiable RX0 13) (List.mem_of_getElem? (i := 407) (by decide +kernel)))
  obtain ⟨c1, i1, h1⟩ := u_known (C := RX1) (T := TX1) (N := 6) (n := 6) hts (fun w h => bg_tbl w (inB_X1 w h)) (hts (.instantiable RX1 6) (List.mem_of_getElem? (i := 455) (by decide +kernel)))
  obtain ⟨c2, i2, h2⟩ := u_known (C := RX2) (T := TX2) (N := 15) (n := 15) hts (fun w h => bg_tbl w (inB_X2 w h)) (hts (.instantiable RX2 15) (List.mem_of_getElem? (i := 139) (by decide +kernel)))
  obtain ⟨c3, i3, h3⟩ := u_known (C := RX3) (T := TX3) (N := 7) (n := 7) hts (fun w h => bg_tbl w (inB_X3 w h)) (hts (.instantiable RX3 7) (List.mem_of_getElem? (i := 231) (by decide +kernel)))
  obtain ⟨c4, i4, h4⟩ := u_known (C := RX4) (T := TX4) (N := 8) (n := 8) hts (fun w h => bg_tbl w (inB_X4 w h)) (hts (.instantiable RX4 8) (List.mem_of_getElem? (i := 334) (by decide +kernel)))
  obtain ⟨c5, i5, h5⟩ := u_known (C := RX5) (T := TX5) (N := 5) (n := 5) hts (fun w h => bg_tbl w (inB_X5 w h)) (hts (.instantiable RX5 5) (List.mem_of_getElem? (i := 369) (by decide +kernel)))
  obtain ⟨c6, i6, h6⟩ := u_known (C := RX6) (T := TX6) (N := 2) (n := 2) hts (fun w h => bg_tbl w (inB_X6 w h)) (hts (.instantiable RX6 2) (List.mem_of_getElem? (i := 394) (by decide +kernel)))
  obtain ⟨c7, i7, h7⟩ := u_known (C := RX7) (T := TX7) (N := 5) (n := 5) hts (fun w h => bg_tbl w (inB_X7 w h)) (hts (.instantiable RX7 5) (List.mem_of_getElem? (i := 484) (by decide +kernel)))
  obtain ⟨c8, i8, h8⟩ := u_known (C := RX8) (T := TX8) (N := 3) (n := 3) hts (fun w h => bg_tbl w (inB_X8 w h)) (hts (.instantiable RX8 3) (List.mem_of_getElem? (i := 318) (by decide +kernel)))
  obtain ⟨c9, i9, h9⟩ := u_known (C := RX9) (T := TX9) (N := 8) (n := 8) hts (fun w h => bg_tbl w (inB_X9 w h)) (hts (.instantiable RX9 8) (List.mem_of_getElem? (i := 264) (by decide +kernel)))
  obtain ⟨c10, i10, h10⟩ := u_known (C := RX10) (T := TX10) (N := 6) (n := 6) hts (fun w h => bg_tbl w (inB_X10 w h)) (hts (.instantiable RX10 6) (List.mem_of_getElem? (i := 239) (by decide +kernel)))
  obtain ⟨c11, i11, h11⟩ := u_known (C := RX11) (T := TX11) (N := 16) (n := 16) hts (fun w h => bg_tbl w (inB_X11 w h)) (hts (.instantiable RX11 16) (List.mem_of_getElem? (i := 131) (by decide +kernel)))
  obtain ⟨c12, i12, h12⟩ := u_known (C := RX12) (T := TX12) (N := 60) (n := 60) hts (fun w h => bg_tbl w (inB_X12 w h)) (hts (.instantiable RX12 60) (List.mem_of_getElem? (i := 1433) (by decide +kernel)))
  refine ⟨(fun k => if k = 0 then c0 else if k = 1 then c1 else if k = 2 then c2 else if k = 3 then c3 else if k = 4 then c4 else if k = 5 then c5 else if k = 6 then c6 else if k = 7 then c7 else if k = 8 then c8 else if k = 9 then c9 else if k = 10 then c10 else if k = 11 then c11 else c12, fun k => if k = 0 then i0 else if k = 1 then i1 else if k = 2 then i2 else if k = 3 then i3 else if k = 4 then i4 else if k = 5 then i5 else if k = 6 then i6 else if k = 7 then i7 else if k = 8 then i8 else if k = 9 then i9 else if k = 10 then i10 else if k = 11 then i11 else i12), ?_⟩
  intro k q hq
  match k, hq with
  | 0, hq => cases hq; exact h0
  | 1, hq => cases hq; exact h1
  | 2, hq => cases hq; exact h2
  | 3, hq => cases hq; exact h3
  | 4, hq => cases hq; exact h4
  | 5, hq => cases hq; exact h5
  | 6, hq => cases hq; exact h6
  | 7, hq => cases hq; exact h7
  | 8, hq => cases hq; exact h8
  | 9, hq => cases hq; exact h9
  | 10, hq => cases hq; exact h10
  | 11, hq => cases hq; exact h11
  | 12, hq => cases hq; exact h12
  | k + 13, hq => simp [vwCl] at hq
