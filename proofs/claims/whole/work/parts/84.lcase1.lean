section LC
variable {p : Program} {l : Launch} {e : Env} {s : State} {m : MethodId} {args : Array Value} {below : List Frame} {meth : Method} {c : Code} {Q : State → Prop} {D : va_G} {cA cR : Nat → ClassId} {cO : ClassId} {kc ks : Nat} {B : jBT} {b Ln : Nat} {xs : Nat → Int32}
variable {pc : Nat} {lv : List (Nat × Value)} {st : List Value} {S : Nat → Int32} {V : Nat → Nat → Int32} {S' : Nat → Int32} {V' : Nat → Nat → Int32} {L' : Nat → Int64} {o : Nat → Int64}
def St_swing (Rel : (Nat → Int32) → (Nat → Nat → Int32) → (Nat → Int32) → (Nat → Nat → Int32) → (Nat → Int64) → Prop) : Prop := ∀ (S : Nat → Int32) (V : Nat → Nat → Int32) (S' : Nat → Int32) (V' : Nat → Nat → Int32) (L' : Nat → Int64) (a1 : Int32) (a2 : Int32), Rel S V S' V' L' → (∃ (r : Int32) (S3 : Nat → Int32), fX11_swing_0 S V a1 a2 = some (.inl r) ∧ fX12_swing_0 S' V' a1 a2 = some (r, S3) ∧ fX12_thrown_0 S3 = some 0 ∧ Rel S V S3 V' L') ∨ (∃ (r : Int32) (S3 : Nat → Int32), fX11_swing_0 S V a1 a2 = some (.inr 1) ∧ fX12_swing_0 S' V' a1 a2 = some (r, S3) ∧ fX12_thrown_0 S3 = some 1 ∧ Rel S V S3 V' L') ∨ (∃ (r : Int32) (S3 : Nat → Int32), fX11_swing_0 S V a1 a2 = some (.inr 0) ∧ fX12_swing_0 S' V' a1 a2 = some (r, S3) ∧ fX12_thrown_0 S3 = some 2 ∧ Rel S V S3 V' L')
set_option maxHeartbeats 4000000 in
set_option maxRecDepth 100000 in
theorem lc_swing (C : jCl p l s m args meth c D cA cR cO B b Ln xs) {Rel : (Nat → Int32) → (Nat → Nat → Int32) → (Nat → Int32) → (Nat → Nat → Int32) → (Nat → Int64) → Prop} (hst : St_swing Rel) (hR : Rel S V S' V' L') {n : Nat} (hn : n + 6 ≤ Ln) (hL : Ln ≤ 3072) (hkr : kc + 6 ≤ 601024 ∧ ks + 36 ≤ 7293034) (kk : ∀ S V S' V' L' o, Rel S V S' V' L' → jWl p l e s m args below meth c Q D cA cR cO (kc + 6) (ks + 36) 1702 [(0, .ref b), (1, .ref s.heap.size), (2, .ref (s.heap.size + 63)), (3, .ref (s.heap.size + 87)), (4, .int (nI n))] [] S V S' V' L' o) : jWl p l e s m args below meth c Q D cA cR cO kc ks 633 [(0, .ref b), (1, .ref s.heap.size), (2, .ref (s.heap.size + 63)), (3, .ref (s.heap.size + 87)), (4, .int (nI n))] [] S V S' V' L' o := by
  rcases hst S V S' V' L' (xs (n + 1)) (xs (n + 2)) hR with ⟨r, S3, h1, h2, h3, hR2⟩ | ⟨r, S3, h1, h2, h3, hR2⟩ | ⟨r, S3, h1, h2, h3, hR2⟩
  · refine jl_aload_n C 1 rfl dL_law_633 rfl ?_
    refine jl_arg (k := 1) C 0 4 rfl rfl (by omega) hL (by decide) dL_law_634 dL_law_635 dL_law_637 dL_law_638 dL_law_639 ?_
    refine jl_arg (k := 2) C 0 4 rfl rfl (by omega) hL (by decide) dL_law_640 dL_law_641 dL_law_643 dL_law_644 dL_law_645 ?_
    refine jl_aload_n C 3 rfl dL_law_646 rfl ?_
    refine jl_callW (As := [.ref s.heap.size, .int (xs (n + 1)), .int (xs (n + 2)), .ref (s.heap.size + 87)]) (rest := []) C (wL_swing_ok l B D (adb s.heap.size) cA (adb_I _ _) C.2.2.2.2.2.2.2.2.2 (s.heap.size + 87) cO (adb_out s.heap.size) S V (fun _ => 0) o (xs (n + 1)) (xs (n + 2)) r h1) wcw_L_swing wd102 wd1117 wd1116 ⟨by decide +kernel, by decide +kernel, (show Option.map (fun d => d.parameters.length) (parseMethodDescriptor yL_swing.desc) = some 4 by decide +kernel)⟩ ⟨rfl, rfl, by decide, by decide⟩ ⟨Nat.le_trans (by omega) hkr.1, Nat.le_trans (by omega) hkr.2⟩ rfl rfl (Nat.le_of_ble_eq_true rfl) dL_law_647 ?_
    refine jl_istore C [(5, .int (0 : Int32)), (0, .ref b), (1, .ref s.heap.size), (2, .ref (s.heap.size + 63)), (3, .ref (s.heap.size + 87)), (4, .int (nI n))] dL_law_650 (by decide) rfl ?_
    refine jl_aload_n C 3 rfl dL_law_652 rfl ?_
    refine jl_arg (k := 1) C 1 5 rfl rfl (by omega) hL (by decide) dL_law_653 dL_law_654 dL_law_656 dL_law_657 dL_law_658 ?_
    refine jl_arg (k := 2) C 1 5 rfl rfl (by omega) hL (by decide) dL_law_659 dL_law_660 dL_law_662 dL_law_663 dL_law_664 ?_
    refine jl_callR (As := [.int (xs (n + 1)), .int (xs (n + 2))]) (rest := []) C (kX12_swing_0 l B D (adb (s.heap.size + 63)) cR (adb_I _ _) S' V' L' (xs (n + 1)) (xs (n + 2)) r S3 h2) mw_X12_swing wd1831 wd1832 wd1830 rfl ⟨rfl, rfl, by decide, by decide⟩ ⟨Nat.le_trans (by omega) hkr.1, Nat.le_trans (by omega) hkr.2⟩ rfl rfl (Nat.le_of_ble_eq_true rfl) dL_law_665 ?_
    refine jl_istore C [(6, .int r), (5, .int (0 : Int32)), (0, .ref b), (1, .ref s.heap.size), (2, .ref (s.heap.size + 63)), (3, .ref (s.heap.size + 87)), (4, .int (nI n))] dL_law_668 (by decide) rfl ?_
    refine jl_aload_n C 4 rfl dL_law_670 rfl ?_
    refine jl_callR (As := []) (rest := []) C (kX12_thrown_0 l B D (adb (s.heap.size + 63)) cR (adb_I _ _) S3 V' L' (0 : Int32) h3) mw_X12_thrown wd1621 wd1622 wd1620 rfl ⟨rfl, rfl, by decide, by decide⟩ ⟨Nat.le_trans (by omega) hkr.1, Nat.le_trans (by omega) hkr.2⟩ rfl rfl (Nat.le_of_ble_eq_true rfl) dL_law_671 ?_
    refine jl_iload C 1 rfl dL_law_674 ?_
    refine jl_eqT (tgt := 681) C rfl dL_law_676 (by decide) ?_
    refine jl_iload C 1 rfl dL_law_681 ?_
    refine jl_if_neF (tgt := 698) C rfl dL_law_683 (by decide) ?_
    refine jl_aload_n C 5 rfl dL_law_686 rfl ?_
    refine jl_iconst C dL_law_687 ci_0 ?_
    refine jl_lald C dL_law_688 ?_
    refine jl_iload C 0 rfl dL_law_689 ?_
    refine jl_i2l C dL_law_691 ?_
    refine jl_lcmp C dL_law_692 ?_
    refine jl_if_eqT (tgt := 698) C (lg_cmp_self _) dL_law_693 (by decide) ?_
    refine jl_goto (tgt := 1702) C dL_law_698 (by decide) ?_
    refine jl_widen (k2 := kc + 6) (n2 := ks + 36) (by omega) (by omega) ?_
    exact jl_sub [2, 3, 4, 5, 6] rfl (kk _ _ _ _ _ _ hR2)
  · refine jl_aload_n C 1 rfl dL_law_633 rfl ?_
    refine jl_arg (k := 1) C 0 4 rfl rfl (by omega) hL (by decide) dL_law_634 dL_law_635 dL_law_637 dL_law_638 dL_law_639 ?_
    refine jl_arg (k := 2) C 0 4 rfl rfl (by omega) hL (by decide) dL_law_640 dL_law_641 dL_law_643 dL_law_644 dL_law_645 ?_
    refine jl_aload_n C 3 rfl dL_law_646 rfl ?_
    refine jl_callW (As := [.ref s.heap.size, .int (xs (n + 1)), .int (xs (n + 2)), .ref (s.heap.size + 87)]) (rest := []) C (wL_swing_ex1 l B D (adb s.heap.size) cA (adb_I _ _) C.2.2.2.2.2.2.2.2.2 (s.heap.size + 87) cO (adb_out s.heap.size) S V (fun _ => 0) o (xs (n + 1)) (xs (n + 2)) h1) wcw_L_swing wd102 wd1117 wd1116 ⟨by decide +kernel, by decide +kernel, (show Option.map (fun d => d.parameters.length) (parseMethodDescriptor yL_swing.desc) = some 4 by decide +kernel)⟩ ⟨rfl, rfl, by decide, by decide⟩ ⟨Nat.le_trans (by omega) hkr.1, Nat.le_trans (by omega) hkr.2⟩ rfl rfl (Nat.le_of_ble_eq_true rfl) dL_law_647 ?_
    refine jl_istore C [(5, .int (1 : Int32)), (0, .ref b), (1, .ref s.heap.size), (2, .ref (s.heap.size + 63)), (3, .ref (s.heap.size + 87)), (4, .int (nI n))] dL_law_650 (by decide) rfl ?_
    refine jl_aload_n C 3 rfl dL_law_652 rfl ?_
    refine jl_arg (k := 1) C 1 5 rfl rfl (by omega) hL (by decide) dL_law_653 dL_law_654 dL_law_656 dL_law_657 dL_law_658 ?_
    refine jl_arg (k := 2) C 1 5 rfl rfl (by omega) hL (by decide) dL_law_659 dL_law_660 dL_law_662 dL_law_663 dL_law_664 ?_
    refine jl_callR (As := [.int (xs (n + 1)), .int (xs (n + 2))]) (rest := []) C (kX12_swing_0 l B D (adb (s.heap.size + 63)) cR (adb_I _ _) S' V' L' (xs (n + 1)) (xs (n + 2)) r S3 h2) mw_X12_swing wd1831 wd1832 wd1830 rfl ⟨rfl, rfl, by decide, by decide⟩ ⟨Nat.le_trans (by omega) hkr.1, Nat.le_trans (by omega) hkr.2⟩ rfl rfl (Nat.le_of_ble_eq_true rfl) dL_law_665 ?_
    refine jl_istore C [(6, .int r), (5, .int (1 : Int32)), (0, .ref b), (1, .ref s.heap.size), (2, .ref (s.heap.size + 63)), (3, .ref (s.heap.size + 87)), (4, .int (nI n))] dL_law_668 (by decide) rfl ?_
    refine jl_aload_n C 4 rfl dL_law_670 rfl ?_
    refine jl_callR (As := []) (rest := []) C (kX12_thrown_0 l B D (adb (s.heap.size + 63)) cR (adb_I _ _) S3 V' L' (1 : Int32) h3) mw_X12_thrown wd1621 wd1622 wd1620 rfl ⟨rfl, rfl, by decide, by decide⟩ ⟨Nat.le_trans (by omega) hkr.1, Nat.le_trans (by omega) hkr.2⟩ rfl rfl (Nat.le_of_ble_eq_true rfl) dL_law_671 ?_
    refine jl_iload C 1 rfl dL_law_674 ?_
    refine jl_eqT (tgt := 681) C rfl dL_law_676 (by decide) ?_
    refine jl_iload C 1 rfl dL_law_681 ?_
    refine jl_if_neT (tgt := 698) C (by decide) dL_law_683 (by decide) ?_
    refine jl_goto (tgt := 1702) C dL_law_698 (by decide) ?_
    refine jl_widen (k2 := kc + 6) (n2 := ks + 36) (by omega) (by omega) ?_
    exact jl_sub [2, 3, 4, 5, 6] rfl (kk _ _ _ _ _ _ hR2)
  · refine jl_aload_n C 1 rfl dL_law_633 rfl ?_
    refine jl_arg (k := 1) C 0 4 rfl rfl (by omega) hL (by decide) dL_law_634 dL_law_635 dL_law_637 dL_law_638 dL_law_639 ?_
    refine jl_arg (k := 2) C 0 4 rfl rfl (by omega) hL (by decide) dL_law_640 dL_law_641 dL_law_643 dL_law_644 dL_law_645 ?_
    refine jl_aload_n C 3 rfl dL_law_646 rfl ?_
    refine jl_callW (As := [.ref s.heap.size, .int (xs (n + 1)), .int (xs (n + 2)), .ref (s.heap.size + 87)]) (rest := []) C (wL_swing_ex0 l B D (adb s.heap.size) cA (adb_I _ _) C.2.2.2.2.2.2.2.2.2 (s.heap.size + 87) cO (adb_out s.heap.size) S V (fun _ => 0) o (xs (n + 1)) (xs (n + 2)) h1) wcw_L_swing wd102 wd1117 wd1116 ⟨by decide +kernel, by decide +kernel, (show Option.map (fun d => d.parameters.length) (parseMethodDescriptor yL_swing.desc) = some 4 by decide +kernel)⟩ ⟨rfl, rfl, by decide, by decide⟩ ⟨Nat.le_trans (by omega) hkr.1, Nat.le_trans (by omega) hkr.2⟩ rfl rfl (Nat.le_of_ble_eq_true rfl) dL_law_647 ?_
    refine jl_istore C [(5, .int (2 : Int32)), (0, .ref b), (1, .ref s.heap.size), (2, .ref (s.heap.size + 63)), (3, .ref (s.heap.size + 87)), (4, .int (nI n))] dL_law_650 (by decide) rfl ?_
    refine jl_aload_n C 3 rfl dL_law_652 rfl ?_
    refine jl_arg (k := 1) C 1 5 rfl rfl (by omega) hL (by decide) dL_law_653 dL_law_654 dL_law_656 dL_law_657 dL_law_658 ?_
    refine jl_arg (k := 2) C 1 5 rfl rfl (by omega) hL (by decide) dL_law_659 dL_law_660 dL_law_662 dL_law_663 dL_law_664 ?_
    refine jl_callR (As := [.int (xs (n + 1)), .int (xs (n + 2))]) (rest := []) C (kX12_swing_0 l B D (adb (s.heap.size + 63)) cR (adb_I _ _) S' V' L' (xs (n + 1)) (xs (n + 2)) r S3 h2) mw_X12_swing wd1831 wd1832 wd1830 rfl ⟨rfl, rfl, by decide, by decide⟩ ⟨Nat.le_trans (by omega) hkr.1, Nat.le_trans (by omega) hkr.2⟩ rfl rfl (Nat.le_of_ble_eq_true rfl) dL_law_665 ?_
    refine jl_istore C [(6, .int r), (5, .int (2 : Int32)), (0, .ref b), (1, .ref s.heap.size), (2, .ref (s.heap.size + 63)), (3, .ref (s.heap.size + 87)), (4, .int (nI n))] dL_law_668 (by decide) rfl ?_
    refine jl_aload_n C 4 rfl dL_law_670 rfl ?_
    refine jl_callR (As := []) (rest := []) C (kX12_thrown_0 l B D (adb (s.heap.size + 63)) cR (adb_I _ _) S3 V' L' (2 : Int32) h3) mw_X12_thrown wd1621 wd1622 wd1620 rfl ⟨rfl, rfl, by decide, by decide⟩ ⟨Nat.le_trans (by omega) hkr.1, Nat.le_trans (by omega) hkr.2⟩ rfl rfl (Nat.le_of_ble_eq_true rfl) dL_law_671 ?_
    refine jl_iload C 1 rfl dL_law_674 ?_
    refine jl_eqT (tgt := 681) C rfl dL_law_676 (by decide) ?_
    refine jl_iload C 1 rfl dL_law_681 ?_
    refine jl_if_neT (tgt := 698) C (by decide) dL_law_683 (by decide) ?_
    refine jl_goto (tgt := 1702) C dL_law_698 (by decide) ?_
    refine jl_widen (k2 := kc + 6) (n2 := ks + 36) (by omega) (by omega) ?_
    exact jl_sub [2, 3, 4, 5, 6] rfl (kk _ _ _ _ _ _ hR2)
def St_slow (Rel : (Nat → Int32) → (Nat → Nat → Int32) → (Nat → Int32) → (Nat → Nat → Int32) → (Nat → Int64) → Prop) : Prop := ∀ (S : Nat → Int32) (V : Nat → Nat → Int32) (S' : Nat → Int32) (V' : Nat → Nat → Int32) (L' : Nat → Int64) (a1 : Int32) (a2 : Int32) (a3 : Int32), Rel S V S' V' L' → (∃ (r : Int32) (S3 : Nat → Int32), fX11_slow_0 S V a1 a2 a3 = some (.inl r) ∧ fX12_slow_0 S' V' a1 a2 a3 = some (r, S3) ∧ fX12_thrown_0 S3 = some 0 ∧ Rel S V S3 V' L') ∨ (∃ (r : Int32) (S3 : Nat → Int32), fX11_slow_0 S V a1 a2 a3 = some (.inr 1) ∧ fX12_slow_0 S' V' a1 a2 a3 = some (r, S3) ∧ fX12_thrown_0 S3 = some 1 ∧ Rel S V S3 V' L') ∨ (∃ (r : Int32) (S3 : Nat → Int32), fX11_slow_0 S V a1 a2 a3 = some (.inr 0) ∧ fX12_slow_0 S' V' a1 a2 a3 = some (r, S3) ∧ fX12_thrown_0 S3 = some 2 ∧ Rel S V S3 V' L')
set_option maxHeartbeats 4000000 in
set_option maxRecDepth 100000 in
theorem lc_slow (C : jCl p l s m args meth c D cA cR cO B b Ln xs) {Rel : (Nat → Int32) → (Nat → Nat → Int32) → (Nat → Int32) → (Nat → Nat → Int32) → (Nat → Int64) → Prop} (hst : St_slow Rel) (hR : Rel S V S' V' L') {n : Nat} (hn : n + 6 ≤ Ln) (hL : Ln ≤ 3072) (hkr : kc + 6 ≤ 601024 ∧ ks + 36 ≤ 7293034) (kk : ∀ S V S' V' L' o, Rel S V S' V' L' → jWl p l e s m args below meth c Q D cA cR cO (kc + 6) (ks + 36) 1702 [(0, .ref b), (1, .ref s.heap.size), (2, .ref (s.heap.size + 63)), (3, .ref (s.heap.size + 87)), (4, .int (nI n))] [] S V S' V' L' o) : jWl p l e s m args below meth c Q D cA cR cO kc ks 701 [(0, .ref b), (1, .ref s.heap.size), (2, .ref (s.heap.size + 63)), (3, .ref (s.heap.size + 87)), (4, .int (nI n))] [] S V S' V' L' o := by
  rcases hst S V S' V' L' (xs (n + 1)) (xs (n + 2)) (xs (n + 3)) hR with ⟨r, S3, h1, h2, h3, hR2⟩ | ⟨r, S3, h1, h2, h3, hR2⟩ | ⟨r, S3, h1, h2, h3, hR2⟩
  · refine jl_aload_n C 1 rfl dL_law_701 rfl ?_
    refine jl_arg (k := 1) C 0 4 rfl rfl (by omega) hL (by decide) dL_law_702 dL_law_703 dL_law_705 dL_law_706 dL_law_707 ?_
    refine jl_arg (k := 2) C 0 4 rfl rfl (by omega) hL (by decide) dL_law_708 dL_law_709 dL_law_711 dL_law_712 dL_law_713 ?_
    refine jl_arg (k := 3) C 0 4 rfl rfl (by omega) hL (by decide) dL_law_714 dL_law_715 dL_law_717 dL_law_718 dL_law_719 ?_
    refine jl_aload_n C 3 rfl dL_law_720 rfl ?_
    refine jl_callW (As := [.ref s.heap.size, .int (xs (n + 1)), .int (xs (n + 2)), .int (xs (n + 3)), .ref (s.heap.size + 87)]) (rest := []) C (wL_slow_ok l B D (adb s.heap.size) cA (adb_I _ _) C.2.2.2.2.2.2.2.2.2 (s.heap.size + 87) cO (adb_out s.heap.size) S V (fun _ => 0) o (xs (n + 1)) (xs (n + 2)) (xs (n + 3)) r h1) wcw_L_slow wd102 wd1148 wd1147 ⟨by decide +kernel, by decide +kernel, (show Option.map (fun d => d.parameters.length) (parseMethodDescriptor yL_slow.desc) = some 5 by decide +kernel)⟩ ⟨rfl, rfl, by decide, by decide⟩ ⟨Nat.le_trans (by omega) hkr.1, Nat.le_trans (by omega) hkr.2⟩ rfl rfl (Nat.le_of_ble_eq_true rfl) dL_law_721 ?_
    refine jl_istore C [(5, .int (0 : Int32)), (0, .ref b), (1, .ref s.heap.size), (2, .ref (s.heap.size + 63)), (3, .ref (s.heap.size + 87)), (4, .int (nI n))] dL_law_724 (by decide) rfl ?_
    refine jl_aload_n C 3 rfl dL_law_726 rfl ?_
    refine jl_arg (k := 1) C 1 5 rfl rfl (by omega) hL (by decide) dL_law_727 dL_law_728 dL_law_730 dL_law_731 dL_law_732 ?_
    refine jl_arg (k := 2) C 1 5 rfl rfl (by omega) hL (by decide) dL_law_733 dL_law_734 dL_law_736 dL_law_737 dL_law_738 ?_
    refine jl_arg (k := 3) C 1 5 rfl rfl (by omega) hL (by decide) dL_law_739 dL_law_740 dL_law_742 dL_law_743 dL_law_744 ?_
    refine jl_callR (As := [.int (xs (n + 1)), .int (xs (n + 2)), .int (xs (n + 3))]) (rest := []) C (kX12_slow_0 l B D (adb (s.heap.size + 63)) cR (adb_I _ _) S' V' L' (xs (n + 1)) (xs (n + 2)) (xs (n + 3)) r S3 h2) mw_X12_slow wd1851 wd1852 wd1850 rfl ⟨rfl, rfl, by decide, by decide⟩ ⟨Nat.le_trans (by omega) hkr.1, Nat.le_trans (by omega) hkr.2⟩ rfl rfl (Nat.le_of_ble_eq_true rfl) dL_law_745 ?_
    refine jl_istore C [(6, .int r), (5, .int (0 : Int32)), (0, .ref b), (1, .ref s.heap.size), (2, .ref (s.heap.size + 63)), (3, .ref (s.heap.size + 87)), (4, .int (nI n))] dL_law_748 (by decide) rfl ?_
    refine jl_aload_n C 4 rfl dL_law_750 rfl ?_
    refine jl_callR (As := []) (rest := []) C (kX12_thrown_0 l B D (adb (s.heap.size + 63)) cR (adb_I _ _) S3 V' L' (0 : Int32) h3) mw_X12_thrown wd1621 wd1622 wd1620 rfl ⟨rfl, rfl, by decide, by decide⟩ ⟨Nat.le_trans (by omega) hkr.1, Nat.le_trans (by omega) hkr.2⟩ rfl rfl (Nat.le_of_ble_eq_true rfl) dL_law_751 ?_
    refine jl_iload C 1 rfl dL_law_754 ?_
    refine jl_eqT (tgt := 761) C rfl dL_law_756 (by decide) ?_
    refine jl_iload C 1 rfl dL_law_761 ?_
    refine jl_if_neF (tgt := 778) C rfl dL_law_763 (by decide) ?_
    refine jl_aload_n C 5 rfl dL_law_766 rfl ?_
    refine jl_iconst C dL_law_767 ci_0 ?_
    refine jl_lald C dL_law_768 ?_
    refine jl_iload C 0 rfl dL_law_769 ?_
    refine jl_i2l C dL_law_771 ?_
    refine jl_lcmp C dL_law_772 ?_
    refine jl_if_eqT (tgt := 778) C (lg_cmp_self _) dL_law_773 (by decide) ?_
    refine jl_goto (tgt := 1702) C dL_law_778 (by decide) ?_
    refine jl_widen (k2 := kc + 6) (n2 := ks + 36) (by omega) (by omega) ?_
    exact jl_sub [2, 3, 4, 5, 6] rfl (kk _ _ _ _ _ _ hR2)
  · refine jl_aload_n C 1 rfl dL_law_701 rfl ?_
    refine jl_arg (k := 1) C 0 4 rfl rfl (by omega) hL (by decide) dL_law_702 dL_law_703 dL_law_705 dL_law_706 dL_law_707 ?_
    refine jl_arg (k := 2) C 0 4 rfl rfl (by omega) hL (by decide) dL_law_708 dL_law_709 dL_law_711 dL_law_712 dL_law_713 ?_
    refine jl_arg (k := 3) C 0 4 rfl rfl (by omega) hL (by decide) dL_law_714 dL_law_715 dL_law_717 dL_law_718 dL_law_719 ?_
    refine jl_aload_n C 3 rfl dL_law_720 rfl ?_
    refine jl_callW (As := [.ref s.heap.size, .int (xs (n + 1)), .int (xs (n + 2)), .int (xs (n + 3)), .ref (s.heap.size + 87)]) (rest := []) C (wL_slow_ex1 l B D (adb s.heap.size) cA (adb_I _ _) C.2.2.2.2.2.2.2.2.2 (s.heap.size + 87) cO (adb_out s.heap.size) S V (fun _ => 0) o (xs (n + 1)) (xs (n + 2)) (xs (n + 3)) h1) wcw_L_slow wd102 wd1148 wd1147 ⟨by decide +kernel, by decide +kernel, (show Option.map (fun d => d.parameters.length) (parseMethodDescriptor yL_slow.desc) = some 5 by decide +kernel)⟩ ⟨rfl, rfl, by decide, by decide⟩ ⟨Nat.le_trans (by omega) hkr.1, Nat.le_trans (by omega) hkr.2⟩ rfl rfl (Nat.le_of_ble_eq_true rfl) dL_law_721 ?_
    refine jl_istore C [(5, .int (1 : Int32)), (0, .ref b), (1, .ref s.heap.size), (2, .ref (s.heap.size + 63)), (3, .ref (s.heap.size + 87)), (4, .int (nI n))] dL_law_724 (by decide) rfl ?_
    refine jl_aload_n C 3 rfl dL_law_726 rfl ?_
    refine jl_arg (k := 1) C 1 5 rfl rfl (by omega) hL (by decide) dL_law_727 dL_law_728 dL_law_730 dL_law_731 dL_law_732 ?_
    refine jl_arg (k := 2) C 1 5 rfl rfl (by omega) hL (by decide) dL_law_733 dL_law_734 dL_law_736 dL_law_737 dL_law_738 ?_
    refine jl_arg (k := 3) C 1 5 rfl rfl (by omega) hL (by decide) dL_law_739 dL_law_740 dL_law_742 dL_law_743 dL_law_744 ?_
    refine jl_callR (As := [.int (xs (n + 1)), .int (xs (n + 2)), .int (xs (n + 3))]) (rest := []) C (kX12_slow_0 l B D (adb (s.heap.size + 63)) cR (adb_I _ _) S' V' L' (xs (n + 1)) (xs (n + 2)) (xs (n + 3)) r S3 h2) mw_X12_slow wd1851 wd1852 wd1850 rfl ⟨rfl, rfl, by decide, by decide⟩ ⟨Nat.le_trans (by omega) hkr.1, Nat.le_trans (by omega) hkr.2⟩ rfl rfl (Nat.le_of_ble_eq_true rfl) dL_law_745 ?_
    refine jl_istore C [(6, .int r), (5, .int (1 : Int32)), (0, .ref b), (1, .ref s.heap.size), (2, .ref (s.heap.size + 63)), (3, .ref (s.heap.size + 87)), (4, .int (nI n))] dL_law_748 (by decide) rfl ?_
    refine jl_aload_n C 4 rfl dL_law_750 rfl ?_
    refine jl_callR (As := []) (rest := []) C (kX12_thrown_0 l B D (adb (s.heap.size + 63)) cR (adb_I _ _) S3 V' L' (1 : Int32) h3) mw_X12_thrown wd1621 wd1622 wd1620 rfl ⟨rfl, rfl, by decide, by decide⟩ ⟨Nat.le_trans (by omega) hkr.1, Nat.le_trans (by omega) hkr.2⟩ rfl rfl (Nat.le_of_ble_eq_true rfl) dL_law_751 ?_
    refine jl_iload C 1 rfl dL_law_754 ?_
    refine jl_eqT (tgt := 761) C rfl dL_law_756 (by decide) ?_
    refine jl_iload C 1 rfl dL_law_761 ?_
    refine jl_if_neT (tgt := 778) C (by decide) dL_law_763 (by decide) ?_
    refine jl_goto (tgt := 1702) C dL_law_778 (by decide) ?_
    refine jl_widen (k2 := kc + 6) (n2 := ks + 36) (by omega) (by omega) ?_
    exact jl_sub [2, 3, 4, 5, 6] rfl (kk _ _ _ _ _ _ hR2)
  · refine jl_aload_n C 1 rfl dL_law_701 rfl ?_
    refine jl_arg (k := 1) C 0 4 rfl rfl (by omega) hL (by decide) dL_law_702 dL_law_703 dL_law_705 dL_law_706 dL_law_707 ?_
    refine jl_arg (k := 2) C 0 4 rfl rfl (by omega) hL (by decide) dL_law_708 dL_law_709 dL_law_711 dL_law_712 dL_law_713 ?_
    refine jl_arg (k := 3) C 0 4 rfl rfl (by omega) hL (by decide) dL_law_714 dL_law_715 dL_law_717 dL_law_718 dL_law_719 ?_
    refine jl_aload_n C 3 rfl dL_law_720 rfl ?_
    refine jl_callW (As := [.ref s.heap.size, .int (xs (n + 1)), .int (xs (n + 2)), .int (xs (n + 3)), .ref (s.heap.size + 87)]) (rest := []) C (wL_slow_ex0 l B D (adb s.heap.size) cA (adb_I _ _) C.2.2.2.2.2.2.2.2.2 (s.heap.size + 87) cO (adb_out s.heap.size) S V (fun _ => 0) o (xs (n + 1)) (xs (n + 2)) (xs (n + 3)) h1) wcw_L_slow wd102 wd1148 wd1147 ⟨by decide +kernel, by decide +kernel, (show Option.map (fun d => d.parameters.length) (parseMethodDescriptor yL_slow.desc) = some 5 by decide +kernel)⟩ ⟨rfl, rfl, by decide, by decide⟩ ⟨Nat.le_trans (by omega) hkr.1, Nat.le_trans (by omega) hkr.2⟩ rfl rfl (Nat.le_of_ble_eq_true rfl) dL_law_721 ?_
    refine jl_istore C [(5, .int (2 : Int32)), (0, .ref b), (1, .ref s.heap.size), (2, .ref (s.heap.size + 63)), (3, .ref (s.heap.size + 87)), (4, .int (nI n))] dL_law_724 (by decide) rfl ?_
    refine jl_aload_n C 3 rfl dL_law_726 rfl ?_
    refine jl_arg (k := 1) C 1 5 rfl rfl (by omega) hL (by decide) dL_law_727 dL_law_728 dL_law_730 dL_law_731 dL_law_732 ?_
    refine jl_arg (k := 2) C 1 5 rfl rfl (by omega) hL (by decide) dL_law_733 dL_law_734 dL_law_736 dL_law_737 dL_law_738 ?_
    refine jl_arg (k := 3) C 1 5 rfl rfl (by omega) hL (by decide) dL_law_739 dL_law_740 dL_law_742 dL_law_743 dL_law_744 ?_
    refine jl_callR (As := [.int (xs (n + 1)), .int (xs (n + 2)), .int (xs (n + 3))]) (rest := []) C (kX12_slow_0 l B D (adb (s.heap.size + 63)) cR (adb_I _ _) S' V' L' (xs (n + 1)) (xs (n + 2)) (xs (n + 3)) r S3 h2) mw_X12_slow wd1851 wd1852 wd1850 rfl ⟨rfl, rfl, by decide, by decide⟩ ⟨Nat.le_trans (by omega) hkr.1, Nat.le_trans (by omega) hkr.2⟩ rfl rfl (Nat.le_of_ble_eq_true rfl) dL_law_745 ?_
    refine jl_istore C [(6, .int r), (5, .int (2 : Int32)), (0, .ref b), (1, .ref s.heap.size), (2, .ref (s.heap.size + 63)), (3, .ref (s.heap.size + 87)), (4, .int (nI n))] dL_law_748 (by decide) rfl ?_
    refine jl_aload_n C 4 rfl dL_law_750 rfl ?_
    refine jl_callR (As := []) (rest := []) C (kX12_thrown_0 l B D (adb (s.heap.size + 63)) cR (adb_I _ _) S3 V' L' (2 : Int32) h3) mw_X12_thrown wd1621 wd1622 wd1620 rfl ⟨rfl, rfl, by decide, by decide⟩ ⟨Nat.le_trans (by omega) hkr.1, Nat.le_trans (by omega) hkr.2⟩ rfl rfl (Nat.le_of_ble_eq_true rfl) dL_law_751 ?_
    refine jl_iload C 1 rfl dL_law_754 ?_
    refine jl_eqT (tgt := 761) C rfl dL_law_756 (by decide) ?_
    refine jl_iload C 1 rfl dL_law_761 ?_
    refine jl_if_neT (tgt := 778) C (by decide) dL_law_763 (by decide) ?_
    refine jl_goto (tgt := 1702) C dL_law_778 (by decide) ?_
    refine jl_widen (k2 := kc + 6) (n2 := ks + 36) (by omega) (by omega) ?_
    exact jl_sub [2, 3, 4, 5, 6] rfl (kk _ _ _ _ _ _ hR2)
def St_slowBy (Rel : (Nat → Int32) → (Nat → Nat → Int32) → (Nat → Int32) → (Nat → Nat → Int32) → (Nat → Int64) → Prop) : Prop := ∀ (S : Nat → Int32) (V : Nat → Nat → Int32) (S' : Nat → Int32) (V' : Nat → Nat → Int32) (L' : Nat → Int64) (a1 : Int32) (a2 : Int32), Rel S V S' V' L' → (∃ (r : Int32) (S3 : Nat → Int32), fX11_slowBy_0 S V a1 a2 = some (.inl r) ∧ fX12_slowBy_0 S' V' a1 a2 = some (r, S3) ∧ fX12_thrown_0 S3 = some 0 ∧ Rel S V S3 V' L') ∨ (∃ (r : Int32) (S3 : Nat → Int32), fX11_slowBy_0 S V a1 a2 = some (.inr 1) ∧ fX12_slowBy_0 S' V' a1 a2 = some (r, S3) ∧ fX12_thrown_0 S3 = some 1 ∧ Rel S V S3 V' L') ∨ (∃ (r : Int32) (S3 : Nat → Int32), fX11_slowBy_0 S V a1 a2 = some (.inr 0) ∧ fX12_slowBy_0 S' V' a1 a2 = some (r, S3) ∧ fX12_thrown_0 S3 = some 2 ∧ Rel S V S3 V' L')
set_option maxHeartbeats 4000000 in
set_option maxRecDepth 100000 in
theorem lc_slowBy (C : jCl p l s m args meth c D cA cR cO B b Ln xs) {Rel : (Nat → Int32) → (Nat → Nat → Int32) → (Nat → Int32) → (Nat → Nat → Int32) → (Nat → Int64) → Prop} (hst : St_slowBy Rel) (hR : Rel S V S' V' L') {n : Nat} (hn : n + 6 ≤ Ln) (hL : Ln ≤ 3072) (hkr : kc + 6 ≤ 601024 ∧ ks + 36 ≤ 7293034) (kk : ∀ S V S' V' L' o, Rel S V S' V' L' → jWl p l e s m args below meth c Q D cA cR cO (kc + 6) (ks + 36) 1702 [(0, .ref b), (1, .ref s.heap.size), (2, .ref (s.heap.size + 63)), (3, .ref (s.heap.size + 87)), (4, .int (nI n))] [] S V S' V' L' o) : jWl p l e s m args below meth c Q D cA cR cO kc ks 781 [(0, .ref b), (1, .ref s.heap.size), (2, .ref (s.heap.size + 63)), (3, .ref (s.heap.size + 87)), (4, .int (nI n))] [] S V S' V' L' o := by
  rcases hst S V S' V' L' (xs (n + 1)) (xs (n + 2)) hR with ⟨r, S3, h1, h2, h3, hR2⟩ | ⟨r, S3, h1, h2, h3, hR2⟩ | ⟨r, S3, h1, h2, h3, hR2⟩
  · refine jl_aload_n C 1 rfl dL_law_781 rfl ?_
    refine jl_arg (k := 1) C 0 4 rfl rfl (by omega) hL (by decide) dL_law_782 dL_law_783 dL_law_785 dL_law_786 dL_law_787 ?_
    refine jl_arg (k := 2) C 0 4 rfl rfl (by omega) hL (by decide) dL_law_788 dL_law_789 dL_law_791 dL_law_792 dL_law_793 ?_
    refine jl_aload_n C 3 rfl dL_law_794 rfl ?_
    refine jl_callW (As := [.ref s.heap.size, .int (xs (n + 1)), .int (xs (n + 2)), .ref (s.heap.size + 87)]) (rest := []) C (wL_slowBy_ok l B D (adb s.heap.size) cA (adb_I _ _) C.2.2.2.2.2.2.2.2.2 (s.heap.size + 87) cO (adb_out s.heap.size) S V (fun _ => 0) o (xs (n + 1)) (xs (n + 2)) r h1) wcw_L_slowBy wd102 wd1161 wd1160 ⟨by decide +kernel, by decide +kernel, (show Option.map (fun d => d.parameters.length) (parseMethodDescriptor yL_slowBy.desc) = some 4 by decide +kernel)⟩ ⟨rfl, rfl, by decide, by decide⟩ ⟨Nat.le_trans (by omega) hkr.1, Nat.le_trans (by omega) hkr.2⟩ rfl rfl (Nat.le_of_ble_eq_true rfl) dL_law_795 ?_
    refine jl_istore C [(5, .int (0 : Int32)), (0, .ref b), (1, .ref s.heap.size), (2, .ref (s.heap.size + 63)), (3, .ref (s.heap.size + 87)), (4, .int (nI n))] dL_law_798 (by decide) rfl ?_
    refine jl_aload_n C 3 rfl dL_law_800 rfl ?_
    refine jl_arg (k := 1) C 1 5 rfl rfl (by omega) hL (by decide) dL_law_801 dL_law_802 dL_law_804 dL_law_805 dL_law_806 ?_
    refine jl_arg (k := 2) C 1 5 rfl rfl (by omega) hL (by decide) dL_law_807 dL_law_808 dL_law_810 dL_law_811 dL_law_812 ?_
    refine jl_callR (As := [.int (xs (n + 1)), .int (xs (n + 2))]) (rest := []) C (kX12_slowBy_0 l B D (adb (s.heap.size + 63)) cR (adb_I _ _) S' V' L' (xs (n + 1)) (xs (n + 2)) r S3 h2) mw_X12_slowBy wd1859 wd1860 wd1858 rfl ⟨rfl, rfl, by decide, by decide⟩ ⟨Nat.le_trans (by omega) hkr.1, Nat.le_trans (by omega) hkr.2⟩ rfl rfl (Nat.le_of_ble_eq_true rfl) dL_law_813 ?_
    refine jl_istore C [(6, .int r), (5, .int (0 : Int32)), (0, .ref b), (1, .ref s.heap.size), (2, .ref (s.heap.size + 63)), (3, .ref (s.heap.size + 87)), (4, .int (nI n))] dL_law_816 (by decide) rfl ?_
    refine jl_aload_n C 4 rfl dL_law_818 rfl ?_
    refine jl_callR (As := []) (rest := []) C (kX12_thrown_0 l B D (adb (s.heap.size + 63)) cR (adb_I _ _) S3 V' L' (0 : Int32) h3) mw_X12_thrown wd1621 wd1622 wd1620 rfl ⟨rfl, rfl, by decide, by decide⟩ ⟨Nat.le_trans (by omega) hkr.1, Nat.le_trans (by omega) hkr.2⟩ rfl rfl (Nat.le_of_ble_eq_true rfl) dL_law_819 ?_
    refine jl_iload C 1 rfl dL_law_822 ?_
    refine jl_eqT (tgt := 829) C rfl dL_law_824 (by decide) ?_
    refine jl_iload C 1 rfl dL_law_829 ?_
    refine jl_if_neF (tgt := 846) C rfl dL_law_831 (by decide) ?_
    refine jl_aload_n C 5 rfl dL_law_834 rfl ?_
    refine jl_iconst C dL_law_835 ci_0 ?_
    refine jl_lald C dL_law_836 ?_
    refine jl_iload C 0 rfl dL_law_837 ?_
    refine jl_i2l C dL_law_839 ?_
    refine jl_lcmp C dL_law_840 ?_
    refine jl_if_eqT (tgt := 846) C (lg_cmp_self _) dL_law_841 (by decide) ?_
    refine jl_goto (tgt := 1702) C dL_law_846 (by decide) ?_
    refine jl_widen (k2 := kc + 6) (n2 := ks + 36) (by omega) (by omega) ?_
    exact jl_sub [2, 3, 4, 5, 6] rfl (kk _ _ _ _ _ _ hR2)
  · refine jl_aload_n C 1 rfl dL_law_781 rfl ?_
    refine jl_arg (k := 1) C 0 4 rfl rfl (by omega) hL (by decide) dL_law_782 dL_law_783 dL_law_785 dL_law_786 dL_law_787 ?_
    refine jl_arg (k := 2) C 0 4 rfl rfl (by omega) hL (by decide) dL_law_788 dL_law_789 dL_law_791 dL_law_792 dL_law_793 ?_
    refine jl_aload_n C 3 rfl dL_law_794 rfl ?_
    refine jl_callW (As := [.ref s.heap.size, .int (xs (n + 1)), .int (xs (n + 2)), .ref (s.heap.size + 87)]) (rest := []) C (wL_slowBy_ex1 l B D (adb s.heap.size) cA (adb_I _ _) C.2.2.2.2.2.2.2.2.2 (s.heap.size + 87) cO (adb_out s.heap.size) S V (fun _ => 0) o (xs (n + 1)) (xs (n + 2)) h1) wcw_L_slowBy wd102 wd1161 wd1160 ⟨by decide +kernel, by decide +kernel, (show Option.map (fun d => d.parameters.length) (parseMethodDescriptor yL_slowBy.desc) = some 4 by decide +kernel)⟩ ⟨rfl, rfl, by decide, by decide⟩ ⟨Nat.le_trans (by omega) hkr.1, Nat.le_trans (by omega) hkr.2⟩ rfl rfl (Nat.le_of_ble_eq_true rfl) dL_law_795 ?_
    refine jl_istore C [(5, .int (1 : Int32)), (0, .ref b), (1, .ref s.heap.size), (2, .ref (s.heap.size + 63)), (3, .ref (s.heap.size + 87)), (4, .int (nI n))] dL_law_798 (by decide) rfl ?_
    refine jl_aload_n C 3 rfl dL_law_800 rfl ?_
    refine jl_arg (k := 1) C 1 5 rfl rfl (by omega) hL (by decide) dL_law_801 dL_law_802 dL_law_804 dL_law_805 dL_law_806 ?_
    refine jl_arg (k := 2) C 1 5 rfl rfl (by omega) hL (by decide) dL_law_807 dL_law_808 dL_law_810 dL_law_811 dL_law_812 ?_
    refine jl_callR (As := [.int (xs (n + 1)), .int (xs (n + 2))]) (rest := []) C (kX12_slowBy_0 l B D (adb (s.heap.size + 63)) cR (adb_I _ _) S' V' L' (xs (n + 1)) (xs (n + 2)) r S3 h2) mw_X12_slowBy wd1859 wd1860 wd1858 rfl ⟨rfl, rfl, by decide, by decide⟩ ⟨Nat.le_trans (by omega) hkr.1, Nat.le_trans (by omega) hkr.2⟩ rfl rfl (Nat.le_of_ble_eq_true rfl) dL_law_813 ?_
    refine jl_istore C [(6, .int r), (5, .int (1 : Int32)), (0, .ref b), (1, .ref s.heap.size), (2, .ref (s.heap.size + 63)), (3, .ref (s.heap.size + 87)), (4, .int (nI n))] dL_law_816 (by decide) rfl ?_
    refine jl_aload_n C 4 rfl dL_law_818 rfl ?_
    refine jl_callR (As := []) (rest := []) C (kX12_thrown_0 l B D (adb (s.heap.size + 63)) cR (adb_I _ _) S3 V' L' (1 : Int32) h3) mw_X12_thrown wd1621 wd1622 wd1620 rfl ⟨rfl, rfl, by decide, by decide⟩ ⟨Nat.le_trans (by omega) hkr.1, Nat.le_trans (by omega) hkr.2⟩ rfl rfl (Nat.le_of_ble_eq_true rfl) dL_law_819 ?_
    refine jl_iload C 1 rfl dL_law_822 ?_
    refine jl_eqT (tgt := 829) C rfl dL_law_824 (by decide) ?_
    refine jl_iload C 1 rfl dL_law_829 ?_
    refine jl_if_neT (tgt := 846) C (by decide) dL_law_831 (by decide) ?_
    refine jl_goto (tgt := 1702) C dL_law_846 (by decide) ?_
    refine jl_widen (k2 := kc + 6) (n2 := ks + 36) (by omega) (by omega) ?_
    exact jl_sub [2, 3, 4, 5, 6] rfl (kk _ _ _ _ _ _ hR2)
  · refine jl_aload_n C 1 rfl dL_law_781 rfl ?_
    refine jl_arg (k := 1) C 0 4 rfl rfl (by omega) hL (by decide) dL_law_782 dL_law_783 dL_law_785 dL_law_786 dL_law_787 ?_
    refine jl_arg (k := 2) C 0 4 rfl rfl (by omega) hL (by decide) dL_law_788 dL_law_789 dL_law_791 dL_law_792 dL_law_793 ?_
    refine jl_aload_n C 3 rfl dL_law_794 rfl ?_
    refine jl_callW (As := [.ref s.heap.size, .int (xs (n + 1)), .int (xs (n + 2)), .ref (s.heap.size + 87)]) (rest := []) C (wL_slowBy_ex0 l B D (adb s.heap.size) cA (adb_I _ _) C.2.2.2.2.2.2.2.2.2 (s.heap.size + 87) cO (adb_out s.heap.size) S V (fun _ => 0) o (xs (n + 1)) (xs (n + 2)) h1) wcw_L_slowBy wd102 wd1161 wd1160 ⟨by decide +kernel, by decide +kernel, (show Option.map (fun d => d.parameters.length) (parseMethodDescriptor yL_slowBy.desc) = some 4 by decide +kernel)⟩ ⟨rfl, rfl, by decide, by decide⟩ ⟨Nat.le_trans (by omega) hkr.1, Nat.le_trans (by omega) hkr.2⟩ rfl rfl (Nat.le_of_ble_eq_true rfl) dL_law_795 ?_
    refine jl_istore C [(5, .int (2 : Int32)), (0, .ref b), (1, .ref s.heap.size), (2, .ref (s.heap.size + 63)), (3, .ref (s.heap.size + 87)), (4, .int (nI n))] dL_law_798 (by decide) rfl ?_
    refine jl_aload_n C 3 rfl dL_law_800 rfl ?_
    refine jl_arg (k := 1) C 1 5 rfl rfl (by omega) hL (by decide) dL_law_801 dL_law_802 dL_law_804 dL_law_805 dL_law_806 ?_
    refine jl_arg (k := 2) C 1 5 rfl rfl (by omega) hL (by decide) dL_law_807 dL_law_808 dL_law_810 dL_law_811 dL_law_812 ?_
    refine jl_callR (As := [.int (xs (n + 1)), .int (xs (n + 2))]) (rest := []) C (kX12_slowBy_0 l B D (adb (s.heap.size + 63)) cR (adb_I _ _) S' V' L' (xs (n + 1)) (xs (n + 2)) r S3 h2) mw_X12_slowBy wd1859 wd1860 wd1858 rfl ⟨rfl, rfl, by decide, by decide⟩ ⟨Nat.le_trans (by omega) hkr.1, Nat.le_trans (by omega) hkr.2⟩ rfl rfl (Nat.le_of_ble_eq_true rfl) dL_law_813 ?_
    refine jl_istore C [(6, .int r), (5, .int (2 : Int32)), (0, .ref b), (1, .ref s.heap.size), (2, .ref (s.heap.size + 63)), (3, .ref (s.heap.size + 87)), (4, .int (nI n))] dL_law_816 (by decide) rfl ?_
    refine jl_aload_n C 4 rfl dL_law_818 rfl ?_
    refine jl_callR (As := []) (rest := []) C (kX12_thrown_0 l B D (adb (s.heap.size + 63)) cR (adb_I _ _) S3 V' L' (2 : Int32) h3) mw_X12_thrown wd1621 wd1622 wd1620 rfl ⟨rfl, rfl, by decide, by decide⟩ ⟨Nat.le_trans (by omega) hkr.1, Nat.le_trans (by omega) hkr.2⟩ rfl rfl (Nat.le_of_ble_eq_true rfl) dL_law_819 ?_
    refine jl_iload C 1 rfl dL_law_822 ?_
    refine jl_eqT (tgt := 829) C rfl dL_law_824 (by decide) ?_
    refine jl_iload C 1 rfl dL_law_829 ?_
    refine jl_if_neT (tgt := 846) C (by decide) dL_law_831 (by decide) ?_
    refine jl_goto (tgt := 1702) C dL_law_846 (by decide) ?_
    refine jl_widen (k2 := kc + 6) (n2 := ks + 36) (by omega) (by omega) ?_
    exact jl_sub [2, 3, 4, 5, 6] rfl (kk _ _ _ _ _ _ hR2)
def St_house4 (Rel : (Nat → Int32) → (Nat → Nat → Int32) → (Nat → Int32) → (Nat → Nat → Int32) → (Nat → Int64) → Prop) : Prop := ∀ (S : Nat → Int32) (V : Nat → Nat → Int32) (S' : Nat → Int32) (V' : Nat → Nat → Int32) (L' : Nat → Int64) (a1 : Int32) (a2 : Int32), Rel S V S' V' L' → (∃ (r : Int32) (S2 : Nat → Int32) (V2 : Nat → Nat → Int32) (S3 : Nat → Int32) (V3 : Nat → Nat → Int32), fX11_house4_0 S V a1 a2 = some (.inl (r, S2, V2)) ∧ fX12_house4_0 S' V' a1 a2 = some (r, S3, V3) ∧ fX12_thrown_0 S3 = some 0 ∧ Rel S2 V2 S3 V3 L') ∨ (∃ (r : Int32) (S3 : Nat → Int32) (V3 : Nat → Nat → Int32), fX11_house4_0 S V a1 a2 = some (.inr 0) ∧ fX12_house4_0 S' V' a1 a2 = some (r, S3, V3) ∧ fX12_thrown_0 S3 = some 1 ∧ Rel S V S3 V3 L')
set_option maxHeartbeats 4000000 in
set_option maxRecDepth 100000 in
theorem lc_house4 (C : jCl p l s m args meth c D cA cR cO B b Ln xs) {Rel : (Nat → Int32) → (Nat → Nat → Int32) → (Nat → Int32) → (Nat → Nat → Int32) → (Nat → Int64) → Prop} (hst : St_house4 Rel) (hR : Rel S V S' V' L') {n : Nat} (hn : n + 6 ≤ Ln) (hL : Ln ≤ 3072) (hkr : kc + 6 ≤ 601024 ∧ ks + 36 ≤ 7293034) (kk : ∀ S V S' V' L' o, Rel S V S' V' L' → jWl p l e s m args below meth c Q D cA cR cO (kc + 6) (ks + 36) 1702 [(0, .ref b), (1, .ref s.heap.size), (2, .ref (s.heap.size + 63)), (3, .ref (s.heap.size + 87)), (4, .int (nI n))] [] S V S' V' L' o) : jWl p l e s m args below meth c Q D cA cR cO kc ks 849 [(0, .ref b), (1, .ref s.heap.size), (2, .ref (s.heap.size + 63)), (3, .ref (s.heap.size + 87)), (4, .int (nI n))] [] S V S' V' L' o := by
  rcases hst S V S' V' L' (xs (n + 1)) (xs (n + 2)) hR with ⟨r, S2, V2, S3, V3, h1, h2, h3, hR2⟩ | ⟨r, S3, V3, h1, h2, h3, hR2⟩
  · refine jl_aload_n C 1 rfl dL_law_849 rfl ?_
    refine jl_arg (k := 1) C 0 4 rfl rfl (by omega) hL (by decide) dL_law_850 dL_law_851 dL_law_853 dL_law_854 dL_law_855 ?_
    refine jl_arg (k := 2) C 0 4 rfl rfl (by omega) hL (by decide) dL_law_856 dL_law_857 dL_law_859 dL_law_860 dL_law_861 ?_
    refine jl_aload_n C 3 rfl dL_law_862 rfl ?_
    refine jl_callW (As := [.ref s.heap.size, .int (xs (n + 1)), .int (xs (n + 2)), .ref (s.heap.size + 87)]) (rest := []) C (wL_house4_ok l B D (adb s.heap.size) cA (adb_I _ _) C.2.2.2.2.2.2.2.2.2 (s.heap.size + 87) cO (adb_out s.heap.size) S V (fun _ => 0) o (xs (n + 1)) (xs (n + 2)) r S2 V2 h1) wcw_L_house4 wd102 wd1173 wd1172 ⟨by decide +kernel, by decide +kernel, (show Option.map (fun d => d.parameters.length) (parseMethodDescriptor yL_house4.desc) = some 4 by decide +kernel)⟩ ⟨rfl, rfl, by decide, by decide⟩ ⟨Nat.le_trans (by omega) hkr.1, Nat.le_trans (by omega) hkr.2⟩ rfl rfl (Nat.le_of_ble_eq_true rfl) dL_law_863 ?_
    refine jl_istore C [(5, .int (0 : Int32)), (0, .ref b), (1, .ref s.heap.size), (2, .ref (s.heap.size + 63)), (3, .ref (s.heap.size + 87)), (4, .int (nI n))] dL_law_866 (by decide) rfl ?_
    refine jl_aload_n C 3 rfl dL_law_868 rfl ?_
    refine jl_arg (k := 1) C 1 5 rfl rfl (by omega) hL (by decide) dL_law_869 dL_law_870 dL_law_872 dL_law_873 dL_law_874 ?_
    refine jl_arg (k := 2) C 1 5 rfl rfl (by omega) hL (by decide) dL_law_875 dL_law_876 dL_law_878 dL_law_879 dL_law_880 ?_
    refine jl_callR (As := [.int (xs (n + 1)), .int (xs (n + 2))]) (rest := []) C (kX12_house4_0 l B D (adb (s.heap.size + 63)) cR (adb_I _ _) S' V' L' (xs (n + 1)) (xs (n + 2)) r S3 V3 h2) mw_X12_house4 wd1867 wd1868 wd1866 rfl ⟨rfl, rfl, by decide, by decide⟩ ⟨Nat.le_trans (by omega) hkr.1, Nat.le_trans (by omega) hkr.2⟩ rfl rfl (Nat.le_of_ble_eq_true rfl) dL_law_881 ?_
    refine jl_istore C [(6, .int r), (5, .int (0 : Int32)), (0, .ref b), (1, .ref s.heap.size), (2, .ref (s.heap.size + 63)), (3, .ref (s.heap.size + 87)), (4, .int (nI n))] dL_law_884 (by decide) rfl ?_
    refine jl_aload_n C 4 rfl dL_law_886 rfl ?_
    refine jl_callR (As := []) (rest := []) C (kX12_thrown_0 l B D (adb (s.heap.size + 63)) cR (adb_I _ _) S3 V3 L' (0 : Int32) h3) mw_X12_thrown wd1621 wd1622 wd1620 rfl ⟨rfl, rfl, by decide, by decide⟩ ⟨Nat.le_trans (by omega) hkr.1, Nat.le_trans (by omega) hkr.2⟩ rfl rfl (Nat.le_of_ble_eq_true rfl) dL_law_887 ?_
    refine jl_iload C 1 rfl dL_law_890 ?_
    refine jl_eqT (tgt := 897) C rfl dL_law_892 (by decide) ?_
    refine jl_iload C 1 rfl dL_law_897 ?_
    refine jl_if_neF (tgt := 914) C rfl dL_law_899 (by decide) ?_
    refine jl_aload_n C 5 rfl dL_law_902 rfl ?_
    refine jl_iconst C dL_law_903 ci_0 ?_
    refine jl_lald C dL_law_904 ?_
    refine jl_iload C 0 rfl dL_law_905 ?_
    refine jl_i2l C dL_law_907 ?_
    refine jl_lcmp C dL_law_908 ?_
    refine jl_if_eqT (tgt := 914) C (lg_cmp_self _) dL_law_909 (by decide) ?_
    refine jl_goto (tgt := 1702) C dL_law_914 (by decide) ?_
    refine jl_widen (k2 := kc + 6) (n2 := ks + 36) (by omega) (by omega) ?_
    exact jl_sub [2, 3, 4, 5, 6] rfl (kk _ _ _ _ _ _ hR2)
  · refine jl_aload_n C 1 rfl dL_law_849 rfl ?_
    refine jl_arg (k := 1) C 0 4 rfl rfl (by omega) hL (by decide) dL_law_850 dL_law_851 dL_law_853 dL_law_854 dL_law_855 ?_
    refine jl_arg (k := 2) C 0 4 rfl rfl (by omega) hL (by decide) dL_law_856 dL_law_857 dL_law_859 dL_law_860 dL_law_861 ?_
    refine jl_aload_n C 3 rfl dL_law_862 rfl ?_
    refine jl_callW (As := [.ref s.heap.size, .int (xs (n + 1)), .int (xs (n + 2)), .ref (s.heap.size + 87)]) (rest := []) C (wL_house4_ex0 l B D (adb s.heap.size) cA (adb_I _ _) C.2.2.2.2.2.2.2.2.2 (s.heap.size + 87) cO (adb_out s.heap.size) S V (fun _ => 0) o (xs (n + 1)) (xs (n + 2)) h1) wcw_L_house4 wd102 wd1173 wd1172 ⟨by decide +kernel, by decide +kernel, (show Option.map (fun d => d.parameters.length) (parseMethodDescriptor yL_house4.desc) = some 4 by decide +kernel)⟩ ⟨rfl, rfl, by decide, by decide⟩ ⟨Nat.le_trans (by omega) hkr.1, Nat.le_trans (by omega) hkr.2⟩ rfl rfl (Nat.le_of_ble_eq_true rfl) dL_law_863 ?_
    refine jl_istore C [(5, .int (1 : Int32)), (0, .ref b), (1, .ref s.heap.size), (2, .ref (s.heap.size + 63)), (3, .ref (s.heap.size + 87)), (4, .int (nI n))] dL_law_866 (by decide) rfl ?_
    refine jl_aload_n C 3 rfl dL_law_868 rfl ?_
    refine jl_arg (k := 1) C 1 5 rfl rfl (by omega) hL (by decide) dL_law_869 dL_law_870 dL_law_872 dL_law_873 dL_law_874 ?_
    refine jl_arg (k := 2) C 1 5 rfl rfl (by omega) hL (by decide) dL_law_875 dL_law_876 dL_law_878 dL_law_879 dL_law_880 ?_
    refine jl_callR (As := [.int (xs (n + 1)), .int (xs (n + 2))]) (rest := []) C (kX12_house4_0 l B D (adb (s.heap.size + 63)) cR (adb_I _ _) S' V' L' (xs (n + 1)) (xs (n + 2)) r S3 V3 h2) mw_X12_house4 wd1867 wd1868 wd1866 rfl ⟨rfl, rfl, by decide, by decide⟩ ⟨Nat.le_trans (by omega) hkr.1, Nat.le_trans (by omega) hkr.2⟩ rfl rfl (Nat.le_of_ble_eq_true rfl) dL_law_881 ?_
    refine jl_istore C [(6, .int r), (5, .int (1 : Int32)), (0, .ref b), (1, .ref s.heap.size), (2, .ref (s.heap.size + 63)), (3, .ref (s.heap.size + 87)), (4, .int (nI n))] dL_law_884 (by decide) rfl ?_
    refine jl_aload_n C 4 rfl dL_law_886 rfl ?_
    refine jl_callR (As := []) (rest := []) C (kX12_thrown_0 l B D (adb (s.heap.size + 63)) cR (adb_I _ _) S3 V3 L' (1 : Int32) h3) mw_X12_thrown wd1621 wd1622 wd1620 rfl ⟨rfl, rfl, by decide, by decide⟩ ⟨Nat.le_trans (by omega) hkr.1, Nat.le_trans (by omega) hkr.2⟩ rfl rfl (Nat.le_of_ble_eq_true rfl) dL_law_887 ?_
    refine jl_iload C 1 rfl dL_law_890 ?_
    refine jl_eqT (tgt := 897) C rfl dL_law_892 (by decide) ?_
    refine jl_iload C 1 rfl dL_law_897 ?_
    refine jl_if_neT (tgt := 914) C (by decide) dL_law_899 (by decide) ?_
    refine jl_goto (tgt := 1702) C dL_law_914 (by decide) ?_
    refine jl_widen (k2 := kc + 6) (n2 := ks + 36) (by omega) (by omega) ?_
    exact jl_sub [2, 3, 4, 5, 6] rfl (kk _ _ _ _ _ _ hR2)
def St_housed (Rel : (Nat → Int32) → (Nat → Nat → Int32) → (Nat → Int32) → (Nat → Nat → Int32) → (Nat → Int64) → Prop) : Prop := ∀ (S : Nat → Int32) (V : Nat → Nat → Int32) (S' : Nat → Int32) (V' : Nat → Nat → Int32) (L' : Nat → Int64) (a1 : Int32), Rel S V S' V' L' → (∃ (r : Int32) (S3 : Nat → Int32), fX11_housed_0 S V a1 = some (.inl r) ∧ fX12_housed_0 S' V' a1 = some (r, S3) ∧ fX12_thrown_0 S3 = some 0 ∧ Rel S V S3 V' L') ∨ (∃ (r : Int32) (S3 : Nat → Int32), fX11_housed_0 S V a1 = some (.inr 1) ∧ fX12_housed_0 S' V' a1 = some (r, S3) ∧ fX12_thrown_0 S3 = some 1 ∧ Rel S V S3 V' L')
set_option maxHeartbeats 4000000 in
set_option maxRecDepth 100000 in
theorem lc_housed (C : jCl p l s m args meth c D cA cR cO B b Ln xs) {Rel : (Nat → Int32) → (Nat → Nat → Int32) → (Nat → Int32) → (Nat → Nat → Int32) → (Nat → Int64) → Prop} (hst : St_housed Rel) (hR : Rel S V S' V' L') {n : Nat} (hn : n + 6 ≤ Ln) (hL : Ln ≤ 3072) (hkr : kc + 6 ≤ 601024 ∧ ks + 36 ≤ 7293034) (kk : ∀ S V S' V' L' o, Rel S V S' V' L' → jWl p l e s m args below meth c Q D cA cR cO (kc + 6) (ks + 36) 1702 [(0, .ref b), (1, .ref s.heap.size), (2, .ref (s.heap.size + 63)), (3, .ref (s.heap.size + 87)), (4, .int (nI n))] [] S V S' V' L' o) : jWl p l e s m args below meth c Q D cA cR cO kc ks 917 [(0, .ref b), (1, .ref s.heap.size), (2, .ref (s.heap.size + 63)), (3, .ref (s.heap.size + 87)), (4, .int (nI n))] [] S V S' V' L' o := by
  rcases hst S V S' V' L' (xs (n + 1)) hR with ⟨r, S3, h1, h2, h3, hR2⟩ | ⟨r, S3, h1, h2, h3, hR2⟩
  · refine jl_aload_n C 1 rfl dL_law_917 rfl ?_
    refine jl_arg (k := 1) C 0 4 rfl rfl (by omega) hL (by decide) dL_law_918 dL_law_919 dL_law_921 dL_law_922 dL_law_923 ?_
    refine jl_aload_n C 3 rfl dL_law_924 rfl ?_
    refine jl_callW (As := [.ref s.heap.size, .int (xs (n + 1)), .ref (s.heap.size + 87)]) (rest := []) C (wL_housed_ok l B D (adb s.heap.size) cA (adb_I _ _) C.2.2.2.2.2.2.2.2.2 (s.heap.size + 87) cO (adb_out s.heap.size) S V (fun _ => 0) o (xs (n + 1)) r h1) wcw_L_housed wd102 wd1243 wd1242 ⟨by decide +kernel, by decide +kernel, (show Option.map (fun d => d.parameters.length) (parseMethodDescriptor yL_housed.desc) = some 3 by decide +kernel)⟩ ⟨rfl, rfl, by decide, by decide⟩ ⟨Nat.le_trans (by omega) hkr.1, Nat.le_trans (by omega) hkr.2⟩ rfl rfl (Nat.le_of_ble_eq_true rfl) dL_law_925 ?_
    refine jl_istore C [(5, .int (0 : Int32)), (0, .ref b), (1, .ref s.heap.size), (2, .ref (s.heap.size + 63)), (3, .ref (s.heap.size + 87)), (4, .int (nI n))] dL_law_928 (by decide) rfl ?_
    refine jl_aload_n C 3 rfl dL_law_930 rfl ?_
    refine jl_arg (k := 1) C 1 5 rfl rfl (by omega) hL (by decide) dL_law_931 dL_law_932 dL_law_934 dL_law_935 dL_law_936 ?_
    refine jl_callR (As := [.int (xs (n + 1))]) (rest := []) C (kX12_housed_0 l B D (adb (s.heap.size + 63)) cR (adb_I _ _) S' V' L' (xs (n + 1)) r S3 h2) mw_X12_housed wd1878 wd1879 wd1877 rfl ⟨rfl, rfl, by decide, by decide⟩ ⟨Nat.le_trans (by omega) hkr.1, Nat.le_trans (by omega) hkr.2⟩ rfl rfl (Nat.le_of_ble_eq_true rfl) dL_law_937 ?_
    refine jl_istore C [(6, .int r), (5, .int (0 : Int32)), (0, .ref b), (1, .ref s.heap.size), (2, .ref (s.heap.size + 63)), (3, .ref (s.heap.size + 87)), (4, .int (nI n))] dL_law_940 (by decide) rfl ?_
    refine jl_aload_n C 4 rfl dL_law_942 rfl ?_
    refine jl_callR (As := []) (rest := []) C (kX12_thrown_0 l B D (adb (s.heap.size + 63)) cR (adb_I _ _) S3 V' L' (0 : Int32) h3) mw_X12_thrown wd1621 wd1622 wd1620 rfl ⟨rfl, rfl, by decide, by decide⟩ ⟨Nat.le_trans (by omega) hkr.1, Nat.le_trans (by omega) hkr.2⟩ rfl rfl (Nat.le_of_ble_eq_true rfl) dL_law_943 ?_
    refine jl_iload C 1 rfl dL_law_946 ?_
    refine jl_eqT (tgt := 953) C rfl dL_law_948 (by decide) ?_
    refine jl_iload C 1 rfl dL_law_953 ?_
    refine jl_if_neF (tgt := 970) C rfl dL_law_955 (by decide) ?_
    refine jl_aload_n C 5 rfl dL_law_958 rfl ?_
    refine jl_iconst C dL_law_959 ci_0 ?_
    refine jl_lald C dL_law_960 ?_
    refine jl_iload C 0 rfl dL_law_961 ?_
    refine jl_i2l C dL_law_963 ?_
    refine jl_lcmp C dL_law_964 ?_
    refine jl_if_eqT (tgt := 970) C (lg_cmp_self _) dL_law_965 (by decide) ?_
    refine jl_goto (tgt := 1702) C dL_law_970 (by decide) ?_
    refine jl_widen (k2 := kc + 6) (n2 := ks + 36) (by omega) (by omega) ?_
    exact jl_sub [2, 3, 4, 5, 6] rfl (kk _ _ _ _ _ _ hR2)
  · refine jl_aload_n C 1 rfl dL_law_917 rfl ?_
    refine jl_arg (k := 1) C 0 4 rfl rfl (by omega) hL (by decide) dL_law_918 dL_law_919 dL_law_921 dL_law_922 dL_law_923 ?_
    refine jl_aload_n C 3 rfl dL_law_924 rfl ?_
    refine jl_callW (As := [.ref s.heap.size, .int (xs (n + 1)), .ref (s.heap.size + 87)]) (rest := []) C (wL_housed_ex1 l B D (adb s.heap.size) cA (adb_I _ _) C.2.2.2.2.2.2.2.2.2 (s.heap.size + 87) cO (adb_out s.heap.size) S V (fun _ => 0) o (xs (n + 1)) h1) wcw_L_housed wd102 wd1243 wd1242 ⟨by decide +kernel, by decide +kernel, (show Option.map (fun d => d.parameters.length) (parseMethodDescriptor yL_housed.desc) = some 3 by decide +kernel)⟩ ⟨rfl, rfl, by decide, by decide⟩ ⟨Nat.le_trans (by omega) hkr.1, Nat.le_trans (by omega) hkr.2⟩ rfl rfl (Nat.le_of_ble_eq_true rfl) dL_law_925 ?_
    refine jl_istore C [(5, .int (1 : Int32)), (0, .ref b), (1, .ref s.heap.size), (2, .ref (s.heap.size + 63)), (3, .ref (s.heap.size + 87)), (4, .int (nI n))] dL_law_928 (by decide) rfl ?_
    refine jl_aload_n C 3 rfl dL_law_930 rfl ?_
    refine jl_arg (k := 1) C 1 5 rfl rfl (by omega) hL (by decide) dL_law_931 dL_law_932 dL_law_934 dL_law_935 dL_law_936 ?_
    refine jl_callR (As := [.int (xs (n + 1))]) (rest := []) C (kX12_housed_0 l B D (adb (s.heap.size + 63)) cR (adb_I _ _) S' V' L' (xs (n + 1)) r S3 h2) mw_X12_housed wd1878 wd1879 wd1877 rfl ⟨rfl, rfl, by decide, by decide⟩ ⟨Nat.le_trans (by omega) hkr.1, Nat.le_trans (by omega) hkr.2⟩ rfl rfl (Nat.le_of_ble_eq_true rfl) dL_law_937 ?_
    refine jl_istore C [(6, .int r), (5, .int (1 : Int32)), (0, .ref b), (1, .ref s.heap.size), (2, .ref (s.heap.size + 63)), (3, .ref (s.heap.size + 87)), (4, .int (nI n))] dL_law_940 (by decide) rfl ?_
    refine jl_aload_n C 4 rfl dL_law_942 rfl ?_
    refine jl_callR (As := []) (rest := []) C (kX12_thrown_0 l B D (adb (s.heap.size + 63)) cR (adb_I _ _) S3 V' L' (1 : Int32) h3) mw_X12_thrown wd1621 wd1622 wd1620 rfl ⟨rfl, rfl, by decide, by decide⟩ ⟨Nat.le_trans (by omega) hkr.1, Nat.le_trans (by omega) hkr.2⟩ rfl rfl (Nat.le_of_ble_eq_true rfl) dL_law_943 ?_
    refine jl_iload C 1 rfl dL_law_946 ?_
    refine jl_eqT (tgt := 953) C rfl dL_law_948 (by decide) ?_
    refine jl_iload C 1 rfl dL_law_953 ?_
    refine jl_if_neT (tgt := 970) C (by decide) dL_law_955 (by decide) ?_
    refine jl_goto (tgt := 1702) C dL_law_970 (by decide) ?_
    refine jl_widen (k2 := kc + 6) (n2 := ks + 36) (by omega) (by omega) ?_
    exact jl_sub [2, 3, 4, 5, 6] rfl (kk _ _ _ _ _ _ hR2)
def St_cuckoo (Rel : (Nat → Int32) → (Nat → Nat → Int32) → (Nat → Int32) → (Nat → Nat → Int32) → (Nat → Int64) → Prop) : Prop := ∀ (S : Nat → Int32) (V : Nat → Nat → Int32) (S' : Nat → Int32) (V' : Nat → Nat → Int32) (L' : Nat → Int64) (a1 : Int32) (a2 : Int32), Rel S V S' V' L' → (∃ (r : Int32) (S2 : Nat → Int32) (S3 : Nat → Int32), fX11_cuckoo_0 S V a1 a2 = some (.inl (r, S2)) ∧ fX12_cuckoo_0 S' V' a1 a2 = some (r, S3) ∧ fX12_thrown_0 S3 = some 0 ∧ Rel S2 V S3 V' L') ∨ (∃ (r : Int32) (S3 : Nat → Int32), fX11_cuckoo_0 S V a1 a2 = some (.inr 1) ∧ fX12_cuckoo_0 S' V' a1 a2 = some (r, S3) ∧ fX12_thrown_0 S3 = some 1 ∧ Rel S V S3 V' L')
set_option maxHeartbeats 4000000 in
set_option maxRecDepth 100000 in
theorem lc_cuckoo (C : jCl p l s m args meth c D cA cR cO B b Ln xs) {Rel : (Nat → Int32) → (Nat → Nat → Int32) → (Nat → Int32) → (Nat → Nat → Int32) → (Nat → Int64) → Prop} (hst : St_cuckoo Rel) (hR : Rel S V S' V' L') {n : Nat} (hn : n + 6 ≤ Ln) (hL : Ln ≤ 3072) (hkr : kc + 6 ≤ 601024 ∧ ks + 36 ≤ 7293034) (kk : ∀ S V S' V' L' o, Rel S V S' V' L' → jWl p l e s m args below meth c Q D cA cR cO (kc + 6) (ks + 36) 1702 [(0, .ref b), (1, .ref s.heap.size), (2, .ref (s.heap.size + 63)), (3, .ref (s.heap.size + 87)), (4, .int (nI n))] [] S V S' V' L' o) : jWl p l e s m args below meth c Q D cA cR cO kc ks 973 [(0, .ref b), (1, .ref s.heap.size), (2, .ref (s.heap.size + 63)), (3, .ref (s.heap.size + 87)), (4, .int (nI n))] [] S V S' V' L' o := by
  rcases hst S V S' V' L' (xs (n + 1)) (xs (n + 2)) hR with ⟨r, S2, S3, h1, h2, h3, hR2⟩ | ⟨r, S3, h1, h2, h3, hR2⟩
  · refine jl_aload_n C 1 rfl dL_law_973 rfl ?_
    refine jl_arg (k := 1) C 0 4 rfl rfl (by omega) hL (by decide) dL_law_974 dL_law_975 dL_law_977 dL_law_978 dL_law_979 ?_
    refine jl_arg (k := 2) C 0 4 rfl rfl (by omega) hL (by decide) dL_law_980 dL_law_981 dL_law_983 dL_law_984 dL_law_985 ?_
    refine jl_aload_n C 3 rfl dL_law_986 rfl ?_
    refine jl_callW (As := [.ref s.heap.size, .int (xs (n + 1)), .int (xs (n + 2)), .ref (s.heap.size + 87)]) (rest := []) C (wL_cuckoo_ok l B D (adb s.heap.size) cA (adb_I _ _) C.2.2.2.2.2.2.2.2.2 (s.heap.size + 87) cO (adb_out s.heap.size) S V (fun _ => 0) o (xs (n + 1)) (xs (n + 2)) r S2 h1) wcw_L_cuckoo wd102 wd1251 wd1250 ⟨by decide +kernel, by decide +kernel, (show Option.map (fun d => d.parameters.length) (parseMethodDescriptor yL_cuckoo.desc) = some 4 by decide +kernel)⟩ ⟨rfl, rfl, by decide, by decide⟩ ⟨Nat.le_trans (by omega) hkr.1, Nat.le_trans (by omega) hkr.2⟩ rfl rfl (Nat.le_of_ble_eq_true rfl) dL_law_987 ?_
    refine jl_istore C [(5, .int (0 : Int32)), (0, .ref b), (1, .ref s.heap.size), (2, .ref (s.heap.size + 63)), (3, .ref (s.heap.size + 87)), (4, .int (nI n))] dL_law_990 (by decide) rfl ?_
    refine jl_aload_n C 3 rfl dL_law_992 rfl ?_
    refine jl_arg (k := 1) C 1 5 rfl rfl (by omega) hL (by decide) dL_law_993 dL_law_994 dL_law_996 dL_law_997 dL_law_998 ?_
    refine jl_arg (k := 2) C 1 5 rfl rfl (by omega) hL (by decide) dL_law_999 dL_law_1000 dL_law_1002 dL_law_1003 dL_law_1004 ?_
    refine jl_callR (As := [.int (xs (n + 1)), .int (xs (n + 2))]) (rest := []) C (kX12_cuckoo_0 l B D (adb (s.heap.size + 63)) cR (adb_I _ _) S' V' L' (xs (n + 1)) (xs (n + 2)) r S3 h2) mw_X12_cuckoo wd1882 wd1883 wd1881 rfl ⟨rfl, rfl, by decide, by decide⟩ ⟨Nat.le_trans (by omega) hkr.1, Nat.le_trans (by omega) hkr.2⟩ rfl rfl (Nat.le_of_ble_eq_true rfl) dL_law_1005 ?_
    refine jl_istore C [(6, .int r), (5, .int (0 : Int32)), (0, .ref b), (1, .ref s.heap.size), (2, .ref (s.heap.size + 63)), (3, .ref (s.heap.size + 87)), (4, .int (nI n))] dL_law_1008 (by decide) rfl ?_
    refine jl_aload_n C 4 rfl dL_law_1010 rfl ?_
    refine jl_callR (As := []) (rest := []) C (kX12_thrown_0 l B D (adb (s.heap.size + 63)) cR (adb_I _ _) S3 V' L' (0 : Int32) h3) mw_X12_thrown wd1621 wd1622 wd1620 rfl ⟨rfl, rfl, by decide, by decide⟩ ⟨Nat.le_trans (by omega) hkr.1, Nat.le_trans (by omega) hkr.2⟩ rfl rfl (Nat.le_of_ble_eq_true rfl) dL_law_1011 ?_
    refine jl_iload C 1 rfl dL_law_1014 ?_
    refine jl_eqT (tgt := 1021) C rfl dL_law_1016 (by decide) ?_
    refine jl_iload C 1 rfl dL_law_1021 ?_
    refine jl_if_neF (tgt := 1038) C rfl dL_law_1023 (by decide) ?_
    refine jl_aload_n C 5 rfl dL_law_1026 rfl ?_
    refine jl_iconst C dL_law_1027 ci_0 ?_
    refine jl_lald C dL_law_1028 ?_
    refine jl_iload C 0 rfl dL_law_1029 ?_
    refine jl_i2l C dL_law_1031 ?_
    refine jl_lcmp C dL_law_1032 ?_
    refine jl_if_eqT (tgt := 1038) C (lg_cmp_self _) dL_law_1033 (by decide) ?_
    refine jl_goto (tgt := 1702) C dL_law_1038 (by decide) ?_
    refine jl_widen (k2 := kc + 6) (n2 := ks + 36) (by omega) (by omega) ?_
    exact jl_sub [2, 3, 4, 5, 6] rfl (kk _ _ _ _ _ _ hR2)
  · refine jl_aload_n C 1 rfl dL_law_973 rfl ?_
    refine jl_arg (k := 1) C 0 4 rfl rfl (by omega) hL (by decide) dL_law_974 dL_law_975 dL_law_977 dL_law_978 dL_law_979 ?_
    refine jl_arg (k := 2) C 0 4 rfl rfl (by omega) hL (by decide) dL_law_980 dL_law_981 dL_law_983 dL_law_984 dL_law_985 ?_
    refine jl_aload_n C 3 rfl dL_law_986 rfl ?_
    refine jl_callW (As := [.ref s.heap.size, .int (xs (n + 1)), .int (xs (n + 2)), .ref (s.heap.size + 87)]) (rest := []) C (wL_cuckoo_ex1 l B D (adb s.heap.size) cA (adb_I _ _) C.2.2.2.2.2.2.2.2.2 (s.heap.size + 87) cO (adb_out s.heap.size) S V (fun _ => 0) o (xs (n + 1)) (xs (n + 2)) h1) wcw_L_cuckoo wd102 wd1251 wd1250 ⟨by decide +kernel, by decide +kernel, (show Option.map (fun d => d.parameters.length) (parseMethodDescriptor yL_cuckoo.desc) = some 4 by decide +kernel)⟩ ⟨rfl, rfl, by decide, by decide⟩ ⟨Nat.le_trans (by omega) hkr.1, Nat.le_trans (by omega) hkr.2⟩ rfl rfl (Nat.le_of_ble_eq_true rfl) dL_law_987 ?_
    refine jl_istore C [(5, .int (1 : Int32)), (0, .ref b), (1, .ref s.heap.size), (2, .ref (s.heap.size + 63)), (3, .ref (s.heap.size + 87)), (4, .int (nI n))] dL_law_990 (by decide) rfl ?_
    refine jl_aload_n C 3 rfl dL_law_992 rfl ?_
    refine jl_arg (k := 1) C 1 5 rfl rfl (by omega) hL (by decide) dL_law_993 dL_law_994 dL_law_996 dL_law_997 dL_law_998 ?_
    refine jl_arg (k := 2) C 1 5 rfl rfl (by omega) hL (by decide) dL_law_999 dL_law_1000 dL_law_1002 dL_law_1003 dL_law_1004 ?_
    refine jl_callR (As := [.int (xs (n + 1)), .int (xs (n + 2))]) (rest := []) C (kX12_cuckoo_0 l B D (adb (s.heap.size + 63)) cR (adb_I _ _) S' V' L' (xs (n + 1)) (xs (n + 2)) r S3 h2) mw_X12_cuckoo wd1882 wd1883 wd1881 rfl ⟨rfl, rfl, by decide, by decide⟩ ⟨Nat.le_trans (by omega) hkr.1, Nat.le_trans (by omega) hkr.2⟩ rfl rfl (Nat.le_of_ble_eq_true rfl) dL_law_1005 ?_
    refine jl_istore C [(6, .int r), (5, .int (1 : Int32)), (0, .ref b), (1, .ref s.heap.size), (2, .ref (s.heap.size + 63)), (3, .ref (s.heap.size + 87)), (4, .int (nI n))] dL_law_1008 (by decide) rfl ?_
    refine jl_aload_n C 4 rfl dL_law_1010 rfl ?_
    refine jl_callR (As := []) (rest := []) C (kX12_thrown_0 l B D (adb (s.heap.size + 63)) cR (adb_I _ _) S3 V' L' (1 : Int32) h3) mw_X12_thrown wd1621 wd1622 wd1620 rfl ⟨rfl, rfl, by decide, by decide⟩ ⟨Nat.le_trans (by omega) hkr.1, Nat.le_trans (by omega) hkr.2⟩ rfl rfl (Nat.le_of_ble_eq_true rfl) dL_law_1011 ?_
    refine jl_iload C 1 rfl dL_law_1014 ?_
    refine jl_eqT (tgt := 1021) C rfl dL_law_1016 (by decide) ?_
    refine jl_iload C 1 rfl dL_law_1021 ?_
    refine jl_if_neT (tgt := 1038) C (by decide) dL_law_1023 (by decide) ?_
    refine jl_goto (tgt := 1702) C dL_law_1038 (by decide) ?_
    refine jl_widen (k2 := kc + 6) (n2 := ks + 36) (by omega) (by omega) ?_
    exact jl_sub [2, 3, 4, 5, 6] rfl (kk _ _ _ _ _ _ hR2)
def St_visits (Rel : (Nat → Int32) → (Nat → Nat → Int32) → (Nat → Int32) → (Nat → Nat → Int32) → (Nat → Int64) → Prop) : Prop := ∀ (S : Nat → Int32) (V : Nat → Nat → Int32) (S' : Nat → Int32) (V' : Nat → Nat → Int32) (L' : Nat → Int64) (a1 : Int32) (a2 : Int32), Rel S V S' V' L' → (∃ (r : Int32) (S2 : Nat → Int32) (V2 : Nat → Nat → Int32) (S3 : Nat → Int32) (V3 : Nat → Nat → Int32), fX11_visits_0 S V a1 a2 = some (.inl (r, S2, V2)) ∧ fX12_visits_0 S' V' a1 a2 = some (r, S3, V3) ∧ fX12_thrown_0 S3 = some 0 ∧ Rel S2 V2 S3 V3 L') ∨ (∃ (r : Int32) (S3 : Nat → Int32) (V3 : Nat → Nat → Int32), fX11_visits_0 S V a1 a2 = some (.inr 1) ∧ fX12_visits_0 S' V' a1 a2 = some (r, S3, V3) ∧ fX12_thrown_0 S3 = some 1 ∧ Rel S V S3 V3 L') ∨ (∃ (r : Int32) (S3 : Nat → Int32) (V3 : Nat → Nat → Int32), fX11_visits_0 S V a1 a2 = some (.inr 0) ∧ fX12_visits_0 S' V' a1 a2 = some (r, S3, V3) ∧ fX12_thrown_0 S3 = some 2 ∧ Rel S V S3 V3 L')
set_option maxHeartbeats 4000000 in
set_option maxRecDepth 100000 in
theorem lc_visits (C : jCl p l s m args meth c D cA cR cO B b Ln xs) {Rel : (Nat → Int32) → (Nat → Nat → Int32) → (Nat → Int32) → (Nat → Nat → Int32) → (Nat → Int64) → Prop} (hst : St_visits Rel) (hR : Rel S V S' V' L') {n : Nat} (hn : n + 6 ≤ Ln) (hL : Ln ≤ 3072) (hkr : kc + 6 ≤ 601024 ∧ ks + 36 ≤ 7293034) (kk : ∀ S V S' V' L' o, Rel S V S' V' L' → jWl p l e s m args below meth c Q D cA cR cO (kc + 6) (ks + 36) 1702 [(0, .ref b), (1, .ref s.heap.size), (2, .ref (s.heap.size + 63)), (3, .ref (s.heap.size + 87)), (4, .int (nI n))] [] S V S' V' L' o) : jWl p l e s m args below meth c Q D cA cR cO kc ks 1041 [(0, .ref b), (1, .ref s.heap.size), (2, .ref (s.heap.size + 63)), (3, .ref (s.heap.size + 87)), (4, .int (nI n))] [] S V S' V' L' o := by
  rcases hst S V S' V' L' (xs (n + 1)) (xs (n + 2)) hR with ⟨r, S2, V2, S3, V3, h1, h2, h3, hR2⟩ | ⟨r, S3, V3, h1, h2, h3, hR2⟩ | ⟨r, S3, V3, h1, h2, h3, hR2⟩
  · refine jl_aload_n C 1 rfl dL_law_1041 rfl ?_
    refine jl_arg (k := 1) C 0 4 rfl rfl (by omega) hL (by decide) dL_law_1042 dL_law_1043 dL_law_1045 dL_law_1046 dL_law_1047 ?_
    refine jl_arg (k := 2) C 0 4 rfl rfl (by omega) hL (by decide) dL_law_1048 dL_law_1049 dL_law_1051 dL_law_1052 dL_law_1053 ?_
    refine jl_aload_n C 3 rfl dL_law_1054 rfl ?_
    refine jl_callW (As := [.ref s.heap.size, .int (xs (n + 1)), .int (xs (n + 2)), .ref (s.heap.size + 87)]) (rest := []) C (wL_visits_ok l B D (adb s.heap.size) cA (adb_I _ _) C.2.2.2.2.2.2.2.2.2 (s.heap.size + 87) cO (adb_out s.heap.size) S V (fun _ => 0) o (xs (n + 1)) (xs (n + 2)) r S2 V2 h1) wcw_L_visits wd102 wd1281 wd1280 ⟨by decide +kernel, by decide +kernel, (show Option.map (fun d => d.parameters.length) (parseMethodDescriptor yL_visits.desc) = some 4 by decide +kernel)⟩ ⟨rfl, rfl, by decide, by decide⟩ ⟨Nat.le_trans (by omega) hkr.1, Nat.le_trans (by omega) hkr.2⟩ rfl rfl (Nat.le_of_ble_eq_true rfl) dL_law_1055 ?_
    refine jl_istore C [(5, .int (0 : Int32)), (0, .ref b), (1, .ref s.heap.size), (2, .ref (s.heap.size + 63)), (3, .ref (s.heap.size + 87)), (4, .int (nI n))] dL_law_1058 (by decide) rfl ?_
    refine jl_aload_n C 3 rfl dL_law_1060 rfl ?_
    refine jl_arg (k := 1) C 1 5 rfl rfl (by omega) hL (by decide) dL_law_1061 dL_law_1062 dL_law_1064 dL_law_1065 dL_law_1066 ?_
    refine jl_arg (k := 2) C 1 5 rfl rfl (by omega) hL (by decide) dL_law_1067 dL_law_1068 dL_law_1070 dL_law_1071 dL_law_1072 ?_
    refine jl_callR (As := [.int (xs (n + 1)), .int (xs (n + 2))]) (rest := []) C (kX12_visits_0 l B D (adb (s.heap.size + 63)) cR (adb_I _ _) S' V' L' (xs (n + 1)) (xs (n + 2)) r S3 V3 h2) mw_X12_visits wd1893 wd1894 wd1892 rfl ⟨rfl, rfl, by decide, by decide⟩ ⟨Nat.le_trans (by omega) hkr.1, Nat.le_trans (by omega) hkr.2⟩ rfl rfl (Nat.le_of_ble_eq_true rfl) dL_law_1073 ?_
    refine jl_istore C [(6, .int r), (5, .int (0 : Int32)), (0, .ref b), (1, .ref s.heap.size), (2, .ref (s.heap.size + 63)), (3, .ref (s.heap.size + 87)), (4, .int (nI n))] dL_law_1076 (by decide) rfl ?_
    refine jl_aload_n C 4 rfl dL_law_1078 rfl ?_
    refine jl_callR (As := []) (rest := []) C (kX12_thrown_0 l B D (adb (s.heap.size + 63)) cR (adb_I _ _) S3 V3 L' (0 : Int32) h3) mw_X12_thrown wd1621 wd1622 wd1620 rfl ⟨rfl, rfl, by decide, by decide⟩ ⟨Nat.le_trans (by omega) hkr.1, Nat.le_trans (by omega) hkr.2⟩ rfl rfl (Nat.le_of_ble_eq_true rfl) dL_law_1079 ?_
    refine jl_iload C 1 rfl dL_law_1082 ?_
    refine jl_eqT (tgt := 1089) C rfl dL_law_1084 (by decide) ?_
    refine jl_iload C 1 rfl dL_law_1089 ?_
    refine jl_if_neF (tgt := 1106) C rfl dL_law_1091 (by decide) ?_
    refine jl_aload_n C 5 rfl dL_law_1094 rfl ?_
    refine jl_iconst C dL_law_1095 ci_0 ?_
    refine jl_lald C dL_law_1096 ?_
    refine jl_iload C 0 rfl dL_law_1097 ?_
    refine jl_i2l C dL_law_1099 ?_
    refine jl_lcmp C dL_law_1100 ?_
    refine jl_if_eqT (tgt := 1106) C (lg_cmp_self _) dL_law_1101 (by decide) ?_
    refine jl_goto (tgt := 1702) C dL_law_1106 (by decide) ?_
    refine jl_widen (k2 := kc + 6) (n2 := ks + 36) (by omega) (by omega) ?_
    exact jl_sub [2, 3, 4, 5, 6] rfl (kk _ _ _ _ _ _ hR2)
  · refine jl_aload_n C 1 rfl dL_law_1041 rfl ?_
    refine jl_arg (k := 1) C 0 4 rfl rfl (by omega) hL (by decide) dL_law_1042 dL_law_1043 dL_law_1045 dL_law_1046 dL_law_1047 ?_
    refine jl_arg (k := 2) C 0 4 rfl rfl (by omega) hL (by decide) dL_law_1048 dL_law_1049 dL_law_1051 dL_law_1052 dL_law_1053 ?_
    refine jl_aload_n C 3 rfl dL_law_1054 rfl ?_
    refine jl_callW (As := [.ref s.heap.size, .int (xs (n + 1)), .int (xs (n + 2)), .ref (s.heap.size + 87)]) (rest := []) C (wL_visits_ex1 l B D (adb s.heap.size) cA (adb_I _ _) C.2.2.2.2.2.2.2.2.2 (s.heap.size + 87) cO (adb_out s.heap.size) S V (fun _ => 0) o (xs (n + 1)) (xs (n + 2)) h1) wcw_L_visits wd102 wd1281 wd1280 ⟨by decide +kernel, by decide +kernel, (show Option.map (fun d => d.parameters.length) (parseMethodDescriptor yL_visits.desc) = some 4 by decide +kernel)⟩ ⟨rfl, rfl, by decide, by decide⟩ ⟨Nat.le_trans (by omega) hkr.1, Nat.le_trans (by omega) hkr.2⟩ rfl rfl (Nat.le_of_ble_eq_true rfl) dL_law_1055 ?_
    refine jl_istore C [(5, .int (1 : Int32)), (0, .ref b), (1, .ref s.heap.size), (2, .ref (s.heap.size + 63)), (3, .ref (s.heap.size + 87)), (4, .int (nI n))] dL_law_1058 (by decide) rfl ?_
    refine jl_aload_n C 3 rfl dL_law_1060 rfl ?_
    refine jl_arg (k := 1) C 1 5 rfl rfl (by omega) hL (by decide) dL_law_1061 dL_law_1062 dL_law_1064 dL_law_1065 dL_law_1066 ?_
    refine jl_arg (k := 2) C 1 5 rfl rfl (by omega) hL (by decide) dL_law_1067 dL_law_1068 dL_law_1070 dL_law_1071 dL_law_1072 ?_
    refine jl_callR (As := [.int (xs (n + 1)), .int (xs (n + 2))]) (rest := []) C (kX12_visits_0 l B D (adb (s.heap.size + 63)) cR (adb_I _ _) S' V' L' (xs (n + 1)) (xs (n + 2)) r S3 V3 h2) mw_X12_visits wd1893 wd1894 wd1892 rfl ⟨rfl, rfl, by decide, by decide⟩ ⟨Nat.le_trans (by omega) hkr.1, Nat.le_trans (by omega) hkr.2⟩ rfl rfl (Nat.le_of_ble_eq_true rfl) dL_law_1073 ?_
    refine jl_istore C [(6, .int r), (5, .int (1 : Int32)), (0, .ref b), (1, .ref s.heap.size), (2, .ref (s.heap.size + 63)), (3, .ref (s.heap.size + 87)), (4, .int (nI n))] dL_law_1076 (by decide) rfl ?_
    refine jl_aload_n C 4 rfl dL_law_1078 rfl ?_
    refine jl_callR (As := []) (rest := []) C (kX12_thrown_0 l B D (adb (s.heap.size + 63)) cR (adb_I _ _) S3 V3 L' (1 : Int32) h3) mw_X12_thrown wd1621 wd1622 wd1620 rfl ⟨rfl, rfl, by decide, by decide⟩ ⟨Nat.le_trans (by omega) hkr.1, Nat.le_trans (by omega) hkr.2⟩ rfl rfl (Nat.le_of_ble_eq_true rfl) dL_law_1079 ?_
    refine jl_iload C 1 rfl dL_law_1082 ?_
    refine jl_eqT (tgt := 1089) C rfl dL_law_1084 (by decide) ?_
    refine jl_iload C 1 rfl dL_law_1089 ?_
    refine jl_if_neT (tgt := 1106) C (by decide) dL_law_1091 (by decide) ?_
    refine jl_goto (tgt := 1702) C dL_law_1106 (by decide) ?_
    refine jl_widen (k2 := kc + 6) (n2 := ks + 36) (by omega) (by omega) ?_
    exact jl_sub [2, 3, 4, 5, 6] rfl (kk _ _ _ _ _ _ hR2)
  · refine jl_aload_n C 1 rfl dL_law_1041 rfl ?_
    refine jl_arg (k := 1) C 0 4 rfl rfl (by omega) hL (by decide) dL_law_1042 dL_law_1043 dL_law_1045 dL_law_1046 dL_law_1047 ?_
    refine jl_arg (k := 2) C 0 4 rfl rfl (by omega) hL (by decide) dL_law_1048 dL_law_1049 dL_law_1051 dL_law_1052 dL_law_1053 ?_
    refine jl_aload_n C 3 rfl dL_law_1054 rfl ?_
    refine jl_callW (As := [.ref s.heap.size, .int (xs (n + 1)), .int (xs (n + 2)), .ref (s.heap.size + 87)]) (rest := []) C (wL_visits_ex0 l B D (adb s.heap.size) cA (adb_I _ _) C.2.2.2.2.2.2.2.2.2 (s.heap.size + 87) cO (adb_out s.heap.size) S V (fun _ => 0) o (xs (n + 1)) (xs (n + 2)) h1) wcw_L_visits wd102 wd1281 wd1280 ⟨by decide +kernel, by decide +kernel, (show Option.map (fun d => d.parameters.length) (parseMethodDescriptor yL_visits.desc) = some 4 by decide +kernel)⟩ ⟨rfl, rfl, by decide, by decide⟩ ⟨Nat.le_trans (by omega) hkr.1, Nat.le_trans (by omega) hkr.2⟩ rfl rfl (Nat.le_of_ble_eq_true rfl) dL_law_1055 ?_
    refine jl_istore C [(5, .int (2 : Int32)), (0, .ref b), (1, .ref s.heap.size), (2, .ref (s.heap.size + 63)), (3, .ref (s.heap.size + 87)), (4, .int (nI n))] dL_law_1058 (by decide) rfl ?_
    refine jl_aload_n C 3 rfl dL_law_1060 rfl ?_
    refine jl_arg (k := 1) C 1 5 rfl rfl (by omega) hL (by decide) dL_law_1061 dL_law_1062 dL_law_1064 dL_law_1065 dL_law_1066 ?_
    refine jl_arg (k := 2) C 1 5 rfl rfl (by omega) hL (by decide) dL_law_1067 dL_law_1068 dL_law_1070 dL_law_1071 dL_law_1072 ?_
    refine jl_callR (As := [.int (xs (n + 1)), .int (xs (n + 2))]) (rest := []) C (kX12_visits_0 l B D (adb (s.heap.size + 63)) cR (adb_I _ _) S' V' L' (xs (n + 1)) (xs (n + 2)) r S3 V3 h2) mw_X12_visits wd1893 wd1894 wd1892 rfl ⟨rfl, rfl, by decide, by decide⟩ ⟨Nat.le_trans (by omega) hkr.1, Nat.le_trans (by omega) hkr.2⟩ rfl rfl (Nat.le_of_ble_eq_true rfl) dL_law_1073 ?_
    refine jl_istore C [(6, .int r), (5, .int (2 : Int32)), (0, .ref b), (1, .ref s.heap.size), (2, .ref (s.heap.size + 63)), (3, .ref (s.heap.size + 87)), (4, .int (nI n))] dL_law_1076 (by decide) rfl ?_
    refine jl_aload_n C 4 rfl dL_law_1078 rfl ?_
    refine jl_callR (As := []) (rest := []) C (kX12_thrown_0 l B D (adb (s.heap.size + 63)) cR (adb_I _ _) S3 V3 L' (2 : Int32) h3) mw_X12_thrown wd1621 wd1622 wd1620 rfl ⟨rfl, rfl, by decide, by decide⟩ ⟨Nat.le_trans (by omega) hkr.1, Nat.le_trans (by omega) hkr.2⟩ rfl rfl (Nat.le_of_ble_eq_true rfl) dL_law_1079 ?_
    refine jl_iload C 1 rfl dL_law_1082 ?_
    refine jl_eqT (tgt := 1089) C rfl dL_law_1084 (by decide) ?_
    refine jl_iload C 1 rfl dL_law_1089 ?_
    refine jl_if_neT (tgt := 1106) C (by decide) dL_law_1091 (by decide) ?_
    refine jl_goto (tgt := 1702) C dL_law_1106 (by decide) ?_
    refine jl_widen (k2 := kc + 6) (n2 := ks + 36) (by omega) (by omega) ?_
    exact jl_sub [2, 3, 4, 5, 6] rfl (kk _ _ _ _ _ _ hR2)
def St_visit (Rel : (Nat → Int32) → (Nat → Nat → Int32) → (Nat → Int32) → (Nat → Nat → Int32) → (Nat → Int64) → Prop) : Prop := ∀ (S : Nat → Int32) (V : Nat → Nat → Int32) (S' : Nat → Int32) (V' : Nat → Nat → Int32) (L' : Nat → Int64) (a1 : Int32), Rel S V S' V' L' → (∃ (r : Int32) (S3 : Nat → Int32), fX11_visit_0 S V a1 = some (.inl r) ∧ fX12_visit_0 S' V' a1 = some (r, S3) ∧ fX12_thrown_0 S3 = some 0 ∧ Rel S V S3 V' L') ∨ (∃ (r : Int32) (S3 : Nat → Int32), fX11_visit_0 S V a1 = some (.inr 1) ∧ fX12_visit_0 S' V' a1 = some (r, S3) ∧ fX12_thrown_0 S3 = some 1 ∧ Rel S V S3 V' L')
set_option maxHeartbeats 4000000 in
set_option maxRecDepth 100000 in
theorem lc_visit (C : jCl p l s m args meth c D cA cR cO B b Ln xs) {Rel : (Nat → Int32) → (Nat → Nat → Int32) → (Nat → Int32) → (Nat → Nat → Int32) → (Nat → Int64) → Prop} (hst : St_visit Rel) (hR : Rel S V S' V' L') {n : Nat} (hn : n + 6 ≤ Ln) (hL : Ln ≤ 3072) (hkr : kc + 6 ≤ 601024 ∧ ks + 36 ≤ 7293034) (kk : ∀ S V S' V' L' o, Rel S V S' V' L' → jWl p l e s m args below meth c Q D cA cR cO (kc + 6) (ks + 36) 1702 [(0, .ref b), (1, .ref s.heap.size), (2, .ref (s.heap.size + 63)), (3, .ref (s.heap.size + 87)), (4, .int (nI n))] [] S V S' V' L' o) : jWl p l e s m args below meth c Q D cA cR cO kc ks 1109 [(0, .ref b), (1, .ref s.heap.size), (2, .ref (s.heap.size + 63)), (3, .ref (s.heap.size + 87)), (4, .int (nI n))] [] S V S' V' L' o := by
  rcases hst S V S' V' L' (xs (n + 1)) hR with ⟨r, S3, h1, h2, h3, hR2⟩ | ⟨r, S3, h1, h2, h3, hR2⟩
  · refine jl_aload_n C 1 rfl dL_law_1109 rfl ?_
    refine jl_arg (k := 1) C 0 4 rfl rfl (by omega) hL (by decide) dL_law_1110 dL_law_1111 dL_law_1113 dL_law_1114 dL_law_1115 ?_
    refine jl_aload_n C 3 rfl dL_law_1116 rfl ?_
    refine jl_callW (As := [.ref s.heap.size, .int (xs (n + 1)), .ref (s.heap.size + 87)]) (rest := []) C (wL_visit_ok l B D (adb s.heap.size) cA (adb_I _ _) C.2.2.2.2.2.2.2.2.2 (s.heap.size + 87) cO (adb_out s.heap.size) S V (fun _ => 0) o (xs (n + 1)) r h1) wcw_L_visit wd102 wd1312 wd1311 ⟨by decide +kernel, by decide +kernel, (show Option.map (fun d => d.parameters.length) (parseMethodDescriptor yL_visit.desc) = some 3 by decide +kernel)⟩ ⟨rfl, rfl, by decide, by decide⟩ ⟨Nat.le_trans (by omega) hkr.1, Nat.le_trans (by omega) hkr.2⟩ rfl rfl (Nat.le_of_ble_eq_true rfl) dL_law_1117 ?_
    refine jl_istore C [(5, .int (0 : Int32)), (0, .ref b), (1, .ref s.heap.size), (2, .ref (s.heap.size + 63)), (3, .ref (s.heap.size + 87)), (4, .int (nI n))] dL_law_1120 (by decide) rfl ?_
    refine jl_aload_n C 3 rfl dL_law_1122 rfl ?_
    refine jl_arg (k := 1) C 1 5 rfl rfl (by omega) hL (by decide) dL_law_1123 dL_law_1124 dL_law_1126 dL_law_1127 dL_law_1128 ?_
    refine jl_callR (As := [.int (xs (n + 1))]) (rest := []) C (kX12_visit_0 l B D (adb (s.heap.size + 63)) cR (adb_I _ _) S' V' L' (xs (n + 1)) r S3 h2) mw_X12_visit wd1909 wd1910 wd1908 rfl ⟨rfl, rfl, by decide, by decide⟩ ⟨Nat.le_trans (by omega) hkr.1, Nat.le_trans (by omega) hkr.2⟩ rfl rfl (Nat.le_of_ble_eq_true rfl) dL_law_1129 ?_
    refine jl_istore C [(6, .int r), (5, .int (0 : Int32)), (0, .ref b), (1, .ref s.heap.size), (2, .ref (s.heap.size + 63)), (3, .ref (s.heap.size + 87)), (4, .int (nI n))] dL_law_1132 (by decide) rfl ?_
    refine jl_aload_n C 4 rfl dL_law_1134 rfl ?_
    refine jl_callR (As := []) (rest := []) C (kX12_thrown_0 l B D (adb (s.heap.size + 63)) cR (adb_I _ _) S3 V' L' (0 : Int32) h3) mw_X12_thrown wd1621 wd1622 wd1620 rfl ⟨rfl, rfl, by decide, by decide⟩ ⟨Nat.le_trans (by omega) hkr.1, Nat.le_trans (by omega) hkr.2⟩ rfl rfl (Nat.le_of_ble_eq_true rfl) dL_law_1135 ?_
    refine jl_iload C 1 rfl dL_law_1138 ?_
    refine jl_eqT (tgt := 1145) C rfl dL_law_1140 (by decide) ?_
    refine jl_iload C 1 rfl dL_law_1145 ?_
    refine jl_if_neF (tgt := 1162) C rfl dL_law_1147 (by decide) ?_
    refine jl_aload_n C 5 rfl dL_law_1150 rfl ?_
    refine jl_iconst C dL_law_1151 ci_0 ?_
    refine jl_lald C dL_law_1152 ?_
    refine jl_iload C 0 rfl dL_law_1153 ?_
    refine jl_i2l C dL_law_1155 ?_
    refine jl_lcmp C dL_law_1156 ?_
    refine jl_if_eqT (tgt := 1162) C (lg_cmp_self _) dL_law_1157 (by decide) ?_
    refine jl_goto (tgt := 1702) C dL_law_1162 (by decide) ?_
    refine jl_widen (k2 := kc + 6) (n2 := ks + 36) (by omega) (by omega) ?_
    exact jl_sub [2, 3, 4, 5, 6] rfl (kk _ _ _ _ _ _ hR2)
  · refine jl_aload_n C 1 rfl dL_law_1109 rfl ?_
    refine jl_arg (k := 1) C 0 4 rfl rfl (by omega) hL (by decide) dL_law_1110 dL_law_1111 dL_law_1113 dL_law_1114 dL_law_1115 ?_
    refine jl_aload_n C 3 rfl dL_law_1116 rfl ?_
    refine jl_callW (As := [.ref s.heap.size, .int (xs (n + 1)), .ref (s.heap.size + 87)]) (rest := []) C (wL_visit_ex1 l B D (adb s.heap.size) cA (adb_I _ _) C.2.2.2.2.2.2.2.2.2 (s.heap.size + 87) cO (adb_out s.heap.size) S V (fun _ => 0) o (xs (n + 1)) h1) wcw_L_visit wd102 wd1312 wd1311 ⟨by decide +kernel, by decide +kernel, (show Option.map (fun d => d.parameters.length) (parseMethodDescriptor yL_visit.desc) = some 3 by decide +kernel)⟩ ⟨rfl, rfl, by decide, by decide⟩ ⟨Nat.le_trans (by omega) hkr.1, Nat.le_trans (by omega) hkr.2⟩ rfl rfl (Nat.le_of_ble_eq_true rfl) dL_law_1117 ?_
    refine jl_istore C [(5, .int (1 : Int32)), (0, .ref b), (1, .ref s.heap.size), (2, .ref (s.heap.size + 63)), (3, .ref (s.heap.size + 87)), (4, .int (nI n))] dL_law_1120 (by decide) rfl ?_
    refine jl_aload_n C 3 rfl dL_law_1122 rfl ?_
    refine jl_arg (k := 1) C 1 5 rfl rfl (by omega) hL (by decide) dL_law_1123 dL_law_1124 dL_law_1126 dL_law_1127 dL_law_1128 ?_
    refine jl_callR (As := [.int (xs (n + 1))]) (rest := []) C (kX12_visit_0 l B D (adb (s.heap.size + 63)) cR (adb_I _ _) S' V' L' (xs (n + 1)) r S3 h2) mw_X12_visit wd1909 wd1910 wd1908 rfl ⟨rfl, rfl, by decide, by decide⟩ ⟨Nat.le_trans (by omega) hkr.1, Nat.le_trans (by omega) hkr.2⟩ rfl rfl (Nat.le_of_ble_eq_true rfl) dL_law_1129 ?_
    refine jl_istore C [(6, .int r), (5, .int (1 : Int32)), (0, .ref b), (1, .ref s.heap.size), (2, .ref (s.heap.size + 63)), (3, .ref (s.heap.size + 87)), (4, .int (nI n))] dL_law_1132 (by decide) rfl ?_
    refine jl_aload_n C 4 rfl dL_law_1134 rfl ?_
    refine jl_callR (As := []) (rest := []) C (kX12_thrown_0 l B D (adb (s.heap.size + 63)) cR (adb_I _ _) S3 V' L' (1 : Int32) h3) mw_X12_thrown wd1621 wd1622 wd1620 rfl ⟨rfl, rfl, by decide, by decide⟩ ⟨Nat.le_trans (by omega) hkr.1, Nat.le_trans (by omega) hkr.2⟩ rfl rfl (Nat.le_of_ble_eq_true rfl) dL_law_1135 ?_
    refine jl_iload C 1 rfl dL_law_1138 ?_
    refine jl_eqT (tgt := 1145) C rfl dL_law_1140 (by decide) ?_
    refine jl_iload C 1 rfl dL_law_1145 ?_
    refine jl_if_neT (tgt := 1162) C (by decide) dL_law_1147 (by decide) ?_
    refine jl_goto (tgt := 1702) C dL_law_1162 (by decide) ?_
    refine jl_widen (k2 := kc + 6) (n2 := ks + 36) (by omega) (by omega) ?_
    exact jl_sub [2, 3, 4, 5, 6] rfl (kk _ _ _ _ _ _ hR2)
def St_rent (Rel : (Nat → Int32) → (Nat → Nat → Int32) → (Nat → Int32) → (Nat → Nat → Int32) → (Nat → Int64) → Prop) : Prop := ∀ (S : Nat → Int32) (V : Nat → Nat → Int32) (S' : Nat → Int32) (V' : Nat → Nat → Int32) (L' : Nat → Int64) (a1 : Int32), Rel S V S' V' L' → (∃ (r : Int32) (S3 : Nat → Int32), fX11_rent_0 S V a1 = some (.inl r) ∧ fX12_rent_0 S' V' a1 = some (r, S3) ∧ fX12_thrown_0 S3 = some 0 ∧ Rel S V S3 V' L') ∨ (∃ (r : Int32) (S3 : Nat → Int32), fX11_rent_0 S V a1 = some (.inr 1) ∧ fX12_rent_0 S' V' a1 = some (r, S3) ∧ fX12_thrown_0 S3 = some 1 ∧ Rel S V S3 V' L')
set_option maxHeartbeats 4000000 in
set_option maxRecDepth 100000 in
theorem lc_rent (C : jCl p l s m args meth c D cA cR cO B b Ln xs) {Rel : (Nat → Int32) → (Nat → Nat → Int32) → (Nat → Int32) → (Nat → Nat → Int32) → (Nat → Int64) → Prop} (hst : St_rent Rel) (hR : Rel S V S' V' L') {n : Nat} (hn : n + 6 ≤ Ln) (hL : Ln ≤ 3072) (hkr : kc + 6 ≤ 601024 ∧ ks + 36 ≤ 7293034) (kk : ∀ S V S' V' L' o, Rel S V S' V' L' → jWl p l e s m args below meth c Q D cA cR cO (kc + 6) (ks + 36) 1702 [(0, .ref b), (1, .ref s.heap.size), (2, .ref (s.heap.size + 63)), (3, .ref (s.heap.size + 87)), (4, .int (nI n))] [] S V S' V' L' o) : jWl p l e s m args below meth c Q D cA cR cO kc ks 1165 [(0, .ref b), (1, .ref s.heap.size), (2, .ref (s.heap.size + 63)), (3, .ref (s.heap.size + 87)), (4, .int (nI n))] [] S V S' V' L' o := by
  rcases hst S V S' V' L' (xs (n + 1)) hR with ⟨r, S3, h1, h2, h3, hR2⟩ | ⟨r, S3, h1, h2, h3, hR2⟩
  · refine jl_aload_n C 1 rfl dL_law_1165 rfl ?_
    refine jl_arg (k := 1) C 0 4 rfl rfl (by omega) hL (by decide) dL_law_1166 dL_law_1167 dL_law_1169 dL_law_1170 dL_law_1171 ?_
    refine jl_aload_n C 3 rfl dL_law_1172 rfl ?_
    refine jl_callW (As := [.ref s.heap.size, .int (xs (n + 1)), .ref (s.heap.size + 87)]) (rest := []) C (wL_rent_ok l B D (adb s.heap.size) cA (adb_I _ _) C.2.2.2.2.2.2.2.2.2 (s.heap.size + 87) cO (adb_out s.heap.size) S V (fun _ => 0) o (xs (n + 1)) r h1) wcw_L_rent wd102 wd1320 wd1319 ⟨by decide +kernel, by decide +kernel, (show Option.map (fun d => d.parameters.length) (parseMethodDescriptor yL_rent.desc) = some 3 by decide +kernel)⟩ ⟨rfl, rfl, by decide, by decide⟩ ⟨Nat.le_trans (by omega) hkr.1, Nat.le_trans (by omega) hkr.2⟩ rfl rfl (Nat.le_of_ble_eq_true rfl) dL_law_1173 ?_
    refine jl_istore C [(5, .int (0 : Int32)), (0, .ref b), (1, .ref s.heap.size), (2, .ref (s.heap.size + 63)), (3, .ref (s.heap.size + 87)), (4, .int (nI n))] dL_law_1176 (by decide) rfl ?_
    refine jl_aload_n C 3 rfl dL_law_1178 rfl ?_
    refine jl_arg (k := 1) C 1 5 rfl rfl (by omega) hL (by decide) dL_law_1179 dL_law_1180 dL_law_1182 dL_law_1183 dL_law_1184 ?_
    refine jl_callR (As := [.int (xs (n + 1))]) (rest := []) C (kX12_rent_0 l B D (adb (s.heap.size + 63)) cR (adb_I _ _) S' V' L' (xs (n + 1)) r S3 h2) mw_X12_rent wd1913 wd1914 wd1912 rfl ⟨rfl, rfl, by decide, by decide⟩ ⟨Nat.le_trans (by omega) hkr.1, Nat.le_trans (by omega) hkr.2⟩ rfl rfl (Nat.le_of_ble_eq_true rfl) dL_law_1185 ?_
    refine jl_istore C [(6, .int r), (5, .int (0 : Int32)), (0, .ref b), (1, .ref s.heap.size), (2, .ref (s.heap.size + 63)), (3, .ref (s.heap.size + 87)), (4, .int (nI n))] dL_law_1188 (by decide) rfl ?_
    refine jl_aload_n C 4 rfl dL_law_1190 rfl ?_
    refine jl_callR (As := []) (rest := []) C (kX12_thrown_0 l B D (adb (s.heap.size + 63)) cR (adb_I _ _) S3 V' L' (0 : Int32) h3) mw_X12_thrown wd1621 wd1622 wd1620 rfl ⟨rfl, rfl, by decide, by decide⟩ ⟨Nat.le_trans (by omega) hkr.1, Nat.le_trans (by omega) hkr.2⟩ rfl rfl (Nat.le_of_ble_eq_true rfl) dL_law_1191 ?_
    refine jl_iload C 1 rfl dL_law_1194 ?_
    refine jl_eqT (tgt := 1201) C rfl dL_law_1196 (by decide) ?_
    refine jl_iload C 1 rfl dL_law_1201 ?_
    refine jl_if_neF (tgt := 1218) C rfl dL_law_1203 (by decide) ?_
    refine jl_aload_n C 5 rfl dL_law_1206 rfl ?_
    refine jl_iconst C dL_law_1207 ci_0 ?_
    refine jl_lald C dL_law_1208 ?_
    refine jl_iload C 0 rfl dL_law_1209 ?_
    refine jl_i2l C dL_law_1211 ?_
    refine jl_lcmp C dL_law_1212 ?_
    refine jl_if_eqT (tgt := 1218) C (lg_cmp_self _) dL_law_1213 (by decide) ?_
    refine jl_goto (tgt := 1702) C dL_law_1218 (by decide) ?_
    refine jl_widen (k2 := kc + 6) (n2 := ks + 36) (by omega) (by omega) ?_
    exact jl_sub [2, 3, 4, 5, 6] rfl (kk _ _ _ _ _ _ hR2)
  · refine jl_aload_n C 1 rfl dL_law_1165 rfl ?_
    refine jl_arg (k := 1) C 0 4 rfl rfl (by omega) hL (by decide) dL_law_1166 dL_law_1167 dL_law_1169 dL_law_1170 dL_law_1171 ?_
    refine jl_aload_n C 3 rfl dL_law_1172 rfl ?_
    refine jl_callW (As := [.ref s.heap.size, .int (xs (n + 1)), .ref (s.heap.size + 87)]) (rest := []) C (wL_rent_ex1 l B D (adb s.heap.size) cA (adb_I _ _) C.2.2.2.2.2.2.2.2.2 (s.heap.size + 87) cO (adb_out s.heap.size) S V (fun _ => 0) o (xs (n + 1)) h1) wcw_L_rent wd102 wd1320 wd1319 ⟨by decide +kernel, by decide +kernel, (show Option.map (fun d => d.parameters.length) (parseMethodDescriptor yL_rent.desc) = some 3 by decide +kernel)⟩ ⟨rfl, rfl, by decide, by decide⟩ ⟨Nat.le_trans (by omega) hkr.1, Nat.le_trans (by omega) hkr.2⟩ rfl rfl (Nat.le_of_ble_eq_true rfl) dL_law_1173 ?_
    refine jl_istore C [(5, .int (1 : Int32)), (0, .ref b), (1, .ref s.heap.size), (2, .ref (s.heap.size + 63)), (3, .ref (s.heap.size + 87)), (4, .int (nI n))] dL_law_1176 (by decide) rfl ?_
    refine jl_aload_n C 3 rfl dL_law_1178 rfl ?_
    refine jl_arg (k := 1) C 1 5 rfl rfl (by omega) hL (by decide) dL_law_1179 dL_law_1180 dL_law_1182 dL_law_1183 dL_law_1184 ?_
    refine jl_callR (As := [.int (xs (n + 1))]) (rest := []) C (kX12_rent_0 l B D (adb (s.heap.size + 63)) cR (adb_I _ _) S' V' L' (xs (n + 1)) r S3 h2) mw_X12_rent wd1913 wd1914 wd1912 rfl ⟨rfl, rfl, by decide, by decide⟩ ⟨Nat.le_trans (by omega) hkr.1, Nat.le_trans (by omega) hkr.2⟩ rfl rfl (Nat.le_of_ble_eq_true rfl) dL_law_1185 ?_
    refine jl_istore C [(6, .int r), (5, .int (1 : Int32)), (0, .ref b), (1, .ref s.heap.size), (2, .ref (s.heap.size + 63)), (3, .ref (s.heap.size + 87)), (4, .int (nI n))] dL_law_1188 (by decide) rfl ?_
    refine jl_aload_n C 4 rfl dL_law_1190 rfl ?_
    refine jl_callR (As := []) (rest := []) C (kX12_thrown_0 l B D (adb (s.heap.size + 63)) cR (adb_I _ _) S3 V' L' (1 : Int32) h3) mw_X12_thrown wd1621 wd1622 wd1620 rfl ⟨rfl, rfl, by decide, by decide⟩ ⟨Nat.le_trans (by omega) hkr.1, Nat.le_trans (by omega) hkr.2⟩ rfl rfl (Nat.le_of_ble_eq_true rfl) dL_law_1191 ?_
    refine jl_iload C 1 rfl dL_law_1194 ?_
    refine jl_eqT (tgt := 1201) C rfl dL_law_1196 (by decide) ?_
    refine jl_iload C 1 rfl dL_law_1201 ?_
    refine jl_if_neT (tgt := 1218) C (by decide) dL_law_1203 (by decide) ?_
    refine jl_goto (tgt := 1702) C dL_law_1218 (by decide) ?_
    refine jl_widen (k2 := kc + 6) (n2 := ks + 36) (by omega) (by omega) ?_
    exact jl_sub [2, 3, 4, 5, 6] rfl (kk _ _ _ _ _ _ hR2)
end LC
