/-! ===== rows for BINDS and for the String constants ===== -/
def bnd (j : Nat) : Int32 := ([0, 1, 2, 3, 4, 4, 5, 5, 6, 6] : List Int32).getD j 0
def sch (i j : Nat) : Int32 := (sxB.getD i []).getD j 0
def isch (x : Int32) : Bool := decide ((x.toUInt32 % 65536).toInt32 = x)
theorem isch_n {x : Int32} (h : isch x = true) : narrow .char (.int x) = .int x := by
  have h2 : (x.toUInt32 % 65536).toInt32 = x := of_decide_eq_true h
  have h3 := pk_nc x
  rw [h2] at h3
  exact h3
section JS
variable {p : Program} {l : Launch} {e : Env} {R : Room} {s : State} {m : MethodId} {args : Array Value} {below : List Frame} {meth : Method} {c : Code} {Q : State → Prop} {D : va_G} {T : jT} {ad : Nat → Nat} {cA : Nat → ClassId} {A : Nat → Prop} {cc : ByteArray} {nL kc ks : Nat} {own : String} {B : jBT}
variable {pc : Nat} {lv : List (Nat × Value)} {st : List Value} {S : Nat → Int32} {V : Nat → Nat → Int32} {L : Nat → Int64}
theorem jC_B (C : jC p s m args c D T ad cA A cc nL own B) : jBk B A s s.heap := C.2.2.2.2.2.2.2.2.2.2
theorem j_binds (C : jC p s m args c D T ad cA A cc nL own B) {idx : Nat} (hw : Cond.fieldLink own idx "ClockLodgers$RuleReader" "BINDS" "[I" ∈ bg) (hd : decode cc pc = .ok (.getstatic idx, 3)) (kk : jW p l e R s m args below meth c Q D T ad cA A nL kc ks (pc + 3) lv (.ref B.1 :: st) S V L) : jW p l e R s m args below meth c Q D T ad cA A nL kc ks pc lv st S V L := fun H locs ls hP hS hl =>
  va_gets C.1 C.2.1 (jC_B C).1.1 hS C.2.2.2.1 (C.2.2.2.2.1 _ hw) (fun _ h => h) hd (kk H locs ls hP hS hl)
theorem j_compact (C : jC p s m args c D T ad cA A cc nL own B) {idx : Nat} (hw : Cond.fieldLink own idx "java/lang/String" "COMPACT_STRINGS" "Z" ∈ bg) (hd : decode cc pc = .ok (.getstatic idx, 3)) (kk : jW p l e R s m args below meth c Q D T ad cA A nL kc ks (pc + 3) lv (.int 1 :: st) S V L) : jW p l e R s m args below meth c Q D T ad cA A nL kc ks pc lv st S V L := fun H locs ls hP hS hl =>
  va_gets C.1 C.2.1 (jC_B C).2.2.2.1 hS C.2.2.2.1 (C.2.2.2.2.1 _ hw) (fun _ h => h) hd (kk H locs ls hP hS hl)
/-- a static of which only 'a reference or null' is known -/
theorem j_sio (C : jC p s m args c D T ad cA A cc nL own B) {idx : Nat} (hw : Cond.fieldLink own idx "jdk/internal/util/Preconditions" "SIOOBE_FORMATTER" "Ljava/util/function/BiFunction;" ∈ bg) (hd : decode cc pc = .ok (.getstatic idx, 3)) (kk : ∀ t : Nat, jW p l e R s m args below meth c Q D T ad cA A nL kc ks (pc + 3) lv (.ref t :: st) S V L) (kn : jW p l e R s m args below meth c Q D T ad cA A nL kc ks (pc + 3) lv (.null :: st) S V L) : jW p l e R s m args below meth c Q D T ad cA A nL kc ks pc lv st S V L := fun H locs ls hP hS hl => by
  rcases (jC_B C).2.2.2.2 with h | ⟨t, h⟩
  · exact va_gets C.1 C.2.1 h hS C.2.2.2.1 (C.2.2.2.2.1 _ hw) (fun _ h => h) hd (kn H locs ls hP hS hl)
  · exact va_gets C.1 C.2.1 h hS C.2.2.2.1 (C.2.2.2.2.1 _ hw) (fun _ h => h) hd (kk t H locs ls hP hS hl)
theorem j_bnd (C : jC p s m args c D T ad cA A cc nL own B) {i : Int32} (hin : vp_in i 10) (hd : decode cc pc = .ok (.iaload, 1)) (kk : jW p l e R s m args below meth c Q D T ad cA A nL kc ks (pc + 1) lv (.int (bnd i.toNatClampNeg) :: st) S V L) : jW p l e R s m args below meth c Q D T ad cA A nL kc ks pc lv (.int i :: .ref B.1 :: st) S V L := fun H locs ls hP hS hl =>
  va_ti C.1 C.2.1 (jC_B C).1.2 hS hin (v := .int (bnd i.toNatClampNeg)) rfl hd (kk H locs ls hP hS hl)
theorem j_sldc (C : jC p s m args c D T ad cA A cc nL own B) {i idx : Nat} {tx : String} (hi : sx[i]? = some (own, idx, tx)) (hd : decode cc pc = .ok (.ldc idx, 2)) (kk : jW p l e R s m args below meth c Q D T ad cA A nL kc ks (pc + 2) lv (.ref (B.2.1 i) :: st) S V L) : jW p l e R s m args below meth c Q D T ad cA A nL kc ks pc lv st S V L := fun H locs ls hP hS hl =>
  va_ldcS C.1 C.2.1 C.2.2.2.1 ((jC_B C).2.1.2 i _ hi) hd (kk H locs ls hP hS hl)
theorem j_sval (C : jC p s m args c D T ad cA A cc nL own B) {i idx : Nat} (hi : i < 20) (hw : Cond.fieldLink own idx "java/lang/String" "value" "[B" ∈ bg) (hd : decode cc pc = .ok (.getfield idx, 3)) (kk : jW p l e R s m args below meth c Q D T ad cA A nL kc ks (pc + 3) lv (.ref (B.2.2 i) :: st) S V L) : jW p l e R s m args below meth c Q D T ad cA A nL kc ks pc lv (.ref (B.2.1 i) :: st) S V L := fun H locs ls hP hS hl =>
  vk_getf C.1 C.2.1 ((jC_B C).2.1.1.1 i hi).2.2.1 hS C.2.2.2.1 (C.2.2.2.2.1 _ hw) (fun _ h => h) hd (kk H locs ls hP hS hl)
theorem j_scod (C : jC p s m args c D T ad cA A cc nL own B) {i idx : Nat} (hi : i < 20) (hw : Cond.fieldLink own idx "java/lang/String" "coder" "B" ∈ bg) (hd : decode cc pc = .ok (.getfield idx, 3)) (kk : jW p l e R s m args below meth c Q D T ad cA A nL kc ks (pc + 3) lv (.int 0 :: st) S V L) : jW p l e R s m args below meth c Q D T ad cA A nL kc ks pc lv (.ref (B.2.1 i) :: st) S V L := fun H locs ls hP hS hl =>
  vk_getf C.1 C.2.1 ((jC_B C).2.1.1.1 i hi).2.1 hS C.2.2.2.1 (C.2.2.2.2.1 _ hw) (fun _ h => h) hd (kk H locs ls hP hS hl)
theorem j_sbald (C : jC p s m args c D T ad cA A cc nL own B) {k n : Nat} {i : Int32} (hk : k < 20) (hn : sxL.getD k 0 = n) (hin : vp_in i n) (hd : decode cc pc = .ok (.baload, 1)) (kk : jW p l e R s m args below meth c Q D T ad cA A nL kc ks (pc + 1) lv (.int (sch k i.toNatClampNeg) :: st) S V L) : jW p l e R s m args below meth c Q D T ad cA A nL kc ks pc lv (.int i :: .ref (B.2.2 k) :: st) S V L := fun H locs ls hP hS hl =>
  va_tb C.1 C.2.1 ((jC_B C).2.1.1.1 k hk).2.2.2 hS (by rw [hn]; exact hin) (v := .int (sch k i.toNatClampNeg)) rfl hd (kk H locs ls hP hS hl)
theorem j_salen (C : jC p s m args c D T ad cA A cc nL own B) {k n : Nat} {v : Int32} (hk : k < 20) (hn : sxL.getD k 0 = n) (hv : Int32.ofNat n = v) (hd : decode cc pc = .ok (.arraylength, 1)) (kk : jW p l e R s m args below meth c Q D T ad cA A nL kc ks (pc + 1) lv (.int v :: st) S V L) : jW p l e R s m args below meth c Q D T ad cA A nL kc ks pc lv (.ref (B.2.2 k) :: st) S V L := fun H locs ls hP hS hl =>
  va_tlen C.1 C.2.1 ((jC_B C).2.1.1.1 k hk).2.2.2 hS (by rw [hn]; exact hv) hd (kk H locs ls hP hS hl)
theorem j_nret {x : Int32} {ty : FieldType} (C : jC p s m args c D T ad cA A cc nL own B) (hr : meth.sig.returnType = some ty) (hlk : meth.locks = false) (hA : A = jA ad T s.heap.size) (hx : narrow ty (.int x) = .int x) (hd : decode cc pc = .ok (.ireturn, 1)) :
    jW p l e R s m args below meth c (MQ below (jQc D T ad cA (some (.int x)) s.heap.size S V L) args s kc ks (jA ad T s.heap.size)) D T ad cA A nL kc ks pc lv [.int x] S V L := by
  subst hA
  exact fun H locs ls hP hS hl => W.zret C.1 C.2.1 hr hx (fun t ht _ => ⟨⟨rfl, by rw [ht]; exact hP⟩, hS.F ht⟩) hS.2.2 hd hlk
theorem j_callT {k idx n maxL : Nat} {y : MethodName} {bytes : ByteArray} {ret : Option FieldType} {rm : Room} {As rest : List Value} {rv : Option Value} {S2 : Nat → Int32} {V2 : Nat → Nat → Int32} {L2 : Nat → Int64} (C : jC p s m args c D T ad cA A cc nL own B)
    (hM : jM l y bytes maxL ret rm B D T ad cA (.ref (B.2.1 k) :: As) S V L rv S2 V2 L2) (hw : jmw y bytes maxL ret n) (hi : Cond.instanceMethod y ∈ bg) (hse : Cond.selects y.cls y y ∈ bg) (hlk : Cond.methodLink own idx y ∈ bg) (hk : k < 20) (hrc : y.cls = "java/lang/String")
    (hrm : rm.cells = 0 ∧ rm.slots = 0 ∧ rm.frames + 1 ≤ R.frames ∧ 8 + (maxL + 11) + rm.locals ≤ R.locals) (hkr : kc ≤ R.cells ∧ ks ≤ R.slots) (hn : As.length = n) (hst : st = As.reverse ++ .ref (B.2.1 k) :: rest) (h8 : (rest.map fun v => v.category).sum ≤ 8) (hd : decode cc pc = .ok (.invokevirtual idx, 3))
    (kk : jW p l e R s m args below meth c Q D T ad cA A nL kc ks (pc + 3) lv (rv.toList ++ rest) S2 V2 L2) : jW p l e R s m args below meth c Q D T ad cA A nL kc ks pc lv st S V L := fun H locs ls hP hS hl => by
  subst hst
  have hts := C.2.2.2.2.1
  have hcell := vk_recv (jC_B C).2.1.1 hk hS
  rw [← hrc] at hcell
  refine j_after C hP hS hl (va_runV (Ts := bg) (As := As) (rest := rest) (n := n) (C := y.cls) ⟨C.1, C.2.1, C.2.2.1, C.2.2.2.1, hts⟩ (hM H.size) ⟨callB_of n hts (bg_g0 (fun w h => ?_)) rfl hrm.1 hrm.2.1 (hts _ hw.2.1) (hts _ hlk) hw.2.2 ⟨hrm.2.2.1, hrm.2.2.2⟩, hts _ hi, hts _ hse⟩ ⟨jPc_blind, hcell, j_pre C hP hS⟩ rfl hn hl.1 rfl (lv_room h8) hd ⟨hkr.1, hkr.2⟩) kk
  rcases List.mem_cons.mp h with h | h
  · rw [h]; exact hw.1
  · exact h
end JS
