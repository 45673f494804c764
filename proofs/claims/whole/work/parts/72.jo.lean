/-! ===== the law's own methods over the class: the class's table and the row out ===== -/
abbrev jwo (ad : Nat → Nat) (cA : Nat → ClassId) (ao : Nat) (cO : ClassId) (S : Nat → Int32) (V : Nat → Nat → Int32) (L : Nat → Int64) (o : Nat → Int64) : va_W := (ao, .inl (cO, 1, .inr (.inl o))) :: jws TC ad cA S V L
theorem vp_cons {D : va_G} {cl : List vw_C} {x : Nat × va_E} {ws : va_W} {H : Heap} : va_P D cl (x :: ws) H ↔ va_at D cl x H ∧ va_P D cl ws H := by
  constructor
  · exact fun h => ⟨h 0 x rfl, fun k q hq => h (k + 1) q hq⟩
  · intro h k q hq
    match k, hq with
    | 0, hq => cases hq; exact h.1
    | k + 1, hq => exact h.2 k q hq
def jCo (p : Program) (s : State) (m : MethodId) (args : Array Value) (c : Code) (D : va_G) (ad : Nat → Nat) (cA : Nat → ClassId) (A : Nat → Prop) (cc : ByteArray) (nL : Nat) (own : String) (B : jBT) (ao : Nat) (cO : ClassId) : Prop :=
  jC p s m args c D TC ad cA A cc nL own B ∧ A ao ∧ (∀ j, j < TC.length → ad j ≠ ao) ∧ va_K D vwCl [(cO, .long)] s ∧ va_Nc "java/lang/IllegalArgumentException" "java/util/NoSuchElementException" s
def jWo (p : Program) (l : Launch) (e : Env) (R : Room) (s : State) (m : MethodId) (args : Array Value) (below : List Frame) (meth : Method) (c : Code) (Q : State → Prop) (D : va_G) (ad : Nat → Nat) (cA : Nat → ClassId) (ao : Nat) (cO : ClassId) (A : Nat → Prop) (nL kc ks : Nat)
    (pc : Nat) (lv : List (Nat × Value)) (st : List Value) (S : Nat → Int32) (V : Nat → Nat → Int32) (L : Nat → Int64) (o : Nat → Int64) : Prop :=
  ∀ (H : Heap) (locs : List Loc) (ls : Array Slot), va_P D vwCl (jwo ad cA ao cO S V L o) H → va_S A s.heap H locs → lv_has ls nL lv → W p l e R s m args below meth c H locs kc ks Q (F0 m pc ls st)
theorem vD_cons {A : Nat → Prop} {x : Nat × va_E} {ws : va_W} (h1 : va_D A ws) (hA : A x.1) (hne : ∀ (k : Nat) (y : Nat × va_E), ws[k]? = some y → y.1 ≠ x.1) : va_D A (x :: ws) := by
  refine ⟨fun i j p q hx hy hxy => ?_, fun k p hx => ?_⟩
  · match i, j, hx, hy with
    | 0, 0, _, _ => rfl
    | 0, j + 1, hx, hy => cases hx; exact absurd hxy.symm (hne j q hy)
    | i + 1, 0, hx, hy => cases hy; exact absurd hxy (hne i p hx)
    | i + 1, j + 1, hx, hy => exact congrArg (· + 1) (h1.1 i j p q hx hy hxy)
  · match k, hx with
    | 0, hx => cases hx; exact hA
    | k + 1, hx => exact h1.2 k p hx
theorem jws_ad {T : jT} {ad : Nat → Nat} {cA : Nat → ClassId} {S : Nat → Int32} {V : Nat → Nat → Int32} {L : Nat → Int64} {k : Nat} {y : Nat × va_E} (h : (jws T ad cA S V L)[k]? = some y) : ∃ j, j < T.length ∧ y.1 = ad j := by
  rw [jws_get] at h
  cases hd : T[k]? with
  | none => rw [hd] at h; cases h
  | some d => rw [hd] at h; cases h; exact ⟨k, (List.getElem?_eq_some_iff.mp hd).1, rfl⟩
section JO
variable {p : Program} {l : Launch} {e : Env} {R : Room} {s : State} {m : MethodId} {args : Array Value} {below : List Frame} {meth : Method} {c : Code} {Q : State → Prop} {D : va_G} {ad : Nat → Nat} {cA : Nat → ClassId} {ao : Nat} {cO : ClassId} {A : Nat → Prop} {cc : ByteArray} {nL kc ks : Nat} {own : String} {B : jBT}
variable {pc : Nat} {lv : List (Nat × Value)} {st : List Value} {S : Nat → Int32} {V : Nat → Nat → Int32} {L : Nat → Int64} {o : Nat → Int64}
theorem jo_D (C : jCo p s m args c D ad cA A cc nL own B ao cO) : va_D A (jwo ad cA ao cO S V L o) :=
  vD_cons (jws_D (cA := cA) (S := S) (V := V) (L := L) C.1.2.2.2.2.2.2.2.1 C.1.2.2.2.2.2.2.2.2.1) C.2.1 (fun k y hy => by
    obtain ⟨j, hj, e⟩ := jws_ad hy
    rw [e]
    exact C.2.2.1 j hj)
theorem jo_lv {lv2 : List (Nat × Value)} (h : lv = lv2) (kk : jWo p l e R s m args below meth c Q D ad cA ao cO A nL kc ks pc lv2 st S V L o) : jWo p l e R s m args below meth c Q D ad cA ao cO A nL kc ks pc lv st S V L o := h ▸ kk
theorem jo_iconst (C : jCo p s m args c D ad cA A cc nL own B ao cO) {n : Int} {v : Int32} (hd : decode cc pc = .ok (.iconst n, 1)) (hv : Int32.ofInt n = v) (kk : jWo p l e R s m args below meth c Q D ad cA ao cO A nL kc ks (pc + 1) lv (.int v :: st) S V L o) : jWo p l e R s m args below meth c Q D ad cA ao cO A nL kc ks pc lv st S V L o := fun H locs ls hP hS hl => lv_iconst C.1.1 C.1.2.1 hd hv (kk H locs ls hP hS hl)
theorem jo_aload_n (C : jCo p s m args c D ad cA A cc nL own B ao cO) (k : Nat) {f : Fin 4} {i x : Nat} (hk : lv[k]? = some (i, .ref x)) (hd : decode cc pc = .ok (.aload_n f, 1)) (hi : (f : Nat) = i) (kk : jWo p l e R s m args below meth c Q D ad cA ao cO A nL kc ks (pc + 1) lv (.ref x :: st) S V L o) : jWo p l e R s m args below meth c Q D ad cA ao cO A nL kc ks pc lv st S V L o := fun H locs ls hP hS hl => lv_aload_n C.1.1 C.1.2.1 hd hi (lv_at hl k hk) (kk H locs ls hP hS hl)
theorem jo_aload (C : jCo p s m args c D ad cA A cc nL own B ao cO) (k : Nat) {i x : Nat} (hk : lv[k]? = some (i, .ref x)) (hd : decode cc pc = .ok (.aload i, 2)) (kk : jWo p l e R s m args below meth c Q D ad cA ao cO A nL kc ks (pc + 2) lv (.ref x :: st) S V L o) : jWo p l e R s m args below meth c Q D ad cA ao cO A nL kc ks pc lv st S V L o := fun H locs ls hP hS hl => lv_aload C.1.1 C.1.2.1 hd (lv_at hl k hk) (kk H locs ls hP hS hl)
theorem jo_iload_n (C : jCo p s m args c D ad cA A cc nL own B ao cO) (k : Nat) {f : Fin 4} {i : Nat} {x : Int32} (hk : lv[k]? = some (i, .int x)) (hd : decode cc pc = .ok (.iload_n f, 1)) (hi : (f : Nat) = i) (kk : jWo p l e R s m args below meth c Q D ad cA ao cO A nL kc ks (pc + 1) lv (.int x :: st) S V L o) : jWo p l e R s m args below meth c Q D ad cA ao cO A nL kc ks pc lv st S V L o := fun H locs ls hP hS hl => lv_iload_n C.1.1 C.1.2.1 hd hi (lv_at hl k hk) (kk H locs ls hP hS hl)
theorem jo_iload (C : jCo p s m args c D ad cA A cc nL own B ao cO) (k : Nat) {i : Nat} {x : Int32} (hk : lv[k]? = some (i, .int x)) (hd : decode cc pc = .ok (.iload i, 2)) (kk : jWo p l e R s m args below meth c Q D ad cA ao cO A nL kc ks (pc + 2) lv (.int x :: st) S V L o) : jWo p l e R s m args below meth c Q D ad cA ao cO A nL kc ks pc lv st S V L o := fun H locs ls hP hS hl => lv_iload C.1.1 C.1.2.1 hd (lv_at hl k hk) (kk H locs ls hP hS hl)
theorem jo_i2l (C : jCo p s m args c D ad cA A cc nL own B ao cO) {x : Int32} (hd : decode cc pc = .ok (.i2l, 1)) (kk : jWo p l e R s m args below meth c Q D ad cA ao cO A nL kc ks (pc + 1) lv (.long x.toInt64 :: st) S V L o) : jWo p l e R s m args below meth c Q D ad cA ao cO A nL kc ks pc lv (.int x :: st) S V L o := fun H locs ls hP hS hl => lv_i2l C.1.1 C.1.2.1 hd rfl (kk H locs ls hP hS hl)
theorem jo_goto (C : jCo p s m args c D ad cA A cc nL own B ao cO) {tgt : Nat} {off : Int} (hd : decode cc pc = .ok (.goto off, 3)) (ht : (pc : Int) + off = (tgt : Int)) (kk : jWo p l e R s m args below meth c Q D ad cA ao cO A nL kc ks tgt lv st S V L o) : jWo p l e R s m args below meth c Q D ad cA ao cO A nL kc ks pc lv st S V L o := fun H locs ls hP hS hl => lv_goto C.1.1 C.1.2.1 hd ht (kk H locs ls hP hS hl)
theorem jo_astore_n (C : jCo p s m args c D ad cA A cc nL own B ao cO) {f : Fin 4} {i x : Nat} (hd : decode cc pc = .ok (.astore_n f, 1)) (hi : (f : Nat) = i) (hn : i < nL) (kk : ∀ lv2, jWo p l e R s m args below meth c Q D ad cA ao cO A nL kc ks (pc + 1) lv2 st S V L o) : jWo p l e R s m args below meth c Q D ad cA ao cO A nL kc ks pc lv (.ref x :: st) S V L o := fun H locs ls hP hS hl => lv_astore_n C.1.1 C.1.2.1 hd hi hl hn rfl (fun ls2 hl2 => kk _ H locs ls2 hP hS hl2)
theorem jo_astore (C : jCo p s m args c D ad cA A cc nL own B ao cO) {i x : Nat} (hd : decode cc pc = .ok (.astore i, 2)) (hn : i < nL) (kk : ∀ lv2, jWo p l e R s m args below meth c Q D ad cA ao cO A nL kc ks (pc + 2) lv2 st S V L o) : jWo p l e R s m args below meth c Q D ad cA ao cO A nL kc ks pc lv (.ref x :: st) S V L o := fun H locs ls hP hS hl => lv_astore C.1.1 C.1.2.1 hd hl hn rfl (fun ls2 hl2 => kk _ H locs ls2 hP hS hl2)
theorem jo_last (C : jCo p s m args c D ad cA A cc nL own B ao cO) {x : Int64} (hd : decode cc pc = .ok (.lastore, 1)) (kk : jWo p l e R s m args below meth c Q D ad cA ao cO A nL kc ks (pc + 1) lv st S V L (vp_updL o 0 x)) : jWo p l e R s m args below meth c Q D ad cA ao cO A nL kc ks pc lv (.long x :: .int 0 :: .ref ao :: st) S V L o := fun H locs ls hP hS hl =>
  va_last (D := D) (n := 1) (f := o) C.1.1 C.1.2.1 C.2.2.2.1 hP (jo_D C) hS 0 0 rfl rfl (i := 0) (by unfold vp_in; decide) hd (fun H1 locs1 hP1 _ hS1 => kk H1 locs1 ls hP1 hS1 hl)
theorem jo_keep {H H1 : Heap} (C : jCo p s m args c D ad cA A cc nL own B ao cO) (hP : va_P D vwCl (jwo ad cA ao cO S V L o) H) {S2 : Nat → Int32} {V2 : Nat → Nat → Int32} {L2 : Nat → Int64} (hk : ∀ q : Nat, q < H.size → ¬ jA ad TC H.size q → H1[q]? = H[q]?) (hP2 : va_P D vwCl (jws TC ad cA S2 V2 L2) H1) : va_P D vwCl (jwo ad cA ao cO S2 V2 L2 o) H1 := by
  have h1 := vp_cons.mp hP
  refine vp_cons.mpr ⟨h1.1.kept (hk ao h1.1.lt (fun h => ?_)), hP2⟩
  rcases h with ⟨j, hj, h⟩ | h
  · exact C.2.2.1 j hj h.symm
  · exact absurd h (Nat.not_le.mpr h1.1.lt)
theorem jo_S {H : Heap} {T' t : State} {locs L' : List Loc} (C : jCo p s m args c D ad cA A cc nL own B ao cO) (hS : va_S A s.heap H locs) (e1 : T'.heap = t.heap) (hz : H.size ≤ t.heap.size) (hk : ∀ q : Nat, q < H.size → ¬ jA ad TC H.size q → t.heap[q]? = H[q]?) (hL : ∀ q ∈ L', jA ad TC H.size q.base) : va_S A s.heap T'.heap (locs ++ L') := by
  have hsub : ∀ q, jA ad TC H.size q → A q := fun q h => by
    rcases h with ⟨j, hj, rfl⟩ | h
    · exact C.1.2.2.2.2.2.2.2.2.1 j hj
    · exact C.1.2.2.2.2.2.2.2.2.2.1 q (Nat.le_trans hS.1 h)
  refine ⟨Nat.le_trans hS.1 (by rw [e1]; exact hz), fun q h1 h2 => ?_, fun q hq => ?_⟩
  · have hq : q < H.size := Nat.lt_of_lt_of_le h1 hS.1
    rw [e1, hk q hq (fun z => h2 (hsub q z))]
    exact hS.2.1 q h1 h2
  · rcases List.mem_append.mp hq with h | h
    · exact hS.2.2 q h
    · exact hsub _ (hL q h)
theorem jo_ok {rest : List Value} {rv : Option Value} {mc1 ms1 : Nat} {S2 : Nat → Int32} {V2 : Nat → Nat → Int32} {L2 : Nat → Int64} {H : Heap} {locs : List Loc} {ls : Array Slot} {a : Array Value} (C : jCo p s m args c D ad cA A cc nL own B ao cO) (hP : va_P D vwCl (jwo ad cA ao cO S V L o) H) (hS : va_S A s.heap H locs) (hl : lv_has ls nL lv)
    (hr : vx_Run p l e R s m args below meth c H locs kc ks mc1 ms1 (F0 m pc ls st) rest (jXQ D TC ad cA (.inl (rv, S2, V2, L2)) H.size a) (jXX D TC ad cA (.inl (rv, S2, V2, L2)) H.size S V L) (jA ad TC H.size))
    (kk : jWo p l e R s m args below meth c Q D ad cA ao cO A nL (kc + mc1) (ks + ms1) (pc + 3) lv (rv.toList ++ rest) S2 V2 L2 o) : W p l e R s m args below meth c H locs kc ks Q (F0 m pc ls st) := by
  intro T0 hT0 X
  rcases hr T0 hT0 X with ⟨v, st₀, t, T', L', h0, X', hL, e1, e2, ⟨x9, hx9, ⟨hv, hP2⟩, hz, hk⟩, stp⟩ | ⟨q, st₀, t, T', L', E, ce, h0, X', hL, e1, e2, ⟨x9, hx9, -⟩, -⟩
  · cases hx9
    cases hv
    rw [h0] at hz hk
    obtain ⟨t2, a1, b1⟩ := kk T'.heap (locs ++ L') ls (by rw [e1]; exact jo_keep C hP hk hP2) (jo_S C hS e1 hz hk hL) hl T' rfl X'
    exact ⟨t2, stp t2 a1, b1⟩
  · cases hx9
theorem jo_ex {rest : List Value} {x mc1 ms1 : Nat} {H : Heap} {locs : List Loc} {ls : Array Slot} {a : Array Value} (C : jCo p s m args c D ad cA A cc nL own B ao cO) (hP : va_P D vwCl (jwo ad cA ao cO S V L o) H) (hS : va_S A s.heap H locs) (hl : lv_has ls nL lv)
    (hr : vx_Run p l e R s m args below meth c H locs kc ks mc1 ms1 (F0 m pc ls st) rest (jXQ D TC ad cA (.inr x) H.size a) (jXX D TC ad cA (.inr x) H.size S V L) (jA ad TC H.size))
    (pre : List ExceptionTableEntry) (h : ExceptionTableEntry) (suf : List ExceptionTableEntry) (hsplit : c.exceptionTable.toList = pre ++ h :: suf) (hpass : ∀ z ∈ pre, covers z pc = false ∨ (z.catchType ≠ 0 ∧ ∃ nm : String, Cond.classLink own z.catchType nm ∈ bg ∧ va_Nc (exN x) nm s)) (hx : covers h pc = true) (h0 : h.catchType ≠ 0) (hck : Cond.classLink own h.catchType (exN x) ∈ bg) (hcs : (exN x, exN x) ∈ cst)
    (kk : ∀ q : Nat, jWo p l e R s m args below meth c Q D ad cA ao cO A nL (kc + mc1) (ks + ms1) h.handlerPc lv [.ref q] S V L o) : W p l e R s m args below meth c H locs kc ks Q (F0 m pc ls st) := by
  intro T0 hT0 X
  have hts := C.1.2.2.2.2.1
  rcases hr T0 hT0 X with ⟨v, st₀, t, T', L', h0', X', hL, e1, e2, ⟨x9, hx9, -⟩, -⟩ | ⟨q, st₀, t, T', L', E, ce, h0', X', hL, e1, e2, ⟨x9, hx9, hE, hP2, hz, hk⟩, hce, hcv, hcl, stp⟩
  · cases hx9
  · cases hx9
    subst hE
    rw [h0'] at hz hk
    obtain ⟨t2, a1, b1⟩ := vx_catch (own := own) (name := exN x) (E := exN x) (ce := ce) (q := q) (pc := pc) (ls := ls) (rest := rest) (H := T'.heap) (locs := locs ++ L') C.1.2.2.2.1 pre h suf hsplit (fun z hz9 => by
      rcases hpass z hz9 with h1 | ⟨h1, nm, h2, h3⟩
      · exact Or.inl h1
      · exact Or.inr ⟨h1, nm, hts _ h2, h3⟩) hx h0 (hts _ hck) (va_Nw.use rfl (C.1.2.2.2.2.2.1.2.2.2 _ hcs)) (by rw [e1]; exact hce) hcv hcl (kk q T'.heap (locs ++ L') ls (by rw [e1]; exact jo_keep C hP hk hP2) (jo_S C hS e1 hz hk hL) hl) T' rfl X'
    exact ⟨t2, stp.trans a1, b1⟩
end JO
/-- the contract of a method of the law's over the class -/
def jAo (ad : Nat → Nat) (ao sz : Nat) : Nat → Prop := fun q => jA ad TC sz q ∨ q = ao
def jPo (D : va_G) (ad : Nat → Nat) (cA : Nat → ClassId) (ao : Nat) (cO : ClassId) (av : List Value) (sz : Nat) (S : Nat → Int32) (V : Nat → Nat → Int32) (L : Nat → Int64) (o : Nat → Int64) (B : jBT) : Array Value → State → Prop := va_Pc av (fun U => U.heap.size = sz ∧ va_P D vwCl (jwo ad cA ao cO S V L o) U.heap ∧ (jK D TC cA U ∧ va_K D vwCl [(cO, .long)] U ∧ va_Nc "java/lang/IllegalArgumentException" "java/util/NoSuchElementException" U) ∧ jBk B (jAo ad ao sz) U U.heap)
def jQo (D : va_G) (ad : Nat → Nat) (cA : Nat → ClassId) (ao : Nat) (cO : ClassId) (k : Int32) (sz : Nat) (S2 : Nat → Int32) (V2 : Nat → Nat → Int32) (L2 : Nat → Int64) (o2 : Nat → Int64) : Array Value → State → Outcome → State → Prop := fun _ st oc t => (oc = .returned (some (.int k)) ∧ va_P D vwCl (jwo ad cA ao cO S2 V2 L2 o2) t.heap) ∧ va_F (jAo ad ao sz) st t
def jMo (l : Launch) (y : MethodName) (bytes : ByteArray) (maxL : Nat) (hh : List (Nat × Nat × Nat × Nat)) (rm : Room) (B : jBT) (D : va_G) (ad : Nat → Nat) (cA : Nat → ClassId) (ao : Nat) (cO : ClassId) (av : List Value) (S : Nat → Int32) (V : Nat → Nat → Int32) (L : Nat → Int64) (o : Nat → Int64) (k : Int32) (S2 : Nat → Int32) (V2 : Nat → Nat → Int32) (L2 : Nat → Int64) (o2 : Nat → Int64) (mc ms : Nat) : Prop :=
  ∀ sz : Nat, Met l y (Cond.codeWith y bytes maxL (some .int) hh :: bg) rm (jPo D ad cA ao cO av sz S V L o B) (jQo D ad cA ao cO k sz S2 V2 L2 o2) mc ms (jAo ad ao sz)
theorem jMo_of {l : Launch} {y : MethodName} {bytes : ByteArray} {maxL mc ms : Nat} {hh : List (Nat × Nat × Nat × Nat)} {rm : Room} {B : jBT} {D : va_G} {ad : Nat → Nat} {cA : Nat → ClassId} {ao : Nat} {cO : ClassId} {av : List Value} {S S2 : Nat → Int32} {V V2 : Nat → Nat → Int32} {L L2 : Nat → Int64} {o o2 : Nat → Int64} {k : Int32} (hy : plainName y.cls = true) (hI : jI ad TC) (hao : ∀ j, j < TC.length → ad j ≠ ao) (hn : (lg_sl av).length ≤ maxL)
    (body : ∀ (p : Program) (e : Env) (s : State) (m : MethodId) (args : Array Value) (below : List Frame) (meth : Method) (c : Code), jCo p s m args c D ad cA (jAo ad ao s.heap.size) bytes maxL y.cls B ao cO → meth.sig.returnType = some .int → meth.locks = false → c.exceptionTable.toList = tableOf hh →
      jWo p l e rm s m args below meth c (MQ below (jQo D ad cA ao cO k s.heap.size S2 V2 L2 o2) args s mc ms (jAo ad ao s.heap.size)) D ad cA ao cO (jAo ad ao s.heap.size) maxL 0 0 0 (lv_args 0 av) [] S V L o) :
    jMo l y bytes maxL hh rm B D ad cA ao cO av S V L o k S2 V2 L2 o2 mc ms := by
  intro sz
  refine va_MetW (cc := bytes) (maxL := maxL) (ret := some .int) (hh := hh) hy rfl ?_
  intro p e s m args below meth c s₁ B hml hv
  obtain ⟨rfl, rfl, hP, ⟨hK, hKO, hNc⟩, hB⟩ := hv
  have hts := atoms_spec (ws := Cond.codeWith y bytes maxL (some .int) hh :: bg) B.pre
  have hown : s.vm.findClass y.cls = some m.cls := findClass_of_methodNamed B.named
  rw [lg_entry_eq]
  exact body p e s m _ below meth c ⟨⟨B.exec, B.bytes, hml, hown, fun w h => hts w (List.mem_cons_of_mem _ h), hK, TC_ok, hI, fun i hi => Or.inl (Or.inl ⟨i, hi, rfl⟩), fun q hq => Or.inl (Or.inr hq), hB⟩, Or.inr rfl, hao, hKO, hNc⟩ B.returns B.notSynchronized (vx_table (x := y) B (hts _ List.mem_cons_self)) s.heap [] _ hP va_S.rf (lv_entry av hn)
theorem jo_ret {p : Program} {l : Launch} {e : Env} {R : Room} {s : State} {m : MethodId} {args : Array Value} {below : List Frame} {meth : Method} {c : Code} {D : va_G} {ad : Nat → Nat} {cA : Nat → ClassId} {ao : Nat} {cO : ClassId} {A : Nat → Prop} {cc : ByteArray} {nL kc ks mc ms : Nat} {own : String} {B : jBT} {pc : Nat} {lv : List (Nat × Value)} {S : Nat → Int32} {V : Nat → Nat → Int32} {L : Nat → Int64} {o : Nat → Int64} {x : Int32} (C : jCo p s m args c D ad cA A cc nL own B ao cO) (hr : meth.sig.returnType = some .int) (hlk : meth.locks = false) (hA : A = jAo ad ao s.heap.size) (hk : kc ≤ mc) (hs : ks ≤ ms) (hd : decode cc pc = .ok (.ireturn, 1)) :
    jWo p l e R s m args below meth c (MQ below (jQo D ad cA ao cO x s.heap.size S V L o) args s mc ms (jAo ad ao s.heap.size)) D ad cA ao cO A nL kc ks pc lv [.int x] S V L o := by
  subst hA
  exact fun H locs ls hP hS hl => W.widen hk hs (W.iret C.1.1 C.1.2.1 hr (fun t ht _ => ⟨⟨rfl, by rw [ht]; exact hP⟩, hS.F ht⟩) hS.2.2 hd hlk)
