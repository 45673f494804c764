/-! ===== methods that may throw ===== -/
def exN : Nat → String
  | 0 => "java/lang/IllegalArgumentException"
  | _ => "java/util/NoSuchElementException"
abbrev jR : Type := (Option Value × (Nat → Int32) × (Nat → Nat → Int32) × (Nat → Int64)) ⊕ Nat
def bdx {β : Type} (o : Option (Unit ⊕ Nat)) (k : Option (β ⊕ Nat)) : Option (β ⊕ Nat) := match o with
  | some (.inl _) => k
  | some (.inr e) => some (.inr e)
  | none => none
theorem bdx_elim {β : Type} {o : Option (Unit ⊕ Nat)} {k : Option (β ⊕ Nat)} {r : β ⊕ Nat} (h : bdx o k = some r) : (o = some (.inl ()) ∧ k = some r) ∨ ∃ x, o = some (.inr x) ∧ r = .inr x := by
  match o, h with
  | some (.inl ()), h => exact Or.inl ⟨rfl, h⟩
  | some (.inr x), h => exact Or.inr ⟨x, rfl, (Option.some.inj h).symm⟩
def jXQ (D : va_G) (T : jT) (ad : Nat → Nat) (cA : Nat → ClassId) (r : jR) (sz : Nat) : Array Value → State → Outcome → State → Prop := fun a st oc t => ∃ x, r = .inl x ∧ jQc D T ad cA x.1 sz x.2.1 x.2.2.1 x.2.2.2 a st oc t
def jXX (D : va_G) (T : jT) (ad : Nat → Nat) (cA : Nat → ClassId) (r : jR) (sz : Nat) (S : Nat → Int32) (V : Nat → Nat → Int32) (L : Nat → Int64) : String → State → State → Prop := fun E st t => ∃ x, r = .inr x ∧ E = exN x ∧ va_P D vwCl (jws T ad cA S V L) t.heap ∧ va_F (jA ad T sz) st t
def jMx (l : Launch) (y : MethodName) (bytes : ByteArray) (maxL : Nat) (ret : Option FieldType) (rm : Room) (B : jBT) (D : va_G) (T : jT) (ad : Nat → Nat) (cA : Nat → ClassId) (av : List Value) (S : Nat → Int32) (V : Nat → Nat → Int32) (L : Nat → Int64) (r : jR) (mc ms : Nat) : Prop :=
  ∀ sz : Nat, vx_Met l y (Cond.code y bytes maxL ret :: bg) rm (jPc D T ad cA av sz S V L B) (jXQ D T ad cA r sz) (jXX D T ad cA r sz S V L) mc ms (jA ad T sz)
theorem jMx_of {l : Launch} {y : MethodName} {bytes : ByteArray} {maxL mc ms : Nat} {ret : Option FieldType} {rm : Room} {B : jBT} {D : va_G} {T : jT} {ad : Nat → Nat} {cA : Nat → ClassId} {av : List Value} {S : Nat → Int32} {V : Nat → Nat → Int32} {L : Nat → Int64} {r : jR} (hy : plainName y.cls = true) (hok : jok T) (hI : jI ad T) (hn : (lg_sl av).length ≤ maxL)
    (body : ∀ (p : Program) (e : Env) (s : State) (m : MethodId) (args : Array Value) (below : List Frame) (meth : Method) (c : Code), jC p s m args c D T ad cA (jA ad T s.heap.size) bytes maxL y.cls B → meth.sig.returnType = ret → meth.locks = false → (∀ z ∈ c.exceptionTable.toList, False) →
      jW p l e rm s m args below meth c (vx_MQ below (jXQ D T ad cA r s.heap.size) (jXX D T ad cA r s.heap.size S V L) args s mc ms (jA ad T s.heap.size)) D T ad cA (jA ad T s.heap.size) maxL 0 0 0 (lv_args 0 av) [] S V L) :
    jMx l y bytes maxL ret rm B D T ad cA av S V L r mc ms := by
  intro sz
  refine vx_ofW (cc := bytes) (maxL := maxL) (ret := ret) hy rfl ?_
  intro p e s m args below meth c s₁ B hml hxt hv
  obtain ⟨rfl, rfl, hP, hK, hB⟩ := hv
  have hts := atoms_spec (ws := Cond.code y bytes maxL ret :: bg) B.pre
  have hown : s.vm.findClass y.cls = some m.cls := findClass_of_methodNamed B.named
  rw [lg_entry_eq]
  exact body p e s m _ below meth c ⟨B.exec, B.bytes, hml, hown, fun w h => hts w (List.mem_cons_of_mem _ h), hK, hok, hI, fun i hi => Or.inl ⟨i, hi, rfl⟩, fun q hq => Or.inr hq, hB⟩ B.returns B.notSynchronized hxt s.heap [] _ hP va_S.rf (lv_entry av hn)
section JXR
variable {p : Program} {l : Launch} {e : Env} {R : Room} {s : State} {m : MethodId} {args : Array Value} {below : List Frame} {meth : Method} {c : Code} {Q : State → Prop} {D : va_G} {T : jT} {ad : Nat → Nat} {cA : Nat → ClassId} {A : Nat → Prop} {cc : ByteArray} {nL kc ks mc ms : Nat} {own : String} {B : jBT} {r : jR}
variable {pc : Nat} {lv : List (Nat × Value)} {st : List Value} {S S0 : Nat → Int32} {V V0 : Nat → Nat → Int32} {L L0 : Nat → Int64}
theorem jx_iret {x : Int32} (C : jC p s m args c D T ad cA A cc nL own B) (hr : meth.sig.returnType = some .int) (hlk : meth.locks = false) (hA : A = jA ad T s.heap.size) (hR : r = .inl (some (.int x), S, V, L)) (hk : kc ≤ mc) (hs : ks ≤ ms) (hd : decode cc pc = .ok (.ireturn, 1)) :
    jW p l e R s m args below meth c (vx_MQ below (jXQ D T ad cA r s.heap.size) (jXX D T ad cA r s.heap.size S0 V0 L0) args s mc ms (jA ad T s.heap.size)) D T ad cA A nL kc ks pc lv [.int x] S V L := by
  subst hA
  exact fun H locs ls hP hS hl => W.widen hk hs (vx_ret (W.iret C.1 C.2.1 hr (fun t ht _ => ⟨_, hR, ⟨rfl, by rw [ht]; exact hP⟩, hS.F ht⟩) hS.2.2 hd hlk))
theorem jx_vret (C : jC p s m args c D T ad cA A cc nL own B) (hr : meth.sig.returnType = none) (hlk : meth.locks = false) (hA : A = jA ad T s.heap.size) (hR : r = .inl (none, S, V, L)) (hk : kc ≤ mc) (hs : ks ≤ ms) (hd : decode cc pc = .ok (.return_, 1)) :
    jW p l e R s m args below meth c (vx_MQ below (jXQ D T ad cA r s.heap.size) (jXX D T ad cA r s.heap.size S0 V0 L0) args s mc ms (jA ad T s.heap.size)) D T ad cA A nL kc ks pc lv [] S V L := by
  subst hA
  exact fun H locs ls hP hS hl => W.widen hk hs (vx_ret (W.vret C.1 C.2.1 hr (fun t ht _ => ⟨_, hR, ⟨rfl, by rw [ht]; exact hP⟩, hS.F ht⟩) hS.2.2 hd hlk))
theorem jx_keepP {H H1 : Heap} (hP : va_P D vwCl (jws T ad cA S V L) H) (hk : ∀ q : Nat, q < H.size → H1[q]? = H[q]?) : va_P D vwCl (jws T ad cA S V L) H1 := fun k q hq => (hP k q hq).kept (hk _ (hP k q hq).lt)
/-- the constructor's index and bytes -/
def exI : Nat → Nat
  | 0 => 7
  | _ => 13
def exB : Nat → ByteArray
  | 0 => Bundle.six
  | _ => ⟨#[0x2a, 0x2b, 0xb7, 0x00, 0x0d, 0xb1]⟩
def jdcl : List (MethodName × ByteArray) := [(Bundle.initS "java/lang/RuntimeException", Bundle.six), (Bundle.initS "java/lang/Exception", Bundle.six), (Bundle.initS "java/lang/Throwable", LibCode.Throwable.InitS.code)]
/-- the words of a throw -/
def jxw (own : String) (ic ik x : Nat) : Prop := Cond.classLink own ik (exN x) ∈ bg ∧ Cond.initialized (exN x) ∈ bg ∧ (exN x, exN x) ∈ cst ∧ (∀ w ∈ ((nx_atoms own ic (exN x) (exI x) (exB x)).filter vx_no).filter goodWord, w ∈ bg) ∧
  (∀ w ∈ ((nx_atoms own ic (exN x) (exI x) (exB x)).filter vx_no).filter (fun w => !goodWord w), w ∈ Cond.castable (exN x) (exN x) :: jdcl.map (fun y => Cond.declares y.1)) ∧ (∀ w ∈ Cond.classLink own ik (exN x) :: Cond.initialized (exN x) :: (nx_atoms own ic (exN x) (exI x) (exB x)).filter vx_no, vx_ot w = true) ∧ Bundle.fit (exN x) = true ∧ (∀ y ∈ jdcl, Cond.code y.1 y.2 2 none ∈ bg ∧ Cond.instanceMethod y.1 ∈ bg) ∧
  decode (exB x) 0 = .ok (.aload_n 0, 1) ∧ decode (exB x) 1 = .ok (.aload_n 1, 1) ∧ decode (exB x) 2 = .ok (.invokespecial (exI x), 3) ∧ decode (exB x) 5 = .ok (.return_, 1)
theorem jx_throw {x i ik is ic : Nat} {tx : String} (C : jC p s m args c D T ad cA A cc nL own B) (hl0 : l.stackTraces = false) (hlk : meth.locks = false) (hA : A = jA ad T s.heap.size) (hxt : ∀ z ∈ c.exceptionTable.toList, False) (hR : r = .inr x) (hi : sx[i]? = some (own, is, tx)) (hw : jxw own ic ik x)
    (d0 : decode cc pc = .ok (.new ik, 3)) (d3 : decode cc (pc + 3) = .ok (.dup, 1)) (d4 : decode cc (pc + 4) = .ok (.ldc is, 2)) (d6 : decode cc (pc + 6) = .ok (.invokespecial ic, 3)) (d9 : decode cc (pc + 9) = .ok (.athrow, 1)) (hRf : 5 < R.frames) (hRl : (st.map fun v => v.category).sum + 82 ≤ R.locals) (hRc : kc + 1 ≤ R.cells) (hRs : ks + 6 ≤ R.slots) (hk : kc + 1 ≤ mc) (hs : ks + 6 ≤ ms) :
    jW p l e R s m args below meth c (vx_MQ below (jXQ D T ad cA r s.heap.size) (jXX D T ad cA r s.heap.size S V L) args s mc ms (jA ad T s.heap.size)) D T ad cA A nL kc ks pc lv st S V L := by
  subst hA
  intro H locs ls hP hS hl
  obtain ⟨w1, w2, w3, w4, w5, w6, w7, w8, x0, x1, x2, x5⟩ := hw
  have hts := C.2.2.2.2.1
  have hB := jC_B C
  refine nx_throw C.1 C.2.1 hl0 x0 x1 x2 x5 C.2.2.2.1 w7 (hts _ w1) (hts _ w2) (hB.2.1.2 i _ hi) (vx_hat (B := Cond.castable (exN x) (exN x) :: jdcl.map (fun y => Cond.declares y.1)) (fun w h => hts w (w4 w h)) w5 (fun w h => ?_)) w6 hB.2.2.1.1 hB.2.2.1.2 hS (hl.1.trans C.2.2.1.symm) d0 d3 d4 d6 d9 (fun z hz => (hxt z hz).elim) hRf hRl hRc hRs hlk (fun t hv h1 h2 => ⟨x, hR, rfl, jx_keepP hP h2, ?_⟩) hS.2.2 hk hs
  · rcases List.mem_cons.mp h with h | h
    · rw [h]
      exact va_Nw.use rfl (C.2.2.2.2.2.1.2.2.2 _ w3)
    · obtain ⟨y, hy, rfl⟩ := List.mem_map.mp h
      exact jdecl (hts _ (w8 y hy).1) (hts _ (w8 y hy).2)
  · exact ⟨Nat.le_trans hS.1 h1, fun q h3 h4 => by rw [h2 q (Nat.lt_of_lt_of_le h3 hS.1)]; exact hS.2.1 q h3 h4⟩
theorem jx_throwW {x i ik is ic : Nat} {tx : String} (C : jC p s m args c D T ad cA A cc nL own B) (hl0 : l.stackTraces = false) (hlk : meth.locks = false) (hA : A = jA ad T s.heap.size) (hxt : ∀ z ∈ c.exceptionTable.toList, False) (hR : r = .inr x) (hi : sx[i]? = some (own, is, tx)) (hw : jxw own ic ik x)
    (d0 : decode cc pc = .ok (.new ik, 3)) (d3 : decode cc (pc + 3) = .ok (.dup, 1)) (d4 : decode cc (pc + 4) = .ok (.ldc_w is, 3)) (d6 : decode cc (pc + 7) = .ok (.invokespecial ic, 3)) (d9 : decode cc (pc + 10) = .ok (.athrow, 1)) (hRf : 5 < R.frames) (hRl : (st.map fun v => v.category).sum + 82 ≤ R.locals) (hRc : kc + 1 ≤ R.cells) (hRs : ks + 6 ≤ R.slots) (hk : kc + 1 ≤ mc) (hs : ks + 6 ≤ ms) :
    jW p l e R s m args below meth c (vx_MQ below (jXQ D T ad cA r s.heap.size) (jXX D T ad cA r s.heap.size S V L) args s mc ms (jA ad T s.heap.size)) D T ad cA A nL kc ks pc lv st S V L := by
  subst hA
  intro H locs ls hP hS hl
  obtain ⟨w1, w2, w3, w4, w5, w6, w7, w8, x0, x1, x2, x5⟩ := hw
  have hts := C.2.2.2.2.1
  have hB := jC_B C
  refine nx_throwW C.1 C.2.1 hl0 x0 x1 x2 x5 C.2.2.2.1 w7 (hts _ w1) (hts _ w2) (hB.2.1.2 i _ hi) (vx_hat (B := Cond.castable (exN x) (exN x) :: jdcl.map (fun y => Cond.declares y.1)) (fun w h => hts w (w4 w h)) w5 (fun w h => ?_)) w6 hB.2.2.1.1 hB.2.2.1.2 hS (hl.1.trans C.2.2.1.symm) d0 d3 d4 d6 d9 (fun z hz => (hxt z hz).elim) hRf hRl hRc hRs hlk (fun t hv h1 h2 => ⟨x, hR, rfl, jx_keepP hP h2, ?_⟩) hS.2.2 hk hs
  · rcases List.mem_cons.mp h with h | h
    · rw [h]
      exact va_Nw.use rfl (C.2.2.2.2.2.1.2.2.2 _ w3)
    · obtain ⟨y, hy, rfl⟩ := List.mem_map.mp h
      exact jdecl (hts _ (w8 y hy).1) (hts _ (w8 y hy).2)
  · exact ⟨Nat.le_trans hS.1 h1, fun q h3 h4 => by rw [h2 q (Nat.lt_of_lt_of_le h3 hS.1)]; exact hS.2.1 q h3 h4⟩
/-- behind a call of one that may throw, and didn't -/
theorem jx_ok {rest : List Value} {rv : Option Value} {mc1 ms1 : Nat} {S2 : Nat → Int32} {V2 : Nat → Nat → Int32} {L2 : Nat → Int64} {H : Heap} {locs : List Loc} {ls : Array Slot} {a : Array Value} (C : jC p s m args c D T ad cA A cc nL own B) (hS : va_S A s.heap H locs) (hl : lv_has ls nL lv)
    (hr : vx_Run p l e R s m args below meth c H locs kc ks mc1 ms1 (F0 m pc ls st) rest (jXQ D T ad cA (.inl (rv, S2, V2, L2)) H.size a) (jXX D T ad cA (.inl (rv, S2, V2, L2)) H.size S V L) (jA ad T H.size))
    (kk : jW p l e R s m args below meth c Q D T ad cA A nL (kc + mc1) (ks + ms1) (pc + 3) lv (rv.toList ++ rest) S2 V2 L2) : W p l e R s m args below meth c H locs kc ks Q (F0 m pc ls st) := by
  intro T0 hT0 X
  rcases hr T0 hT0 X with ⟨v, st₀, t, T', L', h0, X', hL, e1, e2, ⟨x9, hx9, ⟨hv, hP2⟩, hz, hk⟩, stp⟩ | ⟨q, st₀, t, T', L', E, ce, h0, X', hL, e1, e2, ⟨x9, hx9, -⟩, -⟩
  · cases hx9
    cases hv
    rw [h0] at hz hk
    have hsub : ∀ q, q < H.size → jA ad T H.size q → A q := fun q hq h => by
      rcases h with ⟨j, hj, rfl⟩ | h
      · exact C.2.2.2.2.2.2.2.2.1 j hj
      · exact absurd h (Nat.not_le.mpr hq)
    have hS2 : va_S A s.heap T'.heap (locs ++ L') := by
      refine ⟨Nat.le_trans hS.1 (by rw [e1]; exact hz), fun q h1 h2 => ?_, fun q hq => ?_⟩
      · have hq : q < H.size := Nat.lt_of_lt_of_le h1 hS.1
        rw [e1, hk q hq (fun z => h2 (hsub q hq z))]
        exact hS.2.1 q h1 h2
      · rcases List.mem_append.mp hq with h | h
        · exact hS.2.2 q h
        · rcases hL q h with ⟨j, hj, hj2⟩ | h9
          · rw [hj2]; exact C.2.2.2.2.2.2.2.2.1 j hj
          · exact C.2.2.2.2.2.2.2.2.2.1 _ (Nat.le_trans hS.1 h9)
    obtain ⟨t2, a1, b1⟩ := kk T'.heap (locs ++ L') ls (by rw [e1]; exact hP2) hS2 hl T' rfl X'
    exact ⟨t2, stp t2 a1, b1⟩
  · cases hx9
/-- behind a call that threw: it goes on to the caller -/
theorem jx_ex {rest : List Value} {x mc1 ms1 : Nat} {H : Heap} {locs : List Loc} {ls : Array Slot} {a : Array Value} (C : jC p s m args c D T ad cA A cc nL own B) (hlk : meth.locks = false) (hA : A = jA ad T s.heap.size) (hxt : ∀ z ∈ c.exceptionTable.toList, False) (hR : r = .inr x) (hS : va_S A s.heap H locs)
    (hr : vx_Run p l e R s m args below meth c H locs kc ks mc1 ms1 (F0 m pc ls st) rest (jXQ D T ad cA (.inr x) H.size a) (jXX D T ad cA (.inr x) H.size S V L) (jA ad T H.size)) (hk1 : kc + mc1 ≤ mc) (hs1 : ks + ms1 ≤ ms) :
    W p l e R s m args below meth c H locs kc ks (vx_MQ below (jXQ D T ad cA r s.heap.size) (jXX D T ad cA r s.heap.size S V L) args s mc ms (jA ad T s.heap.size)) (F0 m pc ls st) := by
  subst hA
  intro T0 hT0 X
  rcases hr T0 hT0 X with ⟨v, st₀, t, T', L', h0, X', hL, e1, e2, ⟨x9, hx9, -⟩, -⟩ | ⟨q, st₀, t, T', L', E, ce, h0, X', hL, e1, e2, ⟨x9, hx9, hE, hP2, hz, hk⟩, hce, hcv, hcl, stp⟩
  · cases hx9
  · cases hx9
    rw [h0] at hz hk
    have hsub : ∀ q, q < H.size → jA ad T H.size q → jA ad T s.heap.size q := fun q hq h => by
      rcases h with ⟨j, hj, rfl⟩ | h
      · exact C.2.2.2.2.2.2.2.2.1 j hj
      · exact absurd h (Nat.not_le.mpr hq)
    have hS2 : va_S (jA ad T s.heap.size) s.heap T'.heap (locs ++ L') := by
      refine ⟨Nat.le_trans hS.1 (by rw [e1]; exact hz), fun q h1 h2 => ?_, fun q hq => ?_⟩
      · have hq : q < H.size := Nat.lt_of_lt_of_le h1 hS.1
        rw [e1, hk q hq (fun z => h2 (hsub q hq z))]
        exact hS.2.1 q h1 h2
      · rcases List.mem_append.mp hq with h | h
        · exact hS.2.2 q h
        · rcases hL q h with ⟨j, hj, hj2⟩ | h9
          · rw [hj2]; exact C.2.2.2.2.2.2.2.2.1 j hj
          · exact C.2.2.2.2.2.2.2.2.2.1 _ (Nat.le_trans hS.1 h9)
    obtain ⟨t2, a1, b1⟩ := vx_out (pc := pc) (ls := ls) (rest := rest) (Qc := jXQ D T ad cA r s.heap.size) (XC := jXX D T ad cA r s.heap.size S V L) (free := jA ad T s.heap.size) (mc := mc) (ms := ms) (H := T'.heap) (locs := locs ++ L') (E := E) (ce := ce) (q := q) (fun z hz => (hxt z hz).elim) hlk (by rw [e1]; exact hce) hcv hcl
      (fun t3 ht3 _ => ⟨x, hR, hE, by rw [ht3, e1]; exact hP2, hS2.F ht3⟩) hS2.2.2 hk1 hs1 T' rfl X'
    exact ⟨t2, stp.trans a1, b1⟩
theorem jx_callV {q ci idx n maxL mc1 ms1 : Nat} {w9 : vw_C} {sl : List (Nat × Nat)} {y : MethodName} {bytes : ByteArray} {ret : Option FieldType} {rm : Room} {As rest : List Value} {r1 : jR} {H : Heap} {locs : List Loc} {ls : Array Slot} (C : jC p s m args c D T ad cA A cc nL own B)
    (hM : jMx l y bytes maxL ret rm B D T ad cA (.ref (ad q) :: As) S V L r1 mc1 ms1) (hw : jmw y bytes maxL ret n) (hi : Cond.instanceMethod y ∈ bg) (hse : Cond.selects y.cls y y ∈ bg) (hlk : Cond.methodLink own idx y ∈ bg) (hT : T[q]? = some (.inl (ci, sl))) (hc : vwCl[ci]? = some w9) (hrc : w9.1 = y.cls)
    (hrm : rm.cells = mc1 ∧ rm.slots = ms1 ∧ rm.frames + 1 ≤ R.frames ∧ 8 + (maxL + 11) + rm.locals ≤ R.locals) (hkr : kc + mc1 ≤ R.cells ∧ ks + ms1 ≤ R.slots) (hn : As.length = n) (hst : st = As.reverse ++ .ref (ad q) :: rest) (h8 : (rest.map fun v => v.category).sum ≤ 8) (hd : decode cc pc = .ok (.invokevirtual idx, 3))
    (hP : va_P D vwCl (jws T ad cA S V L) H) (hS : va_S A s.heap H locs) (hl : lv_has ls nL lv) : vx_Run p l e R s m args below meth c H locs kc ks mc1 ms1 (F0 m pc ls st) rest (jXQ D T ad cA r1 H.size (Value.ref (ad q) :: As).toArray) (jXX D T ad cA r1 H.size S V L) (jA ad T H.size) := by
  subst hst
  have hts := C.2.2.2.2.1
  have hcell := j_recv C hP hT hc
  rw [hrc] at hcell
  refine vx_runV (Ts := bg) (As := As) (rest := rest) (n := n) (C := y.cls) ⟨C.1, C.2.1, C.2.2.1, C.2.2.2.1, hts⟩ (hM H.size) ⟨callB_of n hts (bg_g0 (fun w h => ?_)) rfl hrm.1 hrm.2.1 (hts _ hw.2.1) (hts _ hlk) hw.2.2 ⟨hrm.2.2.1, hrm.2.2.2⟩, hts _ hi, hts _ hse⟩ ⟨jPc_blind, hcell, j_pre C hP hS⟩ rfl hn hl.1 rfl (lv_room h8) hd hkr
  rcases List.mem_cons.mp h with h | h
  · rw [h]; exact hw.1
  · exact h
theorem jx_callS {idx n maxL mc1 ms1 : Nat} {y : MethodName} {bytes : ByteArray} {ret : Option FieldType} {rm : Room} {As rest : List Value} {r1 : jR} {H : Heap} {locs : List Loc} {ls : Array Slot} (C : jC p s m args c D T ad cA A cc nL own B)
    (hM : jMx l y bytes maxL ret rm B D T ad cA As S V L r1 mc1 ms1) (hw : jmw y bytes maxL ret n) (hi : Cond.static y ∈ bg) (hlk : Cond.methodLink own idx y ∈ bg)
    (hrm : rm.cells = mc1 ∧ rm.slots = ms1 ∧ rm.frames + 1 ≤ R.frames ∧ 8 + (maxL + 11) + rm.locals ≤ R.locals) (hkr : kc + mc1 ≤ R.cells ∧ ks + ms1 ≤ R.slots) (hn : As.length = n) (hst : st = As.reverse ++ rest) (h8 : (rest.map fun v => v.category).sum ≤ 8) (hd : decode cc pc = .ok (.invokestatic idx, 3))
    (hP : va_P D vwCl (jws T ad cA S V L) H) (hS : va_S A s.heap H locs) (hl : lv_has ls nL lv) : vx_Run p l e R s m args below meth c H locs kc ks mc1 ms1 (F0 m pc ls st) rest (jXQ D T ad cA r1 H.size As.toArray) (jXX D T ad cA r1 H.size S V L) (jA ad T H.size) := by
  subst hst
  have hts := C.2.2.2.2.1
  refine vx_runS (Ts := bg) (As := As) (rest := rest) (n := n) ⟨C.1, C.2.1, C.2.2.1, C.2.2.2.1, hts⟩ (hM H.size) ⟨callB_of n hts (bg_g0 (fun w h => ?_)) rfl hrm.1 hrm.2.1 (hts _ hw.2.1) (hts _ hlk) hw.2.2 ⟨hrm.2.2.1, hrm.2.2.2⟩, hts _ hi⟩ ⟨jPc_blind, j_pre C hP hS⟩ rfl hn hl.1 rfl (lv_room h8) hd hkr
  rcases List.mem_cons.mp h with h | h
  · rw [h]; exact hw.1
  · exact h
end JXR
