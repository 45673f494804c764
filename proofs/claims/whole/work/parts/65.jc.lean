/-! ===== constructors: a table that grows ===== -/
def adb (b0 : Nat) : Nat → Nat := fun j => b0 + j
theorem adb_I (b0 : Nat) (T : jT) : jI (adb b0) T := fun _ _ _ _ h => Nat.add_left_cancel h
section JC0
variable {T : jT} {ad : Nat → Nat} {cA : Nat → ClassId} {S S2 : Nat → Int32} {V V2 : Nat → Nat → Int32} {L L2 : Nat → Int64} {q k ci z q2 : Nat} {sl : List (Nat × Nat)}
theorem jws_app (d : jD) : jws (T ++ [d]) ad cA S V L = jws T ad cA S V L ++ [(ad T.length, je ad cA S V L T.length d)] := by
  apply List.ext_getElem?
  intro j
  have hlen : (jws T ad cA S V L).length = T.length := by simp [jws]
  rw [jws_get]
  rcases Nat.lt_trichotomy j T.length with h | h | h
  · rw [List.getElem?_append_left h, List.getElem?_append_left (by rw [hlen]; exact h), jws_get]
  · subst h
    rw [List.getElem?_append_right (Nat.le_refl _), List.getElem?_append_right (by rw [hlen]; exact Nat.le_refl _), hlen]
    simp
  · rw [List.getElem?_append_right (by omega), List.getElem?_append_right (by omega), hlen]
    have e : j - T.length = (j - T.length - 1) + 1 := by omega
    rw [e]
    simp
theorem jws_V (f : Nat → Int32) : jws T ad cA S (va_up V T.length f) L = jws T ad cA S V L := by
  apply List.ext_getElem?
  intro j
  rw [jws_get, jws_get]
  cases hd : T[j]? with
  | none => rfl
  | some d =>
    have hj : j < T.length := (List.getElem?_eq_some_iff.mp hd).1
    cases d with
    | inl o => rfl
    | inr a => simp [je, va_up_ne V f (Nat.ne_of_lt hj)]
theorem jws_putR (hT : T[q]? = some (.inl (ci, sl))) (hk : k < sl.length) (q2 : Nat) :
    (jws T ad cA S V L).set q (ad q, .inr (ci, (jfs ad S L q sl).set k (.ref (ad q2)))) = jws (T.set q (.inl (ci, sl.set k (1, q2)))) ad cA S V L := by
  have hql : q < T.length := (List.getElem?_eq_some_iff.mp hT).1
  apply List.ext_getElem?
  intro j
  rw [List.getElem?_set, jws_get, jws_get, List.getElem?_set]
  by_cases hj : q = j
  · subst hj
    have hlen : q < (jws T ad cA S V L).length := by simp [jws]; exact hql
    rw [if_pos rfl, if_pos hlen, if_pos rfl, if_pos hql]
    simp only [Option.map_some, je]
    congr 4
    apply List.ext_getElem?
    intro i
    rw [List.getElem?_set, jfs_get, jfs_get, List.getElem?_set]
    by_cases hi : k = i
    · subst hi
      rw [if_pos rfl, if_pos (by rw [jfs_len]; exact hk), if_pos rfl, if_pos hk]
      simp [jv]
    · rw [if_neg hi, if_neg hi]
  · rw [if_neg hj, if_neg hj]
end JC0
def jCc (p : Program) (s : State) (m : MethodId) (args : Array Value) (c : Code) (D : va_G) (TT : jT) (cA : Nat → ClassId) (A : Nat → Prop) (cc : ByteArray) (nL : Nat) (own : String) (B : jBT) : Prop :=
  p.tables.exec = Jvm.exec ∧ c.code = cc ∧ c.maxLocals = nL ∧ s.vm.findClass own = some m.cls ∧ (∀ w ∈ bg, w.before args s = true) ∧ jK D TT cA s ∧ (∀ q, s.heap.size ≤ q → A q) ∧ jBk B A s s.heap
def jWc (p : Program) (l : Launch) (e : Env) (R : Room) (s : State) (m : MethodId) (args : Array Value) (below : List Frame) (meth : Method) (c : Code) (Q : State → Prop) (D : va_G) (T : jT) (b0 : Nat) (cA : Nat → ClassId) (A : Nat → Prop) (nL kc ks : Nat)
    (pc : Nat) (lv : List (Nat × Value)) (st : List Value) (S : Nat → Int32) (V : Nat → Nat → Int32) (L : Nat → Int64) : Prop :=
  ∀ (H : Heap) (locs : List Loc) (ls : Array Slot), b0 + T.length ≤ H.size → va_P D vwCl (jws T (adb b0) cA S V L) H → (∀ i, i < T.length → A (adb b0 i)) → va_S A s.heap H locs → lv_has ls nL lv → W p l e R s m args below meth c H locs kc ks Q (F0 m pc ls st)
section JCR
variable {p : Program} {l : Launch} {e : Env} {R : Room} {s : State} {m : MethodId} {args : Array Value} {below : List Frame} {meth : Method} {c : Code} {Q : State → Prop} {D : va_G} {T TT : jT} {b0 : Nat} {cA : Nat → ClassId} {A : Nat → Prop} {cc : ByteArray} {nL kc ks : Nat} {own : String} {B : jBT}
variable {pc : Nat} {lv : List (Nat × Value)} {st : List Value} {S : Nat → Int32} {V : Nat → Nat → Int32} {L : Nat → Int64}
theorem jc_lv {lv2 : List (Nat × Value)} (h : lv = lv2) (kk : jWc p l e R s m args below meth c Q D T b0 cA A nL kc ks pc lv2 st S V L) : jWc p l e R s m args below meth c Q D T b0 cA A nL kc ks pc lv st S V L := h ▸ kk
theorem jc_T {T2 : jT} (h : T = T2) (kk : jWc p l e R s m args below meth c Q D T2 b0 cA A nL kc ks pc lv st S V L) : jWc p l e R s m args below meth c Q D T b0 cA A nL kc ks pc lv st S V L := h ▸ kk
theorem jc_aload_n (C : jCc p s m args c D TT cA A cc nL own B) (k : Nat) {f : Fin 4} {i x : Nat} (hk : lv[k]? = some (i, .ref x)) (hd : decode cc pc = .ok (.aload_n f, 1)) (hi : (f : Nat) = i) (kk : jWc p l e R s m args below meth c Q D T b0 cA A nL kc ks (pc + 1) lv (.ref x :: st) S V L) : jWc p l e R s m args below meth c Q D T b0 cA A nL kc ks pc lv st S V L := fun H locs ls hz hP hT hS hl => lv_aload_n C.1 C.2.1 hd hi (lv_at hl k hk) (kk H locs ls hz hP hT hS hl)
theorem jc_iconst (C : jCc p s m args c D TT cA A cc nL own B) {n : Int} {v : Int32} (hd : decode cc pc = .ok (.iconst n, 1)) (hv : Int32.ofInt n = v) (kk : jWc p l e R s m args below meth c Q D T b0 cA A nL kc ks (pc + 1) lv (.int v :: st) S V L) : jWc p l e R s m args below meth c Q D T b0 cA A nL kc ks pc lv st S V L := fun H locs ls hz hP hT hS hl => lv_iconst C.1 C.2.1 hd hv (kk H locs ls hz hP hT hS hl)
theorem jc_bipush (C : jCc p s m args c D TT cA A cc nL own B) {n : Int} {v : Int32} (hd : decode cc pc = .ok (.bipush n, 2)) (hv : (Int8.ofInt n).toInt32 = v) (kk : jWc p l e R s m args below meth c Q D T b0 cA A nL kc ks (pc + 2) lv (.int v :: st) S V L) : jWc p l e R s m args below meth c Q D T b0 cA A nL kc ks pc lv st S V L := fun H locs ls hz hP hT hS hl => lv_bipush C.1 C.2.1 hd hv (kk H locs ls hz hP hT hS hl)
theorem jc_sipush (C : jCc p s m args c D TT cA A cc nL own B) {n : Int} {v : Int32} (hd : decode cc pc = .ok (.sipush n, 3)) (hv : (Int16.ofInt n).toInt32 = v) (kk : jWc p l e R s m args below meth c Q D T b0 cA A nL kc ks (pc + 3) lv (.int v :: st) S V L) : jWc p l e R s m args below meth c Q D T b0 cA A nL kc ks pc lv st S V L := fun H locs ls hz hP hT hS hl => lv_sipush C.1 C.2.1 hd hv (kk H locs ls hz hP hT hS hl)
theorem jc_dup (C : jCc p s m args c D TT cA A cc nL own B) {va : Value} (hd : decode cc pc = .ok (.dup, 1)) (h1 : va.category = 1) (kk : jWc p l e R s m args below meth c Q D T b0 cA A nL kc ks (pc + 1) lv (va :: va :: st) S V L) : jWc p l e R s m args below meth c Q D T b0 cA A nL kc ks pc lv (va :: st) S V L := fun H locs ls hz hP hT hS hl => lv_dup C.1 C.2.1 hd h1 (kk H locs ls hz hP hT hS hl)
theorem jc_obj (C : jCc p s m args c D TT cA A cc nL own B) {idx q : Nat} (hw : Cond.methodLink own idx Lib.objectInit ∈ bg) (hi : Cond.instanceMethod Lib.objectInit ∈ bg) (hc : Cond.code Lib.objectInit ⟨#[0xb1]⟩ 1 none ∈ bg) (hd : decode cc pc = .ok (.invokespecial idx, 3)) (hf : 1 ≤ R.frames) (hlo : (st.map fun v => v.category).sum + 12 ≤ R.locals)
    (kk : jWc p l e R s m args below meth c Q D T b0 cA A nL kc ks (pc + 3) lv st S V L) : jWc p l e R s m args below meth c Q D T b0 cA A nL kc ks pc lv (.ref q :: st) S V L := fun H locs ls hz hP hT hS hl =>
  W.objInit C.1 C.2.1 C.2.2.2.1 (C.2.2.2.2.1 _ hw) (C.2.2.2.2.1 _ hi) (C.2.2.2.2.1 _ hc) rfl (by rw [C.2.2.1]; exact hl.1) rfl hd hf (by show 2 * 0 + _ + 12 ≤ _; omega) (kk H locs ls hz hP hT hS hl)
theorem jc_get (C : jCc p s m args c D TT cA A cc nL own B) {q k ci N index : Nat} {Cn : String} {Tn : u_T} {sl : List (Nat × Nat)} {d : Nat × Nat} (hT : T[q]? = some (.inl (ci, sl))) (hsl : sl[k]? = some d) (hc : vwCl[ci]? = some (Cn, Tn, N)) (hk : k < N) (hin : ∀ w ∈ u_ws Cn Tn N, w ∈ bg) (hw : Cond.fieldLink own index (Tn k).1 (Tn k).2.1 (Tn k).2.2.1 ∈ bg)
    (hd : decode cc pc = .ok (.getfield index, 3)) (kk : jWc p l e R s m args below meth c Q D T b0 cA A nL kc ks (pc + 3) lv (jv (adb b0) S L (100 * q + k) d :: st) S V L) : jWc p l e R s m args below meth c Q D T b0 cA A nL kc ks pc lv (.ref (adb b0 q) :: st) S V L := fun H locs ls hz hP hA hS hl =>
  va_get (D := D) (fs := jfs (adb b0) S L q sl) C.1 C.2.1 C.2.2.2.2.1 hin C.2.2.2.1 C.2.2.2.2.2.1.1 hP q (jws_at hT) hc k hk (C.2.2.2.2.1 _ hw) (fun _ h9 => h9) (jfs_at hsl) hd (kk H locs ls hz hP hA hS hl)
theorem vs_rf {H0 H : Heap} {locs : List Loc} (hS : va_S A H0 H locs) : va_S A H H locs := ⟨Nat.le_refl _, fun _ _ _ => rfl, hS.2.2⟩
theorem vs_tr {H0 H H1 : Heap} {locs locs1 : List Loc} (hS : va_S A H0 H locs) (h1 : va_S A H H1 locs1) : va_S A H0 H1 locs1 := ⟨Nat.le_trans hS.1 h1.1, fun q h2 h3 => (h1.2.1 q (Nat.lt_of_lt_of_le h2 hS.1) h3).trans (hS.2.1 q h2 h3), h1.2.2⟩
theorem jc_put (C : jCc p s m args c D TT cA A cc nL own B) {q k ci N index z : Nat} {Cn : String} {Tn : u_T} {ty0 : Nat → FieldType} {sl : List (Nat × Nat)} {x : Int32} {ty : FieldType} (hok : jok T) (hT : T[q]? = some (.inl (ci, sl))) (hsl : sl[k]? = some (0, z)) (hc : vwCl[ci]? = some (Cn, Tn, N)) (hk : k < N) (hin : ∀ w ∈ u_ws Cn Tn N, w ∈ bg) (hw : Cond.fieldLink own index (Tn k).1 (Tn k).2.1 (Tn k).2.2.1 ∈ bg)
    (hty : ∀ k, k < N → parseFieldDescriptor (Tn k).2.2.1 = some (ty0 k)) (hnm : ∀ a, a < N → ∀ b, b < N → a ≠ b → (Tn a).2.1 ≠ (Tn b).2.1) (hfin : (Tn k).2.2.2 = false) (hdt : parseFieldDescriptor (Tn k).2.2.1 = some ty) (hn : narrow ty (.int x) = .int x) (hfit : fits ty (.int x) = true)
    (hd : decode cc pc = .ok (.putfield index, 3)) (kk : jWc p l e R s m args below meth c Q D T b0 cA A nL kc ks (pc + 3) lv st (va_up S (100 * q + k) x) V L) : jWc p l e R s m args below meth c Q D T b0 cA A nL kc ks pc lv (.int x :: .ref (adb b0 q) :: st) S V L := fun H locs ls hz hP hA hS hl =>
  va_put (D := D) (fs := jfs (adb b0) S L q sl) C.1 C.2.1 C.2.2.2.2.1 hin ty0 hty hnm C.2.2.2.1 C.2.2.2.2.2.1.1 hP (jws_D (adb_I b0 T) hA) (vs_rf hS) q (jws_at hT) hc k hk (C.2.2.2.2.1 _ hw) (fun _ h9 => h9) hfin hdt hn hfit (by rw [jfs_len]; exact (List.getElem?_eq_some_iff.mp hsl).1) hd
    (fun H1 locs1 hP1 _ hS1 => kk H1 locs1 ls (Nat.le_trans hz hS1.1) (by rw [← jws_put hok hT hsl x]; exact hP1) hA (vs_tr hS hS1) hl)
theorem jc_putR (C : jCc p s m args c D TT cA A cc nL own B) {q k ci N index q2 : Nat} {Cn : String} {Tn : u_T} {ty0 : Nat → FieldType} {sl : List (Nat × Nat)} {ty : FieldType} (hT : T[q]? = some (.inl (ci, sl))) (hsl : k < sl.length) (hc : vwCl[ci]? = some (Cn, Tn, N)) (hk : k < N) (hin : ∀ w ∈ u_ws Cn Tn N, w ∈ bg) (hw : Cond.fieldLink own index (Tn k).1 (Tn k).2.1 (Tn k).2.2.1 ∈ bg)
    (hty : ∀ k, k < N → parseFieldDescriptor (Tn k).2.2.1 = some (ty0 k)) (hnm : ∀ a, a < N → ∀ b, b < N → a ≠ b → (Tn a).2.1 ≠ (Tn b).2.1) (hfin : (Tn k).2.2.2 = true) (hini : meth.name = "<init>") (hdecl : (Tn k).1 = own) (hdt : parseFieldDescriptor (Tn k).2.2.1 = some ty) (hn : narrow ty (.ref (adb b0 q2)) = .ref (adb b0 q2)) (hfit : fits ty (.ref (adb b0 q2)) = true)
    (hd : decode cc pc = .ok (.putfield index, 3)) (kk : jWc p l e R s m args below meth c Q D (T.set q (.inl (ci, sl.set k (1, q2)))) b0 cA A nL kc ks (pc + 3) lv st S V L) : jWc p l e R s m args below meth c Q D T b0 cA A nL kc ks pc lv (.ref (adb b0 q2) :: .ref (adb b0 q) :: st) S V L := fun H locs ls hz hP hA hS hl =>
  va_putF (D := D) (fs := jfs (adb b0) S L q sl) C.1 C.2.1 C.2.2.2.2.1 hin ty0 hty hnm C.2.2.2.1 C.2.2.2.2.2.1.1 hP (jws_D (adb_I b0 T) hA) (vs_rf hS) q (jws_at hT) hc k hk (C.2.2.2.2.1 _ hw) (fun _ h9 => h9) hfin hini hdecl hdt hn hfit (by rw [jfs_len]; exact hsl) hd
    (fun H1 locs1 hP1 _ hS1 => kk H1 locs1 ls (by rw [List.length_set]; exact Nat.le_trans hz hS1.1) (by rw [← jws_putR hT hsl q2]; exact hP1) (fun i hi => hA i (by rw [List.length_set] at hi; exact hi)) (vs_tr hS hS1) hl)
theorem jc_newa (C : jCc p s m args c D TT cA A cc nL own B) {atype : ArrayType} {n : Int32} {N t : Nat} (hq : s.heap.size + kc = b0 + T.length) (hTT : TT[T.length]? = some (.inr (N, t))) (hty : newarray.typeOf atype = jty t) (hdef : ∀ cx : ClassId, arrV cx N (fun _ => defaultValue (jty t)) = vp_cell cx (N, .inl (fun _ => 0))) (har : Cond.arrayClass (jty t) ∈ bg) (hn : ¬ n < 0) (hN : n.toNatClampNeg = N) (hby : N * componentBytes (jty t) ≤ 536870912) (hc : kc + 1 ≤ R.cells) (hs : ks + N ≤ R.slots) (hra : va_RA s (cA T.length) (jty t) → s.vm.findClass ("[" ++ (jty t).toString) = some (cA T.length))
    (hd : decode cc pc = .ok (.newarray atype, 2)) (kk : jWc p l e R s m args below meth c Q D (T ++ [.inr (N, t)]) b0 cA A nL (kc + 1) (ks + N) (pc + 2) lv (.ref (adb b0 T.length) :: st) S (va_up V T.length (fun _ => 0)) L) : jWc p l e R s m args below meth c Q D T b0 cA A nL kc ks pc lv (.int n :: st) S V L := by
  intro H locs ls hz hP hA hS hl T0 hT0 X
  have hup : T0.heap.size ≤ s.heap.size + kc := X.heapSize
  have hsz : H.size = adb b0 T.length := by rw [hT0] at hup; show H.size = b0 + T.length; omega
  refine va_newaK C.1 C.2.1 (by rw [hty]; exact C.2.2.2.2.1 _ har) (g := F0 m pc ls (.int n :: st)) rfl hd rfl hn hN (by rw [hty]; exact hby) hc hs hsz (fun H1 cx e1 z1 o1 hAr hNm => ?_) T0 hT0 X
  have hKq := C.2.2.2.2.2.1.2.1 T.length (N, t) hTT
  have hcx : cx = cA T.length := by
    have h2 := hra (hKq.2 0 _ rfl).2
    rw [hty] at hNm
    exact Option.some.inj (hNm.symm.trans h2)
  subst hcx
  refine kk H1 locs ls (by rw [List.length_append, z1]; show b0 + (T.length + 1) ≤ b0 + T.length + 1; omega) ?_ (fun i hi => ?_) ⟨Nat.le_trans hS.1 (by omega), fun x h1 h2 => (o1 x (by have := hS.1; omega)).trans (hS.2.1 x h1 h2), hS.2.2⟩ hl
  · rw [jws_app, jws_V]
    refine va_P.app (hP.kept (fun k x hx => o1 _ (by have := (hP k x hx).lt; omega))) (fun k x hx => ?_)
    have hk0 : k = 0 := by have := (List.getElem?_eq_some_iff.mp hx).1; simp at this; exact this
    subst hk0
    cases hx
    show H1[adb b0 T.length]? = some (vp_cell (cA T.length) (N, .inl (va_up V T.length (fun _ => 0) T.length)))
    rw [va_up_self, ← hdef, e1, hty]
  · rw [List.length_append] at hi
    rcases Nat.lt_or_ge i T.length with h | h
    · exact hA i h
    · have : i = T.length := by simp at hi; omega
      subst this
      exact C.2.2.2.2.2.2.1 _ (by rw [← hsz]; exact hS.1)
theorem jc_new (C : jCc p s m args c D TT cA A cc nL own B) {ci N index : Nat} {Cn : String} {Tn : u_T} {ty0 : Nat → FieldType} {sl : List (Nat × Nat)} (hq : s.heap.size + kc = b0 + T.length) (hc : vwCl[ci]? = some (Cn, Tn, N)) (hin : ∀ w ∈ u_ws Cn Tn N, w ∈ bg) (hty : ∀ k, k < N → parseFieldDescriptor (Tn k).2.2.1 = some (ty0 k)) (hck : Cond.classLink own index Cn ∈ bg) (hins : Cond.instantiable Cn N ∈ bg) (hini : Cond.initialized Cn ∈ bg)
    (hfs : ∀ j, j < N → defaultValue (ty0 j) = vp_V (jfs (adb b0) S L T.length sl) j) (hcl : kc + 1 ≤ R.cells) (hsl : ks + N ≤ R.slots) (hd : decode cc pc = .ok (.new index, 3))
    (kk : jWc p l e R s m args below meth c Q D (T ++ [.inl (ci, sl)]) b0 cA A nL (kc + 1) (ks + N) (pc + 3) lv (.ref (adb b0 T.length) :: st) S V L) : jWc p l e R s m args below meth c Q D T b0 cA A nL kc ks pc lv st S V L := by
  intro H locs ls hz hP hA hS hl T0 hT0 X
  have hup : T0.heap.size ≤ s.heap.size + kc := X.heapSize
  have hsz : H.size = adb b0 T.length := by rw [hT0] at hup; show H.size = b0 + T.length; omega
  have hKn := C.2.2.2.2.2.1.1.1 ci _ hc
  have hts := C.2.2.2.2.1
  refine W.newcK C.1 C.2.1 C.2.2.2.1 (hts _ hck) (hts _ hins) (hts _ hini) (g := F0 m pc ls st) rfl hd hcl hsl hKn.2.1 hsz (fun H1 kC hkC e1 z1 o1 => ?_) T0 hT0 X
  refine kk H1 locs ls (by rw [List.length_append, z1]; show b0 + (T.length + 1) ≤ b0 + T.length + 1; omega) ?_ (fun i hi => ?_) ⟨Nat.le_trans hS.1 (by omega), fun x h1 h2 => (o1 x (by have := hS.1; omega)).trans (hS.2.1 x h1 h2), hS.2.2⟩ hl
  · rw [jws_app]
    refine va_P.app (hP.kept (fun k x hx => o1 _ (by have := (hP k x hx).lt; omega))) (fun k x hx => ?_)
    have hk0 : k = 0 := by have := (List.getElem?_eq_some_iff.mp hx).1; simp at this; exact this
    subst hk0
    cases hx
    exact ⟨_, hc, (u_born ty0 hts hin hKn hkC e1 hty).to hfs⟩
  · rw [List.length_append] at hi
    rcases Nat.lt_or_ge i T.length with h | h
    · exact hA i h
    · have : i = T.length := by simp at hi; omega
      subst this
      exact C.2.2.2.2.2.2.1 _ (by rw [← hsz]; exact hS.1)
end JCR
/-- a constructor's contract: the table T becomes T2 -/
def jPk (D : va_G) (TT T : jT) (b0 : Nat) (cA : Nat → ClassId) (av : List Value) (S : Nat → Int32) (V : Nat → Nat → Int32) (L : Nat → Int64) (B : jBT) : Array Value → State → Prop := va_Pc av (fun U => U.heap.size = b0 + T.length ∧ va_P D vwCl (jws T (adb b0) cA S V L) U.heap ∧ jK D TT cA U ∧ jBk B (jA (adb b0) T (b0 + T.length)) U U.heap)
def jQk (D : va_G) (T T2 : jT) (b0 : Nat) (cA : Nat → ClassId) (S2 : Nat → Int32) (V2 : Nat → Nat → Int32) (L2 : Nat → Int64) : Array Value → State → Outcome → State → Prop := fun _ st oc t => (oc = .returned none ∧ b0 + T2.length ≤ t.heap.size ∧ va_P D vwCl (jws T2 (adb b0) cA S2 V2 L2) t.heap) ∧ va_F (jA (adb b0) T (b0 + T.length)) st t
def jMc (l : Launch) (y : MethodName) (bytes : ByteArray) (maxL : Nat) (rm : Room) (B : jBT) (D : va_G) (TT T : jT) (b0 : Nat) (cA : Nat → ClassId) (av : List Value) (S : Nat → Int32) (V : Nat → Nat → Int32) (L : Nat → Int64) (T2 : jT) (S2 : Nat → Int32) (V2 : Nat → Nat → Int32) (L2 : Nat → Int64) (mc ms : Nat) : Prop :=
  Met l y (Cond.code y bytes maxL none :: bg) rm (jPk D TT T b0 cA av S V L B) (jQk D T T2 b0 cA S2 V2 L2) mc ms (jA (adb b0) T (b0 + T.length))
theorem jMc_of {l : Launch} {y : MethodName} {bytes : ByteArray} {maxL mc ms : Nat} {rm : Room} {B : jBT} {D : va_G} {TT T T2 : jT} {b0 : Nat} {cA : Nat → ClassId} {av : List Value} {S S2 : Nat → Int32} {V V2 : Nat → Nat → Int32} {L L2 : Nat → Int64} (hy : plainName y.cls = true) (hn : (lg_sl av).length ≤ maxL)
    (body : ∀ (p : Program) (e : Env) (s : State) (m : MethodId) (args : Array Value) (below : List Frame) (meth : Method) (c : Code), jCc p s m args c D TT cA (jA (adb b0) T s.heap.size) bytes maxL y.cls B → meth.sig.returnType = none → meth.locks = false → meth.name = y.name → s.heap.size = b0 + T.length →
      jWc p l e rm s m args below meth c (MQ below (jQk D T T2 b0 cA S2 V2 L2) args s mc ms (jA (adb b0) T s.heap.size)) D T b0 cA (jA (adb b0) T s.heap.size) maxL 0 0 0 (lv_args 0 av) [] S V L) :
    jMc l y bytes maxL rm B D TT T b0 cA av S V L T2 S2 V2 L2 mc ms := by
  refine Met.ofW (cc := bytes) (maxL := maxL) (ret := none) hy rfl ?_
  intro p e s m args below meth c s₁ B hml hv
  obtain ⟨rfl, hsz, hP, hK, hB⟩ := hv
  have hts := atoms_spec (ws := Cond.code y bytes maxL none :: bg) B.pre
  have hown : s.vm.findClass y.cls = some m.cls := findClass_of_methodNamed B.named
  rw [lg_entry_eq, ← hsz]
  rw [← hsz] at hB
  exact body p e s m _ below meth c ⟨B.exec, B.bytes, hml, hown, fun w h => hts w (List.mem_cons_of_mem _ h), hK, fun q hq => Or.inr hq, hB⟩ B.returns B.notSynchronized (name_of_methodNamed B.named B.method).1 hsz s.heap [] _ (Nat.le_of_eq hsz.symm) hP (fun i hi => Or.inl ⟨i, hi, rfl⟩) va_S.rf (lv_entry av hn)
section JCE
variable {p : Program} {l : Launch} {e : Env} {R : Room} {s : State} {m : MethodId} {args : Array Value} {below : List Frame} {meth : Method} {c : Code} {Q : State → Prop} {D : va_G} {T T0 TT : jT} {b0 : Nat} {cA : Nat → ClassId} {A : Nat → Prop} {cc : ByteArray} {nL kc ks : Nat} {own : String} {B : jBT}
variable {pc : Nat} {lv : List (Nat × Value)} {st : List Value} {S : Nat → Int32} {V : Nat → Nat → Int32} {L : Nat → Int64}
theorem jc_ret (C : jCc p s m args c D TT cA A cc nL own B) (hr : meth.sig.returnType = none) (hlk : meth.locks = false) (hsz : s.heap.size = b0 + T0.length) (hA : A = jA (adb b0) T0 s.heap.size) (hd : decode cc pc = .ok (.return_, 1)) :
    jWc p l e R s m args below meth c (MQ below (jQk D T0 T b0 cA S V L) args s kc ks (jA (adb b0) T0 s.heap.size)) D T b0 cA A nL kc ks pc lv [] S V L := by
  subst hA
  exact fun H locs ls hz hP hA hS hl => W.vret C.1 C.2.1 hr (fun t ht _ => ⟨⟨rfl, by rw [ht]; exact hz, by rw [ht]; exact hP⟩, by rw [← hsz]; exact hS.F ht⟩) hS.2.2 hd hlk
theorem jPk_blind {av : List Value} : FrameBlind (jPk D TT T b0 cA av S V L B) := fun a U g mk q => by
  obtain ⟨q0, q1, qP, qK, qB⟩ := q
  exact ⟨q0, q1, qP, jK.same (s := U) (U := U.calling g mk a) rfl qK, jBk.same (s := U) (U := U.calling g mk a) rfl qB⟩
theorem jc_after {rest : List Value} {T2 : jT} {mc ms : Nat} {S2 : Nat → Int32} {V2 : Nat → Nat → Int32} {L2 : Nat → Int64} {H : Heap} {locs : List Loc} {ls : Array Slot} {a : Array Value} (C : jCc p s m args c D TT cA A cc nL own B) (hAT : ∀ i, i < T.length → A (adb b0 i)) (hS : va_S A s.heap H locs) (hl : lv_has ls nL lv) (hH : H.size = b0 + T.length)
    (hr : va_Run p l e R s m args below meth c H locs kc ks mc ms (F0 m pc ls st) rest (jQk D T T2 b0 cA S2 V2 L2 a) (jA (adb b0) T (b0 + T.length)))
    (kk : jWc p l e R s m args below meth c Q D T2 b0 cA A nL (kc + mc) (ks + ms) (pc + 3) lv rest S2 V2 L2) : W p l e R s m args below meth c H locs kc ks Q (F0 m pc ls st) := by
  intro T0 hT0 X
  obtain ⟨v, st₀, t, T', L', h0, X', hL, e1, e2, ⟨⟨hv, hz2, hP2⟩, hz, hk⟩, stp⟩ := hr T0 hT0 X
  cases hv
  rw [h0] at hz hk
  have hfr : ∀ q, jA (adb b0) T (b0 + T.length) q → A q := fun q h => by
    rcases h with ⟨j, hj, rfl⟩ | h
    · exact hAT j hj
    · exact C.2.2.2.2.2.2.1 q (Nat.le_trans hS.1 (by rw [hH]; exact h))
  have hS2 : va_S A s.heap T'.heap (locs ++ L') := by
    refine ⟨Nat.le_trans hS.1 (by rw [e1]; exact hz), fun q h1 h2 => ?_, fun q hq => ?_⟩
    · have hq : q < H.size := Nat.lt_of_lt_of_le h1 hS.1
      rw [e1, hk q hq (fun z => h2 (hfr q z))]
      exact hS.2.1 q h1 h2
    · rcases List.mem_append.mp hq with h | h
      · exact hS.2.2 q h
      · exact hfr _ (hL q h)
  have hA2 : ∀ i, i < T2.length → A (adb b0 i) := fun i _ => by
    rcases Nat.lt_or_ge i T.length with h | h
    · exact hAT i h
    · exact C.2.2.2.2.2.2.1 _ (by have := hS.1; show s.heap.size ≤ b0 + i; omega)
  obtain ⟨t2, a1, b1⟩ := kk T'.heap (locs ++ L') ls (by rw [e1]; exact hz2) (by rw [e1]; exact hP2) hA2 hS2 hl T' rfl X'
  exact ⟨t2, stp t2 a1, b1⟩
theorem jc_bk {H : Heap} {locs : List Loc} (C : jCc p s m args c D TT cA A cc nL own B) (hAT : ∀ i, i < T.length → A (adb b0 i)) (hS : va_S A s.heap H locs) (hH : H.size = b0 + T.length) : jBk B (jA (adb b0) T (b0 + T.length)) s H := (C.2.2.2.2.2.2.2.kept hS.2.1).narrow (fun q h => by
  rcases h with ⟨j, hj, rfl⟩ | h
  · exact hAT j hj
  · exact C.2.2.2.2.2.2.1 q (Nat.le_trans hS.1 (by rw [hH]; exact h)))
theorem jc_init {q idx n maxL mc ms : Nat} {y : MethodName} {bytes : ByteArray} {rm : Room} {As rest : List Value} {T2 : jT} {S2 : Nat → Int32} {V2 : Nat → Nat → Int32} {L2 : Nat → Int64} (C : jCc p s m args c D TT cA A cc nL own B) (hq : s.heap.size + kc = b0 + T.length)
    (hM : jMc l y bytes maxL rm B D TT T b0 cA (.ref (adb b0 q) :: As) S V L T2 S2 V2 L2 mc ms) (hw : jmw y bytes maxL none n) (hi : Cond.instanceMethod y ∈ bg) (hlk : Cond.methodLink own idx y ∈ bg) (hyn : y.name = "<init>")
    (hrm : rm.cells = mc ∧ rm.slots = ms ∧ rm.frames + 1 ≤ R.frames ∧ 8 + (maxL + 11) + rm.locals ≤ R.locals) (hkr : kc + mc ≤ R.cells ∧ ks + ms ≤ R.slots) (hn : As.length = n) (hst : st = As.reverse ++ .ref (adb b0 q) :: rest) (h8 : (rest.map fun v => v.category).sum ≤ 8) (hd : decode cc pc = .ok (.invokespecial idx, 3))
    (kk : jWc p l e R s m args below meth c Q D T2 b0 cA A nL (kc + mc) (ks + ms) (pc + 3) lv rest S2 V2 L2) : jWc p l e R s m args below meth c Q D T b0 cA A nL kc ks pc lv st S V L := by
  subst hst
  intro H locs ls hz hP hA hS hl T0 hT0 X
  have hup : T0.heap.size ≤ s.heap.size + kc := X.heapSize
  have hH : H.size = b0 + T.length := by rw [hT0] at hup; omega
  have hts := C.2.2.2.2.1
  refine jc_after C hA hS hl hH (va_runI (Ts := bg) (As := As) (rest := rest) (n := n) ⟨C.1, C.2.1, C.2.2.1, C.2.2.2.1, hts⟩ hM ⟨callB_of n hts (bg_g0 (fun w h => ?_)) rfl hrm.1 hrm.2.1 (hts _ hw.2.1) (hts _ hlk) hw.2.2 ⟨hrm.2.2.1, hrm.2.2.2⟩, hyn, hts _ hi⟩ ⟨jPk_blind, fun U hU hW => ⟨rfl, by rw [hU]; exact hH, by rw [hU]; exact hP, C.2.2.2.2.2.1.warm hW, by rw [hU]; exact (jc_bk C hA hS hH).warm hW⟩⟩ rfl hn hl.1 rfl (lv_room h8) hd hkr) kk T0 hT0 X
  rcases List.mem_cons.mp h with h | h
  · rw [h]; exact hw.1
  · exact h
theorem jc_initN {q idx n maxL mc ms : Nat} {y : MethodName} {host : String} {bytes : ByteArray} {rm : Room} {As rest : List Value} {T2 : jT} {S2 : Nat → Int32} {V2 : Nat → Nat → Int32} {L2 : Nat → Int64} (C : jCc p s m args c D TT cA A cc nL own B) (hq : s.heap.size + kc = b0 + T.length)
    (hM : jMc l y bytes maxL rm B D TT T b0 cA (.ref (adb b0 q) :: As) S V L T2 S2 V2 L2 mc ms) (hw : jmw y bytes maxL none n) (hi : Cond.instanceMethod y ∈ bg) (hlk : (own, idx, y, host) ∈ nw) (hyn : y.name = "<init>")
    (hrm : rm.cells = mc ∧ rm.slots = ms ∧ rm.frames + 1 ≤ R.frames ∧ 8 + (maxL + 11) + rm.locals ≤ R.locals) (hkr : kc + mc ≤ R.cells ∧ ks + ms ≤ R.slots) (hn : As.length = n) (hst : st = As.reverse ++ .ref (adb b0 q) :: rest) (h8 : (rest.map fun v => v.category).sum ≤ 8) (hd : decode cc pc = .ok (.invokespecial idx, 3))
    (kk : jWc p l e R s m args below meth c Q D T2 b0 cA A nL (kc + mc) (ks + ms) (pc + 3) lv rest S2 V2 L2) : jWc p l e R s m args below meth c Q D T b0 cA A nL kc ks pc lv st S V L := by
  subst hst
  intro H locs ls hz hP hA hS hl T0 hT0 X
  have hup : T0.heap.size ≤ s.heap.size + kc := X.heapSize
  have hH : H.size = b0 + T.length := by rw [hT0] at hup; omega
  have hts := C.2.2.2.2.1
  refine jc_after C hA hS hl hH (va_runIN (Ts := bg) (As := As) (rest := rest) (n := n) ⟨C.1, C.2.1, C.2.2.1, C.2.2.2.1, hts⟩ hM ⟨va_cnB n hts (bg_g0 (fun w h => ?_)) rfl hrm.1 hrm.2.1 (C.2.2.2.2.2.1.2.2.1 _ hlk) (hts _ hw.2.1) hw.2.2 ⟨hrm.2.2.1, hrm.2.2.2⟩, hyn, hts _ hi⟩ ⟨jPk_blind, fun U hU hW => ⟨rfl, by rw [hU]; exact hH, by rw [hU]; exact hP, C.2.2.2.2.2.1.warm hW, by rw [hU]; exact (jc_bk C hA hS hH).warm hW⟩⟩ rfl hn hl.1 rfl (lv_room h8) hd hkr) kk T0 hT0 X
  rcases List.mem_cons.mp h with h | h
  · rw [h]; exact hw.1
  · exact h
end JCE
