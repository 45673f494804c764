/-! ===== the law: calls ===== -/
section JL2
variable {p : Program} {l : Launch} {e : Env} {s : State} {m : MethodId} {args : Array Value} {below : List Frame} {meth : Method} {c : Code} {Q : State → Prop} {D : va_G} {cA cR : Nat → ClassId} {cO : ClassId} {kc ks : Nat} {B : jBT} {b Ln : Nat} {xs : Nat → Int32}
variable {pc : Nat} {lv : List (Nat × Value)} {st : List Value} {S : Nat → Int32} {V : Nat → Nat → Int32} {S' : Nat → Int32} {V' : Nat → Nat → Int32} {L' : Nat → Int64} {o : Nat → Int64}
theorem TC_len : TC.length = 63 := rfl
theorem TR_len : TR.length = 24 := rfl
theorem jws_keep {T : jT} {ad : Nat → Nat} {cA : Nat → ClassId} {S : Nat → Int32} {V : Nat → Nat → Int32} {L : Nat → Int64} {H H1 : Heap} (hP : va_P D vwCl (jws T ad cA S V L) H) (hk : ∀ j, j < T.length → ad j < H.size → H1[ad j]? = H[ad j]?) : va_P D vwCl (jws T ad cA S V L) H1 := fun k q hq => by
  have h := hP k q hq
  refine h.kept ?_
  have hlt := h.lt
  rw [jws_get] at hq
  cases hd : T[k]? with
  | none => rw [hd] at hq; cases hq
  | some d => rw [hd] at hq; cases hq; exact hk k (List.getElem?_eq_some_iff.mp hd).1 hlt
/-- what a call within one of the tables leaves of the world -/
theorem jl_S {A : Nat → Prop} {H : Heap} {T' t : State} {locs Lx : List Loc} (hsub : ∀ q, A q → s.heap.size ≤ q) (hS : va_S (fun q => s.heap.size ≤ q) s.heap H locs) (e1 : T'.heap = t.heap) (hz : H.size ≤ t.heap.size) (hk : ∀ q : Nat, q < H.size → ¬ A q → t.heap[q]? = H[q]?) (hL : ∀ q ∈ Lx, A q.base) : va_S (fun q => s.heap.size ≤ q) s.heap T'.heap (locs ++ Lx) := by
  refine ⟨Nat.le_trans hS.1 (by rw [e1]; exact hz), fun q h1 h2 => ?_, fun q hq => ?_⟩
  · have hq : q < H.size := Nat.lt_of_lt_of_le h1 hS.1
    rw [e1, hk q hq (fun z => h2 (hsub q z))]
    exact hS.2.1 q h1 h2
  · rcases List.mem_append.mp hq with h | h
    · exact hS.2.2 q h
    · exact hsub _ (hL q h)
theorem jl_subC {H : Heap} (hz : s.heap.size ≤ H.size) : ∀ q, jA (adb s.heap.size) TC H.size q → s.heap.size ≤ q := fun q h => by
  rcases h with ⟨j, hj, rfl⟩ | h
  · exact Nat.le_add_right _ _
  · exact Nat.le_trans hz h
theorem jl_subR {H : Heap} (hz : s.heap.size ≤ H.size) : ∀ q, jA (adb (s.heap.size + 63)) TR H.size q → s.heap.size ≤ q := fun q h => by
  rcases h with ⟨j, hj, rfl⟩ | h
  · show s.heap.size ≤ s.heap.size + 63 + j
    omega
  · exact Nat.le_trans hz h
theorem jl_subO {H : Heap} (hz : s.heap.size ≤ H.size) : ∀ q, jAo (adb s.heap.size) (s.heap.size + 87) H.size q → s.heap.size ≤ q := fun q h => by
  rcases h with h | h
  · exact jl_subC hz q h
  · omega
/-- the reference's table outlives what the class and the row out do -/
theorem jl_keepR {H H1 : Heap} (hP : va_P D vwCl (jws TR (adb (s.heap.size + 63)) cR S' V' L') H) (hk : ∀ q : Nat, q < H.size → ¬ jAo (adb s.heap.size) (s.heap.size + 87) H.size q → H1[q]? = H[q]?) : va_P D vwCl (jws TR (adb (s.heap.size + 63)) cR S' V' L') H1 := by
  refine jws_keep hP (fun j hj hlt => hk _ hlt (fun h => ?_))
  rw [TR_len] at hj
  have e0 : adb (s.heap.size + 63) j = s.heap.size + 63 + j := rfl
  rcases h with (⟨i, hi, h⟩ | h) | h
  · rw [TC_len] at hi
    have e1 : adb s.heap.size i = s.heap.size + i := rfl
    omega
  · omega
  · omega
theorem jl_keepO {H H1 : Heap} (hP : va_P D vwCl (jwo (adb s.heap.size) cA (s.heap.size + 87) cO S V (fun _ => 0) o) H) (hk : ∀ q : Nat, q < H.size → ¬ jA (adb (s.heap.size + 63)) TR H.size q → H1[q]? = H[q]?) : va_P D vwCl (jwo (adb s.heap.size) cA (s.heap.size + 87) cO S V (fun _ => 0) o) H1 := by
  obtain ⟨h1, h2⟩ := vp_cons.mp hP
  have hn : ∀ q : Nat, (q < s.heap.size + 63 ∨ q = s.heap.size + 87) → q < H.size → ¬ jA (adb (s.heap.size + 63)) TR H.size q := fun q hq hlt h => by
    rcases h with ⟨i, hi, h⟩ | h
    · rw [TR_len] at hi
      have e1 : adb (s.heap.size + 63) i = s.heap.size + 63 + i := rfl
      omega
    · omega
  refine vp_cons.mpr ⟨h1.kept (hk _ h1.lt (hn _ (Or.inr rfl) h1.lt)), jws_keep h2 (fun j hj hlt => hk _ hlt (hn _ (Or.inl ?_) hlt))⟩
  rw [TC_len] at hj
  show s.heap.size + j < s.heap.size + 63
  omega
theorem jl_outC {H H1 : Heap} (hP : va_P D vwCl (jwo (adb s.heap.size) cA (s.heap.size + 87) cO S V (fun _ => 0) o) H) {S2 : Nat → Int32} {V2 : Nat → Nat → Int32} (hk : ∀ q : Nat, q < H.size → ¬ jA (adb s.heap.size) TC H.size q → H1[q]? = H[q]?) (hP2 : va_P D vwCl (jws TC (adb s.heap.size) cA S2 V2 (fun _ => 0)) H1) : va_P D vwCl (jwo (adb s.heap.size) cA (s.heap.size + 87) cO S2 V2 (fun _ => 0) o) H1 := by
  obtain ⟨h1, h2⟩ := vp_cons.mp hP
  refine vp_cons.mpr ⟨h1.kept (hk _ h1.lt (fun h => ?_)), hP2⟩
  have hlt := h1.lt
  rcases h with ⟨i, hi, h⟩ | h
  · rw [TC_len] at hi
    have e1 : adb s.heap.size i = s.heap.size + i := rfl
    omega
  · omega
theorem jl_bk {A : Nat → Prop} {H : Heap} {locs : List Loc} (C : jCl p l s m args meth c D cA cR cO B b Ln xs) (hS : va_S (fun q => s.heap.size ≤ q) s.heap H locs) (hA : ∀ q, A q → s.heap.size ≤ q) : jBk B A s H := (C.2.2.2.2.2.2.1.kept hS.2.1).narrow hA
/-- a method of the class that throws nothing -/
theorem jl_callC {idx n maxL : Nat} {y : MethodName} {bytes : ByteArray} {ret : Option FieldType} {rm : Room} {As rest : List Value} {rv : Option Value} {S2 : Nat → Int32} {V2 : Nat → Nat → Int32} (C : jCl p l s m args meth c D cA cR cO B b Ln xs)
    (hM : jM l y bytes maxL ret rm B D TC (adb s.heap.size) cA (.ref (adb s.heap.size 0) :: As) S V (fun _ => 0) rv S2 V2 (fun _ => 0)) (hw : jmw y bytes maxL ret n) (hi : Cond.instanceMethod y ∈ bg) (hse : Cond.selects y.cls y y ∈ bg) (hlk : Cond.methodLink "ClockLodgersLaw" idx y ∈ bg) (hrc : RX11 = y.cls)
    (hrm : rm.cells = 0 ∧ rm.slots = 0 ∧ rm.frames + 1 ≤ room_1.frames ∧ 8 + (maxL + 11) + rm.locals ≤ room_1.locals) (hkr : kc ≤ room_1.cells ∧ ks ≤ room_1.slots) (hn : As.length = n) (hst : st = As.reverse ++ .ref (s.heap.size) :: rest) (h8 : (rest.map fun v => v.category).sum ≤ 8) (hd : decode code pc = .ok (.invokevirtual idx, 3))
    (kk : jWl p l e s m args below meth c Q D cA cR cO kc ks (pc + 3) lv (rv.toList ++ rest) S2 V2 S' V' L' o) : jWl p l e s m args below meth c Q D cA cR cO kc ks pc lv st S V S' V' L' o := fun H locs ls hP hS hl => by
  subst hst
  have hts := C.2.2.2.2.1
  have hPc := (vp_cons.mp hP.1).2
  have hcell := va_recv C.2.2.2.2.2.1.1.1 hPc (ci := 11) (q0 := 0) (q := (RX11, TX11, 16)) rfl (jws_at tc_0)
  have hcell2 : ∃ cell : Cell, H[s.heap.size]? = some cell ∧ cell.vm.isStatics = false ∧ s.vm.findClass y.cls = some cell.cls := by rw [← hrc]; exact hcell
  have hr := va_runV (p := p) (e := e) (below := below) (meth := meth) (locs := locs) (cells := kc) (slots := ks) (Ts := bg) (As := As) (rest := rest) (n := n) (C := y.cls) (b := s.heap.size) (own := "ClockLodgersLaw") (index := idx) (H := H) (g := F0 m pc ls (As.reverse ++ .ref s.heap.size :: rest)) ⟨C.1, C.2.1, C.2.2.1, C.2.2.2.1, hts⟩ (hM H.size) ⟨callB_of (bytes := bytes) (maxL := maxL) (ret := ret) n hts (bg_g0 (fun w h => by
      rcases List.mem_cons.mp h with h | h
      · rw [h]; exact hw.1
      · exact h)) rfl hrm.1 hrm.2.1 (hts _ hw.2.1) (hts _ hlk) hw.2.2 ⟨hrm.2.2.1, hrm.2.2.2⟩, hts _ hi, hts _ hse⟩ ⟨jPc_blind, hcell2, fun U hU hW => ⟨rfl, by rw [hU], by rw [hU]; exact hPc, C.2.2.2.2.2.1.1.warm hW, by rw [hU]; exact (jl_bk C hS (jl_subC hS.1)).warm hW⟩⟩ rfl hn hl.1 rfl (lv_room h8) hd ⟨hkr.1, hkr.2⟩
  intro T0 hT0 X
  obtain ⟨v, st₀, t, T', Lx, h0, X', hL, e1, e2, ⟨⟨hv, hP2⟩, hz, hk⟩, stp⟩ := hr T0 hT0 X
  cases hv
  rw [h0] at hz hk
  obtain ⟨t2, a1, b1⟩ := kk T'.heap (locs ++ Lx) ls (by rw [e1]; exact ⟨jl_outC hP.1 hk hP2, jl_keepR hP.2 (fun q h1 h2 => hk q h1 (fun h => h2 (Or.inl h)))⟩) (jl_S (jl_subC hS.1) hS e1 hz hk hL) hl T' rfl X'
  exact ⟨t2, stp t2 a1, b1⟩
/-- a method of the reference -/
theorem jl_callR {idx n maxL : Nat} {y : MethodName} {bytes : ByteArray} {ret : Option FieldType} {rm : Room} {As rest : List Value} {rv : Option Value} {S2 : Nat → Int32} {V2 : Nat → Nat → Int32} {L2 : Nat → Int64} (C : jCl p l s m args meth c D cA cR cO B b Ln xs)
    (hM : jM l y bytes maxL ret rm B D TR (adb (s.heap.size + 63)) cR (.ref (adb (s.heap.size + 63) 0) :: As) S' V' L' rv S2 V2 L2) (hw : jmw y bytes maxL ret n) (hi : Cond.instanceMethod y ∈ bg) (hse : Cond.selects y.cls y y ∈ bg) (hlk : Cond.methodLink "ClockLodgersLaw" idx y ∈ bg) (hrc : RX12 = y.cls)
    (hrm : rm.cells = 0 ∧ rm.slots = 0 ∧ rm.frames + 1 ≤ room_1.frames ∧ 8 + (maxL + 11) + rm.locals ≤ room_1.locals) (hkr : kc ≤ room_1.cells ∧ ks ≤ room_1.slots) (hn : As.length = n) (hst : st = As.reverse ++ .ref (s.heap.size + 63) :: rest) (h8 : (rest.map fun v => v.category).sum ≤ 8) (hd : decode code pc = .ok (.invokevirtual idx, 3))
    (kk : jWl p l e s m args below meth c Q D cA cR cO kc ks (pc + 3) lv (rv.toList ++ rest) S V S2 V2 L2 o) : jWl p l e s m args below meth c Q D cA cR cO kc ks pc lv st S V S' V' L' o := fun H locs ls hP hS hl => by
  subst hst
  have hts := C.2.2.2.2.1
  have hcell := va_recv C.2.2.2.2.2.1.1.1 hP.2 (ci := 12) (q0 := 0) (q := (RX12, TX12, 60)) rfl (jws_at tr_0)
  have hcell2 : ∃ cell : Cell, H[s.heap.size + 63]? = some cell ∧ cell.vm.isStatics = false ∧ s.vm.findClass y.cls = some cell.cls := by rw [← hrc]; exact hcell
  have hr := va_runV (p := p) (e := e) (below := below) (meth := meth) (locs := locs) (cells := kc) (slots := ks) (Ts := bg) (As := As) (rest := rest) (n := n) (C := y.cls) (b := s.heap.size + 63) (own := "ClockLodgersLaw") (index := idx) (H := H) (g := F0 m pc ls (As.reverse ++ .ref (s.heap.size + 63) :: rest)) ⟨C.1, C.2.1, C.2.2.1, C.2.2.2.1, hts⟩ (hM H.size) ⟨callB_of (bytes := bytes) (maxL := maxL) (ret := ret) n hts (bg_g0 (fun w h => by
      rcases List.mem_cons.mp h with h | h
      · rw [h]; exact hw.1
      · exact h)) rfl hrm.1 hrm.2.1 (hts _ hw.2.1) (hts _ hlk) hw.2.2 ⟨hrm.2.2.1, hrm.2.2.2⟩, hts _ hi, hts _ hse⟩ ⟨jPc_blind, hcell2, fun U hU hW => ⟨rfl, by rw [hU], by rw [hU]; exact hP.2, C.2.2.2.2.2.1.2.1.warm hW, by rw [hU]; exact (jl_bk C hS (jl_subR hS.1)).warm hW⟩⟩ rfl hn hl.1 rfl (lv_room h8) hd ⟨hkr.1, hkr.2⟩
  intro T0 hT0 X
  obtain ⟨v, st₀, t, T', Lx, h0, X', hL, e1, e2, ⟨⟨hv, hP2⟩, hz, hk⟩, stp⟩ := hr T0 hT0 X
  cases hv
  rw [h0] at hz hk
  obtain ⟨t2, a1, b1⟩ := kk T'.heap (locs ++ Lx) ls (by rw [e1]; exact ⟨jl_keepO hP.1 hk, hP2⟩) (jl_S (jl_subR hS.1) hS e1 hz hk hL) hl T' rfl X'
  exact ⟨t2, stp t2 a1, b1⟩
theorem jPo_blind {ad : Nat → Nat} {ao : Nat} {av : List Value} {sz : Nat} {L : Nat → Int64} : FrameBlind (jPo D ad cA ao cO av sz S V L o B) := fun a U g mk q => by
  obtain ⟨q0, q1, qP, ⟨qK, qO, qN⟩, qB⟩ := q
  exact ⟨q0, q1, qP, ⟨jK.same (s := U) (U := U.calling g mk a) rfl qK, va_K.moved (u := U) (U := U.calling g mk a) (Vm.Alike.refl _) qO, va_Nc.moved (u := U) (U := U.calling g mk a) (Vm.Alike.refl _) qN⟩, jBk.same (s := U) (U := U.calling g mk a) rfl qB⟩
/-- a method of the law's own over the class -/
theorem jl_callW {idx n maxL mc ms : Nat} {y : MethodName} {bytes : ByteArray} {hh : List (Nat × Nat × Nat × Nat)} {rm : Room} {As rest : List Value} {k : Int32} {S2 : Nat → Int32} {V2 : Nat → Nat → Int32} {o2 : Nat → Int64} (C : jCl p l s m args meth c D cA cR cO B b Ln xs)
    (hM : jMo l y bytes maxL hh rm B D (adb s.heap.size) cA (s.heap.size + 87) cO As S V (fun _ => 0) o k S2 V2 (fun _ => 0) o2 mc ms) (hcw : Cond.codeWith y bytes maxL (some .int) hh ∈ bg) (hin : Cond.initialized y.cls ∈ bg) (hi : Cond.static y ∈ bg) (hlk : Cond.methodLink "ClockLodgersLaw" idx y ∈ bg) (hy : y.cls ≠ "java/lang/invoke/MethodHandle" ∧ y.cls ≠ "java/lang/invoke/VarHandle" ∧ (parseMethodDescriptor y.desc).map (fun d => d.parameters.length) = some n)
    (hrm : rm.cells = mc ∧ rm.slots = ms ∧ rm.frames + 1 ≤ room_1.frames ∧ 8 + (maxL + 11) + rm.locals ≤ room_1.locals) (hkr : kc + mc ≤ room_1.cells ∧ ks + ms ≤ room_1.slots) (hn : As.length = n) (hst : st = As.reverse ++ rest) (h8 : (rest.map fun v => v.category).sum ≤ 8) (hd : decode code pc = .ok (.invokestatic idx, 3))
    (kk : jWl p l e s m args below meth c Q D cA cR cO (kc + mc) (ks + ms) (pc + 3) lv (.int k :: rest) S2 V2 S' V' L' o2) : jWl p l e s m args below meth c Q D cA cR cO kc ks pc lv st S V S' V' L' o := fun H locs ls hP hS hl => by
  subst hst
  have hts := C.2.2.2.2.1
  have hgi : GoodIn bg (va_wsS "ClockLodgersLaw" idx y (Cond.codeWith y bytes maxL (some .int) hh :: bg)) := bg_g0 (fun w h => by
    unfold va_wsS at h
    rcases List.mem_append.mp h with h | h
    · simp only [List.mem_cons, List.not_mem_nil, or_false] at h
      rcases h with h | h | h <;> (rw [h]; assumption)
    · rcases List.mem_cons.mp h with h | h
      · rw [h]; exact hcw
      · exact h)
  have hr := vx_runSW (p := p) (e := e) (below := below) (meth := meth) (locs := locs) (cells := kc) (slots := ks) (Ts := bg) (As := As) (rest := rest) (n := n) (own := "ClockLodgersLaw") (index := idx) (H := H) (g := F0 m pc ls (As.reverse ++ rest)) ⟨C.1, C.2.1, C.2.2.1, C.2.2.2.1, hts⟩ (hM H.size) (vx_cwSW (bytes := bytes) (maxL := maxL) (ret := some .int) (hh := hh) n hts hgi rfl hrm.1 hrm.2.1 hy ⟨hrm.2.2.1, hrm.2.2.2⟩)
    ⟨jPo_blind, fun U hU hW => ⟨rfl, by rw [hU], by rw [hU]; exact hP.1, ⟨C.2.2.2.2.2.1.1.warm hW, va_K.moved hW.alike C.2.2.2.2.2.1.2.2.1, va_Nc.moved hW.alike C.2.2.2.2.2.1.2.2.2⟩, by rw [hU]; exact (jl_bk C hS (jl_subO hS.1)).warm hW⟩⟩ rfl hn hl.1 rfl (lv_room h8) hd hkr
  intro T0 hT0 X
  obtain ⟨v, st₀, t, T', Lx, h0, X', hL, e1, e2, ⟨⟨hv, hP2⟩, hz, hk⟩, stp⟩ := hr T0 hT0 X
  cases hv
  rw [h0] at hz hk
  obtain ⟨t2, a1, b1⟩ := kk T'.heap (locs ++ Lx) ls (by rw [e1]; exact ⟨hP2, jl_keepR hP.2 hk⟩) (jl_S (jl_subO hS.1) hS e1 hz hk hL) hl T' rfl X'
  exact ⟨t2, stp t2 a1, b1⟩
theorem jl_tableOut (C : jCl p l s m args meth c D cA cR cO B b Ln xs) {tgt : Nat} {dflt lo hi : Int} {offs : Array Int} {len : Nat} {x : Int32} (hd : decode code pc = .ok (.tableswitch dflt lo hi offs, len)) (h : x.toInt < lo ∨ hi < x.toInt) (ht : (pc : Int) + dflt = (tgt : Int)) (kk : jWl p l e s m args below meth c Q D cA cR cO kc ks tgt lv st S V S' V' L' o) : jWl p l e s m args below meth c Q D cA cR cO kc ks pc lv (.int x :: st) S V S' V' L' o := fun H locs ls hP hS hl => lv_tableOut C.1 C.2.1 hd h ht (kk H locs ls hP hS hl)
theorem jl_tableIn (C : jCl p l s m args meth c D cA cR cO B b Ln xs) {tgt : Nat} {dflt lo hi off : Int} {offs : Array Int} {len : Nat} {x : Int32} (hd : decode code pc = .ok (.tableswitch dflt lo hi offs, len)) (h1 : ¬ x.toInt < lo) (h2 : ¬ hi < x.toInt) (ho : offs[(x.toInt - lo).toNat]? = some off) (ht : (pc : Int) + off = (tgt : Int)) (kk : jWl p l e s m args below meth c Q D cA cR cO kc ks tgt lv st S V S' V' L' o) : jWl p l e s m args below meth c Q D cA cR cO kc ks pc lv (.int x :: st) S V S' V' L' o := fun H locs ls hP hS hl => lv_tableIn C.1 C.2.1 hd h1 h2 ho ht (kk H locs ls hP hS hl)
theorem jl_icmp_gt (C : jCl p l s m args meth c D cA cR cO B b Ln xs) {tgt : Nat} {x y : Int32} {off : Int} (hd : decode code pc = .ok (.if_icmp .gt off, 3)) (ht : (pc : Int) + off = (tgt : Int)) (kt : y < x → jWl p l e s m args below meth c Q D cA cR cO kc ks tgt lv st S V S' V' L' o) (kf : ¬ y < x → jWl p l e s m args below meth c Q D cA cR cO kc ks (pc + 3) lv st S V S' V' L' o) : jWl p l e s m args below meth c Q D cA cR cO kc ks pc lv (.int y :: .int x :: st) S V S' V' L' o := fun H locs ls hP hS hl => lv_icmp_gt C.1 C.2.1 hd ht (fun h => kt h H locs ls hP hS hl) (fun h => kf h H locs ls hP hS hl)
theorem jl_slen (C : jCl p l s m args meth c D cA cR cO B b Ln xs) (hd : decode code pc = .ok (.arraylength, 1)) (kk : jWl p l e s m args below meth c Q D cA cR cO kc ks (pc + 1) lv (.int (nI Ln) :: st) S V S' V' L' o) : jWl p l e s m args below meth c Q D cA cR cO kc ks pc lv (.ref b :: st) S V S' V' L' o := fun H locs ls hP hS hl =>
  va_slen C.1 C.2.1 C.2.2.2.2.2.2.2.1 C.2.2.2.2.2.2.2.2.1 (Nat.not_le.mpr C.2.2.2.2.2.2.2.2.1) hS hd (kk H locs ls hP hS hl)
theorem jl_arg (C : jCl p l s m args meth c D cA cR cO B b Ln xs) (k0 k4 : Nat) {n k : Nat} {z : Int} (h0 : lv[k0]? = some (0, .ref b)) (h4 : lv[k4]? = some (4, .int (nI n))) (hn : n + k < Ln) (hL : Ln ≤ 3072) (hk : Int32.ofInt z = nI k) (d0 : decode code pc = .ok (.aload_n 0, 1)) (d1 : decode code (pc + 1) = .ok (.iload 4, 2)) (d3 : decode code (pc + 3) = .ok (.iconst z, 1)) (d4 : decode code (pc + 4) = .ok (.iadd, 1)) (d5 : decode code (pc + 5) = .ok (.iaload, 1))
    (kk : jWl p l e s m args below meth c Q D cA cR cO kc ks (pc + 6) lv (.int (xs (n + k)) :: st) S V S' V' L' o) : jWl p l e s m args below meth c Q D cA cR cO kc ks pc lv st S V S' V' L' o := by
  refine jl_aload_n C k0 h0 d0 rfl ?_
  refine jl_iload C k4 h4 d1 ?_
  refine jl_iconst C d3 hk ?_
  refine jl_iadd C d4 ?_
  rw [nI_add]
  refine jl_sld C (nI_in hn (by omega)) d5 ?_
  rw [nI_clamp (by omega)]
  exact kk
end JL2
theorem lg_cmp_self (x : Int64) : lg_cmp x x = 0 := by
  unfold lg_cmp
  rw [if_neg (Int64.lt_irrefl), if_pos rfl]
theorem adb_out (b0 : Nat) : ∀ j, j < TC.length → adb b0 j ≠ b0 + 87 := fun j hj h => by
  rw [TC_len] at hj
  have e : adb b0 j = b0 + j := rfl
  omega
