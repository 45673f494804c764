/-! ===== combinators of the decompiled functions, and rows for them ===== -/
def FU : Nat := 100000
def gd {β : Type} (b : Bool) (k : Option β) : Option β := match b with
  | true => k
  | false => none
theorem gd_elim {β : Type} {b : Bool} {k : Option β} {r : β} (h : gd b k = some r) : b = true ∧ k = some r := by
  cases b with
  | true => exact ⟨rfl, h⟩
  | false => cases h
theorem gd_t {β : Type} {b : Bool} {k : Option β} (h : b = true) : gd b k = k := by rw [h]; rfl
def ib (i : Int32) (n : Nat) : Bool := decide (¬ (i < 0 ∨ n ≤ i.toNatClampNeg))
theorem ib_in {i : Int32} {n : Nat} (h : ib i n = true) : vp_in i n := by
  have h2 : ¬ (i < 0 ∨ n ≤ i.toNatClampNeg) := of_decide_eq_true h
  exact h2
def nz (y : Int32) : Bool := decide (¬ y = 0)
theorem nz_ne {y : Int32} (h : nz y = true) : ¬ y = 0 := of_decide_eq_true h
def nzl (y : Int64) : Bool := decide (¬ y = 0)
theorem nzl_ne {y : Int64} (h : nzl y = true) : ¬ y = 0 := of_decide_eq_true h
def isb (x : Int32) : Bool := decide (x = 0 ∨ x = 1)
theorem isb_n {x : Int32} (h : isb x = true) : narrow .boolean (.int x) = .int x := by
  rcases (of_decide_eq_true h : x = 0 ∨ x = 1) with h | h <;> (rw [h]; rfl)
theorem isb_f {x : Int32} (h : isb x = true) : fits .boolean (.int x) = true := by
  rcases (of_decide_eq_true h : x = 0 ∨ x = 1) with h | h <;> (rw [h]; rfl)
def cpr (sp dp n : Int32) (n0 n1 : Nat) : Bool := decide ((¬ sp < 0) ∧ (¬ dp < 0) ∧ (¬ n < 0) ∧ sp.toNatClampNeg + n.toNatClampNeg ≤ n0 ∧ dp.toNatClampNeg + n.toNatClampNeg ≤ n1)
def cpf (f : Nat → Int32) (sp n : Int32) : Bool := (List.range n.toNatClampNeg).all (fun i => fits .byte (.int (f (sp.toNatClampNeg + i))))
theorem cpf_f {f : Nat → Int32} {sp n : Int32} (h : cpf f sp n = true) : ∀ i, i < n.toNatClampNeg → fits .byte (.int (f (sp.toNatClampNeg + i))) = true := fun i hi => List.all_eq_true.mp h i (List.mem_range.mpr hi)
def lt {α β : Type} (e : α) (k : α → Option β) : Option β := k e
theorem lt_elim {α β : Type} {e : α} {k : α → Option β} {r : β} {P : Prop} (h : lt e k = some r) (f : ∀ x, x = e → k x = some r → P) : P := f e rfl h
def bk {α β : Type} (rest : α) (body : α → β) : β := body rest
theorem bk_elim {α β : Type} {rest : α} {body : α → Option β} {r : β} {P : Prop} (h : bk rest body = some r) (f : ∀ K : α, K = rest → body K = some r → P) : P := f rest rfl h
def bd0 {β : Type} (o : Option Unit) (k : Option β) : Option β := match o with
  | some _ => k
  | none => none
def bd1 {α β : Type} (o : Option α) (k : α → Option β) : Option β := match o with
  | some a => k a
  | none => none
def bd2 {α γ β : Type} (o : Option (α × γ)) (k : α → γ → Option β) : Option β := match o with
  | some (a, b) => k a b
  | none => none
def bd3 {α γ δ β : Type} (o : Option (α × γ × δ)) (k : α → γ → δ → Option β) : Option β := match o with
  | some (a, b, c) => k a b c
  | none => none
def bd4 {α γ δ ε β : Type} (o : Option (α × γ × δ × ε)) (k : α → γ → δ → ε → Option β) : Option β := match o with
  | some (a, b, c, d) => k a b c d
  | none => none
theorem bd0_elim {β : Type} {o : Option Unit} {k : Option β} {r : β} (h : bd0 o k = some r) : o = some () ∧ k = some r := by
  match o, h with
  | some (), h => exact ⟨rfl, h⟩
theorem bd1_elim {α β : Type} {o : Option α} {k : α → Option β} {r : β} (h : bd1 o k = some r) : ∃ a, o = some a ∧ k a = some r := by
  match o, h with
  | some a, h => exact ⟨a, rfl, h⟩
theorem bd2_elim {α γ β : Type} {o : Option (α × γ)} {k : α → γ → Option β} {r : β} (h : bd2 o k = some r) : ∃ a b, o = some (a, b) ∧ k a b = some r := by
  match o, h with
  | some (a, b), h => exact ⟨a, b, rfl, h⟩
theorem bd3_elim {α γ δ β : Type} {o : Option (α × γ × δ)} {k : α → γ → δ → Option β} {r : β} (h : bd3 o k = some r) : ∃ a b c, o = some (a, b, c) ∧ k a b c = some r := by
  match o, h with
  | some (a, b, c), h => exact ⟨a, b, c, rfl, h⟩
theorem bd4_elim {α γ δ ε β : Type} {o : Option (α × γ × δ × ε)} {k : α → γ → δ → ε → Option β} {r : β} (h : bd4 o k = some r) : ∃ a b c d, o = some (a, b, c, d) ∧ k a b c d = some r := by
  match o, h with
  | some (a, b, c, d), h => exact ⟨a, b, c, d, rfl, h⟩
theorem iinc_eq {x m : Int32} {n : Int} (h : Int32.ofInt n = m) : x + Int32.ofInt n = x + m := by rw [h]
theorem ne_toInt {x : Int32} {k : Int32} {z : Int} (hz : k.toInt = z) (h : ¬ x = k) : ¬ x.toInt = z := fun e => h (Int32.toInt_inj.mp (e.trans hz.symm))
section JX
variable {p : Program} {l : Launch} {e : Env} {R : Room} {s : State} {m : MethodId} {args : Array Value} {below : List Frame} {meth : Method} {c : Code} {Q : State → Prop} {D : va_G} {T : jT} {ad : Nat → Nat} {cA : Nat → ClassId} {A : Nat → Prop} {cc : ByteArray} {nL kc ks : Nat} {own : String} {B : jBT}
variable {pc : Nat} {lv lv2 : List (Nat × Value)} {st : List Value} {S S2 : Nat → Int32} {V V2 : Nat → Nat → Int32} {L L2 : Nat → Int64}
theorem j_lv (h : lv = lv2) (kk : jW p l e R s m args below meth c Q D T ad cA A nL kc ks pc lv2 st S V L) : jW p l e R s m args below meth c Q D T ad cA A nL kc ks pc lv st S V L := h ▸ kk
theorem j_sub (is : List Nat) (h : lv_pick lv is = lv2) (kk : jW p l e R s m args below meth c Q D T ad cA A nL kc ks pc lv2 st S V L) : jW p l e R s m args below meth c Q D T ad cA A nL kc ks pc lv st S V L := fun H locs ls hP hS hl => kk H locs ls hP hS (lv_sub hl is h)
theorem j_top {x y : Int32} (h : x = y) (kk : jW p l e R s m args below meth c Q D T ad cA A nL kc ks pc lv (.int x :: st) S V L) : jW p l e R s m args below meth c Q D T ad cA A nL kc ks pc lv (.int y :: st) S V L := h ▸ kk
theorem j_topl {x y : Int64} (h : x = y) (kk : jW p l e R s m args below meth c Q D T ad cA A nL kc ks pc lv (.long x :: st) S V L) : jW p l e R s m args below meth c Q D T ad cA A nL kc ks pc lv (.long y :: st) S V L := h ▸ kk
theorem j_top2 {v : Value} {x y : Int32} (h : x = y) (kk : jW p l e R s m args below meth c Q D T ad cA A nL kc ks pc lv (v :: .int x :: st) S V L) : jW p l e R s m args below meth c Q D T ad cA A nL kc ks pc lv (v :: .int y :: st) S V L := h ▸ kk
theorem j_S (h : S = S2) (kk : jW p l e R s m args below meth c Q D T ad cA A nL kc ks pc lv st S V L) : jW p l e R s m args below meth c Q D T ad cA A nL kc ks pc lv st S2 V L := h ▸ kk
theorem j_V (h : V = V2) (kk : jW p l e R s m args below meth c Q D T ad cA A nL kc ks pc lv st S V L) : jW p l e R s m args below meth c Q D T ad cA A nL kc ks pc lv st S V2 L := h ▸ kk
theorem j_L (h : L = L2) (kk : jW p l e R s m args below meth c Q D T ad cA A nL kc ks pc lv st S V L) : jW p l e R s m args below meth c Q D T ad cA A nL kc ks pc lv st S V L2 := h ▸ kk
/-- System.arraycopy between two arrays of whole numbers of one kind -/
theorem j_copy {q0 q1 n0 n1 tc idx : Nat} {sp dp n : Int32} (C : jC p s m args c D T ad cA A cc nL own B) (hT0 : T[q0]? = some (.inr (n0, tc))) (hT1 : T[q1]? = some (.inr (n1, tc))) (hlk : Cond.methodLink own idx arraycopyName ∈ bg) (hnat : Cond.native arraycopyName ∈ bg) (hst : Cond.static arraycopyName ∈ bg) (hini : Cond.initialized "java/lang/System" ∈ bg) (hprim : refKind (jty tc) = false)
    (hg : cpr sp dp n n0 n1 = true) (hfit : ∀ i, i < n.toNatClampNeg → fits (jty tc) (.int (V q0 (sp.toNatClampNeg + i))) = true) (hfr : 1 ≤ R.frames) (hlo : (st.map fun v => v.category).sum + (nativeFrameWords "java/lang/System" "arraycopy" 5 + 11) ≤ R.locals) (hd : decode cc pc = .ok (.invokestatic idx, 3))
    (kk : jW p l e R s m args below meth c Q D T ad cA A nL kc ks (pc + 3) lv st S (va_up V q1 (va_cpy (V q0) (V q1) sp.toNatClampNeg dp.toNatClampNeg n.toNatClampNeg)) L) : jW p l e R s m args below meth c Q D T ad cA A nL kc ks pc lv (.int n :: .int dp :: .ref (ad q1) :: .int sp :: .ref (ad q0) :: st) S V L := fun H locs ls hP hS hl => by
  obtain ⟨h1, h2, h3, h4, h5⟩ : (¬ sp < 0) ∧ (¬ dp < 0) ∧ (¬ n < 0) ∧ sp.toNatClampNeg + n.toNatClampNeg ≤ n0 ∧ dp.toNatClampNeg + n.toNatClampNeg ≤ n1 := of_decide_eq_true hg
  have hts := C.2.2.2.2.1
  exact va_copyi (D := D) (n0 := n0) (n1 := n1) (f := V q0) (g := V q1) C.1 C.2.1 (C.2.2.1.trans hl.1.symm) C.2.2.2.1 (hts _ hlk) (hts _ hnat) (hts _ hst) (hts _ hini) ((C.2.2.2.2.2.1.2.1 q0 (n0, tc) hT0).app (C.2.2.2.2.2.1.2.1 q1 (n1, tc) hT1)) hP (jws_D C.2.2.2.2.2.2.2.1 C.2.2.2.2.2.2.2.2.1) hS q0 q1 0 1 (jws_at hT0) (jws_at hT1) rfl rfl hprim h1 h2 h3 h4 h5 hfit hfr hlo hd
    (fun H1 locs1 hP1 _ hS1 => kk H1 locs1 ls (by rw [← jws_ast hT1]; exact hP1) hS1 hl)
end JX
