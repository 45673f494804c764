/-! ===== the J layer: one table of cells, scalars S, arrays V, longs L ===== -/
def sx : List (String × Nat × String) := [("ClockLodgers", 107, "the tape has not so many bytes"), ("ClockLodgers$Tokens", 75, "base oil stop tenant quarrel rule left right both or and not weight half hour hours other quarrels "), ("ClockLodgers$Tokens", 68, ";()+-*/<="), ("ClockLodgers", 165, "no such count"), ("ClockLodgers", 333, "no such tenant"), ("ClockLodgers", 193, "no such what of a tenant"), ("ClockLodgers", 206, "no such half"), ("ClockLodgers", 337, "no such hour"), ("ClockLodgers", 339, "it is no day"), ("ClockLodgers", 225, "the last hour is below the first"), ("ClockLodgers", 335, "no tenants, or some that there are not"), ("ClockLodgers", 241, "more than 4 tenants"), ("ClockLodgers", 249, "no way is kept"), ("ClockLodgers", 254, "no such what of the cuckoo"), ("ClockLodgers", 273, "no visits are kept"), ("ClockLodgers", 281, "no sum from 0 to 9999"), ("ClockLodgers", 289, "no such what of a sublet"), ("ClockLodgers", 309, "no such what of two clocks"), ("ClockLodgers", 311, "no base from 20 to 60"), ("ClockLodgers", 319, "no such days or chance")]
def sxL : List Nat := [30, 99, 9, 13, 14, 24, 12, 12, 12, 32, 38, 19, 14, 26, 18, 21, 24, 26, 21, 22]
def sxB : List (List Int32) := [[116, 104, 101, 32, 116, 97, 112, 101, 32, 104, 97, 115, 32, 110, 111, 116, 32, 115, 111, 32, 109, 97, 110, 121, 32, 98, 121, 116, 101, 115], [98, 97, 115, 101, 32, 111, 105, 108, 32, 115, 116, 111, 112, 32, 116, 101, 110, 97, 110, 116, 32, 113, 117, 97, 114, 114, 101, 108, 32, 114, 117, 108, 101, 32, 108, 101, 102, 116, 32, 114, 105, 103, 104, 116, 32, 98, 111, 116, 104, 32, 111, 114, 32, 97, 110, 100, 32, 110, 111, 116, 32, 119, 101, 105, 103, 104, 116, 32, 104, 97, 108, 102, 32, 104, 111, 117, 114, 32, 104, 111, 117, 114, 115, 32, 111, 116, 104, 101, 114, 32, 113, 117, 97, 114, 114, 101, 108, 115, 32], [59, 40, 41, 43, 45, 42, 47, 60, 61], [110, 111, 32, 115, 117, 99, 104, 32, 99, 111, 117, 110, 116], [110, 111, 32, 115, 117, 99, 104, 32, 116, 101, 110, 97, 110, 116], [110, 111, 32, 115, 117, 99, 104, 32, 119, 104, 97, 116, 32, 111, 102, 32, 97, 32, 116, 101, 110, 97, 110, 116], [110, 111, 32, 115, 117, 99, 104, 32, 104, 97, 108, 102], [110, 111, 32, 115, 117, 99, 104, 32, 104, 111, 117, 114], [105, 116, 32, 105, 115, 32, 110, 111, 32, 100, 97, 121], [116, 104, 101, 32, 108, 97, 115, 116, 32, 104, 111, 117, 114, 32, 105, 115, 32, 98, 101, 108, 111, 119, 32, 116, 104, 101, 32, 102, 105, 114, 115, 116], [110, 111, 32, 116, 101, 110, 97, 110, 116, 115, 44, 32, 111, 114, 32, 115, 111, 109, 101, 32, 116, 104, 97, 116, 32, 116, 104, 101, 114, 101, 32, 97, 114, 101, 32, 110, 111, 116], [109, 111, 114, 101, 32, 116, 104, 97, 110, 32, 52, 32, 116, 101, 110, 97, 110, 116, 115], [110, 111, 32, 119, 97, 121, 32, 105, 115, 32, 107, 101, 112, 116], [110, 111, 32, 115, 117, 99, 104, 32, 119, 104, 97, 116, 32, 111, 102, 32, 116, 104, 101, 32, 99, 117, 99, 107, 111, 111], [110, 111, 32, 118, 105, 115, 105, 116, 115, 32, 97, 114, 101, 32, 107, 101, 112, 116], [110, 111, 32, 115, 117, 109, 32, 102, 114, 111, 109, 32, 48, 32, 116, 111, 32, 57, 57, 57, 57], [110, 111, 32, 115, 117, 99, 104, 32, 119, 104, 97, 116, 32, 111, 102, 32, 97, 32, 115, 117, 98, 108, 101, 116], [110, 111, 32, 115, 117, 99, 104, 32, 119, 104, 97, 116, 32, 111, 102, 32, 116, 119, 111, 32, 99, 108, 111, 99, 107, 115], [110, 111, 32, 98, 97, 115, 101, 32, 102, 114, 111, 109, 32, 50, 48, 32, 116, 111, 32, 54, 48], [110, 111, 32, 115, 117, 99, 104, 32, 100, 97, 121, 115, 32, 111, 114, 32, 99, 104, 97, 110, 99, 101]]
def bndV : Nat → Value := fun j => .int (([0, 1, 2, 3, 4, 4, 5, 5, 6, 6] : List Int32).getD j 0)
abbrev jBT : Type := Nat × (Nat → Nat) × (Nat → Nat)
/-- the background: the static row BINDS, the String constants, Throwable's two statics -/
def jBk (B : jBT) (A : Nat → Prop) (U : State) (H : Heap) : Prop :=
  (va_Z "ClockLodgers$RuleReader" "BINDS" "[I" (.ref B.1) A U H ∧ va_T .int B.1 10 bndV A U H) ∧ (vk_S 20 sxL sxB B.2.1 B.2.2 A U H ∧ ∀ (i : Nat) (q : String × Nat × String), sx[i]? = some q → vk_R q.1 q.2.1 q.2.2 (B.2.1 i) U) ∧
  (vx_Zq Bundle.tN "UNASSIGNED_STACK" Bundle.steD A U H ∧ vx_Zq Bundle.tN "SUPPRESSED_SENTINEL" Bundle.listD A U H) ∧ va_Z "java/lang/String" "COMPACT_STRINGS" "Z" (.int 1) A U H ∧ va_Zq "jdk/internal/util/Preconditions" "SIOOBE_FORMATTER" "Ljava/util/function/BiFunction;" A U H
theorem jBk.warm {B : jBT} {A : Nat → Prop} {s U : State} {H : Heap} (hW : s.WarmedH U.vm) (h : jBk B A s H) : jBk B A U H := ⟨⟨h.1.1.moved hW.alike, h.1.2.moved hW.alike⟩, ⟨vk_S.moved hW.alike h.2.1.1, fun i q hq => (h.2.1.2 i q hq).warm hW⟩, ⟨h.2.2.1.1.moved hW.alike, h.2.2.1.2.moved hW.alike⟩, h.2.2.2.1.moved hW.alike, h.2.2.2.2.moved hW.alike⟩
theorem jBk.same {B : jBT} {A : Nat → Prop} {s U : State} {H : Heap} (hv : U.vm = s.vm) (h : jBk B A s H) : jBk B A U H := by
  have ha : s.vm.Alike U.vm := by rw [hv]; exact Vm.Alike.refl _
  exact ⟨⟨h.1.1.moved ha, h.1.2.moved ha⟩, ⟨vk_S.moved ha h.2.1.1, fun i q hq => (h.2.1.2 i q hq).same hv⟩, ⟨h.2.2.1.1.moved ha, h.2.2.1.2.moved ha⟩, h.2.2.2.1.moved ha, h.2.2.2.2.moved ha⟩
theorem jBk.kept {B : jBT} {A : Nat → Prop} {U : State} {H H1 : Heap} (h : jBk B A U H) (hq : ∀ a : Nat, a < H.size → ¬ A a → H1[a]? = H[a]?) : jBk B A U H1 := ⟨⟨h.1.1.kept hq, h.1.2.kept hq⟩, ⟨h.2.1.1.kept hq, h.2.1.2⟩, ⟨h.2.2.1.1.kept hq, h.2.2.1.2.kept hq⟩, h.2.2.2.1.kept hq, h.2.2.2.2.kept hq⟩
theorem jBk.narrow {B : jBT} {A A1 : Nat → Prop} {U : State} {H : Heap} (h : jBk B A U H) (hAB : ∀ q, A1 q → A q) : jBk B A1 U H := ⟨⟨h.1.1.narrow hAB, h.1.2.narrow hAB⟩, ⟨h.2.1.1.narrow hAB, h.2.1.2⟩, ⟨h.2.2.1.1.narrow hAB, h.2.2.1.2.narrow hAB⟩, h.2.2.2.1.narrow hAB, h.2.2.2.2.narrow hAB⟩

/-- the links between nest mates -/
def nw : List (String × Nat × MethodName × String) := [("ClockLodgers", 30, yX3_init, "ClockLodgers"), ("ClockLodgers$HouseReader", 20, yX10_init, "ClockLodgers"), ("ClockLodgers", 58, yX5_init, "ClockLodgers"), ("ClockLodgers$Leases", 61, yX11_hourBits, "ClockLodgers"), ("ClockLodgers$Offers", 28, yX11_hourBits, "ClockLodgers"), ("ClockLodgers$Anew", 106, yX11_hourBits, "ClockLodgers"), ("ClockLodgers$Rounds", 32, yX11_hourBits, "ClockLodgers")]
def cst : List (String × String) := [("java/lang/IllegalArgumentException", "java/lang/IllegalArgumentException"), ("java/util/NoSuchElementException", "java/util/NoSuchElementException")]
def jN (U : State) : Prop := (∀ q ∈ nw, va_Nw (.methodLinkNest q.1 q.2.1 q.2.2.1 q.2.2.2) U) ∧ ∀ q ∈ cst, va_Nw (.castable q.1 q.2) U
theorem jN.warm {s U : State} (hW : s.WarmedH U.vm) (h : jN s) : jN U := ⟨fun q hq => va_Nw.warmM hW (h.1 q hq), fun q hq => va_Nw.warmC hW (h.2 q hq)⟩
theorem jN.same {s U : State} (hv : s.vm = U.vm) (h : jN s) : jN U := ⟨fun q hq => va_Nw.same rfl hv (h.1 q hq), fun q hq => va_Nw.same rfl hv (h.2 q hq)⟩
abbrev jD : Type := (Nat × List (Nat × Nat)) ⊕ (Nat × Nat)
abbrev jT : Type := List jD
def jty : Nat → FieldType
  | 0 => .int
  | 1 => .byte
  | _ => .boolean
def jv (ad : Nat → Nat) (S : Nat → Int32) (L : Nat → Int64) (i : Nat) (d : Nat × Nat) : Value := match d.1 with
  | 0 => .int (S i)
  | 1 => .ref (ad d.2)
  | 2 => .long (L i)
  | _ => .null
def jfs (ad : Nat → Nat) (S : Nat → Int32) (L : Nat → Int64) (q : Nat) (sl : List (Nat × Nat)) : List Value := sl.mapIdx (fun k d => jv ad S L (100 * q + k) d)
def je (ad : Nat → Nat) (cA : Nat → ClassId) (S : Nat → Int32) (V : Nat → Nat → Int32) (L : Nat → Int64) (q : Nat) (d : jD) : va_E := match d with
  | .inl o => .inr (o.1, jfs ad S L q o.2)
  | .inr a => .inl (cA q, a.1, .inl (V q))
def jws (T : jT) (ad : Nat → Nat) (cA : Nat → ClassId) (S : Nat → Int32) (V : Nat → Nat → Int32) (L : Nat → Int64) : va_W := T.mapIdx (fun q d => (ad q, je ad cA S V L q d))
def jok (T : jT) : Prop := ∀ (q ci : Nat) (sl : List (Nat × Nat)), T[q]? = some (.inl (ci, sl)) → sl.length ≤ 100
theorem jok_of {T : jT} (h : T.all (fun d => match d with | .inl o => decide (o.2.length ≤ 100) | .inr _ => true) = true) : jok T := by
  intro q ci sl hq
  have h1 := List.all_eq_true.mp h _ (List.mem_of_getElem? hq)
  simpa using h1
section JW0
variable {T : jT} {ad : Nat → Nat} {cA : Nat → ClassId} {S : Nat → Int32} {V : Nat → Nat → Int32} {L : Nat → Int64} {q k ci z : Nat} {sl : List (Nat × Nat)}
theorem jws_get (j : Nat) : (jws T ad cA S V L)[j]? = (T[j]?).map (fun d => (ad j, je ad cA S V L j d)) := by simp [jws]
theorem jws_at {d : jD} (h : T[q]? = some d) : (jws T ad cA S V L)[q]? = some (ad q, je ad cA S V L q d) := by rw [jws_get, h]; rfl
theorem jfs_get (j : Nat) : (jfs ad S L q sl)[j]? = (sl[j]?).map (fun d => jv ad S L (100 * q + j) d) := by simp [jfs]
theorem jfs_at {d : Nat × Nat} (h : sl[k]? = some d) : (jfs ad S L q sl)[k]? = some (jv ad S L (100 * q + k) d) := by rw [jfs_get, h]; rfl
theorem jfs_len : (jfs ad S L q sl).length = sl.length := by simp [jfs]
theorem jfs_congr {S' : Nat → Int32} {L' : Nat → Int64} (h : ∀ j, j < sl.length → S' (100 * q + j) = S (100 * q + j) ∧ L' (100 * q + j) = L (100 * q + j)) : jfs ad S' L' q sl = jfs ad S L q sl := by
  apply List.ext_getElem?
  intro j
  rw [jfs_get, jfs_get]
  cases hj : sl[j]? with
  | none => rfl
  | some d =>
    have hlt : j < sl.length := (List.getElem?_eq_some_iff.mp hj).1
    obtain ⟨h1, h2⟩ := h j hlt
    simp [jv, h1, h2]
theorem jws_put (hok : jok T) (hT : T[q]? = some (.inl (ci, sl))) (hk : sl[k]? = some (0, z)) (x : Int32) :
    (jws T ad cA S V L).set q (ad q, .inr (ci, (jfs ad S L q sl).set k (.int x))) = jws T ad cA (va_up S (100 * q + k) x) V L := by
  have hkl : k < sl.length := (List.getElem?_eq_some_iff.mp hk).1
  have hk1 : k < 100 := Nat.lt_of_lt_of_le hkl (hok q ci sl hT)
  have hql : q < T.length := (List.getElem?_eq_some_iff.mp hT).1
  apply List.ext_getElem?
  intro j
  rw [List.getElem?_set, jws_get, jws_get]
  by_cases hj : q = j
  · subst hj
    have hlen : q < (jws T ad cA S V L).length := by simp [jws]; exact hql
    rw [if_pos rfl, if_pos hlen, hT]
    simp only [Option.map_some, je]
    congr 4
    apply List.ext_getElem?
    intro i
    rw [List.getElem?_set, jfs_get, jfs_get]
    by_cases hi : k = i
    · subst hi
      rw [if_pos rfl, if_pos (by rw [jfs_len]; exact hkl), hk]
      simp [jv, va_up_self]
    · rw [if_neg hi]
      cases hsi : sl[i]? with
      | none => rfl
      | some d => simp [jv, va_up_ne S x (show 100 * q + i ≠ 100 * q + k by omega)]
  · rw [if_neg hj]
    cases hd : T[j]? with
    | none => rfl
    | some d =>
      cases d with
      | inr a => rfl
      | inl o =>
        have hl2 := hok j o.1 o.2 hd
        simp only [Option.map_some, je]
        rw [jfs_congr (S' := va_up S (100 * q + k) x) (L' := L) (S := S) (L := L)]
        intro i hi
        exact ⟨va_up_ne S x (by omega), rfl⟩
theorem jws_putl (hok : jok T) (hT : T[q]? = some (.inl (ci, sl))) (hk : sl[k]? = some (2, z)) (x : Int64) :
    (jws T ad cA S V L).set q (ad q, .inr (ci, (jfs ad S L q sl).set k (.long x))) = jws T ad cA S V (va_up L (100 * q + k) x) := by
  have hkl : k < sl.length := (List.getElem?_eq_some_iff.mp hk).1
  have hk1 : k < 100 := Nat.lt_of_lt_of_le hkl (hok q ci sl hT)
  have hql : q < T.length := (List.getElem?_eq_some_iff.mp hT).1
  apply List.ext_getElem?
  intro j
  rw [List.getElem?_set, jws_get, jws_get]
  by_cases hj : q = j
  · subst hj
    have hlen : q < (jws T ad cA S V L).length := by simp [jws]; exact hql
    rw [if_pos rfl, if_pos hlen, hT]
    simp only [Option.map_some, je]
    congr 4
    apply List.ext_getElem?
    intro i
    rw [List.getElem?_set, jfs_get, jfs_get]
    by_cases hi : k = i
    · subst hi
      rw [if_pos rfl, if_pos (by rw [jfs_len]; exact hkl), hk]
      simp [jv, va_up_self]
    · rw [if_neg hi]
      cases hsi : sl[i]? with
      | none => rfl
      | some d => simp [jv, va_up_ne L x (show 100 * q + i ≠ 100 * q + k by omega)]
  · rw [if_neg hj]
    cases hd : T[j]? with
    | none => rfl
    | some d =>
      cases d with
      | inr a => rfl
      | inl o =>
        have hl2 := hok j o.1 o.2 hd
        simp only [Option.map_some, je]
        rw [jfs_congr (S' := S) (L' := va_up L (100 * q + k) x) (S := S) (L := L)]
        intro i hi
        exact ⟨rfl, va_up_ne L x (by omega)⟩
theorem jws_ast {nt : Nat × Nat} (hT : T[q]? = some (.inr nt)) (f : Nat → Int32) :
    (jws T ad cA S V L).set q (ad q, .inl (cA q, nt.1, .inl f)) = jws T ad cA S (va_up V q f) L := by
  have hql : q < T.length := (List.getElem?_eq_some_iff.mp hT).1
  apply List.ext_getElem?
  intro j
  rw [List.getElem?_set, jws_get, jws_get]
  by_cases hj : q = j
  · subst hj
    have hlen : q < (jws T ad cA S V L).length := by simp [jws]; exact hql
    rw [if_pos rfl, if_pos hlen, hT]
    simp [je, va_up_self]
  · rw [if_neg hj]
    cases hd : T[j]? with
    | none => rfl
    | some d =>
      cases d with
      | inl o => rfl
      | inr a => simp [je, va_up_ne V f (fun h => hj h.symm)]
theorem jws_D {A : Nat → Prop} (h1 : ∀ i j, i < T.length → j < T.length → ad i = ad j → i = j) (h2 : ∀ i, i < T.length → A (ad i)) : va_D A (jws T ad cA S V L) := by
  refine ⟨fun i j x y hx hy hxy => ?_, fun i x hx => ?_⟩
  · rw [jws_get] at hx hy
    cases hi : T[i]? with
    | none => rw [hi] at hx; cases hx
    | some d =>
      cases hj : T[j]? with
      | none => rw [hj] at hy; cases hy
      | some d' =>
        rw [hi] at hx; rw [hj] at hy
        cases hx; cases hy
        exact h1 i j (List.getElem?_eq_some_iff.mp hi).1 (List.getElem?_eq_some_iff.mp hj).1 hxy
  · rw [jws_get] at hx
    cases hi : T[i]? with
    | none => rw [hi] at hx; cases hx
    | some d => rw [hi] at hx; cases hx; exact h2 i (List.getElem?_eq_some_iff.mp hi).1
end JW0
def jK (D : va_G) (T : jT) (cA : Nat → ClassId) (U : State) : Prop := va_K D vwCl [] U ∧ (∀ (q : Nat) (nt : Nat × Nat), T[q]? = some (.inr nt) → va_K D vwCl [(cA q, jty nt.2)] U) ∧ jN U
theorem jK.warm {D : va_G} {T : jT} {cA : Nat → ClassId} {s U : State} (hW : s.WarmedH U.vm) (h : jK D T cA s) : jK D T cA U := ⟨va_K.moved hW.alike h.1, fun q nt hq => va_K.moved hW.alike (h.2.1 q nt hq), h.2.2.warm hW⟩
theorem jK.same {D : va_G} {T : jT} {cA : Nat → ClassId} {s U : State} (hv : s.vm = U.vm) (h : jK D T cA s) : jK D T cA U := ⟨va_K.moved (by rw [hv]; exact Vm.Alike.refl _) h.1, fun q nt hq => va_K.moved (by rw [hv]; exact Vm.Alike.refl _) (h.2.1 q nt hq), h.2.2.same hv⟩
def jI (ad : Nat → Nat) (T : jT) : Prop := ∀ i j, i < T.length → j < T.length → ad i = ad j → i = j
/-- which cells a method may change: the table's, and those that come -/
def jA (ad : Nat → Nat) (T : jT) (sz : Nat) : Nat → Prop := fun q => (∃ j, j < T.length ∧ q = ad j) ∨ sz ≤ q
def jC (p : Program) (s : State) (m : MethodId) (args : Array Value) (c : Code) (D : va_G) (T : jT) (ad : Nat → Nat) (cA : Nat → ClassId) (A : Nat → Prop) (cc : ByteArray) (nL : Nat) (own : String) (B : jBT) : Prop :=
  p.tables.exec = Jvm.exec ∧ c.code = cc ∧ c.maxLocals = nL ∧ s.vm.findClass own = some m.cls ∧ (∀ w ∈ bg, w.before args s = true) ∧ jK D T cA s ∧ jok T ∧ jI ad T ∧ (∀ i, i < T.length → A (ad i)) ∧ (∀ q, s.heap.size ≤ q → A q) ∧ jBk B A s s.heap
def jW (p : Program) (l : Launch) (e : Env) (R : Room) (s : State) (m : MethodId) (args : Array Value) (below : List Frame) (meth : Method) (c : Code) (Q : State → Prop) (D : va_G) (T : jT) (ad : Nat → Nat) (cA : Nat → ClassId) (A : Nat → Prop) (nL kc ks : Nat)
    (pc : Nat) (lv : List (Nat × Value)) (st : List Value) (S : Nat → Int32) (V : Nat → Nat → Int32) (L : Nat → Int64) : Prop :=
  ∀ (H : Heap) (locs : List Loc) (ls : Array Slot), va_P D vwCl (jws T ad cA S V L) H → va_S A s.heap H locs → lv_has ls nL lv → W p l e R s m args below meth c H locs kc ks Q (F0 m pc ls st)
section JR
variable {p : Program} {l : Launch} {e : Env} {R : Room} {s : State} {m : MethodId} {args : Array Value} {below : List Frame} {meth : Method} {c : Code} {Q : State → Prop} {D : va_G} {T : jT} {ad : Nat → Nat} {cA : Nat → ClassId} {A : Nat → Prop} {cc : ByteArray} {nL kc ks : Nat} {own : String} {B : jBT}
variable {pc : Nat} {lv : List (Nat × Value)} {st : List Value} {S : Nat → Int32} {V : Nat → Nat → Int32} {L : Nat → Int64}
theorem j_iconst (C : jC p s m args c D T ad cA A cc nL own B) {n : Int} {v : Int32} (hd : decode cc pc = .ok (.iconst n, 1)) (hv : Int32.ofInt n = v) (kk : jW p l e R s m args below meth c Q D T ad cA A nL kc ks (pc + 1) lv (.int v :: st) S V L) : jW p l e R s m args below meth c Q D T ad cA A nL kc ks pc lv (st) S V L := fun H locs ls hP hS hl => lv_iconst C.1 C.2.1 hd hv (kk H locs ls hP hS hl)
theorem j_bipush (C : jC p s m args c D T ad cA A cc nL own B) {n : Int} {v : Int32} (hd : decode cc pc = .ok (.bipush n, 2)) (hv : (Int8.ofInt n).toInt32 = v) (kk : jW p l e R s m args below meth c Q D T ad cA A nL kc ks (pc + 2) lv (.int v :: st) S V L) : jW p l e R s m args below meth c Q D T ad cA A nL kc ks pc lv (st) S V L := fun H locs ls hP hS hl => lv_bipush C.1 C.2.1 hd hv (kk H locs ls hP hS hl)
theorem j_sipush (C : jC p s m args c D T ad cA A cc nL own B) {n : Int} {v : Int32} (hd : decode cc pc = .ok (.sipush n, 3)) (hv : (Int16.ofInt n).toInt32 = v) (kk : jW p l e R s m args below meth c Q D T ad cA A nL kc ks (pc + 3) lv (.int v :: st) S V L) : jW p l e R s m args below meth c Q D T ad cA A nL kc ks pc lv (st) S V L := fun H locs ls hP hS hl => lv_sipush C.1 C.2.1 hd hv (kk H locs ls hP hS hl)
theorem j_lconst (C : jC p s m args c D T ad cA A cc nL own B) {n : Fin 2} {v : Int64} (hd : decode cc pc = .ok (.lconst n, 1)) (hv : Int64.ofNat (n : Nat) = v) (kk : jW p l e R s m args below meth c Q D T ad cA A nL kc ks (pc + 1) lv (.long v :: st) S V L) : jW p l e R s m args below meth c Q D T ad cA A nL kc ks pc lv (st) S V L := fun H locs ls hP hS hl => lv_lconst C.1 C.2.1 hd hv (kk H locs ls hP hS hl)
theorem j_ldc (C : jC p s m args c D T ad cA A cc nL own B) {index : Nat} {v : Int32} (hw : Cond.constant own index v ∈ bg) (hd : decode cc pc = .ok (.ldc index, 2)) (kk : jW p l e R s m args below meth c Q D T ad cA A nL kc ks (pc + 2) lv (.int v :: st) S V L) : jW p l e R s m args below meth c Q D T ad cA A nL kc ks pc lv st S V L := fun H locs ls hP hS hl => lv_ldc C.1 C.2.1 C.2.2.2.1 (C.2.2.2.2.1 _ hw) hd (kk H locs ls hP hS hl)
theorem j_ldcw (C : jC p s m args c D T ad cA A cc nL own B) {index : Nat} {v : Int32} (hw : Cond.constant own index v ∈ bg) (hd : decode cc pc = .ok (.ldc_w index, 3)) (kk : jW p l e R s m args below meth c Q D T ad cA A nL kc ks (pc + 3) lv (.int v :: st) S V L) : jW p l e R s m args below meth c Q D T ad cA A nL kc ks pc lv st S V L := fun H locs ls hP hS hl => lv_ldcw C.1 C.2.1 C.2.2.2.1 (C.2.2.2.2.1 _ hw) hd (kk H locs ls hP hS hl)
theorem j_ldc2 (C : jC p s m args c D T ad cA A cc nL own B) {index : Nat} {v : Int64} (hw : Cond.constantLong own index v ∈ bg) (hd : decode cc pc = .ok (.ldc2_w index, 3)) (kk : jW p l e R s m args below meth c Q D T ad cA A nL kc ks (pc + 3) lv (.long v :: st) S V L) : jW p l e R s m args below meth c Q D T ad cA A nL kc ks pc lv st S V L := fun H locs ls hP hS hl => lv_ldc2 C.1 C.2.1 C.2.2.2.1 (C.2.2.2.2.1 _ hw) hd (kk H locs ls hP hS hl)
theorem j_iload_n (C : jC p s m args c D T ad cA A cc nL own B) (k : Nat) {f : Fin 4} {i : Nat} {x : Int32} (hk : lv[k]? = some (i, .int x)) (hd : decode cc pc = .ok (.iload_n f, 1)) (hi : (f : Nat) = i) (kk : jW p l e R s m args below meth c Q D T ad cA A nL kc ks (pc + 1) lv (.int x :: st) S V L) : jW p l e R s m args below meth c Q D T ad cA A nL kc ks pc lv st S V L := fun H locs ls hP hS hl => lv_iload_n C.1 C.2.1 hd hi (lv_at hl k hk) (kk H locs ls hP hS hl)
theorem j_iload (C : jC p s m args c D T ad cA A cc nL own B) (k : Nat) {i : Nat} {x : Int32} (hk : lv[k]? = some (i, .int x)) (hd : decode cc pc = .ok (.iload i, 2)) (kk : jW p l e R s m args below meth c Q D T ad cA A nL kc ks (pc + 2) lv (.int x :: st) S V L) : jW p l e R s m args below meth c Q D T ad cA A nL kc ks pc lv st S V L := fun H locs ls hP hS hl => lv_iload C.1 C.2.1 hd (lv_at hl k hk) (kk H locs ls hP hS hl)
theorem j_istore_n (C : jC p s m args c D T ad cA A cc nL own B) (lv2 : List (Nat × Value)) {f : Fin 4} {i : Nat} {x : Int32} (hd : decode cc pc = .ok (.istore_n f, 1)) (hi : (f : Nat) = i) (hn : i < nL) (hl2 : (i, Value.int x) :: lv.filter (fun q => !(q.1 == i) && !(q.1 + 1 == i && q.2.category == 2)) = lv2) (kk : jW p l e R s m args below meth c Q D T ad cA A nL kc ks (pc + 1) lv2 st S V L) : jW p l e R s m args below meth c Q D T ad cA A nL kc ks pc lv (.int x :: st) S V L := fun H locs ls hP hS hl => lv_istore_n C.1 C.2.1 hd hi hl hn hl2 (fun ls2 hl3 => kk H locs ls2 hP hS hl3)
theorem j_istore (C : jC p s m args c D T ad cA A cc nL own B) (lv2 : List (Nat × Value)) {i : Nat} {x : Int32} (hd : decode cc pc = .ok (.istore i, 2)) (hn : i < nL) (hl2 : (i, Value.int x) :: lv.filter (fun q => !(q.1 == i) && !(q.1 + 1 == i && q.2.category == 2)) = lv2) (kk : jW p l e R s m args below meth c Q D T ad cA A nL kc ks (pc + 2) lv2 st S V L) : jW p l e R s m args below meth c Q D T ad cA A nL kc ks pc lv (.int x :: st) S V L := fun H locs ls hP hS hl => lv_istore C.1 C.2.1 hd hl hn hl2 (fun ls2 hl3 => kk H locs ls2 hP hS hl3)
theorem j_lload_n (C : jC p s m args c D T ad cA A cc nL own B) (k : Nat) {f : Fin 4} {i : Nat} {x : Int64} (hk : lv[k]? = some (i, .long x)) (hd : decode cc pc = .ok (.lload_n f, 1)) (hi : (f : Nat) = i) (kk : jW p l e R s m args below meth c Q D T ad cA A nL kc ks (pc + 1) lv (.long x :: st) S V L) : jW p l e R s m args below meth c Q D T ad cA A nL kc ks pc lv st S V L := fun H locs ls hP hS hl => lv_lload_n C.1 C.2.1 hd hi (lv_at hl k hk) (kk H locs ls hP hS hl)
theorem j_lload (C : jC p s m args c D T ad cA A cc nL own B) (k : Nat) {i : Nat} {x : Int64} (hk : lv[k]? = some (i, .long x)) (hd : decode cc pc = .ok (.lload i, 2)) (kk : jW p l e R s m args below meth c Q D T ad cA A nL kc ks (pc + 2) lv (.long x :: st) S V L) : jW p l e R s m args below meth c Q D T ad cA A nL kc ks pc lv st S V L := fun H locs ls hP hS hl => lv_lload C.1 C.2.1 hd (lv_at hl k hk) (kk H locs ls hP hS hl)
theorem j_lstore_n (C : jC p s m args c D T ad cA A cc nL own B) (lv2 : List (Nat × Value)) {f : Fin 4} {i : Nat} {x : Int64} (hd : decode cc pc = .ok (.lstore_n f, 1)) (hi : (f : Nat) = i) (hn : i + 1 < nL) (hl2 : (i, Value.long x) :: lv.filter (fun q => !(q.1 == i) && (!(q.1 == i + 1) && !(q.1 + 1 == i && q.2.category == 2))) = lv2) (kk : jW p l e R s m args below meth c Q D T ad cA A nL kc ks (pc + 1) lv2 st S V L) : jW p l e R s m args below meth c Q D T ad cA A nL kc ks pc lv (.long x :: st) S V L := fun H locs ls hP hS hl => lv_lstore_n C.1 C.2.1 hd hi hl hn hl2 (fun ls2 hl3 => kk H locs ls2 hP hS hl3)
theorem j_lstore (C : jC p s m args c D T ad cA A cc nL own B) (lv2 : List (Nat × Value)) {i : Nat} {x : Int64} (hd : decode cc pc = .ok (.lstore i, 2)) (hn : i + 1 < nL) (hl2 : (i, Value.long x) :: lv.filter (fun q => !(q.1 == i) && (!(q.1 == i + 1) && !(q.1 + 1 == i && q.2.category == 2))) = lv2) (kk : jW p l e R s m args below meth c Q D T ad cA A nL kc ks (pc + 2) lv2 st S V L) : jW p l e R s m args below meth c Q D T ad cA A nL kc ks pc lv (.long x :: st) S V L := fun H locs ls hP hS hl => lv_lstore C.1 C.2.1 hd hl hn hl2 (fun ls2 hl3 => kk H locs ls2 hP hS hl3)
theorem j_aload_n (C : jC p s m args c D T ad cA A cc nL own B) (k : Nat) {f : Fin 4} {i : Nat} {x : Nat} (hk : lv[k]? = some (i, .ref x)) (hd : decode cc pc = .ok (.aload_n f, 1)) (hi : (f : Nat) = i) (kk : jW p l e R s m args below meth c Q D T ad cA A nL kc ks (pc + 1) lv (.ref x :: st) S V L) : jW p l e R s m args below meth c Q D T ad cA A nL kc ks pc lv st S V L := fun H locs ls hP hS hl => lv_aload_n C.1 C.2.1 hd hi (lv_at hl k hk) (kk H locs ls hP hS hl)
theorem j_aload (C : jC p s m args c D T ad cA A cc nL own B) (k : Nat) {i : Nat} {x : Nat} (hk : lv[k]? = some (i, .ref x)) (hd : decode cc pc = .ok (.aload i, 2)) (kk : jW p l e R s m args below meth c Q D T ad cA A nL kc ks (pc + 2) lv (.ref x :: st) S V L) : jW p l e R s m args below meth c Q D T ad cA A nL kc ks pc lv st S V L := fun H locs ls hP hS hl => lv_aload C.1 C.2.1 hd (lv_at hl k hk) (kk H locs ls hP hS hl)
theorem j_astore_n (C : jC p s m args c D T ad cA A cc nL own B) (lv2 : List (Nat × Value)) {f : Fin 4} {i : Nat} {x : Nat} (hd : decode cc pc = .ok (.astore_n f, 1)) (hi : (f : Nat) = i) (hn : i < nL) (hl2 : (i, Value.ref x) :: lv.filter (fun q => !(q.1 == i) && !(q.1 + 1 == i && q.2.category == 2)) = lv2) (kk : jW p l e R s m args below meth c Q D T ad cA A nL kc ks (pc + 1) lv2 st S V L) : jW p l e R s m args below meth c Q D T ad cA A nL kc ks pc lv (.ref x :: st) S V L := fun H locs ls hP hS hl => lv_astore_n C.1 C.2.1 hd hi hl hn hl2 (fun ls2 hl3 => kk H locs ls2 hP hS hl3)
theorem j_astore (C : jC p s m args c D T ad cA A cc nL own B) (lv2 : List (Nat × Value)) {i : Nat} {x : Nat} (hd : decode cc pc = .ok (.astore i, 2)) (hn : i < nL) (hl2 : (i, Value.ref x) :: lv.filter (fun q => !(q.1 == i) && !(q.1 + 1 == i && q.2.category == 2)) = lv2) (kk : jW p l e R s m args below meth c Q D T ad cA A nL kc ks (pc + 2) lv2 st S V L) : jW p l e R s m args below meth c Q D T ad cA A nL kc ks pc lv (.ref x :: st) S V L := fun H locs ls hP hS hl => lv_astore C.1 C.2.1 hd hl hn hl2 (fun ls2 hl3 => kk H locs ls2 hP hS hl3)
theorem j_iinc (C : jC p s m args c D T ad cA A cc nL own B) (lv2 : List (Nat × Value)) (k : Nat) {i : Nat} {n : Int} {x v : Int32} (hd : decode cc pc = .ok (.iinc i n, 3)) (hk : lv[k]? = some (i, .int x)) (hv : x + Int32.ofInt n = v) (hn : i < nL) (hl2 : (i, Value.int v) :: lv.filter (fun q => !(q.1 == i) && !(q.1 + 1 == i && q.2.category == 2)) = lv2) (kk : jW p l e R s m args below meth c Q D T ad cA A nL kc ks (pc + 3) lv2 st S V L) : jW p l e R s m args below meth c Q D T ad cA A nL kc ks pc lv st S V L := fun H locs ls hP hS hl => lv_iinc C.1 C.2.1 hd hl hk hv hn hl2 (fun ls2 hl3 => kk H locs ls2 hP hS hl3)
theorem j_iadd (C : jC p s m args c D T ad cA A cc nL own B) {x y : Int32} (hd : decode cc pc = .ok (.iadd, 1)) (kk : jW p l e R s m args below meth c Q D T ad cA A nL kc ks (pc + 1) lv (.int (x + y) :: st) S V L) : jW p l e R s m args below meth c Q D T ad cA A nL kc ks pc lv (.int y :: .int x :: st) S V L := fun H locs ls hP hS hl => lv_iadd C.1 C.2.1 hd (kk H locs ls hP hS hl)
theorem j_isub (C : jC p s m args c D T ad cA A cc nL own B) {x y : Int32} (hd : decode cc pc = .ok (.isub, 1)) (kk : jW p l e R s m args below meth c Q D T ad cA A nL kc ks (pc + 1) lv (.int (x - y) :: st) S V L) : jW p l e R s m args below meth c Q D T ad cA A nL kc ks pc lv (.int y :: .int x :: st) S V L := fun H locs ls hP hS hl => lv_isub C.1 C.2.1 hd (kk H locs ls hP hS hl)
theorem j_imul (C : jC p s m args c D T ad cA A cc nL own B) {x y : Int32} (hd : decode cc pc = .ok (.imul, 1)) (kk : jW p l e R s m args below meth c Q D T ad cA A nL kc ks (pc + 1) lv (.int (x * y) :: st) S V L) : jW p l e R s m args below meth c Q D T ad cA A nL kc ks pc lv (.int y :: .int x :: st) S V L := fun H locs ls hP hS hl => lv_imul C.1 C.2.1 hd (kk H locs ls hP hS hl)
theorem j_iand (C : jC p s m args c D T ad cA A cc nL own B) {x y : Int32} (hd : decode cc pc = .ok (.iand, 1)) (kk : jW p l e R s m args below meth c Q D T ad cA A nL kc ks (pc + 1) lv (.int (x &&& y) :: st) S V L) : jW p l e R s m args below meth c Q D T ad cA A nL kc ks pc lv (.int y :: .int x :: st) S V L := fun H locs ls hP hS hl => lv_iand C.1 C.2.1 hd (kk H locs ls hP hS hl)
theorem j_ior (C : jC p s m args c D T ad cA A cc nL own B) {x y : Int32} (hd : decode cc pc = .ok (.ior, 1)) (kk : jW p l e R s m args below meth c Q D T ad cA A nL kc ks (pc + 1) lv (.int (x ||| y) :: st) S V L) : jW p l e R s m args below meth c Q D T ad cA A nL kc ks pc lv (.int y :: .int x :: st) S V L := fun H locs ls hP hS hl => lv_ior C.1 C.2.1 hd (kk H locs ls hP hS hl)
theorem j_ixor (C : jC p s m args c D T ad cA A cc nL own B) {x y : Int32} (hd : decode cc pc = .ok (.ixor, 1)) (kk : jW p l e R s m args below meth c Q D T ad cA A nL kc ks (pc + 1) lv (.int (x ^^^ y) :: st) S V L) : jW p l e R s m args below meth c Q D T ad cA A nL kc ks pc lv (.int y :: .int x :: st) S V L := fun H locs ls hP hS hl => lv_ixor C.1 C.2.1 hd (kk H locs ls hP hS hl)
theorem j_ishl (C : jC p s m args c D T ad cA A cc nL own B) {x y : Int32} (hd : decode cc pc = .ok (.ishl, 1)) (kk : jW p l e R s m args below meth c Q D T ad cA A nL kc ks (pc + 1) lv (.int (x <<< (y &&& 31)) :: st) S V L) : jW p l e R s m args below meth c Q D T ad cA A nL kc ks pc lv (.int y :: .int x :: st) S V L := fun H locs ls hP hS hl => lv_ishl C.1 C.2.1 hd (kk H locs ls hP hS hl)
theorem j_ishr (C : jC p s m args c D T ad cA A cc nL own B) {x y : Int32} (hd : decode cc pc = .ok (.ishr, 1)) (kk : jW p l e R s m args below meth c Q D T ad cA A nL kc ks (pc + 1) lv (.int (x >>> (y &&& 31)) :: st) S V L) : jW p l e R s m args below meth c Q D T ad cA A nL kc ks pc lv (.int y :: .int x :: st) S V L := fun H locs ls hP hS hl => lv_ishr C.1 C.2.1 hd (kk H locs ls hP hS hl)
theorem j_idiv (C : jC p s m args c D T ad cA A cc nL own B) {x y : Int32} (hd : decode cc pc = .ok (.idiv, 1)) (hne : ¬ y = 0) (kk : jW p l e R s m args below meth c Q D T ad cA A nL kc ks (pc + 1) lv (.int (x / y) :: st) S V L) : jW p l e R s m args below meth c Q D T ad cA A nL kc ks pc lv (.int y :: .int x :: st) S V L := fun H locs ls hP hS hl => lv_idiv C.1 C.2.1 hd hne (kk H locs ls hP hS hl)
theorem j_irem (C : jC p s m args c D T ad cA A cc nL own B) {x y : Int32} (hd : decode cc pc = .ok (.irem, 1)) (hne : ¬ y = 0) (kk : jW p l e R s m args below meth c Q D T ad cA A nL kc ks (pc + 1) lv (.int (x - x / y * y) :: st) S V L) : jW p l e R s m args below meth c Q D T ad cA A nL kc ks pc lv (.int y :: .int x :: st) S V L := fun H locs ls hP hS hl => lv_irem C.1 C.2.1 hd hne (kk H locs ls hP hS hl)
theorem j_ladd (C : jC p s m args c D T ad cA A cc nL own B) {x y : Int64} (hd : decode cc pc = .ok (.ladd, 1)) (kk : jW p l e R s m args below meth c Q D T ad cA A nL kc ks (pc + 1) lv (.long (x + y) :: st) S V L) : jW p l e R s m args below meth c Q D T ad cA A nL kc ks pc lv (.long y :: .long x :: st) S V L := fun H locs ls hP hS hl => lv_ladd C.1 C.2.1 hd (kk H locs ls hP hS hl)
theorem j_lsub (C : jC p s m args c D T ad cA A cc nL own B) {x y : Int64} (hd : decode cc pc = .ok (.lsub, 1)) (kk : jW p l e R s m args below meth c Q D T ad cA A nL kc ks (pc + 1) lv (.long (x - y) :: st) S V L) : jW p l e R s m args below meth c Q D T ad cA A nL kc ks pc lv (.long y :: .long x :: st) S V L := fun H locs ls hP hS hl => lv_lsub C.1 C.2.1 hd (kk H locs ls hP hS hl)
theorem j_lmul (C : jC p s m args c D T ad cA A cc nL own B) {x y : Int64} (hd : decode cc pc = .ok (.lmul, 1)) (kk : jW p l e R s m args below meth c Q D T ad cA A nL kc ks (pc + 1) lv (.long (x * y) :: st) S V L) : jW p l e R s m args below meth c Q D T ad cA A nL kc ks pc lv (.long y :: .long x :: st) S V L := fun H locs ls hP hS hl => lv_lmul C.1 C.2.1 hd (kk H locs ls hP hS hl)
theorem j_lor (C : jC p s m args c D T ad cA A cc nL own B) {x y : Int64} (hd : decode cc pc = .ok (.lor, 1)) (kk : jW p l e R s m args below meth c Q D T ad cA A nL kc ks (pc + 1) lv (.long (x ||| y) :: st) S V L) : jW p l e R s m args below meth c Q D T ad cA A nL kc ks pc lv (.long y :: .long x :: st) S V L := fun H locs ls hP hS hl => lv_lor C.1 C.2.1 hd (kk H locs ls hP hS hl)
theorem j_ldiv (C : jC p s m args c D T ad cA A cc nL own B) {x y : Int64} (hd : decode cc pc = .ok (.ldiv, 1)) (hne : ¬ y = 0) (kk : jW p l e R s m args below meth c Q D T ad cA A nL kc ks (pc + 1) lv (.long (x / y) :: st) S V L) : jW p l e R s m args below meth c Q D T ad cA A nL kc ks pc lv (.long y :: .long x :: st) S V L := fun H locs ls hP hS hl => lv_ldiv C.1 C.2.1 hd hne (kk H locs ls hP hS hl)
theorem j_lrem (C : jC p s m args c D T ad cA A cc nL own B) {x y : Int64} (hd : decode cc pc = .ok (.lrem, 1)) (hne : ¬ y = 0) (kk : jW p l e R s m args below meth c Q D T ad cA A nL kc ks (pc + 1) lv (.long (x - x / y * y) :: st) S V L) : jW p l e R s m args below meth c Q D T ad cA A nL kc ks pc lv (.long y :: .long x :: st) S V L := fun H locs ls hP hS hl => lv_lrem C.1 C.2.1 hd hne (kk H locs ls hP hS hl)
theorem j_ineg (C : jC p s m args c D T ad cA A cc nL own B) {x : Int32} (hd : decode cc pc = .ok (.ineg, 1)) (kk : jW p l e R s m args below meth c Q D T ad cA A nL kc ks (pc + 1) lv (.int (-x) :: st) S V L) : jW p l e R s m args below meth c Q D T ad cA A nL kc ks pc lv (.int x :: st) S V L := fun H locs ls hP hS hl => lv_ineg C.1 C.2.1 hd (kk H locs ls hP hS hl)
theorem j_iushr (C : jC p s m args c D T ad cA A cc nL own B) {x y : Int32} (hd : decode cc pc = .ok (.iushr, 1)) (kk : jW p l e R s m args below meth c Q D T ad cA A nL kc ks (pc + 1) lv (.int ((x.toUInt32 >>> (y.toUInt32 &&& Int32.toUInt32 31)).toInt32) :: st) S V L) : jW p l e R s m args below meth c Q D T ad cA A nL kc ks pc lv (.int y :: .int x :: st) S V L := fun H locs ls hP hS hl => lv_iushr C.1 C.2.1 hd rfl (kk H locs ls hP hS hl)
theorem j_i2l (C : jC p s m args c D T ad cA A cc nL own B) {x : Int32} (hd : decode cc pc = .ok (.i2l, 1)) (kk : jW p l e R s m args below meth c Q D T ad cA A nL kc ks (pc + 1) lv (.long x.toInt64 :: st) S V L) : jW p l e R s m args below meth c Q D T ad cA A nL kc ks pc lv (.int x :: st) S V L := fun H locs ls hP hS hl => lv_i2l C.1 C.2.1 hd rfl (kk H locs ls hP hS hl)
theorem j_l2i (C : jC p s m args c D T ad cA A cc nL own B) {x : Int64} (hd : decode cc pc = .ok (.l2i, 1)) (kk : jW p l e R s m args below meth c Q D T ad cA A nL kc ks (pc + 1) lv (.int x.toInt32 :: st) S V L) : jW p l e R s m args below meth c Q D T ad cA A nL kc ks pc lv (.long x :: st) S V L := fun H locs ls hP hS hl => lv_l2i C.1 C.2.1 hd rfl (kk H locs ls hP hS hl)
theorem j_i2c (C : jC p s m args c D T ad cA A cc nL own B) {x : Int32} (hd : decode cc pc = .ok (.i2c, 1)) (kk : jW p l e R s m args below meth c Q D T ad cA A nL kc ks (pc + 1) lv (.int ((x.toUInt32 % 65536).toInt32) :: st) S V L) : jW p l e R s m args below meth c Q D T ad cA A nL kc ks pc lv (.int x :: st) S V L := fun H locs ls hP hS hl => lv_i2c C.1 C.2.1 hd rfl (kk H locs ls hP hS hl)
theorem j_i2b (C : jC p s m args c D T ad cA A cc nL own B) {x : Int32} (hd : decode cc pc = .ok (.i2b, 1)) (kk : jW p l e R s m args below meth c Q D T ad cA A nL kc ks (pc + 1) lv (.int (x.toInt8.toInt32) :: st) S V L) : jW p l e R s m args below meth c Q D T ad cA A nL kc ks pc lv (.int x :: st) S V L := fun H locs ls hP hS hl => lv_i2b C.1 C.2.1 hd rfl (kk H locs ls hP hS hl)
theorem j_lshl (C : jC p s m args c D T ad cA A cc nL own B) {x : Int64} {y : Int32} (hd : decode cc pc = .ok (.lshl, 1)) (kk : jW p l e R s m args below meth c Q D T ad cA A nL kc ks (pc + 1) lv (.long (x <<< (y.toInt64 &&& 63)) :: st) S V L) : jW p l e R s m args below meth c Q D T ad cA A nL kc ks pc lv (.int y :: .long x :: st) S V L := fun H locs ls hP hS hl => lv_lshl C.1 C.2.1 hd rfl (kk H locs ls hP hS hl)
theorem j_lcmp (C : jC p s m args c D T ad cA A cc nL own B) {x y : Int64} (hd : decode cc pc = .ok (.lcmp, 1)) (kk : jW p l e R s m args below meth c Q D T ad cA A nL kc ks (pc + 1) lv (.int (lg_cmp x y) :: st) S V L) : jW p l e R s m args below meth c Q D T ad cA A nL kc ks pc lv (.long y :: .long x :: st) S V L := fun H locs ls hP hS hl => W.lcmp C.1 C.2.1 hd (kk H locs ls hP hS hl)
theorem j_dup (C : jC p s m args c D T ad cA A cc nL own B) {va : Value} (hd : decode cc pc = .ok (.dup, 1)) (h1 : va.category = 1) (kk : jW p l e R s m args below meth c Q D T ad cA A nL kc ks (pc + 1) lv (va :: va :: st) S V L) : jW p l e R s m args below meth c Q D T ad cA A nL kc ks pc lv (va :: st) S V L := fun H locs ls hP hS hl => lv_dup C.1 C.2.1 hd h1 (kk H locs ls hP hS hl)
theorem j_pop (C : jC p s m args c D T ad cA A cc nL own B) {va : Value} (hd : decode cc pc = .ok (.pop, 1)) (h1 : va.category = 1) (kk : jW p l e R s m args below meth c Q D T ad cA A nL kc ks (pc + 1) lv (st) S V L) : jW p l e R s m args below meth c Q D T ad cA A nL kc ks pc lv (va :: st) S V L := fun H locs ls hP hS hl => lv_pop C.1 C.2.1 hd h1 (kk H locs ls hP hS hl)
theorem j_dup2_11 (C : jC p s m args c D T ad cA A cc nL own B) {va vb : Value} (hd : decode cc pc = .ok (.dup2, 1)) (h1 : va.category = 1) (h2 : vb.category = 1) (kk : jW p l e R s m args below meth c Q D T ad cA A nL kc ks (pc + 1) lv (va :: vb :: va :: vb :: st) S V L) : jW p l e R s m args below meth c Q D T ad cA A nL kc ks pc lv (va :: vb :: st) S V L := fun H locs ls hP hS hl => lv_dup2_11 C.1 C.2.1 hd h1 h2 (kk H locs ls hP hS hl)
theorem j_dup_x1 (C : jC p s m args c D T ad cA A cc nL own B) {va vb : Value} (hd : decode cc pc = .ok (.dup_x1, 1)) (h1 : va.category = 1) (h2 : vb.category = 1) (kk : jW p l e R s m args below meth c Q D T ad cA A nL kc ks (pc + 1) lv (va :: vb :: va :: st) S V L) : jW p l e R s m args below meth c Q D T ad cA A nL kc ks pc lv (va :: vb :: st) S V L := fun H locs ls hP hS hl => lv_dup_x1 C.1 C.2.1 hd h1 h2 (kk H locs ls hP hS hl)
theorem j_if_eq (C : jC p s m args c D T ad cA A cc nL own B) {tgt : Nat} {x : Int32} {off : Int} (hd : decode cc pc = .ok (.ifCond .eq off, 3)) (ht : (pc : Int) + off = (tgt : Int)) (kt : x = 0 → jW p l e R s m args below meth c Q D T ad cA A nL kc ks tgt lv st S V L) (kf : ¬ x = 0 → jW p l e R s m args below meth c Q D T ad cA A nL kc ks (pc + 3) lv st S V L) : jW p l e R s m args below meth c Q D T ad cA A nL kc ks pc lv (.int x :: st) S V L := fun H locs ls hP hS hl => lv_if_eq C.1 C.2.1 hd ht (fun h => kt h H locs ls hP hS hl) (fun h => kf h H locs ls hP hS hl)
theorem j_if_ne (C : jC p s m args c D T ad cA A cc nL own B) {tgt : Nat} {x : Int32} {off : Int} (hd : decode cc pc = .ok (.ifCond .ne off, 3)) (ht : (pc : Int) + off = (tgt : Int)) (kt : ¬ x = 0 → jW p l e R s m args below meth c Q D T ad cA A nL kc ks tgt lv st S V L) (kf : x = 0 → jW p l e R s m args below meth c Q D T ad cA A nL kc ks (pc + 3) lv st S V L) : jW p l e R s m args below meth c Q D T ad cA A nL kc ks pc lv (.int x :: st) S V L := fun H locs ls hP hS hl => lv_if_ne C.1 C.2.1 hd ht (fun h => kt h H locs ls hP hS hl) (fun h => kf h H locs ls hP hS hl)
theorem j_if_lt (C : jC p s m args c D T ad cA A cc nL own B) {tgt : Nat} {x : Int32} {off : Int} (hd : decode cc pc = .ok (.ifCond .lt off, 3)) (ht : (pc : Int) + off = (tgt : Int)) (kt : x < 0 → jW p l e R s m args below meth c Q D T ad cA A nL kc ks tgt lv st S V L) (kf : ¬ x < 0 → jW p l e R s m args below meth c Q D T ad cA A nL kc ks (pc + 3) lv st S V L) : jW p l e R s m args below meth c Q D T ad cA A nL kc ks pc lv (.int x :: st) S V L := fun H locs ls hP hS hl => lv_if_lt C.1 C.2.1 hd ht (fun h => kt h H locs ls hP hS hl) (fun h => kf h H locs ls hP hS hl)
theorem j_if_ge (C : jC p s m args c D T ad cA A cc nL own B) {tgt : Nat} {x : Int32} {off : Int} (hd : decode cc pc = .ok (.ifCond .ge off, 3)) (ht : (pc : Int) + off = (tgt : Int)) (kt : 0 ≤ x → jW p l e R s m args below meth c Q D T ad cA A nL kc ks tgt lv st S V L) (kf : ¬ 0 ≤ x → jW p l e R s m args below meth c Q D T ad cA A nL kc ks (pc + 3) lv st S V L) : jW p l e R s m args below meth c Q D T ad cA A nL kc ks pc lv (.int x :: st) S V L := fun H locs ls hP hS hl => lv_if_ge C.1 C.2.1 hd ht (fun h => kt h H locs ls hP hS hl) (fun h => kf h H locs ls hP hS hl)
theorem j_if_gt (C : jC p s m args c D T ad cA A cc nL own B) {tgt : Nat} {x : Int32} {off : Int} (hd : decode cc pc = .ok (.ifCond .gt off, 3)) (ht : (pc : Int) + off = (tgt : Int)) (kt : 0 < x → jW p l e R s m args below meth c Q D T ad cA A nL kc ks tgt lv st S V L) (kf : ¬ 0 < x → jW p l e R s m args below meth c Q D T ad cA A nL kc ks (pc + 3) lv st S V L) : jW p l e R s m args below meth c Q D T ad cA A nL kc ks pc lv (.int x :: st) S V L := fun H locs ls hP hS hl => lv_if_gt C.1 C.2.1 hd ht (fun h => kt h H locs ls hP hS hl) (fun h => kf h H locs ls hP hS hl)
theorem j_if_le (C : jC p s m args c D T ad cA A cc nL own B) {tgt : Nat} {x : Int32} {off : Int} (hd : decode cc pc = .ok (.ifCond .le off, 3)) (ht : (pc : Int) + off = (tgt : Int)) (kt : x ≤ 0 → jW p l e R s m args below meth c Q D T ad cA A nL kc ks tgt lv st S V L) (kf : ¬ x ≤ 0 → jW p l e R s m args below meth c Q D T ad cA A nL kc ks (pc + 3) lv st S V L) : jW p l e R s m args below meth c Q D T ad cA A nL kc ks pc lv (.int x :: st) S V L := fun H locs ls hP hS hl => lv_if_le C.1 C.2.1 hd ht (fun h => kt h H locs ls hP hS hl) (fun h => kf h H locs ls hP hS hl)
theorem j_icmp_eq (C : jC p s m args c D T ad cA A cc nL own B) {tgt : Nat} {x y : Int32} {off : Int} (hd : decode cc pc = .ok (.if_icmp .eq off, 3)) (ht : (pc : Int) + off = (tgt : Int)) (kt : x = y → jW p l e R s m args below meth c Q D T ad cA A nL kc ks tgt lv st S V L) (kf : ¬ x = y → jW p l e R s m args below meth c Q D T ad cA A nL kc ks (pc + 3) lv st S V L) : jW p l e R s m args below meth c Q D T ad cA A nL kc ks pc lv (.int y :: .int x :: st) S V L := fun H locs ls hP hS hl => lv_icmp_eq C.1 C.2.1 hd ht (fun h => kt h H locs ls hP hS hl) (fun h => kf h H locs ls hP hS hl)
theorem j_icmp_ne (C : jC p s m args c D T ad cA A cc nL own B) {tgt : Nat} {x y : Int32} {off : Int} (hd : decode cc pc = .ok (.if_icmp .ne off, 3)) (ht : (pc : Int) + off = (tgt : Int)) (kt : ¬ x = y → jW p l e R s m args below meth c Q D T ad cA A nL kc ks tgt lv st S V L) (kf : x = y → jW p l e R s m args below meth c Q D T ad cA A nL kc ks (pc + 3) lv st S V L) : jW p l e R s m args below meth c Q D T ad cA A nL kc ks pc lv (.int y :: .int x :: st) S V L := fun H locs ls hP hS hl => lv_icmp_ne C.1 C.2.1 hd ht (fun h => kt h H locs ls hP hS hl) (fun h => kf h H locs ls hP hS hl)
theorem j_icmp_lt (C : jC p s m args c D T ad cA A cc nL own B) {tgt : Nat} {x y : Int32} {off : Int} (hd : decode cc pc = .ok (.if_icmp .lt off, 3)) (ht : (pc : Int) + off = (tgt : Int)) (kt : x < y → jW p l e R s m args below meth c Q D T ad cA A nL kc ks tgt lv st S V L) (kf : ¬ x < y → jW p l e R s m args below meth c Q D T ad cA A nL kc ks (pc + 3) lv st S V L) : jW p l e R s m args below meth c Q D T ad cA A nL kc ks pc lv (.int y :: .int x :: st) S V L := fun H locs ls hP hS hl => lv_icmp_lt C.1 C.2.1 hd ht (fun h => kt h H locs ls hP hS hl) (fun h => kf h H locs ls hP hS hl)
theorem j_icmp_ge (C : jC p s m args c D T ad cA A cc nL own B) {tgt : Nat} {x y : Int32} {off : Int} (hd : decode cc pc = .ok (.if_icmp .ge off, 3)) (ht : (pc : Int) + off = (tgt : Int)) (kt : y ≤ x → jW p l e R s m args below meth c Q D T ad cA A nL kc ks tgt lv st S V L) (kf : ¬ y ≤ x → jW p l e R s m args below meth c Q D T ad cA A nL kc ks (pc + 3) lv st S V L) : jW p l e R s m args below meth c Q D T ad cA A nL kc ks pc lv (.int y :: .int x :: st) S V L := fun H locs ls hP hS hl => lv_icmp_ge C.1 C.2.1 hd ht (fun h => kt h H locs ls hP hS hl) (fun h => kf h H locs ls hP hS hl)
theorem j_icmp_gt (C : jC p s m args c D T ad cA A cc nL own B) {tgt : Nat} {x y : Int32} {off : Int} (hd : decode cc pc = .ok (.if_icmp .gt off, 3)) (ht : (pc : Int) + off = (tgt : Int)) (kt : y < x → jW p l e R s m args below meth c Q D T ad cA A nL kc ks tgt lv st S V L) (kf : ¬ y < x → jW p l e R s m args below meth c Q D T ad cA A nL kc ks (pc + 3) lv st S V L) : jW p l e R s m args below meth c Q D T ad cA A nL kc ks pc lv (.int y :: .int x :: st) S V L := fun H locs ls hP hS hl => lv_icmp_gt C.1 C.2.1 hd ht (fun h => kt h H locs ls hP hS hl) (fun h => kf h H locs ls hP hS hl)
theorem j_icmp_le (C : jC p s m args c D T ad cA A cc nL own B) {tgt : Nat} {x y : Int32} {off : Int} (hd : decode cc pc = .ok (.if_icmp .le off, 3)) (ht : (pc : Int) + off = (tgt : Int)) (kt : x ≤ y → jW p l e R s m args below meth c Q D T ad cA A nL kc ks tgt lv st S V L) (kf : ¬ x ≤ y → jW p l e R s m args below meth c Q D T ad cA A nL kc ks (pc + 3) lv st S V L) : jW p l e R s m args below meth c Q D T ad cA A nL kc ks pc lv (.int y :: .int x :: st) S V L := fun H locs ls hP hS hl => lv_icmp_le C.1 C.2.1 hd ht (fun h => kt h H locs ls hP hS hl) (fun h => kf h H locs ls hP hS hl)
theorem j_goto (C : jC p s m args c D T ad cA A cc nL own B) {tgt : Nat} {off : Int} (hd : decode cc pc = .ok (.goto off, 3)) (ht : (pc : Int) + off = (tgt : Int)) (kk : jW p l e R s m args below meth c Q D T ad cA A nL kc ks tgt lv st S V L) : jW p l e R s m args below meth c Q D T ad cA A nL kc ks pc lv st S V L := fun H locs ls hP hS hl => lv_goto C.1 C.2.1 hd ht (kk H locs ls hP hS hl)
theorem j_tableOut (C : jC p s m args c D T ad cA A cc nL own B) {tgt : Nat} {dflt lo hi : Int} {offs : Array Int} {len : Nat} {x : Int32} (hd : decode cc pc = .ok (.tableswitch dflt lo hi offs, len)) (h : x.toInt < lo ∨ hi < x.toInt) (ht : (pc : Int) + dflt = (tgt : Int)) (kk : jW p l e R s m args below meth c Q D T ad cA A nL kc ks tgt lv st S V L) : jW p l e R s m args below meth c Q D T ad cA A nL kc ks pc lv (.int x :: st) S V L := fun H locs ls hP hS hl => lv_tableOut C.1 C.2.1 hd h ht (kk H locs ls hP hS hl)
theorem j_tableIn (C : jC p s m args c D T ad cA A cc nL own B) {tgt : Nat} {dflt lo hi off : Int} {offs : Array Int} {len : Nat} {x : Int32} (hd : decode cc pc = .ok (.tableswitch dflt lo hi offs, len)) (h1 : ¬ x.toInt < lo) (h2 : ¬ hi < x.toInt) (ho : offs[(x.toInt - lo).toNat]? = some off) (ht : (pc : Int) + off = (tgt : Int)) (kk : jW p l e R s m args below meth c Q D T ad cA A nL kc ks tgt lv st S V L) : jW p l e R s m args below meth c Q D T ad cA A nL kc ks pc lv (.int x :: st) S V L := fun H locs ls hP hS hl => lv_tableIn C.1 C.2.1 hd h1 h2 ho ht (kk H locs ls hP hS hl)
theorem j_lookup (C : jC p s m args c D T ad cA A cc nL own B) {tgt : Nat} {dflt off : Int} {ps : Array (Int × Int)} {len : Nat} {x : Int32} (hd : decode cc pc = .ok (.lookupswitch dflt ps, len)) (hp : (ps.toList.zip (ps.toList.drop 1)).all (fun (a, next) => a.1 < next.1) = true) (ho : Op.lookupswitch.offset ps.toList dflt x.toInt = off) (ht : (pc : Int) + off = (tgt : Int)) (kk : jW p l e R s m args below meth c Q D T ad cA A nL kc ks tgt lv st S V L) : jW p l e R s m args below meth c Q D T ad cA A nL kc ks pc lv (.int x :: st) S V L := fun H locs ls hP hS hl => lv_lookup C.1 C.2.1 hd hp ho ht (kk H locs ls hP hS hl)
theorem j_get (C : jC p s m args c D T ad cA A cc nL own B) {q k ci N index : Nat} {Cn : String} {Tn : u_T} {sl : List (Nat × Nat)} {d : Nat × Nat} (hT : T[q]? = some (.inl (ci, sl))) (hsl : sl[k]? = some d) (hc : vwCl[ci]? = some (Cn, Tn, N)) (hk : k < N) (hin : ∀ w ∈ u_ws Cn Tn N, w ∈ bg) (hw : Cond.fieldLink own index (Tn k).1 (Tn k).2.1 (Tn k).2.2.1 ∈ bg)
    (hd : decode cc pc = .ok (.getfield index, 3)) (kk : jW p l e R s m args below meth c Q D T ad cA A nL kc ks (pc + 3) lv (jv ad S L (100 * q + k) d :: st) S V L) : jW p l e R s m args below meth c Q D T ad cA A nL kc ks pc lv (.ref (ad q) :: st) S V L := fun H locs ls hP hS hl =>
  va_get (D := D) (fs := jfs ad S L q sl) C.1 C.2.1 C.2.2.2.2.1 hin C.2.2.2.1 C.2.2.2.2.2.1.1 hP q (jws_at hT) hc k hk (C.2.2.2.2.1 _ hw) (fun _ h9 => h9) (jfs_at hsl) hd (kk H locs ls hP hS hl)
theorem j_put (C : jC p s m args c D T ad cA A cc nL own B) {q k ci N index z : Nat} {Cn : String} {Tn : u_T} {ty0 : Nat → FieldType} {sl : List (Nat × Nat)} {x : Int32} {ty : FieldType} (hT : T[q]? = some (.inl (ci, sl))) (hsl : sl[k]? = some (0, z)) (hc : vwCl[ci]? = some (Cn, Tn, N)) (hk : k < N) (hin : ∀ w ∈ u_ws Cn Tn N, w ∈ bg) (hw : Cond.fieldLink own index (Tn k).1 (Tn k).2.1 (Tn k).2.2.1 ∈ bg)
    (hty : ∀ k, k < N → parseFieldDescriptor (Tn k).2.2.1 = some (ty0 k)) (hnm : ∀ a, a < N → ∀ b, b < N → a ≠ b → (Tn a).2.1 ≠ (Tn b).2.1) (hfin : (Tn k).2.2.2 = false) (hdt : parseFieldDescriptor (Tn k).2.2.1 = some ty) (hn : narrow ty (.int x) = .int x) (hfit : fits ty (.int x) = true)
    (hd : decode cc pc = .ok (.putfield index, 3)) (kk : jW p l e R s m args below meth c Q D T ad cA A nL kc ks (pc + 3) lv st (va_up S (100 * q + k) x) V L) : jW p l e R s m args below meth c Q D T ad cA A nL kc ks pc lv (.int x :: .ref (ad q) :: st) S V L := fun H locs ls hP hS hl =>
  va_put (D := D) (fs := jfs ad S L q sl) C.1 C.2.1 C.2.2.2.2.1 hin ty0 hty hnm C.2.2.2.1 C.2.2.2.2.2.1.1 hP (jws_D C.2.2.2.2.2.2.2.1 C.2.2.2.2.2.2.2.2.1) hS q (jws_at hT) hc k hk (C.2.2.2.2.1 _ hw) (fun _ h9 => h9) hfin hdt hn hfit (by rw [jfs_len]; exact (List.getElem?_eq_some_iff.mp hsl).1) hd
    (fun H1 locs1 hP1 _ hS1 => kk H1 locs1 ls (by rw [← jws_put C.2.2.2.2.2.2.1 hT hsl x]; exact hP1) hS1 hl)
theorem j_putl (C : jC p s m args c D T ad cA A cc nL own B) {q k ci N index z : Nat} {Cn : String} {Tn : u_T} {ty0 : Nat → FieldType} {sl : List (Nat × Nat)} {x : Int64} {ty : FieldType} (hT : T[q]? = some (.inl (ci, sl))) (hsl : sl[k]? = some (2, z)) (hc : vwCl[ci]? = some (Cn, Tn, N)) (hk : k < N) (hin : ∀ w ∈ u_ws Cn Tn N, w ∈ bg) (hw : Cond.fieldLink own index (Tn k).1 (Tn k).2.1 (Tn k).2.2.1 ∈ bg)
    (hty : ∀ k, k < N → parseFieldDescriptor (Tn k).2.2.1 = some (ty0 k)) (hnm : ∀ a, a < N → ∀ b, b < N → a ≠ b → (Tn a).2.1 ≠ (Tn b).2.1) (hfin : (Tn k).2.2.2 = false) (hdt : parseFieldDescriptor (Tn k).2.2.1 = some ty) (hn : narrow ty (.long x) = .long x) (hfit : fits ty (.long x) = true)
    (hd : decode cc pc = .ok (.putfield index, 3)) (kk : jW p l e R s m args below meth c Q D T ad cA A nL kc ks (pc + 3) lv st S V (va_up L (100 * q + k) x)) : jW p l e R s m args below meth c Q D T ad cA A nL kc ks pc lv (.long x :: .ref (ad q) :: st) S V L := fun H locs ls hP hS hl =>
  va_put (D := D) (fs := jfs ad S L q sl) C.1 C.2.1 C.2.2.2.2.1 hin ty0 hty hnm C.2.2.2.1 C.2.2.2.2.2.1.1 hP (jws_D C.2.2.2.2.2.2.2.1 C.2.2.2.2.2.2.2.2.1) hS q (jws_at hT) hc k hk (C.2.2.2.2.1 _ hw) (fun _ h9 => h9) hfin hdt hn hfit (by rw [jfs_len]; exact (List.getElem?_eq_some_iff.mp hsl).1) hd
    (fun H1 locs1 hP1 _ hS1 => kk H1 locs1 ls (by rw [← jws_putl C.2.2.2.2.2.2.1 hT hsl x]; exact hP1) hS1 hl)
theorem j_iald (C : jC p s m args c D T ad cA A cc nL own B) {q n : Nat} {i : Int32} (hT : T[q]? = some (.inr (n, 0))) (hin : vp_in i n) (hd : decode cc pc = .ok (.iaload, 1)) (kk : jW p l e R s m args below meth c Q D T ad cA A nL kc ks (pc + 1) lv (.int (V q i.toNatClampNeg) :: st) S V L) : jW p l e R s m args below meth c Q D T ad cA A nL kc ks pc lv (.int i :: .ref (ad q) :: st) S V L := fun H locs ls hP hS hl =>
  va_iald (D := D) (n := n) (f := V q) C.1 C.2.1 (C.2.2.2.2.2.1.2.1 q (n, 0) hT) hP q 0 (jws_at hT) rfl hin hd (kk H locs ls hP hS hl)
theorem j_bald (C : jC p s m args c D T ad cA A cc nL own B) {q n : Nat} {i : Int32} (hT : T[q]? = some (.inr (n, 1))) (hin : vp_in i n) (hd : decode cc pc = .ok (.baload, 1)) (kk : jW p l e R s m args below meth c Q D T ad cA A nL kc ks (pc + 1) lv (.int (V q i.toNatClampNeg) :: st) S V L) : jW p l e R s m args below meth c Q D T ad cA A nL kc ks pc lv (.int i :: .ref (ad q) :: st) S V L := fun H locs ls hP hS hl =>
  va_bald (D := D) (n := n) (f := V q) C.1 C.2.1 (C.2.2.2.2.2.1.2.1 q (n, 1) hT) hP q 0 (jws_at hT) rfl hin hd (kk H locs ls hP hS hl)
theorem j_zald (C : jC p s m args c D T ad cA A cc nL own B) {q n : Nat} {i : Int32} (hT : T[q]? = some (.inr (n, 2))) (hin : vp_in i n) (hd : decode cc pc = .ok (.baload, 1)) (kk : jW p l e R s m args below meth c Q D T ad cA A nL kc ks (pc + 1) lv (.int (V q i.toNatClampNeg) :: st) S V L) : jW p l e R s m args below meth c Q D T ad cA A nL kc ks pc lv (.int i :: .ref (ad q) :: st) S V L := fun H locs ls hP hS hl =>
  va_zald (D := D) (n := n) (f := V q) C.1 C.2.1 (C.2.2.2.2.2.1.2.1 q (n, 2) hT) hP q 0 (jws_at hT) rfl hin hd (kk H locs ls hP hS hl)
theorem j_iast (C : jC p s m args c D T ad cA A cc nL own B) {q n : Nat} {i x : Int32} (hT : T[q]? = some (.inr (n, 0))) (hin : vp_in i n) (hd : decode cc pc = .ok (.iastore, 1)) (kk : jW p l e R s m args below meth c Q D T ad cA A nL kc ks (pc + 1) lv st S (va_up V q (upd (V q) i.toNatClampNeg x)) L) : jW p l e R s m args below meth c Q D T ad cA A nL kc ks pc lv (.int x :: .int i :: .ref (ad q) :: st) S V L := fun H locs ls hP hS hl =>
  va_iast (D := D) (n := n) (f := V q) C.1 C.2.1 (C.2.2.2.2.2.1.2.1 q (n, 0) hT) hP (jws_D C.2.2.2.2.2.2.2.1 C.2.2.2.2.2.2.2.2.1) hS q 0 (jws_at hT) rfl hin hd (fun H1 locs1 hP1 _ hS1 => kk H1 locs1 ls (by rw [← jws_ast hT]; exact hP1) hS1 hl)
theorem j_bast (C : jC p s m args c D T ad cA A cc nL own B) {q n : Nat} {i x : Int32} (hT : T[q]? = some (.inr (n, 1))) (hin : vp_in i n) (hd : decode cc pc = .ok (.bastore, 1)) (kk : jW p l e R s m args below meth c Q D T ad cA A nL kc ks (pc + 1) lv st S (va_up V q (upd (V q) i.toNatClampNeg (vp_nar .byte x))) L) : jW p l e R s m args below meth c Q D T ad cA A nL kc ks pc lv (.int x :: .int i :: .ref (ad q) :: st) S V L := fun H locs ls hP hS hl =>
  va_bast (D := D) (n := n) (f := V q) C.1 C.2.1 (C.2.2.2.2.2.1.2.1 q (n, 1) hT) hP (jws_D C.2.2.2.2.2.2.2.1 C.2.2.2.2.2.2.2.2.1) hS q 0 (jws_at hT) rfl hin hd (fun H1 locs1 hP1 _ hS1 => kk H1 locs1 ls (by rw [← jws_ast hT]; exact hP1) hS1 hl)
theorem j_zast (C : jC p s m args c D T ad cA A cc nL own B) {q n : Nat} {i x : Int32} (hT : T[q]? = some (.inr (n, 2))) (hin : vp_in i n) (hd : decode cc pc = .ok (.bastore, 1)) (kk : jW p l e R s m args below meth c Q D T ad cA A nL kc ks (pc + 1) lv st S (va_up V q (upd (V q) i.toNatClampNeg (vp_nar .boolean x))) L) : jW p l e R s m args below meth c Q D T ad cA A nL kc ks pc lv (.int x :: .int i :: .ref (ad q) :: st) S V L := fun H locs ls hP hS hl =>
  va_zast (D := D) (n := n) (f := V q) C.1 C.2.1 (C.2.2.2.2.2.1.2.1 q (n, 2) hT) hP (jws_D C.2.2.2.2.2.2.2.1 C.2.2.2.2.2.2.2.2.1) hS q 0 (jws_at hT) rfl hin hd (fun H1 locs1 hP1 _ hS1 => kk H1 locs1 ls (by rw [← jws_ast hT]; exact hP1) hS1 hl)
theorem j_alen (C : jC p s m args c D T ad cA A cc nL own B) {q : Nat} {nt : Nat × Nat} {v : Int32} (hT : T[q]? = some (.inr nt)) (hv : Int32.ofNat nt.1 = v) (hd : decode cc pc = .ok (.arraylength, 1)) (kk : jW p l e R s m args below meth c Q D T ad cA A nL kc ks (pc + 1) lv (.int v :: st) S V L) : jW p l e R s m args below meth c Q D T ad cA A nL kc ks pc lv (.ref (ad q) :: st) S V L := fun H locs ls hP hS hl =>
  va_alen (D := D) (x := (nt.1, .inl (V q))) C.1 C.2.1 (C.2.2.2.2.2.1.2.1 q nt hT) hP q 0 (jws_at hT) rfl hv hd (kk H locs ls hP hS hl)
end JR
/-- a method's contract: from S V L with these arguments it returns rv, and S2 V2 L2 stand -/
def jPc (D : va_G) (T : jT) (ad : Nat → Nat) (cA : Nat → ClassId) (av : List Value) (sz : Nat) (S : Nat → Int32) (V : Nat → Nat → Int32) (L : Nat → Int64) (B : jBT) : Array Value → State → Prop := va_Pc av (fun U => U.heap.size = sz ∧ va_P D vwCl (jws T ad cA S V L) U.heap ∧ jK D T cA U ∧ jBk B (jA ad T sz) U U.heap)
def jQc (D : va_G) (T : jT) (ad : Nat → Nat) (cA : Nat → ClassId) (rv : Option Value) (sz : Nat) (S2 : Nat → Int32) (V2 : Nat → Nat → Int32) (L2 : Nat → Int64) : Array Value → State → Outcome → State → Prop := fun _ st oc t => (oc = .returned rv ∧ va_P D vwCl (jws T ad cA S2 V2 L2) t.heap) ∧ va_F (jA ad T sz) st t
def jM (l : Launch) (y : MethodName) (bytes : ByteArray) (maxL : Nat) (ret : Option FieldType) (rm : Room) (B : jBT) (D : va_G) (T : jT) (ad : Nat → Nat) (cA : Nat → ClassId) (av : List Value) (S : Nat → Int32) (V : Nat → Nat → Int32) (L : Nat → Int64) (rv : Option Value) (S2 : Nat → Int32) (V2 : Nat → Nat → Int32) (L2 : Nat → Int64) : Prop :=
  ∀ sz : Nat, Met l y (Cond.code y bytes maxL ret :: bg) rm (jPc D T ad cA av sz S V L B) (jQc D T ad cA rv sz S2 V2 L2) 0 0 (jA ad T sz)
theorem jPc_blind {D : va_G} {T : jT} {ad : Nat → Nat} {cA : Nat → ClassId} {av : List Value} {sz : Nat} {S : Nat → Int32} {V : Nat → Nat → Int32} {L : Nat → Int64} {B : jBT} : FrameBlind (jPc D T ad cA av sz S V L B) := fun a U g mk q => by
  obtain ⟨q0, q1, qP, qK, qB⟩ := q
  exact ⟨q0, q1, qP, jK.same (s := U) (U := U.calling g mk a) rfl qK, jBk.same (s := U) (U := U.calling g mk a) rfl qB⟩
/-- a contract out of a walk, of a method that no entry of the machine's runs in place of -/
theorem met_ofWF {l : Launch} {y : MethodName} {ws ws' : List Cond} {rm : Room} {Pc : Array Value → State → Prop} {Qc : Array Value → State → Outcome → State → Prop} {mc ms : Nat} {free : Addr → Prop} {cc : ByteArray} {maxL : Nat} {ret : Option FieldType}
    (hy : plainFor y = true) (hw : ws = Cond.code y cc maxL ret :: ws')
    (body : ∀ p e s m args below meth c s₁, BodyLoose p l y (headSpec ws rm) cc maxL ret e s m args below meth c s₁ → c.maxLocals = maxL → Pc args s →
      W p l e (headSpec ws rm).room s m args below meth c s.heap [] 0 0 (MQ below Qc args s mc ms free) (entryFrame m args maxL)) : Met l y ws rm Pc Qc mc ms free := by
  refine MetFree.of_bodySF (code := cc) (maxLocals := maxL) (ret := ret) hy (fun args s m h hn => ?_) (fun p e s m args below meth c s₁ B hml hP _ => ?_)
  · obtain ⟨meth, c, h1, h2, h3, h4, h5, h6, -, -⟩ := Cond.code_spec hn (atoms_spec (ws := ws) h _ (by rw [hw]; exact List.mem_cons_self))
    exact ⟨meth, c, h1, h2, h3, h4, h5, h6⟩
  · obtain ⟨t, a1, o, b1, b2, b3⟩ := body p e s m args below meth c s₁ B hml hP s₁ (by rw [B.state]; rfl) (Stand.of_body B)
    exact ⟨t, o, a1, b1, b2, ⟨b3.1, b3.2⟩⟩
/-- the walk of a body gives the contract -/
theorem jM_of {l : Launch} {y : MethodName} {bytes : ByteArray} {maxL : Nat} {ret : Option FieldType} {rm : Room} {B : jBT} {D : va_G} {T : jT} {ad : Nat → Nat} {cA : Nat → ClassId} {av : List Value} {S S2 : Nat → Int32} {V V2 : Nat → Nat → Int32} {L L2 : Nat → Int64} {rv : Option Value} (hy : plainFor y = true) (hok : jok T) (hI : jI ad T) (hn : (lg_sl av).length ≤ maxL)
    (body : ∀ (p : Program) (e : Env) (s : State) (m : MethodId) (args : Array Value) (below : List Frame) (meth : Method) (c : Code), jC p s m args c D T ad cA (jA ad T s.heap.size) bytes maxL y.cls B → meth.sig.returnType = ret → meth.locks = false →
      jW p l e rm s m args below meth c (MQ below (jQc D T ad cA rv s.heap.size S2 V2 L2) args s 0 0 (jA ad T s.heap.size)) D T ad cA (jA ad T s.heap.size) maxL 0 0 0 (lv_args 0 av) [] S V L) :
    jM l y bytes maxL ret rm B D T ad cA av S V L rv S2 V2 L2 := by
  intro sz
  refine met_ofWF (cc := bytes) (maxL := maxL) (ret := ret) hy rfl ?_
  intro p e s m args below meth c s₁ B hml hv
  obtain ⟨rfl, rfl, hP, hK, hB⟩ := hv
  have hts := atoms_spec (ws := Cond.code y bytes maxL ret :: bg) B.pre
  have hown : s.vm.findClass y.cls = some m.cls := findClass_of_methodNamed B.named
  rw [lg_entry_eq]
  exact body p e s m _ below meth c ⟨B.exec, B.bytes, hml, hown, fun w h => hts w (List.mem_cons_of_mem _ h), hK, hok, hI, fun i hi => Or.inl ⟨i, hi, rfl⟩, fun q hq => Or.inr hq, hB⟩ B.returns B.notSynchronized s.heap [] _ hP va_S.rf (lv_entry av hn)
section JE
variable {p : Program} {l : Launch} {e : Env} {R : Room} {s : State} {m : MethodId} {args : Array Value} {below : List Frame} {meth : Method} {c : Code} {Q : State → Prop} {D : va_G} {T : jT} {ad : Nat → Nat} {cA : Nat → ClassId} {A : Nat → Prop} {cc : ByteArray} {nL kc ks : Nat} {own : String} {B : jBT}
variable {pc : Nat} {lv : List (Nat × Value)} {st : List Value} {S : Nat → Int32} {V : Nat → Nat → Int32} {L : Nat → Int64}
/-- the ends -/
theorem j_iret {x : Int32} (C : jC p s m args c D T ad cA A cc nL own B) (hr : meth.sig.returnType = some .int) (hlk : meth.locks = false) (hA : A = jA ad T s.heap.size) (hd : decode cc pc = .ok (.ireturn, 1)) :
    jW p l e R s m args below meth c (MQ below (jQc D T ad cA (some (.int x)) s.heap.size S V L) args s kc ks (jA ad T s.heap.size)) D T ad cA A nL kc ks pc lv [.int x] S V L := by
  subst hA
  exact fun H locs ls hP hS hl => W.iret C.1 C.2.1 hr (fun t ht _ => ⟨⟨rfl, by rw [ht]; exact hP⟩, hS.F ht⟩) hS.2.2 hd hlk
theorem j_zret {x : Int32} (C : jC p s m args c D T ad cA A cc nL own B) (hr : meth.sig.returnType = some .boolean) (hlk : meth.locks = false) (hA : A = jA ad T s.heap.size) (hx : narrow .boolean (.int x) = .int x) (hd : decode cc pc = .ok (.ireturn, 1)) :
    jW p l e R s m args below meth c (MQ below (jQc D T ad cA (some (.int x)) s.heap.size S V L) args s kc ks (jA ad T s.heap.size)) D T ad cA A nL kc ks pc lv [.int x] S V L := by
  subst hA
  exact fun H locs ls hP hS hl => W.zret C.1 C.2.1 hr hx (fun t ht _ => ⟨⟨rfl, by rw [ht]; exact hP⟩, hS.F ht⟩) hS.2.2 hd hlk
theorem j_lret {x : Int64} (C : jC p s m args c D T ad cA A cc nL own B) (hr : meth.sig.returnType = some .long) (hlk : meth.locks = false) (hA : A = jA ad T s.heap.size) (hd : decode cc pc = .ok (.lreturn, 1)) :
    jW p l e R s m args below meth c (MQ below (jQc D T ad cA (some (.long x)) s.heap.size S V L) args s kc ks (jA ad T s.heap.size)) D T ad cA A nL kc ks pc lv [.long x] S V L := by
  subst hA
  exact fun H locs ls hP hS hl => W.lret C.1 C.2.1 hr (fun t ht _ => ⟨⟨rfl, by rw [ht]; exact hP⟩, hS.F ht⟩) hS.2.2 hd hlk
theorem j_vret (C : jC p s m args c D T ad cA A cc nL own B) (hr : meth.sig.returnType = none) (hlk : meth.locks = false) (hA : A = jA ad T s.heap.size) (hd : decode cc pc = .ok (.return_, 1)) :
    jW p l e R s m args below meth c (MQ below (jQc D T ad cA none s.heap.size S V L) args s kc ks (jA ad T s.heap.size)) D T ad cA A nL kc ks pc lv [] S V L := by
  subst hA
  exact fun H locs ls hP hS hl => W.vret C.1 C.2.1 hr (fun t ht _ => ⟨⟨rfl, by rw [ht]; exact hP⟩, hS.F ht⟩) hS.2.2 hd hlk
/-- what goes on behind a call -/
theorem j_after {rest : List Value} {rv : Option Value} {S2 : Nat → Int32} {V2 : Nat → Nat → Int32} {L2 : Nat → Int64} {H : Heap} {locs : List Loc} {ls : Array Slot} {a : Array Value} (C : jC p s m args c D T ad cA A cc nL own B) (hP : va_P D vwCl (jws T ad cA S V L) H) (hS : va_S A s.heap H locs) (hl : lv_has ls nL lv)
    (hr : va_Run p l e R s m args below meth c H locs kc ks 0 0 (F0 m pc ls st) rest (jQc D T ad cA rv H.size S2 V2 L2 a) (jA ad T H.size))
    (kk : jW p l e R s m args below meth c Q D T ad cA A nL kc ks (pc + 3) lv (rv.toList ++ rest) S2 V2 L2) : W p l e R s m args below meth c H locs kc ks Q (F0 m pc ls st) := by
  intro T0 hT0 X
  obtain ⟨v, st₀, t, T', L', h0, X', hL, e1, e2, ⟨⟨hv, hP2⟩, hz, hk⟩, stp⟩ := hr T0 hT0 X
  cases hv
  rw [h0] at hz hk
  have hsub : ∀ q, q < H.size → jA ad T H.size q → A q := fun q hq h => by
    rcases h with ⟨j, hj, rfl⟩ | h
    · exact C.2.2.2.2.2.2.2.2.1 j hj
    · exact absurd h (Nat.not_le.mpr hq)
  have hS2 : va_S A s.heap T'.heap (locs ++ L') := by
    refine ⟨Nat.le_trans hS.1 (by rw [e1]; exact hz), fun q h1 h2 => ?_, fun q hq => ?_⟩
    · have hq : q < H.size := Nat.lt_of_lt_of_le h1 hS.1
      rw [e1, hk q hq (fun z => h2 (hsub q hq z))]
      exact hS.2.1 q h1 h2
    · rcases List.mem_append.mp hq with h | h
      · exact hS.2.2 q h
      · rcases hL q h with ⟨j, hj, hj2⟩ | h9
        · rw [hj2]; exact C.2.2.2.2.2.2.2.2.1 j hj
        · exact C.2.2.2.2.2.2.2.2.2.1 _ (Nat.le_trans hS.1 h9)
  obtain ⟨t2, a1, b1⟩ := kk T'.heap (locs ++ L') ls (by rw [e1]; exact hP2) hS2 hl T' rfl X'
  exact ⟨t2, stp t2 a1, b1⟩
theorem j_recv {q ci : Nat} {r : vw_C} {sl : List (Nat × Nat)} {H : Heap} (C : jC p s m args c D T ad cA A cc nL own B) (hP : va_P D vwCl (jws T ad cA S V L) H) (hT : T[q]? = some (.inl (ci, sl))) (hc : vwCl[ci]? = some r) : ∃ cell : Cell, H[ad q]? = some cell ∧ cell.vm.isStatics = false ∧ s.vm.findClass r.1 = some cell.cls :=
  va_recv C.2.2.2.2.2.1.1 hP (ci := ci) (q0 := q) hc (jws_at hT)
theorem j_pre {av : List Value} {H : Heap} (C : jC p s m args c D T ad cA A cc nL own B) {locs : List Loc} (hP : va_P D vwCl (jws T ad cA S V L) H) (hS : va_S A s.heap H locs) : ∀ U : State, U.heap = H → s.WarmedH U.vm → jPc D T ad cA av H.size S V L B av.toArray U := fun U hU hW => ⟨rfl, by rw [hU], by rw [hU]; exact hP, C.2.2.2.2.2.1.warm hW, by
  rw [hU]
  refine ((C.2.2.2.2.2.2.2.2.2.2.kept hS.2.1).narrow (fun q h => ?_)).warm hW
  rcases h with ⟨j, hj, rfl⟩ | h
  · exact C.2.2.2.2.2.2.2.2.1 j hj
  · exact C.2.2.2.2.2.2.2.2.2.1 q (Nat.le_trans hS.1 h)⟩
/-- the words of a method that is called -/
def jmw (y : MethodName) (bytes : ByteArray) (maxL : Nat) (ret : Option FieldType) (n : Nat) : Prop := Cond.code y bytes maxL ret ∈ bg ∧ Cond.initialized y.cls ∈ bg ∧ (y.cls ≠ "java/lang/invoke/MethodHandle" ∧ y.cls ≠ "java/lang/invoke/VarHandle" ∧ (parseMethodDescriptor y.desc).map (fun d => d.parameters.length) = some n)
theorem j_callV {q ci idx n maxL : Nat} {r : vw_C} {sl : List (Nat × Nat)} {y : MethodName} {bytes : ByteArray} {ret : Option FieldType} {rm : Room} {As rest : List Value} {rv : Option Value} {S2 : Nat → Int32} {V2 : Nat → Nat → Int32} {L2 : Nat → Int64} (C : jC p s m args c D T ad cA A cc nL own B)
    (hM : jM l y bytes maxL ret rm B D T ad cA (.ref (ad q) :: As) S V L rv S2 V2 L2) (hw : jmw y bytes maxL ret n) (hi : Cond.instanceMethod y ∈ bg) (hse : Cond.selects y.cls y y ∈ bg) (hlk : Cond.methodLink own idx y ∈ bg) (hT : T[q]? = some (.inl (ci, sl))) (hc : vwCl[ci]? = some r) (hrc : r.1 = y.cls)
    (hrm : rm.cells = 0 ∧ rm.slots = 0 ∧ rm.frames + 1 ≤ R.frames ∧ 8 + (maxL + 11) + rm.locals ≤ R.locals) (hkr : kc ≤ R.cells ∧ ks ≤ R.slots) (hn : As.length = n) (hst : st = As.reverse ++ .ref (ad q) :: rest) (h8 : (rest.map fun v => v.category).sum ≤ 8) (hd : decode cc pc = .ok (.invokevirtual idx, 3))
    (kk : jW p l e R s m args below meth c Q D T ad cA A nL kc ks (pc + 3) lv (rv.toList ++ rest) S2 V2 L2) : jW p l e R s m args below meth c Q D T ad cA A nL kc ks pc lv st S V L := fun H locs ls hP hS hl => by
  subst hst
  have hts := C.2.2.2.2.1
  have hcell := j_recv C hP hT hc
  rw [hrc] at hcell
  refine j_after C hP hS hl (va_runV (Ts := bg) (As := As) (rest := rest) (n := n) (C := y.cls) ⟨C.1, C.2.1, C.2.2.1, C.2.2.2.1, hts⟩ (hM H.size) ⟨callB_of n hts (bg_g0 (fun w h => ?_)) rfl hrm.1 hrm.2.1 (hts _ hw.2.1) (hts _ hlk) hw.2.2 ⟨hrm.2.2.1, hrm.2.2.2⟩, hts _ hi, hts _ hse⟩ ⟨jPc_blind, hcell, j_pre C hP hS⟩ rfl hn hl.1 rfl (lv_room h8) hd ⟨hkr.1, hkr.2⟩) kk
  rcases List.mem_cons.mp h with h | h
  · rw [h]; exact hw.1
  · exact h
theorem j_callS {idx n maxL : Nat} {y : MethodName} {bytes : ByteArray} {ret : Option FieldType} {rm : Room} {As rest : List Value} {rv : Option Value} {S2 : Nat → Int32} {V2 : Nat → Nat → Int32} {L2 : Nat → Int64} (C : jC p s m args c D T ad cA A cc nL own B)
    (hM : jM l y bytes maxL ret rm B D T ad cA As S V L rv S2 V2 L2) (hw : jmw y bytes maxL ret n) (hi : Cond.static y ∈ bg) (hlk : Cond.methodLink own idx y ∈ bg)
    (hrm : rm.cells = 0 ∧ rm.slots = 0 ∧ rm.frames + 1 ≤ R.frames ∧ 8 + (maxL + 11) + rm.locals ≤ R.locals) (hkr : kc ≤ R.cells ∧ ks ≤ R.slots) (hn : As.length = n) (hst : st = As.reverse ++ rest) (h8 : (rest.map fun v => v.category).sum ≤ 8) (hd : decode cc pc = .ok (.invokestatic idx, 3))
    (kk : jW p l e R s m args below meth c Q D T ad cA A nL kc ks (pc + 3) lv (rv.toList ++ rest) S2 V2 L2) : jW p l e R s m args below meth c Q D T ad cA A nL kc ks pc lv st S V L := fun H locs ls hP hS hl => by
  subst hst
  have hts := C.2.2.2.2.1
  refine j_after C hP hS hl (va_runS (Ts := bg) (As := As) (rest := rest) (n := n) ⟨C.1, C.2.1, C.2.2.1, C.2.2.2.1, hts⟩ (hM H.size) ⟨callB_of n hts (bg_g0 (fun w h => ?_)) rfl hrm.1 hrm.2.1 (hts _ hw.2.1) (hts _ hlk) hw.2.2 ⟨hrm.2.2.1, hrm.2.2.2⟩, hts _ hi⟩ ⟨jPc_blind, j_pre C hP hS⟩ rfl hn hl.1 rfl (lv_room h8) hd ⟨hkr.1, hkr.2⟩) kk
  rcases List.mem_cons.mp h with h | h
  · rw [h]; exact hw.1
  · exact h
/-- a nest mate's private static -/
theorem j_callN {idx n maxL : Nat} {y : MethodName} {host : String} {bytes : ByteArray} {ret : Option FieldType} {rm : Room} {As rest : List Value} {rv : Option Value} {S2 : Nat → Int32} {V2 : Nat → Nat → Int32} {L2 : Nat → Int64} (C : jC p s m args c D T ad cA A cc nL own B)
    (hM : jM l y bytes maxL ret rm B D T ad cA As S V L rv S2 V2 L2) (hw : jmw y bytes maxL ret n) (hi : Cond.static y ∈ bg) (hlk : (own, idx, y, host) ∈ nw)
    (hrm : rm.cells = 0 ∧ rm.slots = 0 ∧ rm.frames + 1 ≤ R.frames ∧ 8 + (maxL + 11) + rm.locals ≤ R.locals) (hkr : kc ≤ R.cells ∧ ks ≤ R.slots) (hn : As.length = n) (hst : st = As.reverse ++ rest) (h8 : (rest.map fun v => v.category).sum ≤ 8) (hd : decode cc pc = .ok (.invokestatic idx, 3))
    (kk : jW p l e R s m args below meth c Q D T ad cA A nL kc ks (pc + 3) lv (rv.toList ++ rest) S2 V2 L2) : jW p l e R s m args below meth c Q D T ad cA A nL kc ks pc lv st S V L := fun H locs ls hP hS hl => by
  subst hst
  have hts := C.2.2.2.2.1
  refine j_after C hP hS hl (va_runSN (Ts := bg) (As := As) (rest := rest) (n := n) ⟨C.1, C.2.1, C.2.2.1, C.2.2.2.1, hts⟩ (hM H.size) ⟨va_cnB n hts (bg_g0 (fun w h => ?_)) rfl hrm.1 hrm.2.1 (C.2.2.2.2.2.1.2.2.1 _ hlk) (hts _ hw.2.1) hw.2.2 ⟨hrm.2.2.1, hrm.2.2.2⟩, hts _ hi, trivial⟩ ⟨jPc_blind, j_pre C hP hS⟩ rfl hn hl.1 rfl (lv_room h8) hd ⟨hkr.1, hkr.2⟩) kk
  rcases List.mem_cons.mp h with h | h
  · rw [h]; exact hw.1
  · exact h
end JE
