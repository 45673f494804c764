/-! ===== Arrays.fill over one row, and the rest of the constructors' rows ===== -/
def TF : jT := [.inr (72, 0)]
theorem tf_0 : TF[0]? = some (.inr (72, 0)) := rfl
theorem TF_ok : jok TF := jok_of rfl
theorem va_same {α : Type} {f : Nat → α} {k : Nat} {v : α} (h : f k = v) : va_up f k v = f := by
  funext j
  by_cases hj : j = k
  · subst hj; rw [va_up_self]; exact h.symm
  · exact va_up_ne f v hj
def fJ7_fill_53178_0_L5 : Nat → Int32 → Int32 → Int32 → (Nat → Nat → Int32) → Option ((Nat → Nat → Int32))
  | 0, _, _, _, _ => none
  | n + 1, x1, x2, x3, V4 =>
    (if x3 ≤ x2 then
    some V4
    else
    gd (ib x2 72) (
    lt (va_up V4 0 (upd (V4 0) (x2).toNatClampNeg x1)) (fun V7 =>
    lt (x2 + (1 : Int32)) (fun x8 =>
    fJ7_fill_53178_0_L5 n x1 x8 x3 V7))))
def fJ7_fill_53178_0 (V : Nat → Nat → Int32) (a1 : Int32) : Option ((Nat → Nat → Int32)) :=
  fJ7_fill_53178_0_L5 FU a1 (0 : Int32) (72 : Int32) V
set_option maxHeartbeats 4000000 in
set_option maxRecDepth 100000 in
theorem kJ7_fill_53178_0 (l : Launch) (B : jBT) (D : va_G) (ad : Nat → Nat) (cA : Nat → ClassId) (hI : jI ad TF) (S : Nat → Int32) (V : Nat → Nat → Int32) (L : Nat → Int64) (a1 : Int32) (V0 : Nat → Nat → Int32) (h : fJ7_fill_53178_0 V a1 = some V0) : jM l yJ7_fill_53178 cJ7_fill_53178 4 none ({ frames := 0, cells := 0, slots := 0, locals := 0 }) B D TF ad cA [.ref (ad 0), .int a1] S V L none S V0 L := by
  refine jM_of (plainFor_of_name (by decide)) TF_ok hI (Nat.le_of_ble_eq_true rfl) ?_
  intro p e s m args below meth c C hr hlk
  refine j_lv (lv2 := [(0, .ref (ad 0)), (1, .int a1)]) rfl ?_
  unfold fJ7_fill_53178_0 at h
  have H_fJ7_fill_53178_0_L5 : ∀ (n : Nat) (x1 : Int32) (x2 : Int32) (x3 : Int32) (V4 : Nat → Nat → Int32), fJ7_fill_53178_0_L5 n x1 x2 x3 V4 = some V0 → jW p l e ({ frames := 0, cells := 0, slots := 0, locals := 0 }) s m args below meth c (MQ below (jQc D TF ad cA none s.heap.size S V0 L) args s 0 0 (jA ad TF s.heap.size)) D TF ad cA (jA ad TF s.heap.size) 4 0 0 5 [(0, .ref (ad 0)), (1, .int x1), (2, .int x2), (3, .int x3)] [] S V4 L := by
    intro n
    induction n with
    | zero =>
      intro x1 x2 x3 V4 h
      cases (show (none : Option ((Nat → Nat → Int32))) = some V0 from h)
    | succ n ih =>
      intro x1 x2 x3 V4 h
      unfold fJ7_fill_53178_0_L5 at h
      refine j_iload_n C 2 rfl dJ7_fill_53178_5 rfl ?_
      refine j_iload_n C 3 rfl dJ7_fill_53178_6 rfl ?_
      refine j_icmp_ge (tgt := 20) C dJ7_fill_53178_7 (by decide) (fun c5 => ?_) (fun c5 => ?_)
      · have h := (if_pos c5).symm.trans h
        cases h
        exact j_vret C hr hlk rfl dJ7_fill_53178_20
      · have h := (if_neg c5).symm.trans h
        refine j_aload_n C 0 rfl dJ7_fill_53178_10 rfl ?_
        refine j_iload_n C 2 rfl dJ7_fill_53178_11 rfl ?_
        refine j_iload_n C 1 rfl dJ7_fill_53178_12 rfl ?_
        obtain ⟨g6, h⟩ := gd_elim h
        refine j_iast C tf_0 (ib_in g6) dJ7_fill_53178_13 ?_
        refine lt_elim h (fun V7 e_V7 h => ?_)
        refine j_V e_V7 ?_
        refine lt_elim h (fun x8 e_x8 h => ?_)
        refine j_iinc C [(2, .int x8), (0, .ref (ad 0)), (1, .int x1), (3, .int x3)] 2 dJ7_fill_53178_14 rfl ((iinc_eq ci_1).trans e_x8.symm) (by decide) rfl ?_
        refine j_goto (tgt := 5) C dJ7_fill_53178_17 (by decide) ?_
        exact j_sub [1, 2, 0, 3] rfl (ih _ _ _ _ h)
  refine j_iconst C dJ7_fill_53178_0 ci_0 ?_
  refine j_istore_n C [(2, .int (0 : Int32)), (0, .ref (ad 0)), (1, .int a1)] dJ7_fill_53178_1 rfl (by decide) rfl ?_
  refine j_aload_n C 1 rfl dJ7_fill_53178_2 rfl ?_
  refine j_alen (v := (72 : Int32)) C tf_0 (by decide) dJ7_fill_53178_3 ?_
  refine j_istore_n C [(3, .int (72 : Int32)), (2, .int (0 : Int32)), (0, .ref (ad 0)), (1, .int a1)] dJ7_fill_53178_4 rfl (by decide) rfl ?_
  exact j_sub [2, 3, 1, 0] rfl (H_fJ7_fill_53178_0_L5 FU _ _ _ _ h)
/-- the row behind fill's loop -/
theorem fill_loop (x : Int32) : ∀ (k i : Nat) (n : Nat) (V : Nat → Nat → Int32), i + k = 72 → k < n → fJ7_fill_53178_0_L5 n x (nI i) 72 V = some (va_up V 0 (fun j => if i ≤ j ∧ j < 72 then x else V 0 j)) := by
  intro k
  induction k with
  | zero =>
    intro i n V hi hn
    obtain ⟨n, rfl⟩ : ∃ m, n = m + 1 := ⟨n - 1, by omega⟩
    have hi' : i = 72 := by omega
    subst hi'
    unfold fJ7_fill_53178_0_L5
    rw [if_pos (show (72 : Int32) ≤ nI 72 by decide)]
    congr 1
    symm
    apply va_same
    funext j
    rw [if_neg (by omega)]
  | succ k ih =>
    intro i n V hi hn
    obtain ⟨n, rfl⟩ : ∃ m, n = m + 1 := ⟨n - 1, by omega⟩
    have hlt : ¬ ((72 : Int32) ≤ nI i) := nI_ge (a := i) (b := 72) (by omega) (by decide)
    have hc : (nI i).toNatClampNeg = i := nI_clamp (by omega)
    have hib : ib (nI i) 72 = true := by
      have := vp_in_nI (n := i) (N := 72) (by omega) (by decide)
      unfold ib
      exact decide_eq_true this
    unfold fJ7_fill_53178_0_L5
    rw [if_neg hlt, gd_t hib]
    show fJ7_fill_53178_0_L5 n x (nI i + 1) 72 (va_up V 0 (upd (V 0) (nI i).toNatClampNeg x)) = _
    rw [nI_1, ih (i + 1) n _ (by omega) (by omega), hc]
    congr 1
    funext q
    by_cases hq : q = 0
    · subst hq
      rw [va_up_self, va_up_self, va_up_self]
      funext j
      by_cases hj : j = i
      · subst hj; rw [if_neg (by omega), if_pos (by omega)]; simp [upd]
      · by_cases h2 : i ≤ j ∧ j < 72
        · rw [if_pos (by omega), if_pos h2]
        · rw [if_neg (by omega), if_neg h2]; simp [upd, hj]
    · rw [va_up_ne _ _ hq, va_up_ne _ _ hq, va_up_ne _ _ hq]
theorem fill_eq (V : Nat → Nat → Int32) (x : Int32) : fJ7_fill_53178_0 V x = some (va_up V 0 (fun j => if j < 72 then x else V 0 j)) := by
  have h := fill_loop x 72 0 FU V rfl (by decide)
  rw [nI_0] at h
  unfold fJ7_fill_53178_0
  refine h.trans (congrArg some (congrArg (va_up V 0) (funext (fun j => ?_))))
  by_cases hj : j < 72
  · rw [if_pos ⟨Nat.zero_le _, hj⟩, if_pos hj]
  · rw [if_neg (fun h => hj h.2), if_neg hj]
section JCF
variable {p : Program} {l : Launch} {e : Env} {R : Room} {s : State} {m : MethodId} {args : Array Value} {below : List Frame} {meth : Method} {c : Code} {Q : State → Prop} {D : va_G} {T TT : jT} {b0 : Nat} {cA : Nat → ClassId} {A : Nat → Prop} {cc : ByteArray} {nL kc ks : Nat} {own : String} {B : jBT}
variable {pc : Nat} {lv : List (Nat × Value)} {st : List Value} {S S2 : Nat → Int32} {V V2 : Nat → Nat → Int32} {L : Nat → Int64}
theorem jc_S (h : S = S2) (kk : jWc p l e R s m args below meth c Q D T b0 cA A nL kc ks pc lv st S2 V L) : jWc p l e R s m args below meth c Q D T b0 cA A nL kc ks pc lv st S V L := h ▸ kk
theorem jc_V (h : V = V2) (kk : jWc p l e R s m args below meth c Q D T b0 cA A nL kc ks pc lv st S V2 L) : jWc p l e R s m args below meth c Q D T b0 cA A nL kc ks pc lv st S V L := h ▸ kk
theorem jc_fill {q n idx : Nat} {x : Int32} (C : jCc p s m args c D TT cA A cc nL own B) (hn : n = 72) (hT : T[q]? = some (.inr (n, 0))) (hTT : TT[q]? = some (.inr (n, 0))) (hlk : Cond.methodLink own idx yJ7_fill_53178 ∈ bg) (hst : Cond.static yJ7_fill_53178 ∈ bg) (hmw : jmw yJ7_fill_53178 cJ7_fill_53178 4 none 2) (hf : 1 ≤ R.frames) (hlo : 23 ≤ R.locals) (hkr : kc ≤ R.cells ∧ ks ≤ R.slots) (h8 : (st.map fun v => v.category).sum ≤ 8) (hd : decode cc pc = .ok (.invokestatic idx, 3))
    (kk : jWc p l e R s m args below meth c Q D T b0 cA A nL kc ks (pc + 3) lv st S (va_up V q (fun j => if j < 72 then x else V q j)) L) : jWc p l e R s m args below meth c Q D T b0 cA A nL kc ks pc lv (.int x :: .ref (adb b0 q) :: st) S V L := by
  subst hn
  intro H locs ls hz hP hAT hS hl T0 hT0 X
  have hts := C.2.2.2.2.1
  have hql : q < T.length := (List.getElem?_eq_some_iff.mp hT).1
  have hI : jI (fun _ => adb b0 q) TF := fun i j hi hj _ => by
    have h1 : i < 1 := hi
    have h2 : j < 1 := hj
    omega
  have hPF : va_P D vwCl (jws TF (fun _ => adb b0 q) (fun _ => cA q) S (fun _ => V q) L) H := fun k z hz1 => by
    rw [jws_get] at hz1
    match k, hz1 with
    | 0, hz1 => cases hz1; exact hP q _ (jws_at hT)
    | k + 1, hz1 => simp [TF] at hz1
  have hK := C.2.2.2.2.2.1
  have hKF : jK D TF (fun _ => cA q) s := ⟨hK.1, fun i nt hi => by
    match i, hi with
    | 0, hi => cases hi; exact hK.2.1 q _ hTT
    | i + 1, hi => simp [TF] at hi, hK.2.2⟩
  have hfr : ∀ z, jA (fun _ => adb b0 q) TF H.size z → A z := fun z h => by
    rcases h with ⟨j, hj, rfl⟩ | h
    · exact hAT q hql
    · exact C.2.2.2.2.2.2.1 z (Nat.le_trans hS.1 h)
  have hBF : jBk B (jA (fun _ => adb b0 q) TF H.size) s H := (C.2.2.2.2.2.2.2.kept hS.2.1).narrow hfr
  have hM := kJ7_fill_53178_0 l B D (fun _ => adb b0 q) (fun _ => cA q) hI S (fun _ => V q) L x _ (fill_eq (fun _ => V q) x)
  have hr := va_runS (p := p) (e := e) (below := below) (meth := meth) (locs := locs) (cells := kc) (slots := ks) (Ts := bg) (As := [.ref (adb b0 q), .int x]) (rest := st) (n := 2) (g := F0 m pc ls (.int x :: .ref (adb b0 q) :: st)) (own := own) (index := idx) (H := H) ⟨C.1, C.2.1, C.2.2.1, C.2.2.2.1, hts⟩ (hM H.size) ⟨callB_of (bytes := cJ7_fill_53178) (maxL := 4) (ret := none) 2 hts (bg_g0 (fun w h => by
      rcases List.mem_cons.mp h with h | h
      · rw [h]; exact hmw.1
      · exact h)) rfl rfl rfl (hts _ hmw.2.1) (hts _ hlk) hmw.2.2 ⟨hf, hlo⟩, hts _ hst⟩ ⟨jPc_blind, fun U hU hW => ⟨rfl, by rw [hU], by rw [hU]; exact hPF, hKF.warm hW, by rw [hU]; exact hBF.warm hW⟩⟩ rfl rfl hl.1 rfl (lv_room h8) hd ⟨hkr.1, hkr.2⟩
  obtain ⟨v, st₀, t, T', L', h0, X', hL, e1, e2, ⟨⟨hv, hP2⟩, hz2, hk⟩, stp⟩ := hr T0 hT0 X
  cases hv
  rw [h0] at hz2 hk
  have hS2 : va_S A s.heap T'.heap (locs ++ L') := by
    refine ⟨Nat.le_trans hS.1 (by rw [e1]; exact hz2), fun z h1 h2 => ?_, fun z hz3 => ?_⟩
    · have hq : z < H.size := Nat.lt_of_lt_of_le h1 hS.1
      rw [e1, hk z hq (fun y => h2 (hfr z y))]
      exact hS.2.1 z h1 h2
    · rcases List.mem_append.mp hz3 with h | h
      · exact hS.2.2 z h
      · exact hfr _ (hL z h)
  have hPn : va_P D vwCl (jws T (adb b0) cA S (va_up V q (fun j => if j < 72 then x else V q j)) L) t.heap := fun k z hzk => by
    rw [← jws_ast hT, List.getElem?_set] at hzk
    by_cases hkq : q = k
    · subst hkq
      rw [if_pos rfl, if_pos (by simp [jws]; exact hql)] at hzk
      cases hzk
      exact hP2 0 _ (jws_at (T := TF) tf_0)
    · rw [if_neg hkq] at hzk
      have h1 := hP k z hzk
      refine h1.kept (hk z.1 h1.lt (fun y => ?_))
      rw [jws_get] at hzk
      cases hd : T[k]? with
      | none => rw [hd] at hzk; cases hzk
      | some d =>
        rw [hd] at hzk
        cases hzk
        rcases y with ⟨j, hj, y⟩ | y
        · exact hkq (Nat.add_left_cancel y).symm
        · exact absurd y (Nat.not_le.mpr h1.lt)
  obtain ⟨t2, a1, b1⟩ := kk T'.heap (locs ++ L') ls (by rw [e1]; omega) (by rw [e1]; exact hPn) hAT hS2 hl T' rfl X'
  exact ⟨t2, stp t2 a1, b1⟩
end JCF
