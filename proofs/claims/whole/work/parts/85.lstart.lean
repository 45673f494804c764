def R_law : String := "ClockLodgersLaw"
theorem cb_31 : (Int8.ofInt 31).toInt32 = (31 : Int32) := by decide
def lw_P (b : Addr) (xs : List Int32) (args : Array Value) (s : State) : Prop := args = #[.ref b] ∧ s.IntsAt b xs ∧ xs.length ≤ 3072 ∧ (Jvm.Cond.and given_1 narrow_1).before args s = true
def lw_Q (_ : Array Value) (s : State) (o : Outcome) (t : State) : Prop := o = .returned (some (.int 1)) ∧ Framed s o t [] 601024 7293034
def lw_Z (below : List Frame) (a : Array Value) (s : State) : State → Prop := fun t => ∃ o, t.status = .running ∧ Ended t below o ∧ lw_Q a s o t
/-- the law's own end, with 1 on the stack, nothing written that was there before, its room as the claim has it -/
theorem lw_ret {p : Program} {l : Launch} {e : Env} {s : State} {m : MethodId} {below : List Frame} {meth : Method} {c : Code} {b : Nat} (hx : p.tables.exec = Jvm.exec) (hb : c.code = code) (hr : meth.sig.returnType = ret) (hlocks : meth.locks = false) {pc : Nat} {H : Heap} {ls : Array Slot} (hdg : decode code pc = .ok (.ireturn, 1)) : W p l e room_1 s m #[Value.ref b] below meth c H [] 601024 7293034 (lw_Z below #[Value.ref b] s) (F0 m pc ls [.int 1]) := by
  intro T hT X
  obtain ⟨fs, hret, hrun, hended, hW, hframe⟩ := X.leave (v := some (.int 1)) (hlocks := hlocks) (fun h => by rw [hr] at h; cases h)
  have hmeth' : T.vm.method? m = some meth := X.method'
  refine ⟨T.setFrames fs, ?_, .returned (some (.int 1)), hrun, hended, rfl, ⟨_, rfl⟩, hW, hframe⟩
  jvm_step X.here [X.here.top, hx, hb, hdg, hmeth', hr, ret, narrow_b1]
  (try refine ⟨rfl, ?_⟩); (try refine ⟨rfl, ?_⟩)
  first | (intro acts; rw [hret _ acts rfl rfl rfl]) | rw [hret _ _ rfl rfl rfl]
  exact Steps.refl _
/-- what holds at the law's entry: the machine, the code, the tables' words (any of lw_tbl by 'hts w (by decide +kernel)'), the script of L ints xs at the cell b, what the Statement gives of the start (any of its parts by flat_of_before) -/
def lw_At (p : Program) (s : State) (m : MethodId) (meth : Method) (c : Code) (b L : Nat) (xs : Nat → Int32) : Prop :=
  p.tables.exec = Jvm.exec ∧ c.code = code ∧ meth.sig.returnType = ret ∧ c.maxLocals = 7 ∧ s.vm.findClass R_law = some m.cls ∧ (∀ w ∈ lw_tbl, w.before #[Value.ref b] s = true) ∧ va_X b L xs s s.heap ∧ b < s.heap.size ∧ meth.locks = false ∧ (Jvm.Cond.and given_1 narrow_1).before #[Value.ref b] s = true
def lawOK (Rel : (Nat → Int32) → (Nat → Nat → Int32) → (Nat → Int32) → (Nat → Nat → Int32) → (Nat → Int64) → Prop) : Prop := St_feed Rel ∧ St_house Rel ∧ St_fault Rel ∧ St_count Rel ∧ St_tenant Rel ∧ St_lease Rel ∧ St_judge Rel ∧ St_undo Rel ∧ St_in Rel ∧ St_swing Rel ∧ St_slow Rel ∧ St_slowBy Rel ∧ St_house4 Rel ∧ St_housed Rel ∧ St_cuckoo Rel ∧ St_visits Rel ∧ St_visit Rel ∧ St_rent Rel ∧ St_shared Rel ∧ St_offer Rel ∧ St_sublet Rel ∧ St_wedding Rel ∧ St_birthday Rel ∧ St_both Rel ∧ St_wind Rel ∧ St_image Rel ∧ St_restore Rel
section LS
variable {p : Program} {l : Launch} {e : Env} {s : State} {m : MethodId} {below : List Frame} {meth : Method} {c : Code} {D : va_G} {cA cR : Nat → ClassId} {cO : ClassId} {kc ks : Nat} {B : jBT} {b Ln : Nat} {xs : Nat → Int32}
variable {S : Nat → Int32} {V : Nat → Nat → Int32} {S' : Nat → Int32} {V' : Nat → Nat → Int32} {L' : Nat → Int64} {o : Nat → Int64}
theorem jl_end (C : jCl p l s m #[Value.ref b] meth c D cA cR cO B b Ln xs) {lv : List (Nat × Value)} {pc : Nat} (hr : meth.sig.returnType = ret) (hlk : meth.locks = false) (h1 : kc ≤ 601024) (h2 : ks ≤ 7293034) (hd : decode code pc = .ok (.ireturn, 1)) : jWl p l e s m #[Value.ref b] below meth c (lw_Z below #[Value.ref b] s) D cA cR cO kc ks pc lv [.int 1] S V S' V' L' o := by
  intro H locs ls hP hS hl T hT X
  have X2 : Stand p l e room_1 s m #[Value.ref b] below meth c T [] kc ks := ⟨X.admits, X.cas, X.clock, X.frames, X.room, X.hears, X.method, X.code, X.here, X.tail, X.warmed, X.limits, X.bytes, X.same.weaken (fun y hy hlt => absurd hlt (Nat.not_lt.mpr (hS.2.2 y hy))) (Nat.le_refl _) (Nat.le_refl _)⟩
  exact W.widen h1 h2 (lw_ret C.1 C.2.1 hr hlk hd) T hT X2
theorem lt_end {n : Nat} (hL : Ln ≤ 3072) (hn : n ≤ Ln + 6) : (nI Ln - 6 < nI n) ↔ Ln < n + 6 := by
  have h1 : (nI Ln - 6).toInt = (Ln : Int) - 6 := by
    rw [Int32.toInt_sub, nI_toInt (by omega), show (6 : Int32).toInt = 6 from by decide]
    exact Int.bmod_eq_of_le (by omega) (by omega)
  rw [Int32.lt_iff_toInt_lt, h1, nI_toInt (by omega)]
  omega
theorem sw_cases (x : Int32) : x &&& 31 = 0 ∨ x &&& 31 = 1 ∨ x &&& 31 = 2 ∨ x &&& 31 = 3 ∨ x &&& 31 = 4 ∨ x &&& 31 = 5 ∨ x &&& 31 = 6 ∨ x &&& 31 = 7 ∨ x &&& 31 = 8 ∨ x &&& 31 = 9 ∨ x &&& 31 = 10 ∨ x &&& 31 = 11 ∨ x &&& 31 = 12 ∨ x &&& 31 = 13 ∨ x &&& 31 = 14 ∨ x &&& 31 = 15 ∨ x &&& 31 = 16 ∨ x &&& 31 = 17 ∨ x &&& 31 = 18 ∨ x &&& 31 = 19 ∨ x &&& 31 = 20 ∨ x &&& 31 = 21 ∨ x &&& 31 = 22 ∨ x &&& 31 = 23 ∨ x &&& 31 = 24 ∨ x &&& 31 = 25 ∨ x &&& 31 = 26 ∨ 26 < (x &&& 31).toInt := by
  have h : (x &&& 31).toInt = ((x &&& 31).toInt.toNat : Int) ∧ (x &&& 31).toInt.toNat < 32 := by
    have h0 : (x &&& 31).toBitVec = x.toBitVec &&& 31#32 := rfl
    have h1 : (x &&& 31).toBitVec.toNat < 32 := by
      rw [h0, BitVec.toNat_and]
      exact Nat.lt_of_le_of_lt Nat.and_le_right (by decide)
    have h2 : (x &&& 31).toInt = ((x &&& 31).toBitVec.toNat : Int) := by
      show (x &&& 31).toBitVec.toInt = _
      rw [BitVec.toInt_eq_toNat_of_lt (by omega)]
    rw [h2]
    exact ⟨by simp, by simpa using h1⟩
  obtain ⟨h1, h2⟩ := h
  generalize hk : (x &&& 31).toInt.toNat = k at h1 h2
  have hi : ∀ z : Int32, z.toInt = (k : Int) → x &&& 31 = z := fun z hz => Int32.toInt_inj.mp (h1.trans hz.symm)
  by_cases hb : 26 < k
  · exact Or.inr (Or.inr (Or.inr (Or.inr (Or.inr (Or.inr (Or.inr (Or.inr (Or.inr (Or.inr (Or.inr (Or.inr (Or.inr (Or.inr (Or.inr (Or.inr (Or.inr (Or.inr (Or.inr (Or.inr (Or.inr (Or.inr (Or.inr (Or.inr (Or.inr (Or.inr (Or.inr (by rw [h1]; omega)))))))))))))))))))))))))))
  · rcases (show k = 0 ∨ k = 1 ∨ k = 2 ∨ k = 3 ∨ k = 4 ∨ k = 5 ∨ k = 6 ∨ k = 7 ∨ k = 8 ∨ k = 9 ∨ k = 10 ∨ k = 11 ∨ k = 12 ∨ k = 13 ∨ k = 14 ∨ k = 15 ∨ k = 16 ∨ k = 17 ∨ k = 18 ∨ k = 19 ∨ k = 20 ∨ k = 21 ∨ k = 22 ∨ k = 23 ∨ k = 24 ∨ k = 25 ∨ k = 26 by omega) with rfl | rfl | rfl | rfl | rfl | rfl | rfl | rfl | rfl | rfl | rfl | rfl | rfl | rfl | rfl | rfl | rfl | rfl | rfl | rfl | rfl | rfl | rfl | rfl | rfl | rfl | rfl
    · exact Or.inl (hi 0 (by decide))
    · exact Or.inr (Or.inl (hi 1 (by decide)))
    · exact Or.inr (Or.inr (Or.inl (hi 2 (by decide))))
    · exact Or.inr (Or.inr (Or.inr (Or.inl (hi 3 (by decide)))))
    · exact Or.inr (Or.inr (Or.inr (Or.inr (Or.inl (hi 4 (by decide))))))
    · exact Or.inr (Or.inr (Or.inr (Or.inr (Or.inr (Or.inl (hi 5 (by decide)))))))
    · exact Or.inr (Or.inr (Or.inr (Or.inr (Or.inr (Or.inr (Or.inl (hi 6 (by decide))))))))
    · exact Or.inr (Or.inr (Or.inr (Or.inr (Or.inr (Or.inr (Or.inr (Or.inl (hi 7 (by decide)))))))))
    · exact Or.inr (Or.inr (Or.inr (Or.inr (Or.inr (Or.inr (Or.inr (Or.inr (Or.inl (hi 8 (by decide))))))))))
    · exact Or.inr (Or.inr (Or.inr (Or.inr (Or.inr (Or.inr (Or.inr (Or.inr (Or.inr (Or.inl (hi 9 (by decide)))))))))))
    · exact Or.inr (Or.inr (Or.inr (Or.inr (Or.inr (Or.inr (Or.inr (Or.inr (Or.inr (Or.inr (Or.inl (hi 10 (by decide))))))))))))
    · exact Or.inr (Or.inr (Or.inr (Or.inr (Or.inr (Or.inr (Or.inr (Or.inr (Or.inr (Or.inr (Or.inr (Or.inl (hi 11 (by decide)))))))))))))
    · exact Or.inr (Or.inr (Or.inr (Or.inr (Or.inr (Or.inr (Or.inr (Or.inr (Or.inr (Or.inr (Or.inr (Or.inr (Or.inl (hi 12 (by decide))))))))))))))
    · exact Or.inr (Or.inr (Or.inr (Or.inr (Or.inr (Or.inr (Or.inr (Or.inr (Or.inr (Or.inr (Or.inr (Or.inr (Or.inr (Or.inl (hi 13 (by decide)))))))))))))))
    · exact Or.inr (Or.inr (Or.inr (Or.inr (Or.inr (Or.inr (Or.inr (Or.inr (Or.inr (Or.inr (Or.inr (Or.inr (Or.inr (Or.inr (Or.inl (hi 14 (by decide))))))))))))))))
    · exact Or.inr (Or.inr (Or.inr (Or.inr (Or.inr (Or.inr (Or.inr (Or.inr (Or.inr (Or.inr (Or.inr (Or.inr (Or.inr (Or.inr (Or.inr (Or.inl (hi 15 (by decide)))))))))))))))))
    · exact Or.inr (Or.inr (Or.inr (Or.inr (Or.inr (Or.inr (Or.inr (Or.inr (Or.inr (Or.inr (Or.inr (Or.inr (Or.inr (Or.inr (Or.inr (Or.inr (Or.inl (hi 16 (by decide))))))))))))))))))
    · exact Or.inr (Or.inr (Or.inr (Or.inr (Or.inr (Or.inr (Or.inr (Or.inr (Or.inr (Or.inr (Or.inr (Or.inr (Or.inr (Or.inr (Or.inr (Or.inr (Or.inr (Or.inl (hi 17 (by decide)))))))))))))))))))
    · exact Or.inr (Or.inr (Or.inr (Or.inr (Or.inr (Or.inr (Or.inr (Or.inr (Or.inr (Or.inr (Or.inr (Or.inr (Or.inr (Or.inr (Or.inr (Or.inr (Or.inr (Or.inr (Or.inl (hi 18 (by decide))))))))))))))))))))
    · exact Or.inr (Or.inr (Or.inr (Or.inr (Or.inr (Or.inr (Or.inr (Or.inr (Or.inr (Or.inr (Or.inr (Or.inr (Or.inr (Or.inr (Or.inr (Or.inr (Or.inr (Or.inr (Or.inr (Or.inl (hi 19 (by decide)))))))))))))))))))))
    · exact Or.inr (Or.inr (Or.inr (Or.inr (Or.inr (Or.inr (Or.inr (Or.inr (Or.inr (Or.inr (Or.inr (Or.inr (Or.inr (Or.inr (Or.inr (Or.inr (Or.inr (Or.inr (Or.inr (Or.inr (Or.inl (hi 20 (by decide))))))))))))))))))))))
    · exact Or.inr (Or.inr (Or.inr (Or.inr (Or.inr (Or.inr (Or.inr (Or.inr (Or.inr (Or.inr (Or.inr (Or.inr (Or.inr (Or.inr (Or.inr (Or.inr (Or.inr (Or.inr (Or.inr (Or.inr (Or.inr (Or.inl (hi 21 (by decide)))))))))))))))))))))))
    · exact Or.inr (Or.inr (Or.inr (Or.inr (Or.inr (Or.inr (Or.inr (Or.inr (Or.inr (Or.inr (Or.inr (Or.inr (Or.inr (Or.inr (Or.inr (Or.inr (Or.inr (Or.inr (Or.inr (Or.inr (Or.inr (Or.inr (Or.inl (hi 22 (by decide))))))))))))))))))))))))
    · exact Or.inr (Or.inr (Or.inr (Or.inr (Or.inr (Or.inr (Or.inr (Or.inr (Or.inr (Or.inr (Or.inr (Or.inr (Or.inr (Or.inr (Or.inr (Or.inr (Or.inr (Or.inr (Or.inr (Or.inr (Or.inr (Or.inr (Or.inr (Or.inl (hi 23 (by decide)))))))))))))))))))))))))
    · exact Or.inr (Or.inr (Or.inr (Or.inr (Or.inr (Or.inr (Or.inr (Or.inr (Or.inr (Or.inr (Or.inr (Or.inr (Or.inr (Or.inr (Or.inr (Or.inr (Or.inr (Or.inr (Or.inr (Or.inr (Or.inr (Or.inr (Or.inr (Or.inr (Or.inl (hi 24 (by decide))))))))))))))))))))))))))
    · exact Or.inr (Or.inr (Or.inr (Or.inr (Or.inr (Or.inr (Or.inr (Or.inr (Or.inr (Or.inr (Or.inr (Or.inr (Or.inr (Or.inr (Or.inr (Or.inr (Or.inr (Or.inr (Or.inr (Or.inr (Or.inr (Or.inr (Or.inr (Or.inr (Or.inr (Or.inl (hi 25 (by decide)))))))))))))))))))))))))))
    · exact Or.inr (Or.inr (Or.inr (Or.inr (Or.inr (Or.inr (Or.inr (Or.inr (Or.inr (Or.inr (Or.inr (Or.inr (Or.inr (Or.inr (Or.inr (Or.inr (Or.inr (Or.inr (Or.inr (Or.inr (Or.inr (Or.inr (Or.inr (Or.inr (Or.inr (Or.inr (Or.inl (hi 26 (by decide))))))))))))))))))))))))))))
set_option maxHeartbeats 4000000 in
set_option maxRecDepth 100000 in
theorem law_case (C : jCl p l s m #[Value.ref b] meth c D cA cR cO B b Ln xs) {Rel : (Nat → Int32) → (Nat → Nat → Int32) → (Nat → Int32) → (Nat → Nat → Int32) → (Nat → Int64) → Prop} (hst : lawOK Rel) (hR : Rel S V S' V' L') {n : Nat} (hn : n + 6 ≤ Ln) (hL : Ln ≤ 3072) (hkr : kc + 6 ≤ 601024 ∧ ks + 36 ≤ 7293034) (kk : ∀ S V S' V' L' o, Rel S V S' V' L' → jWl p l e s m #[Value.ref b] below meth c (lw_Z below #[Value.ref b] s) D cA cR cO (kc + 6) (ks + 36) 1702 [(0, .ref b), (1, .ref s.heap.size), (2, .ref (s.heap.size + 63)), (3, .ref (s.heap.size + 87)), (4, .int (nI n))] [] S V S' V' L' o) : jWl p l e s m #[Value.ref b] below meth c (lw_Z below #[Value.ref b] s) D cA cR cO kc ks 40 [(0, .ref b), (1, .ref s.heap.size), (2, .ref (s.heap.size + 63)), (3, .ref (s.heap.size + 87)), (4, .int (nI n))] [.int (xs n &&& 31)] S V S' V' L' o := by
  obtain ⟨s0, s1, s2, s3, s4, s5, s6, s7, s8, s9, s10, s11, s12, s13, s14, s15, s16, s17, s18, s19, s20, s21, s22, s23, s24, s25, s26⟩ := hst
  rcases sw_cases (xs n) with h | h | h | h | h | h | h | h | h | h | h | h | h | h | h | h | h | h | h | h | h | h | h | h | h | h | h | h
  · rw [h]; exact jl_tableIn (tgt := 164) C dL_law_40 (by decide) (by decide) rfl (by decide) (lc_feed C s0 hR hn hL hkr kk)
  · rw [h]; exact jl_tableIn (tgt := 237) C dL_law_40 (by decide) (by decide) rfl (by decide) (lc_house C s1 hR hn hL hkr kk)
  · rw [h]; exact jl_tableIn (tgt := 293) C dL_law_40 (by decide) (by decide) rfl (by decide) (lc_fault C s2 hR hn hL hkr kk)
  · rw [h]; exact jl_tableIn (tgt := 306) C dL_law_40 (by decide) (by decide) rfl (by decide) (lc_count C s3 hR hn hL hkr kk)
  · rw [h]; exact jl_tableIn (tgt := 362) C dL_law_40 (by decide) (by decide) rfl (by decide) (lc_tenant C s4 hR hn hL hkr kk)
  · rw [h]; exact jl_tableIn (tgt := 430) C dL_law_40 (by decide) (by decide) rfl (by decide) (lc_lease C s5 hR hn hL hkr kk)
  · rw [h]; exact jl_tableIn (tgt := 491) C dL_law_40 (by decide) (by decide) rfl (by decide) (lc_judge C s6 hR hn hL hkr kk)
  · rw [h]; exact jl_tableIn (tgt := 552) C dL_law_40 (by decide) (by decide) rfl (by decide) (lc_undo C s7 hR hn hL hkr kk)
  · rw [h]; exact jl_tableIn (tgt := 565) C dL_law_40 (by decide) (by decide) rfl (by decide) (lc_in C s8 hR hn hL hkr kk)
  · rw [h]; exact jl_tableIn (tgt := 633) C dL_law_40 (by decide) (by decide) rfl (by decide) (lc_swing C s9 hR hn hL hkr kk)
  · rw [h]; exact jl_tableIn (tgt := 701) C dL_law_40 (by decide) (by decide) rfl (by decide) (lc_slow C s10 hR hn hL hkr kk)
  · rw [h]; exact jl_tableIn (tgt := 781) C dL_law_40 (by decide) (by decide) rfl (by decide) (lc_slowBy C s11 hR hn hL hkr kk)
  · rw [h]; exact jl_tableIn (tgt := 849) C dL_law_40 (by decide) (by decide) rfl (by decide) (lc_house4 C s12 hR hn hL hkr kk)
  · rw [h]; exact jl_tableIn (tgt := 917) C dL_law_40 (by decide) (by decide) rfl (by decide) (lc_housed C s13 hR hn hL hkr kk)
  · rw [h]; exact jl_tableIn (tgt := 973) C dL_law_40 (by decide) (by decide) rfl (by decide) (lc_cuckoo C s14 hR hn hL hkr kk)
  · rw [h]; exact jl_tableIn (tgt := 1041) C dL_law_40 (by decide) (by decide) rfl (by decide) (lc_visits C s15 hR hn hL hkr kk)
  · rw [h]; exact jl_tableIn (tgt := 1109) C dL_law_40 (by decide) (by decide) rfl (by decide) (lc_visit C s16 hR hn hL hkr kk)
  · rw [h]; exact jl_tableIn (tgt := 1165) C dL_law_40 (by decide) (by decide) rfl (by decide) (lc_rent C s17 hR hn hL hkr kk)
  · rw [h]; exact jl_tableIn (tgt := 1221) C dL_law_40 (by decide) (by decide) rfl (by decide) (lc_shared C s18 hR hn hL hkr kk)
  · rw [h]; exact jl_tableIn (tgt := 1289) C dL_law_40 (by decide) (by decide) rfl (by decide) (lc_offer C s19 hR hn hL hkr kk)
  · rw [h]; exact jl_tableIn (tgt := 1338) C dL_law_40 (by decide) (by decide) rfl (by decide) (lc_sublet C s20 hR hn hL hkr kk)
  · rw [h]; exact jl_tableIn (tgt := 1394) C dL_law_40 (by decide) (by decide) rfl (by decide) (lc_wedding C s21 hR hn hL hkr kk)
  · rw [h]; exact jl_tableIn (tgt := 1450) C dL_law_40 (by decide) (by decide) rfl (by decide) (lc_birthday C s22 hR hn hL hkr kk)
  · rw [h]; exact jl_tableIn (tgt := 1506) C dL_law_40 (by decide) (by decide) rfl (by decide) (lc_both C s23 hR hn hL hkr kk)
  · rw [h]; exact jl_tableIn (tgt := 1598) C dL_law_40 (by decide) (by decide) rfl (by decide) (lc_wind C s24 hR hn hL hkr kk)
  · rw [h]; exact jl_tableIn (tgt := 1678) C dL_law_40 (by decide) (by decide) rfl (by decide) (lc_image C s25 hR hn hL hkr kk)
  · rw [h]; exact jl_tableIn (tgt := 1689) C dL_law_40 (by decide) (by decide) rfl (by decide) (lc_restore C s26 hR hn hL hkr kk)
  · exact jl_tableOut (tgt := 1702) C dL_law_40 (Or.inr h) (by decide) (jl_widen (by omega) (by omega) (kk _ _ _ _ _ _ hR))
theorem law_loop (C : jCl p l s m #[Value.ref b] meth c D cA cR cO B b Ln xs) {Rel : (Nat → Int32) → (Nat → Nat → Int32) → (Nat → Int32) → (Nat → Nat → Int32) → (Nat → Int64) → Prop} (hst : lawOK Rel) (hr : meth.sig.returnType = ret) (hlk : meth.locks = false) (hL : Ln ≤ 3072) : ∀ (k n kc ks : Nat) (S : Nat → Int32) (V : Nat → Nat → Int32) (S' : Nat → Int32) (V' : Nat → Nat → Int32) (L' : Nat → Int64) (o : Nat → Int64), Ln + 6 ≤ n + 6 * k → n ≤ Ln + 6 → kc + 6 * k ≤ 601024 → ks + 36 * k ≤ 7293034 → Rel S V S' V' L' → jWl p l e s m #[Value.ref b] below meth c (lw_Z below #[Value.ref b] s) D cA cR cO kc ks 23 [(0, .ref b), (1, .ref s.heap.size), (2, .ref (s.heap.size + 63)), (3, .ref (s.heap.size + 87)), (4, .int (nI n))] [] S V S' V' L' o := by
  intro k
  induction k with
  | zero =>
    intro n kc ks S V S' V' L' o h1 h2 h3 h4 hR
    refine jl_iload C 4 rfl dL_law_23 ?_
    refine jl_aload_n C 0 rfl dL_law_25 rfl ?_
    refine jl_slen C dL_law_26 ?_
    refine jl_bipush C dL_law_27 cb_6 ?_
    refine jl_isub C dL_law_29 ?_
    refine jl_icmp_gt (tgt := 1708) C dL_law_30 (by decide) (fun c1 => ?_) (fun c1 => absurd ((lt_end hL h2).mpr (by omega)) c1)
    refine jl_iconst C dL_law_1708 ci_1 ?_
    exact jl_end C hr hlk (by omega) (by omega) dL_law_1709
  | succ k ih =>
    intro n kc ks S V S' V' L' o h1 h2 h3 h4 hR
    refine jl_iload C 4 rfl dL_law_23 ?_
    refine jl_aload_n C 0 rfl dL_law_25 rfl ?_
    refine jl_slen C dL_law_26 ?_
    refine jl_bipush C dL_law_27 cb_6 ?_
    refine jl_isub C dL_law_29 ?_
    refine jl_icmp_gt (tgt := 1708) C dL_law_30 (by decide) (fun c1 => ?_) (fun c1 => ?_)
    · refine jl_iconst C dL_law_1708 ci_1 ?_
      exact jl_end C hr hlk (by omega) (by omega) dL_law_1709
    · have hn : n + 6 ≤ Ln := Nat.not_lt.mp (fun h => c1 ((lt_end hL h2).mpr h))
      refine jl_aload_n C 0 rfl dL_law_33 rfl ?_
      refine jl_iload C 4 rfl dL_law_34 ?_
      refine jl_sld C (nI_in (show n < Ln by omega) (by omega)) dL_law_36 ?_
      rw [nI_clamp (by omega)]
      refine jl_bipush C dL_law_37 cb_31 ?_
      refine jl_iand C dL_law_39 ?_
      refine law_case C hst hR hn hL ⟨by omega, by omega⟩ (fun S V S' V' L' o hR2 => ?_)
      refine jl_iinc C [(4, .int (nI (n + 6))), (0, .ref b), (1, .ref s.heap.size), (2, .ref (s.heap.size + 63)), (3, .ref (s.heap.size + 87))] 4 dL_law_1702 rfl (by rw [show Int32.ofInt 6 = nI 6 from by decide, nI_add]) (by decide) rfl ?_
      refine jl_goto (tgt := 23) C dL_law_1705 (by decide) ?_
      exact jl_sub [1, 2, 3, 4, 0] rfl (ih (n + 6) (kc + 6) (ks + 36) S V S' V' L' o (by omega) (by omega) (by omega) (by omega) hR2)

/-- a world of any kind, from here -/
def jWs (p : Program) (l : Launch) (e : Env) (s : State) (m : MethodId) (args : Array Value) (below : List Frame) (meth : Method) (c : Code) (Q : State → Prop) (Ex : Heap → Prop) (kc ks : Nat) (pc : Nat) (lv : List (Nat × Value)) (st : List Value) : Prop :=
  ∀ (H : Heap) (locs : List Loc) (ls : Array Slot), Ex H → va_S (fun q => s.heap.size ≤ q) s.heap H locs → lv_has ls 7 lv → W p l e room_1 s m args below meth c H locs kc ks Q (F0 m pc ls st)
theorem wl_Law8 : Cond.classLink "ClockLodgersLaw" (8 : Nat) "ClockLodgers" ∈ bg := bg_in (List.mem_of_getElem? (i := 130) (by decide +kernel)) rfl
theorem wl_Law75 : Cond.classLink "ClockLodgersLaw" (75 : Nat) "ClockLodgersModel" ∈ bg := bg_in (List.mem_of_getElem? (i := 1432) (by decide +kernel)) rfl
theorem wl_i11 : Cond.instantiable "ClockLodgers" (16 : Nat) ∈ bg := bg_in (List.mem_of_getElem? (i := 131) (by decide +kernel)) rfl
theorem wl_i12 : Cond.instantiable "ClockLodgersModel" (60 : Nat) ∈ bg := bg_in (List.mem_of_getElem? (i := 1433) (by decide +kernel)) rfl
theorem mw_X11_init : jmw yX11_init cX11_init 1 none 0 := ⟨wd134, wd103, by decide +kernel⟩
theorem mw_X12_init : jmw yX12_init cX12_init 1 none 0 := ⟨wd1436, wd116, by decide +kernel⟩
theorem wa_l : Cond.arrayClass .long ∈ bg := bg_in (List.mem_of_getElem? (i := 1962) (by decide +kernel)) rfl
def exB1 (D : va_G) (cA : Nat → ClassId) (b0 : Nat) (H : Heap) : Prop := b0 + 63 ≤ H.size ∧ va_P D vwCl (jws TC (adb b0) cA SC0 VC0 (fun _ => 0)) H
def exB2 (D : va_G) (cA cR : Nat → ClassId) (b0 : Nat) (H : Heap) : Prop := b0 + 64 ≤ H.size ∧ va_P D vwCl (jws TC (adb b0) cA SC0 VC0 (fun _ => 0)) H ∧ va_P D vwCl (jws KR139 (adb (b0 + 63)) cR KS0 KV0 (fun _ => 0)) H
def exB3 (D : va_G) (cA cR : Nat → ClassId) (b0 : Nat) (H : Heap) : Prop := b0 + 87 ≤ H.size ∧ va_P D vwCl (jws TC (adb b0) cA SC0 VC0 (fun _ => 0)) H ∧ va_P D vwCl (jws TR (adb (b0 + 63)) cR SR0 VR0 (fun _ => 0)) H
theorem jws_len {T : jT} {ad : Nat → Nat} {cA : Nat → ClassId} {S : Nat → Int32} {V : Nat → Nat → Int32} {L : Nat → Int64} : (jws T ad cA S V L).length = T.length := by simp [jws]
def sl12 : List (Nat × Nat) := [(0, 0), (0, 0), (0, 0), (0, 0), (0, 0), (0, 0), (0, 0), (0, 0), (3, 0), (3, 0), (3, 0), (3, 0), (3, 0), (0, 0), (0, 0), (0, 0), (3, 0), (0, 0), (0, 0), (0, 0), (0, 0), (0, 0), (0, 0), (0, 0), (2, 0), (0, 0), (0, 0), (0, 0), (0, 0), (0, 0), (0, 0), (0, 0), (0, 0), (0, 0), (0, 0), (0, 0), (3, 0), (3, 0), (3, 0), (3, 0), (3, 0), (3, 0), (0, 0), (3, 0), (3, 0), (3, 0), (3, 0), (3, 0), (3, 0), (0, 0), (3, 0), (3, 0), (0, 0), (0, 0), (3, 0), (0, 0), (0, 0), (0, 0), (3, 0), (3, 0)]
theorem KR139_at : KR139[0]? = some (.inl (12, sl12)) := rfl
theorem jv_ad {ad ad2 : Nat → Nat} {S : Nat → Int32} {L : Nat → Int64} {i : Nat} {d : Nat × Nat} (h : d.1 ≠ 1) : jv ad S L i d = jv ad2 S L i d := by
  obtain ⟨a, b⟩ := d
  match a, h with
  | 0, _ => rfl
  | 2, _ => rfl
  | 1, h => exact absurd rfl h
  | n + 3, _ => rfl
theorem sl12_n : ∀ d ∈ sl12, d.1 ≠ 1 := by decide +kernel
theorem jfs12 (ad : Nat → Nat) : jfs ad KS0 (fun _ => 0) 0 sl12 = jfs (fun _ => 0) KS0 (fun _ => 0) 0 sl12 := by
  apply List.ext_getElem?
  intro j
  rw [jfs_get, jfs_get]
  cases hd : sl12[j]? with
  | none => rfl
  | some d => exact congrArg some (jv_ad (sl12_n d (List.mem_of_getElem? hd)))
theorem born12 (ad : Nat → Nat) : ∀ j, j < 60 → defaultValue (tyX12 j) = vp_V (jfs ad KS0 (fun _ => 0) 0 sl12) j := by
  rw [jfs12]
  decide +kernel
theorem je_born {D : va_G} {ad : Nat → Nat} {cA : Nat → ClassId} {S : Nat → Int32} {V : Nat → Nat → Int32} {L : Nat → Int64} {q ci a N : Nat} {sl : List (Nat × Nat)} {H : Heap} {Cn : String} {Tn : u_T} {W : Nat → Value} (hc : vwCl[ci]? = some (Cn, Tn, N)) (h : t_OB a (D.1 ci) N (D.2 ci) H W) (hfs : ∀ j, j < N → W j = vp_V (jfs ad S L q sl) j) : va_at D vwCl (a, je ad cA S V L q (.inl (ci, sl))) H := ⟨_, hc, h.to hfs⟩
theorem ls_new (C : jCl p l s m #[Value.ref b] meth c D cA cR cO B b Ln xs) {Q : State → Prop} {lv : List (Nat × Value)} {st : List Value} (kk : jWs p l e s m #[Value.ref b] below meth c Q (exB2 D cA cR s.heap.size) 64 (5289 + 60) 11 lv (.ref (s.heap.size + 63) :: st)) : jWs p l e s m #[Value.ref b] below meth c Q (exB1 D cA s.heap.size) 63 5289 8 lv st := by
  intro H locs ls hE hS hl T0 hT0 X
  have hup : T0.heap.size ≤ s.heap.size + 63 := X.heapSize
  have hsz : H.size = s.heap.size + 63 := by rw [hT0] at hup; have := hE.1; omega
  have hts := C.2.2.2.2.1
  have hKn := C.2.2.2.2.2.1.1.1.1 12 _ (rfl : vwCl[12]? = some (RX12, TX12, 60))
  refine W.newcK C.1 C.2.1 C.2.2.2.1 (hts _ wl_Law75) (hts _ wl_i12) (hts _ wd116) (g := F0 m 8 ls st) rfl dL_law_8 (by decide) (by decide) hKn.2.1 hsz (fun H1 kC hkC e1 z1 o1 => ?_) T0 hT0 X
  refine kk H1 locs ls ⟨by omega, jws_keep hE.2 (fun j hj hlt => o1 _ (by rw [hsz] at hlt; exact hlt)), ?_⟩ ⟨Nat.le_trans hS.1 (by omega), fun x h1 h2 => (o1 x (by have := hS.1; omega)).trans (hS.2.1 x h1 h2), hS.2.2⟩ hl
  intro k q hq
  have h1 := (List.getElem?_eq_some_iff.mp hq).1
  rw [jws_len] at h1
  have hk0 : k = 0 := Nat.lt_one_iff.mp (show k < 1 from h1)
  subst hk0
  rw [jws_at KR139_at] at hq
  obtain rfl := Option.some.inj hq
  exact je_born (N := 60) (W := fun k => defaultValue (tyX12 k)) (Cn := RX12) (Tn := TX12) rfl (u_born tyX12 hts inB_X12 hKn hkC e1 tyX12_ok) (born12 _)
theorem ls_init (C : jCl p l s m #[Value.ref b] meth c D cA cR cO B b Ln xs) {Q : State → Prop} {lv : List (Nat × Value)} {st : List Value} (h8 : (st.map fun v => v.category).sum ≤ 8) (kk : jWs p l e s m #[Value.ref b] below meth c Q (exB3 D cA cR s.heap.size) (64 + 23) (5349 + 5674) 15 lv st) : jWs p l e s m #[Value.ref b] below meth c Q (exB2 D cA cR s.heap.size) 64 5349 12 lv (.ref (s.heap.size + 63) :: st) := by
  intro H locs ls hE hS hl T0 hT0 X
  have hup : T0.heap.size ≤ s.heap.size + 64 := X.heapSize
  have hsz : H.size = s.heap.size + 64 := by rw [hT0] at hup; have := hE.1; omega
  have hts := C.2.2.2.2.1
  have hsub : ∀ q, jA (adb (s.heap.size + 63)) KR139 (s.heap.size + 63 + KR139.length) q → s.heap.size + 63 ≤ q := fun q h => by
    rcases h with ⟨j, hj, rfl⟩ | h
    · exact Nat.le_add_right _ _
    · exact Nat.le_trans (Nat.le_add_right _ _) h
  have hsub2 : ∀ q, jA (adb (s.heap.size + 63)) KR139 (s.heap.size + 63 + KR139.length) q → s.heap.size ≤ q := fun q h => Nat.le_trans (Nat.le_add_right _ _) (hsub q h)
  have hr := va_runI (p := p) (e := e) (below := below) (meth := meth) (locs := locs) (cells := 64) (slots := 5349) (Ts := bg) (As := []) (rest := st) (n := 0) (own := "ClockLodgersLaw") (index := 77) (b := s.heap.size + 63) (H := H) (g := F0 m 12 ls (.ref (s.heap.size + 63) :: st)) ⟨C.1, C.2.1, C.2.2.1, C.2.2.2.1, hts⟩ (kc_16_X12_init l B D (s.heap.size + 63) cR) ⟨callB_of (R := room_1) (bytes := cX12_init) (maxL := 1) (ret := none) 0 hts (bg_g0 (fun w h => by
      rcases List.mem_cons.mp h with h | h
      · rw [h]; exact mw_X12_init.1
      · exact h)) rfl rfl rfl (hts _ mw_X12_init.2.1) (hts _ wd1434) mw_X12_init.2.2 ⟨by decide, by decide⟩, rfl, hts _ wd1435⟩ ⟨jPk_blind, fun U hU hW => ⟨rfl, by rw [hU]; exact hsz, by rw [hU]; exact hE.2.2, C.2.2.2.2.2.1.2.1.warm hW, by rw [hU]; exact (jl_bk C hS hsub2).warm hW⟩⟩ rfl rfl hl.1 rfl (lv_room h8) dL_law_12 ⟨by decide, by decide⟩
  obtain ⟨v, st₀, t, T', Lx, h0, X', hL, e1, e2, ⟨⟨hv, hz2, hP2⟩, hz, hk⟩, stp⟩ := hr T0 hT0 X
  cases hv
  rw [h0] at hz hk
  obtain ⟨t2, a1, b1⟩ := kk T'.heap (locs ++ Lx) ls (by
    rw [e1]
    refine ⟨by have h9 : s.heap.size + 63 + KR185.length ≤ t.heap.size := hz2; exact h9, jws_keep hE.2.1 (fun j hj hlt => hk _ hlt (fun h => ?_)), hP2⟩
    have h3 := hsub _ h
    rw [TC_len] at hj
    have e9 : adb s.heap.size j = s.heap.size + j := rfl
    omega) (jl_S hsub2 hS e1 hz hk hL) hl T' rfl X'
  exact ⟨t2, stp t2 a1, b1⟩
theorem ls_out (C : jCl p l s m #[Value.ref b] meth c D cA cR cO B b Ln xs) {lv : List (Nat × Value)} {st : List Value} (kk : jWl p l e s m #[Value.ref b] below meth c (lw_Z below #[Value.ref b] s) D cA cR cO (87 + 1) (11023 + 1) 19 lv (.ref (s.heap.size + 87) :: st) SC0 VC0 SR0 VR0 (fun _ => 0) (fun _ => 0)) : jWs p l e s m #[Value.ref b] below meth c (lw_Z below #[Value.ref b] s) (exB3 D cA cR s.heap.size) 87 11023 17 lv (.int 1 :: st) := by
  intro H locs ls hE hS hl T0 hT0 X
  have hup : T0.heap.size ≤ s.heap.size + 87 := X.heapSize
  have hsz : H.size = s.heap.size + 87 := by rw [hT0] at hup; have := hE.1; omega
  have hts := C.2.2.2.2.1
  refine va_newaK (N := 1) C.1 C.2.1 (atype := .long) (hts _ wa_l) (g := F0 m 17 ls (.int 1 :: st)) rfl dL_law_17 rfl (by decide) (by decide) (by decide) (by decide) (by decide) hsz (fun H1 cx e1 z1 o1 hAr hNm => ?_) T0 hT0 X
  have hcx : cx = cO := Option.some.inj (hNm.symm.trans (C.2.2.2.2.2.1.2.2.1.2 0 _ rfl).2)
  subst hcx
  refine kk H1 locs ls ⟨vp_cons.mpr ⟨?_, jws_keep hE.2.1 (fun j hj hlt => o1 _ (by rw [hsz] at hlt; exact hlt))⟩, jws_keep hE.2.2 (fun j hj hlt => o1 _ (by rw [hsz] at hlt; exact hlt))⟩ ⟨Nat.le_trans hS.1 (by omega), fun x h1 h2 => (o1 x (by have := hS.1; omega)).trans (hS.2.1 x h1 h2), hS.2.2⟩ hl
  show H1[s.heap.size + 87]? = some (vp_cell cx (1, .inr (.inl (fun _ => 0))))
  rw [e1]
  rfl
end LS
def cAof (c0 c1 c2 : ClassId) (T : jT) (q : Nat) : ClassId := match T[q]? with
  | some (.inr nt) => (match nt.2 with
    | 0 => c0
    | 1 => c1
    | _ => c2)
  | _ => c0
theorem st_jK {s : State} {args : Array Value} {D : va_G} {c0 c1 c2 : ClassId} (T : jT) (hts : ∀ w ∈ lw_tbl, w.before args s = true) (hD : ∀ (k : Nat) (q : vw_C), vwCl[k]? = some q → u_Kn s q.1 q.2.1 q.2.2 (D.1 k) (D.2 k)) (h0 : ArrOfT s c0 .int ∧ s.vm.findClass ("[" ++ FieldType.int.toString) = some c0) (h1 : ArrOfT s c1 .byte ∧ s.vm.findClass ("[" ++ FieldType.byte.toString) = some c1) (h2 : ArrOfT s c2 .boolean ∧ s.vm.findClass ("[" ++ FieldType.boolean.toString) = some c2) : jK D T (cAof c0 c1 c2 T) s := by
  refine ⟨⟨hD, fun k q hq => by cases hq⟩, fun q nt hq => ⟨hD, fun k x hx => ?_⟩, st_N hts⟩
  have hk0 : k = 0 := by have := (List.getElem?_eq_some_iff.mp hx).1; simp at this; exact this
  subst hk0
  cases hx
  have e : cAof c0 c1 c2 T q = (match nt.2 with
    | 0 => c0
    | 1 => c1
    | _ => c2) := by unfold cAof; rw [hq]
  rw [e]
  obtain ⟨n, t⟩ := nt
  match t with
  | 0 => exact h0
  | 1 => exact h1
  | t + 2 => exact h2
set_option maxHeartbeats 4000000 in
set_option maxRecDepth 100000 in
theorem whole_start {p : Program} {e : Env} {s : State} {m : MethodId} {below : List Frame} {meth : Method} {c : Code} (l : Launch) (hl0 : l.stackTraces = false) {Rel : (Nat → Int32) → (Nat → Nat → Int32) → (Nat → Int32) → (Nat → Nat → Int32) → (Nat → Int64) → Prop} (hst : lawOK Rel) (hR0 : Rel SC0 VC0 SR0 VR0 (fun _ => 0)) {b L : Nat} {xs : Nat → Int32} (hL : L ≤ 3072) (C0 : lw_At p s m meth c b L xs) : W p l e room_1 s m #[Value.ref b] below meth c s.heap [] 0 0 (lw_Z below #[Value.ref b] s) (entryFrame m ([Value.ref b] : List Value).toArray 7) := by
  obtain ⟨hx, hb, hr, hml, hown, hts, hX, hbl, hlk, hgv⟩ := C0
  obtain ⟨B, hB⟩ := st_bk hts hgv
  obtain ⟨D, hD⟩ := st_K hts
  have hbg : ∀ w ∈ bg, w.before #[Value.ref b] s = true := fun w h => hts w (bg_tbl w h)
  obtain ⟨c0, a0⟩ := st_arr (hbg _ wa_0)
  obtain ⟨c1, a1⟩ := st_arr (hbg _ wa_1)
  obtain ⟨c2, a2⟩ := st_arr (hbg _ wa_2)
  obtain ⟨cO, aO⟩ := st_arr (hbg _ wa_l)
  have kC : jK D TC (cAof c0 c1 c2 TC) s := st_jK TC hts hD a0 a1 a2
  have kR : jK D TR (cAof c0 c1 c2 TR) s := st_jK TR hts hD a0 a1 a2
  have kO : va_K D vwCl [(cO, .long)] s := ⟨hD, fun k q hq => by
    have hk0 : k = 0 := by have := (List.getElem?_eq_some_iff.mp hq).1; simp at this; exact this
    subst hk0
    cases hq
    exact aO⟩
  have kN : va_Nc "java/lang/IllegalArgumentException" "java/util/NoSuchElementException" s := va_Nc.of (flat_of_before _ hgv _ fl_nc)
  generalize cAof c0 c1 c2 TC = cA at kC
  generalize cAof c0 c1 c2 TR = cR at kR
  have C : jCl p l s m #[Value.ref b] meth c D cA cR cO B b L xs := ⟨hx, hb, hml, hown, hbg, ⟨kC, kR, kO, kN⟩, hB, hX, hbl, hl0⟩
  have CC : jCc p s m #[Value.ref b] c D TC cA (fun q => s.heap.size ≤ q) code 7 "ClockLodgersLaw" B := ⟨hx, hb, hml, hown, hbg, kC, fun q hq => hq, hB⟩
  have st2 : jWs p l e s m #[Value.ref b] below meth c (lw_Z below #[Value.ref b] s) (exB1 D cA s.heap.size) 63 5289 8 [(1, .ref s.heap.size), (0, .ref b)] [] := by
    refine ls_new (cR := cR) C ?_
    intro H locs ls hE hS hl
    refine lv_dup hx hb dL_law_11 rfl ?_
    refine ls_init C (Nat.le_of_ble_eq_true rfl) ?_ H locs ls hE hS hl
    intro H locs ls hE hS hl
    refine lv_astore_n hx hb dL_law_15 rfl hl (by decide) rfl (fun ls2 hl2 => ?_)
    refine lv_iconst hx hb dL_law_16 (show Int32.ofInt 1 = 1 from by decide) ?_
    refine ls_out C ?_ H locs ls2 hE hS hl2
    intro H locs ls hE hS hl
    refine lv_astore_n hx hb dL_law_19 rfl hl (by decide) rfl (fun ls2 hl2 => ?_)
    have fin : jWl p l e s m #[Value.ref b] below meth c (lw_Z below #[Value.ref b] s) D cA cR cO (87 + 1) (11023 + 1) 20 [(3, .ref (s.heap.size + 87)), (2, .ref (s.heap.size + 63)), (1, .ref s.heap.size), (0, .ref b)] [] SC0 VC0 SR0 VR0 (fun _ => 0) (fun _ => 0) := by
      refine jl_iconst (v := nI 0) C dL_law_20 (by decide) ?_
      refine jl_istore C [(4, .int (nI 0)), (3, .ref (s.heap.size + 87)), (2, .ref (s.heap.size + 63)), (1, .ref s.heap.size), (0, .ref b)] dL_law_21 (by decide) rfl ?_
      exact jl_sub [4, 3, 2, 1, 0] rfl (law_loop C hst hr hlk hL 513 0 88 11024 _ _ _ _ _ _ (by omega) (by omega) (by omega) (by omega) hR0)
    exact fin H locs ls2 hE hS hl2
  have main : jWc p l e room_1 s m #[Value.ref b] below meth c (lw_Z below #[Value.ref b] s) D [] s.heap.size cA (fun q => s.heap.size ≤ q) 7 0 0 0 (lv_args 0 [Value.ref b]) [] KS0 KV0 (fun _ => 0) := by
    refine jc_lv (lv2 := [(0, .ref b)]) rfl ?_
    refine jc_new (ci := 11) (sl := [(3, 0), (0, 0), (0, 0), (3, 0), (3, 0), (3, 0), (3, 0), (3, 0), (3, 0), (3, 0), (3, 0), (0, 0), (3, 0), (3, 0), (3, 0), (3, 0)]) CC rfl rfl inB_X11 tyX11_ok wl_Law8 wl_i11 wd103 (fun j hj => by rcases (show j = 0 ∨ j = 1 ∨ j = 2 ∨ j = 3 ∨ j = 4 ∨ j = 5 ∨ j = 6 ∨ j = 7 ∨ j = 8 ∨ j = 9 ∨ j = 10 ∨ j = 11 ∨ j = 12 ∨ j = 13 ∨ j = 14 ∨ j = 15 by omega) with rfl | rfl | rfl | rfl | rfl | rfl | rfl | rfl | rfl | rfl | rfl | rfl | rfl | rfl | rfl | rfl <;> rfl) (by decide) (by decide) dL_law_0 ?_
    refine jc_T (T2 := KC1) rfl ?_
    refine jc_dup CC dL_law_3 rfl ?_
    refine jc_init (q := 0) (As := []) (rest := [.ref (adb s.heap.size 0)]) CC rfl (kc_1_X11_init l B D s.heap.size cA) mw_X11_init wd133 wd132 rfl ⟨rfl, rfl, by decide, by decide⟩ ⟨by decide, by decide⟩ rfl rfl (Nat.le_of_ble_eq_true rfl) dL_law_4 ?_
    intro H locs ls hz hP hA hS hl
    refine lv_astore_n hx hb dL_law_7 rfl hl (by decide) rfl (fun ls2 hl2 => ?_)
    exact st2 H locs ls2 ⟨hz, hP⟩ hS hl2
  rw [lg_entry_eq]
  exact main s.heap [] _ (Nat.le_refl _) (fun k q hq => by cases hq) (fun i hi => absurd hi (Nat.not_lt_zero _)) va_S.rf (lv_entry [Value.ref b] (Nat.le_of_ble_eq_true rfl))
