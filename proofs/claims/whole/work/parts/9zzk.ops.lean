/-! ===== a rule: what waits is written, side by side ===== -/
def CCD (s0 : Nat) (cs : List Nat) (s : Int32) (v : Nat → Int32) : Prop := s = nI (s0 + cs.length) ∧ ∀ j p, cs[j]? = some p → v (s0 + j) = nI p
def RCD (a0 : Nat) (cs : List Nat) (s : Int32) (v : Nat → Int32) : Prop := s = nI (a0 + (cs.flatMap trT).length) ∧ ∀ j p, (cs.flatMap trT)[j]? = some p → v (a0 + j) = nI p
theorem snoc_at {cs : List Nat} {p j q : Nat} (h : (cs ++ [p])[j]? = some q) : (j < cs.length ∧ cs[j]? = some q) ∨ (j = cs.length ∧ q = p) := by
  by_cases c : j < cs.length
  · rw [List.getElem?_append_left c] at h
    exact Or.inl ⟨c, h⟩
  · rw [List.getElem?_append_right (by omega)] at h
    obtain ⟨h1, h2⟩ := List.getElem?_eq_some_iff.mp h
    have h1' : j - cs.length < 1 := h1
    have e : j - cs.length = 0 := by omega
    refine Or.inr ⟨by omega, ?_⟩
    simp only [e, List.getElem_cons_zero] at h2
    exact h2.symm
theorem CCD_snoc {s0 p : Nat} {cs : List Nat} {s : Int32} {v : Nat → Int32} (h : CCD s0 cs s v) : CCD s0 (cs ++ [p]) (nI (s0 + cs.length + 1)) (upd v (s0 + cs.length) (nI p)) := by
  refine ⟨by rw [List.length_append]; rfl, fun j q hq => ?_⟩
  rcases snoc_at hq with ⟨h1, h2⟩ | ⟨h1, h2⟩
  · rw [upd_ne _ _ (by omega)]
    exact h.2 j q h2
  · rw [h1, upd_same, h2]
theorem RCD_snoc1 {a0 p x : Nat} {cs : List Nat} {s : Int32} {v : Nat → Int32} (hp : trT p = [x]) (h : RCD a0 cs s v) : RCD a0 (cs ++ [p]) (nI (a0 + (cs.flatMap trT).length + 1)) (upd v (a0 + (cs.flatMap trT).length) (nI x)) := by
  have e : (cs ++ [p]).flatMap trT = cs.flatMap trT ++ [x] := by
    rw [List.flatMap_append, List.flatMap_cons, hp]
    rfl
  refine ⟨by rw [e, List.length_append]; rfl, fun j q hq => ?_⟩
  rw [e] at hq
  rcases snoc_at hq with ⟨h1, h2⟩ | ⟨h1, h2⟩
  · rw [upd_ne _ _ (by omega)]
    exact h.2 j q h2
  · rw [h1, upd_same, h2]
theorem RCD_snoc2 {a0 p x y : Nat} {cs : List Nat} {s : Int32} {v : Nat → Int32} (hp : trT p = [x, y]) (h : RCD a0 cs s v) : RCD a0 (cs ++ [p]) (nI (a0 + (cs.flatMap trT).length + 1 + 1)) (upd (upd v (a0 + (cs.flatMap trT).length) (nI x)) (a0 + (cs.flatMap trT).length + 1) (nI y)) := by
  have e : (cs ++ [p]).flatMap trT = (cs.flatMap trT ++ [x]) ++ [y] := by
    rw [List.flatMap_append, List.flatMap_cons, hp]
    simp
  refine ⟨by rw [e, List.length_append, List.length_append]; rfl, fun j q hq => ?_⟩
  rw [e] at hq
  rcases snoc_at hq with ⟨h1, h2⟩ | ⟨h1, h2⟩
  · rw [List.length_append] at h1
    have h1' : j < (cs.flatMap trT).length + 1 := h1
    rw [upd_ne _ _ (by omega)]
    rcases snoc_at h2 with ⟨h3, h4⟩ | ⟨h3, h4⟩
    · rw [upd_ne _ _ (by omega)]
      exact h.2 j q h4
    · rw [h3, upd_same, h4]
  · rw [List.length_append] at h1
    have h1' : j = (cs.flatMap trT).length + 1 := h1
    rw [h1', ← Nat.add_assoc, upd_same, h2]
section OP
variable {S : Nat → Int32} {V : Nat → Nat → Int32}
theorem addC {s p : Nat} (hS : S 1213 = nI s) (hs : s < 600) : fX2_addCode_12 S V (nI p) = some (va_up S 1213 (nI (s + 1)), va_up V 18 (upd (V 18) s (nI p))) := by
  unfold fX2_addCode_12
  simp only [lt_e]
  rw [hS, if_neg (show ¬ 600 ≤ nI s from nI_ge (a := s) (b := 600) hs (by decide)), gd_n s 600 hs (by decide), nI_cl s (by omega), nI_1]
theorem putsR {s : Nat} {x : Int32} (hS : S 33 = nI s) (hs : s < 1600) : fX12_puts_0 S V x = some (va_up S 33 (nI (s + 1)), va_up V 10 (upd (V 10) s x)) := by
  unfold fX12_puts_0
  simp only [lt_e]
  rw [hS, gd_n s 1600 hs (by decide), nI_cl s (by omega), nI_1]
theorem pushC {k x : Nat} (hS : S 2503 = nI k) (hk : k < 84) : fX9_push_25 S V (nI x) = some (va_up S 2503 (nI (k + 1)), va_up V 26 (upd (V 26) k (nI x))) := by
  unfold fX9_push_25
  simp only [lt_e]
  rw [hS, if_neg (show ¬ 84 ≤ nI k from nI_ge (a := k) (b := 84) hk (by decide)), gd_n k 84 hk (by decide), nI_cl k (by omega), nI_1]
theorem waitR {k : Nat} {x : Int32} (hS : S 34 = nI k) (hk : k < 800) : fX12_waitsFor_0 S V x = some (va_up S 34 (nI (k + 1)), va_up V 11 (upd (V 11) k x)) := by
  unfold fX12_waitsFor_0
  simp only [lt_e]
  rw [hS, gd_n k 800 hk (by decide), nI_cl k (by omega), nI_1]
theorem wbC {s0 l : Nat} (hl : l ≤ 6) (hl1 : 1 ≤ l) : ∀ (stk cs : List Nat) (f : Nat) (S : Nat → Int32) (V : Nat → Nat → Int32), (∀ x, x ∈ stk → x ≤ 9) → stk.length < f → S 2503 = nI stk.length → stR (V 26) (stk.map nI) → stk.length ≤ 84 → CCD s0 cs (S 1213) (V 18) → s0 + cs.length + stk.length < 600 → ∃ u, fX9_writeBinding_25_L0 f (nI l) S V = some (va_up (va_up S 2503 (nI (popS l stk).length)) 1213 (nI (s0 + (cs ++ popC l stk).length)), va_up V 18 u) ∧ CCD s0 (cs ++ popC l stk) (nI (s0 + (cs ++ popC l stk).length)) u ∧ ∀ j, j < s0 → u j = V 18 j := by
  intro stk
  induction stk with
  | nil =>
    intro cs f S V h9 hf h3 hst h84 hcd hb
    obtain ⟨f, rfl⟩ : ∃ z, f = z + 1 := ⟨f - 1, by omega⟩
    have h3' : S 2503 = nI 0 := h3
    refine ⟨V 18, ?_, ?_, fun _ _ => rfl⟩
    · rw [fX9_writeBinding_25_L0, h3', if_pos (by decide), popS, popC, List.append_nil, ← hcd.1, show nI ([] : List Nat).length = S 2503 from h3.symm, va_up_id, va_up_id, va_up_id]
    · rw [popC, List.append_nil]
      exact ⟨rfl, hcd.2⟩
  | cons x r ih =>
    intro cs f S V h9 hf h3 hst h84 hcd hb
    obtain ⟨f, rfl⟩ : ∃ z, f = z + 1 := ⟨f - 1, by omega⟩
    have hlen : (x :: r).length = r.length + 1 := rfl
    rw [hlen] at hf h3 h84 hb
    have hx := h9 x (List.mem_cons_self ..)
    have hv : V 26 r.length = nI x := by
      have := hst.1
      rw [List.length_map] at this
      exact this
    obtain ⟨b1, b2, b3, -⟩ := bn_b x (by omega)
    rw [fX9_writeBinding_25_L0, h3, if_neg (fun z => by have := (nI_le0 (n := r.length + 1) (by omega)).mp z; omega)]
    simp only [lt_e, nI_dec, va_up_self]
    rw [gd_n r.length 84 (by omega) (by decide), gd_n r.length 84 (by omega) (by decide), nI_cl r.length (by omega), hv, gd_n x 10 (by omega) (by decide), nI_cl x (by omega), b1]
    by_cases c : x ≠ 0 ∧ l ≤ bn x
    · obtain ⟨u, e1, e2, e3⟩ := ih (cs ++ [20000 + x]) f (va_up (va_up S 2503 (nI r.length)) 1213 (nI (s0 + cs.length + 1))) (va_up V 18 (upd (V 18) (s0 + cs.length) (nI (20000 + x)))) (fun y hy => h9 y (List.mem_cons_of_mem _ hy)) (by omega) rfl hst.2 (by omega) (CCD_snoc hcd) (by rw [List.length_append]; show s0 + (cs.length + 1) + r.length < 600; omega)
      rw [if_neg (nI_nlt c.2 (by omega)), show (20000 : Int32) = nI 20000 from rfl, nI_add, addC (S := va_up S 2503 (nI r.length)) (V := V) (s := s0 + cs.length) hcd.1 (by omega), bd2_s, e1, popS, if_pos c, popC, if_pos c]
      refine ⟨u, ?_, ?_, fun j hj => ?_⟩
      · rw [va_up_up, show cs ++ [20000 + x] ++ popC l r = cs ++ (20000 + x) :: popC l r by simp]
        congr 2
        funext q
        simp only [va_up]
        by_cases q1 : q = 1213
        · simp only [if_pos q1]
        · simp only [if_neg q1]
          by_cases q2 : q = 2503
          · simp only [if_pos q2]
          · simp only [if_neg q2]
      · rw [show cs ++ [20000 + x] ++ popC l r = cs ++ (20000 + x) :: popC l r by simp] at e2
        exact e2
      · rw [e3 j hj]
        exact upd_ne _ _ (by omega)
    · have hlt : bn x < l := by
        rcases Nat.lt_or_ge (bn x) l with z | z
        · exact z
        · have x0 : x = 0 := by
            rcases Nat.eq_zero_or_pos x with q | q
            · exact q
            · exact absurd ⟨by omega, z⟩ c
          rw [x0] at z
          have : bn 0 = 0 := rfl
          omega
      rw [if_pos (nI_lt hlt (by omega)), popS, if_neg c, popC, if_neg c, List.append_nil]
      refine ⟨V 18, ?_, ⟨rfl, hcd.2⟩, fun _ _ => rfl⟩
      rw [← hcd.1, show nI (x :: r).length = S 2503 from h3.symm, va_up_id, va_up_id, va_up_id]
theorem drR {a0 l : Nat} (hl : l ≤ 6) : ∀ (stk cs : List Nat) (f : Nat) (S : Nat → Int32) (V : Nat → Nat → Int32), (∀ x, x ∈ stk → x ≤ 9) → stk.length < f → S 34 = nI stk.length → stR (V 11) (stk.map (fun x => nI (trO x))) → stk.length ≤ 84 → RCD a0 cs (S 33) (V 10) → a0 + (cs.flatMap trT).length + stk.length < 1600 → ∃ u, fX12_drops_0_L0 f (nI l) S V = some (va_up (va_up S 34 (nI (popS l stk).length)) 33 (nI (a0 + ((cs ++ popC l stk).flatMap trT).length)), va_up V 10 u) ∧ RCD a0 (cs ++ popC l stk) (nI (a0 + ((cs ++ popC l stk).flatMap trT).length)) u ∧ ∀ j, j < a0 → u j = V 10 j := by
  intro stk
  induction stk with
  | nil =>
    intro cs f S V h9 hf h3 hst h84 hcd hb
    obtain ⟨f, rfl⟩ : ∃ z, f = z + 1 := ⟨f - 1, by omega⟩
    have h3' : S 34 = nI 0 := h3
    refine ⟨V 10, ?_, ?_, fun _ _ => rfl⟩
    · rw [fX12_drops_0_L0, h3', if_pos (by decide), popS, popC, List.append_nil, ← hcd.1, show nI ([] : List Nat).length = S 34 from h3.symm, va_up_id, va_up_id, va_up_id]
    · rw [popC, List.append_nil]
      exact ⟨rfl, hcd.2⟩
  | cons x r ih =>
    intro cs f S V h9 hf h3 hst h84 hcd hb
    obtain ⟨f, rfl⟩ : ∃ z, f = z + 1 := ⟨f - 1, by omega⟩
    have hlen : (x :: r).length = r.length + 1 := rfl
    rw [hlen] at hf h3 h84 hb
    have hx := h9 x (List.mem_cons_self ..)
    have hv : V 11 r.length = nI (trO x) := by
      have := hst.1
      rw [List.length_map] at this
      exact this
    obtain ⟨b1, b2, b3, -⟩ := bn_b x (by omega)
    obtain ⟨t1, t2, t3, t4⟩ := trO_b x (by omega)
    rw [fX12_drops_0_L0, h3, if_neg (fun z => by have := (nI_le0 (n := r.length + 1) (by omega)).mp z; omega)]
    simp only [lt_e, nI_dec, va_up_self]
    rw [gd_n r.length 800 (by omega) (by decide), gd_n r.length 800 (by omega) (by decide), nI_cl r.length (by omega), hv, t1, bd1_s]
    have stay : (popS l (x :: r) = x :: r ∧ popC l (x :: r) = []) → ∃ u, (some (S, V) : Option ((Nat → Int32) × (Nat → Nat → Int32))) = some (va_up (va_up S 34 (nI (popS l (x :: r)).length)) 33 (nI (a0 + ((cs ++ popC l (x :: r)).flatMap trT).length)), va_up V 10 u) ∧ RCD a0 (cs ++ popC l (x :: r)) (nI (a0 + ((cs ++ popC l (x :: r)).flatMap trT).length)) u ∧ ∀ j, j < a0 → u j = V 10 j := fun z => by
      rw [z.1, z.2, List.append_nil]
      refine ⟨V 10, ?_, ⟨rfl, hcd.2⟩, fun _ _ => rfl⟩
      rw [← hcd.1, show nI (x :: r).length = S 34 from h3.symm, va_up_id, va_up_id, va_up_id]
    by_cases x0 : x = 0
    · rw [decide_eq_true x0, if_neg (show ¬ bI true = 0 by decide)]
      exact stay ⟨by rw [popS, if_neg (fun z => z.1 x0)], by rw [popC, if_neg (fun z => z.1 x0)]⟩
    · rw [decide_eq_false x0, if_pos (show bI false = 0 from rfl), t2 x0, bd1_s]
      by_cases c : l ≤ bn x
      · have cc : x ≠ 0 ∧ l ≤ bn x := ⟨x0, c⟩
        have e0 : (cs ++ [20000 + x]).flatMap trT = cs.flatMap trT ++ [trO x] := by
          rw [List.flatMap_append, List.flatMap_cons, t4 x0]
          rfl
        obtain ⟨u, e1, e2, e3⟩ := ih (cs ++ [20000 + x]) f (va_up (va_up S 34 (nI r.length)) 33 (nI (a0 + (cs.flatMap trT).length + 1))) (va_up V 10 (upd (V 10) (a0 + (cs.flatMap trT).length) (nI (trO x)))) (fun y hy => h9 y (List.mem_cons_of_mem _ hy)) (by omega) rfl hst.2 (by omega) (RCD_snoc1 (t4 x0) hcd) (by rw [e0, List.length_append]; show a0 + ((cs.flatMap trT).length + 1) + r.length < 1600; omega)
        rw [if_neg (nI_nlt c (by omega)), putsR (S := va_up S 34 (nI r.length)) (V := V) (s := a0 + (cs.flatMap trT).length) hcd.1 (by omega), bd2_s, gd_n r.length 800 (by omega) (by decide), e1, popS, if_pos cc, popC, if_pos cc]
        refine ⟨u, ?_, ?_, fun j hj => ?_⟩
        · rw [va_up_up, show cs ++ [20000 + x] ++ popC l r = cs ++ (20000 + x) :: popC l r by simp]
          congr 2
          funext q
          simp only [va_up]
          by_cases q1 : q = 33
          · simp only [if_pos q1]
          · simp only [if_neg q1]
            by_cases q2 : q = 34
            · simp only [if_pos q2]
            · simp only [if_neg q2]
        · rw [show cs ++ [20000 + x] ++ popC l r = cs ++ (20000 + x) :: popC l r by simp] at e2
          exact e2
        · rw [e3 j hj]
          exact upd_ne _ _ (by omega)
      · rw [if_pos (nI_lt (by omega) (by omega))]
        exact stay ⟨by rw [popS, if_neg (fun z => c z.2)], by rw [popC, if_neg (fun z => c z.2)]⟩
/-- whatever waits is written, in the end -/
theorem drA : ∀ (w tp f : Nat) (S : Nat → Int32) (V : Nat → Nat → Int32), w < f → S 34 = nI w → w ≤ 800 → S 33 = nI tp → tp + w < 1600 → ∃ w2 tp2 u, fX12_drops_0_L0 f (nI 0) S V = some (va_up (va_up S 34 (nI w2)) 33 (nI tp2), va_up V 10 u) ∧ tp2 + w2 ≤ tp + w := by
  intro w
  induction w with
  | zero =>
    intro tp f S V hf h34 h8 h33 hb
    obtain ⟨f, rfl⟩ : ∃ z, f = z + 1 := ⟨f - 1, by omega⟩
    refine ⟨0, tp, V 10, ?_, Nat.le_refl _⟩
    rw [fX12_drops_0_L0, h34, if_pos (by decide), ← h34, ← h33, va_up_id, va_up_id, va_up_id]
  | succ w ih =>
    intro tp f S V hf h34 h8 h33 hb
    obtain ⟨f, rfl⟩ : ∃ z, f = z + 1 := ⟨f - 1, by omega⟩
    have stop : ∃ w2 tp2 u, (some (S, V) : Option ((Nat → Int32) × (Nat → Nat → Int32))) = some (va_up (va_up S 34 (nI w2)) 33 (nI tp2), va_up V 10 u) ∧ tp2 + w2 ≤ tp + (w + 1) := ⟨w + 1, tp, V 10, by rw [← h34, ← h33, va_up_id, va_up_id, va_up_id], Nat.le_refl _⟩
    rw [fX12_drops_0_L0, h34, if_neg (fun z => by have := (nI_le0 (n := w + 1) (by omega)).mp z; omega)]
    simp only [lt_e, nI_dec, va_up_self]
    rw [gd_n w 800 (by omega) (by decide), gd_n w 800 (by omega) (by decide), nI_cl w (by omega)]
    unfold fX12_isOpen
    by_cases c : V 11 w < 14
    · rw [if_pos c, bd1_s, if_pos rfl]
      have st : ∃ s : Nat, s ≤ 6 ∧ fX12_strength (V 11 w) = some (nI s) := by
        unfold fX12_strength
        split
        · exact ⟨1, by decide, rfl⟩
        · split
          · exact ⟨2, by decide, rfl⟩
          · split
            · exact ⟨3, by decide, rfl⟩
            · split
              · exact ⟨4, by decide, rfl⟩
              · split
                · exact ⟨4, by decide, rfl⟩
                · split
                  · exact ⟨5, by decide, rfl⟩
                  · split
                    · exact ⟨5, by decide, rfl⟩
                    · exact ⟨6, by decide, rfl⟩
      obtain ⟨s, s1, s2⟩ := st
      obtain ⟨w2, tp2, u, e1, e2⟩ := ih (tp + 1) f (va_up (va_up S 34 (nI w)) 33 (nI (tp + 1))) (va_up V 10 (upd (V 10) tp (V 11 w))) (by omega) rfl (by omega) rfl (by omega)
      rw [s2, bd1_s, if_neg (nI_nlt (Nat.zero_le _) (by omega)), putsR (S := va_up S 34 (nI w)) (V := V) (s := tp) h33 (by omega), bd2_s, gd_n w 800 (by omega) (by decide), e1]
      refine ⟨w2, tp2, u, ?_, by omega⟩
      rw [va_up_up]
      congr 2
      funext q
      simp only [va_up]
      by_cases q1 : q = 33
      · simp only [if_pos q1]
      · simp only [if_neg q1]
        by_cases q2 : q = 34
        · simp only [if_pos q2]
        · simp only [if_neg q2]
    · rw [if_neg c, bd1_s, if_neg (show ¬ (1 : Int32) = 0 by decide)]
      exact stop
end OP
