/-! ===== a rule: what waits ===== -/
def bn (x : Nat) : Nat := ([0, 1, 2, 3, 4, 4, 5, 5, 6, 6] : List Nat).getD x 0
def trO (x : Nat) : Nat := ([14, 5, 4, 3, 6, 7, 8, 9, 10, 11] : List Nat).getD x 0
theorem bn_b : ∀ x, x < 10 → bnd x = nI (bn x) ∧ bn x ≤ 6 ∧ (x ≠ 0 → 1 ≤ bn x) ∧ (bn x = 3 ↔ x = 3) := by decide
theorem trO_b : ∀ x, x < 10 → (fX12_isOpen (nI (trO x)) = some (bI (decide (x = 0)))) ∧ (x ≠ 0 → fX12_strength (nI (trO x)) = some (nI (bn x))) ∧ trO x < 15 ∧ (x ≠ 0 → trT (20000 + x) = [trO x]) := by decide
def popS (l : Nat) : List Nat → List Nat
  | [] => []
  | x :: r => if x ≠ 0 ∧ l ≤ bn x then popS l r else x :: r
def popC (l : Nat) : List Nat → List Nat
  | [] => []
  | x :: r => if x ≠ 0 ∧ l ≤ bn x then (20000 + x) :: popC l r else []
def nbS (stk : List Nat) : Nat := (stk.filter (fun x => decide (x ≠ 0 ∧ x ≠ 3))).length
def has4 (seg : List Nat) : Bool := seg.any (fun x => decide (bn x = 4))
def SEG (seg : List Nat) : Prop := (∀ x, x ∈ seg → 1 ≤ x ∧ x ≤ 9) ∧ seg.Pairwise (fun a b => bn b < bn a ∨ (a = 3 ∧ b = 3)) ∧ (seg.filter (fun x => decide (x = 3))).length ≤ 6
def SK (f : Nat → Int32) : Nat → List Nat → Prop
  | 0, stk => SEG stk ∧ f 1 = bI (has4 stk)
  | d + 1, stk => ∃ seg rest, stk = seg ++ 0 :: rest ∧ SEG seg ∧ f (d + 2) = bI (has4 seg) ∧ SK f d rest
theorem pop_len (l : Nat) : ∀ stk, (popS l stk).length + (popC l stk).length = stk.length
  | [] => rfl
  | x :: r => by
    have := pop_len l r
    rw [popS, popC]
    split
    · rw [List.length_cons, List.length_cons]; omega
    · simp
theorem pop01 : ∀ stk : List Nat, (∀ x, x ∈ stk → x ≤ 9) → popS 0 stk = popS 1 stk ∧ popC 0 stk = popC 1 stk
  | [], _ => ⟨rfl, rfl⟩
  | x :: r, h => by
    obtain ⟨h1, h2⟩ := pop01 r (fun y hy => h y (List.mem_cons_of_mem _ hy))
    have hx := h x (List.mem_cons_self ..)
    have hb := (bn_b x (by omega)).2.2.1
    have e : (x ≠ 0 ∧ 0 ≤ bn x) ↔ (x ≠ 0 ∧ 1 ≤ bn x) := ⟨fun z => ⟨z.1, hb z.1⟩, fun z => ⟨z.1, Nat.zero_le _⟩⟩
    rw [popS, popS, popC, popC, h1, h2]
    simp only [e, and_self]
theorem pop54 : ∀ stk : List Nat, popS 4 (popS 5 stk) = popS 4 stk ∧ popC 5 stk ++ popC 4 (popS 5 stk) = popC 4 stk
  | [] => ⟨rfl, rfl⟩
  | x :: r => by
    obtain ⟨h1, h2⟩ := pop54 r
    by_cases c : x ≠ 0 ∧ 5 ≤ bn x
    · have c4 : x ≠ 0 ∧ 4 ≤ bn x := ⟨c.1, by omega⟩
      rw [popS, if_pos c, popS, if_pos c4, popC, if_pos c, popC, if_pos c4, h1, List.cons_append, h2]
      exact ⟨rfl, rfl⟩
    · rw [popS, if_neg c, popC, if_neg c]
      exact ⟨rfl, rfl⟩
theorem pop_app (l : Nat) (rest : List Nat) : ∀ seg : List Nat, popS l (seg ++ 0 :: rest) = popS l seg ++ 0 :: rest ∧ popC l (seg ++ 0 :: rest) = popC l seg
  | [] => by
    refine ⟨?_, ?_⟩
    · show (if (0 : Nat) ≠ 0 ∧ l ≤ bn 0 then popS l rest else 0 :: rest) = _
      rw [if_neg (fun z => z.1 rfl)]
      rfl
    · show (if (0 : Nat) ≠ 0 ∧ l ≤ bn 0 then (20000 + 0) :: popC l rest else []) = _
      rw [if_neg (fun z => z.1 rfl)]
      rfl
  | x :: r => by
    obtain ⟨h1, h2⟩ := pop_app l rest r
    rw [List.cons_append, popS, popC, h1, h2, popS, popC]
    split
    · exact ⟨rfl, rfl⟩
    · exact ⟨rfl, rfl⟩
theorem pop_mem (l : Nat) : ∀ seg x, x ∈ popS l seg → x ∈ seg
  | [], x, h => h
  | y :: r, x, h => by
    rw [popS] at h
    split at h
    · exact List.mem_cons_of_mem _ (pop_mem l r x h)
    · exact h
theorem SEG_t {x : Nat} {r : List Nat} (h : SEG (x :: r)) : SEG r := by
  refine ⟨fun y hy => h.1 y (List.mem_cons_of_mem _ hy), (List.pairwise_cons.mp h.2.1).2, ?_⟩
  have := h.2.2
  rw [List.filter_cons] at this
  split at this
  · rw [List.length_cons] at this; omega
  · exact this
theorem SEG_pop (l : Nat) : ∀ seg, SEG seg → SEG (popS l seg) ∧ ∀ x, x ∈ popS l seg → bn x < l
  | [], h => ⟨h, fun x hx => by cases hx⟩
  | y :: r, h => by
    have hr := SEG_t h
    rw [popS]
    by_cases c : y ≠ 0 ∧ l ≤ bn y
    · rw [if_pos c]
      exact SEG_pop l r hr
    · rw [if_neg c]
      have hy := h.1 y (List.mem_cons_self ..)
      have hlt : bn y < l := by
        refine Nat.lt_of_not_le (fun z => c ⟨by omega, z⟩)
      refine ⟨h, fun x hx => ?_⟩
      rcases List.mem_cons.mp hx with e | e
      · rw [e]; exact hlt
      · rcases (List.pairwise_cons.mp h.2.1).1 x e with q | q
        · omega
        · rw [q.2]; rw [q.1] at hlt; exact hlt
theorem SEG_push {x l : Nat} {seg : List Nat} (hx : 1 ≤ x ∧ x ≤ 9) (hx3 : x ≠ 3) (hl : bn x = l) (h : SEG seg) (hs : ∀ y, y ∈ seg → bn y < l) : SEG (x :: seg) := by
  refine ⟨fun y hy => ?_, List.pairwise_cons.mpr ⟨fun y hy => Or.inl (by rw [hl]; exact hs y hy), h.2.1⟩, ?_⟩
  · rcases List.mem_cons.mp hy with e | e
    · rw [e]; exact hx
    · exact h.1 y e
  · rw [List.filter_cons, if_neg (by simpa using hx3)]
    exact h.2.2
theorem has4_pop {l : Nat} (hl : 5 ≤ l) : ∀ seg, has4 (popS l seg) = has4 seg
  | [] => rfl
  | y :: r => by
    rw [popS]
    split
    · rename_i c
      rw [has4_pop hl r]
      unfold has4
      rw [List.any_cons, decide_eq_false (show ¬ bn y = 4 by omega), Bool.false_or]
    · rfl
theorem has4_lt {l : Nat} (hl : l ≤ 4) {seg : List Nat} (h : ∀ x, x ∈ seg → bn x < l) : has4 seg = false := by
  unfold has4
  rw [List.any_eq_false]
  intro x hx
  have := h x hx
  rw [decide_eq_true_iff]
  omega
/-- the top, once all of 5 and more are gone, is a test, if there is one -/
theorem has4_top {seg : List Nat} (h : SEG seg) (h5 : ∀ x, x ∈ seg → bn x < 5) : has4 seg = true ↔ ∃ x r, seg = x :: r ∧ bn x = 4 := by
  constructor
  · intro z
    cases seg with
    | nil => cases z
    | cons x r =>
      refine ⟨x, r, rfl, ?_⟩
      unfold has4 at z
      rw [List.any_cons, Bool.or_eq_true] at z
      rcases z with z | z
      · exact of_decide_eq_true z
      · obtain ⟨y, y1, y2⟩ := List.any_eq_true.mp z
        have y3 := of_decide_eq_true y2
        have := h5 x (List.mem_cons_self ..)
        rcases (List.pairwise_cons.mp h.2.1).1 y y1 with q | q
        · omega
        · rw [q.2] at y3; exact absurd y3 (by decide)
  · rintro ⟨x, r, rfl, e⟩
    unfold has4
    rw [List.any_cons, decide_eq_true e, Bool.true_or]
theorem SEG_nb : ∀ (seg : List Nat) (B : Nat), SEG seg → (∀ x, x ∈ seg → bn x ≤ B) → nbS seg ≤ B
  | [], B, _, _ => Nat.zero_le _
  | y :: r, B, h, hb => by
    have hy := h.1 y (List.mem_cons_self ..)
    have hpw := (List.pairwise_cons.mp h.2.1).1
    unfold nbS
    rw [List.filter_cons]
    by_cases c : y = 3
    · rw [if_neg (by simp [c])]
      exact SEG_nb r B (SEG_t h) (fun x hx => hb x (List.mem_cons_of_mem _ hx))
    · rw [if_pos (by simp [c]; omega), List.length_cons]
      have hB := hb y (List.mem_cons_self ..)
      have y1 := (bn_b y (by omega)).2.2.1 (by omega)
      have := SEG_nb r (B - 1) (SEG_t h) (fun x hx => by
        rcases hpw x hx with q | q
        · omega
        · exact absurd q.1 c)
      unfold nbS at this
      omega
theorem filt_two : ∀ seg : List Nat, (∀ x, x ∈ seg → 1 ≤ x) → seg.length = nbS seg + (seg.filter (fun x => decide (x = 3))).length
  | [], _ => rfl
  | y :: r, h => by
    have := filt_two r (fun x hx => h x (List.mem_cons_of_mem _ hx))
    have hy := h y (List.mem_cons_self ..)
    unfold nbS at this ⊢
    rw [List.filter_cons, List.filter_cons, List.length_cons]
    by_cases c : y = 3
    · rw [if_neg (by simp [c]), if_pos (by simp [c]), List.length_cons]; omega
    · rw [if_pos (by simp [c]; omega), if_neg (by simp [c]), List.length_cons]; omega
theorem SEG_b {seg : List Nat} (h : SEG seg) : nbS seg ≤ 6 ∧ seg.length ≤ 12 := by
  have h1 := SEG_nb seg 6 h (fun x hx => (bn_b x (by have := h.1 x hx; omega)).2.1)
  have h2 := filt_two seg (fun x hx => (h.1 x hx).1)
  have h3 := h.2.2
  omega
theorem nbS_app (a b : List Nat) : nbS (a ++ b) = nbS a + nbS b := by
  unfold nbS
  rw [List.filter_append, List.length_append]
theorem nbS_0 (r : List Nat) : nbS (0 :: r) = nbS r := by
  unfold nbS
  rw [List.filter_cons, if_neg (by simp)]
theorem SK_b {f : Nat → Int32} : ∀ (d : Nat) (stk : List Nat), SK f d stk → nbS stk ≤ 6 * (d + 1) ∧ stk.length ≤ 13 * d + 12 ∧ ∀ x, x ∈ stk → x ≤ 9
  | 0, stk, h => by
    have := SEG_b h.1
    exact ⟨by omega, by omega, fun x hx => (h.1.1 x hx).2⟩
  | d + 1, stk, ⟨seg, rest, e, h1, h2, h3⟩ => by
    obtain ⟨a1, a2, a3⟩ := SK_b d rest h3
    have b := SEG_b h1
    rw [e]
    refine ⟨?_, ?_, fun x hx => ?_⟩
    · rw [nbS_app, nbS_0]; omega
    · rw [List.length_append, List.length_cons]; omega
    · rcases List.mem_append.mp hx with q | q
      · exact (h1.1 x q).2
      · rcases List.mem_cons.mp q with q | q
        · omega
        · exact a3 x q
theorem SK_cong {f g : Nat → Int32} : ∀ (d : Nat) (stk : List Nat), (∀ j, j ≤ d + 1 → g j = f j) → SK f d stk → SK g d stk
  | 0, stk, h, hk => ⟨hk.1, (h 1 (Nat.le_refl _)).trans hk.2⟩
  | d + 1, stk, h, ⟨seg, rest, e, h1, h2, h3⟩ => ⟨seg, rest, e, h1, (h (d + 2) (Nat.le_refl _)).trans h2, SK_cong d rest (fun j hj => h j (by omega)) h3⟩
/-- the highest level of a row that waits -/
theorem SK_top {f : Nat → Int32} {d : Nat} {stk : List Nat} (h : SK f d stk) : ∃ seg rest, stk = seg ++ rest ∧ SEG seg ∧ f (d + 1) = bI (has4 seg) ∧ (∀ l, popS l stk = popS l seg ++ rest ∧ popC l stk = popC l seg) ∧ ∀ (seg2 : List Nat) (g : Nat → Int32), SEG seg2 → (∀ j, j ≤ d → g j = f j) → g (d + 1) = bI (has4 seg2) → SK g d (seg2 ++ rest) := by
  cases d with
  | zero =>
    exact ⟨stk, [], by simp, h.1, h.2, fun l => ⟨by simp, rfl⟩, fun seg2 g h1 _ h3 => by rw [List.append_nil]; exact ⟨h1, h3⟩⟩
  | succ d =>
    obtain ⟨seg, rest, e, h1, h2, h3⟩ := h
    refine ⟨seg, 0 :: rest, e, h1, h2, fun l => by rw [e]; exact pop_app l rest seg, fun seg2 g g1 g2 g3 => ⟨seg2, rest, rfl, g1, g3, SK_cong d rest (fun j hj => g2 j hj) h3⟩⟩
theorem htL_app : ∀ (a b : List Nat) (k : Nat), htL (a ++ b) k = (match htL a k with
    | some k2 => htL b k2
    | none => none)
  | [], b, k => rfl
  | p :: a, b, k => by
    rw [List.cons_append, htL, htL]
    cases htT p k with
    | none => rfl
    | some k2 => exact htL_app a b k2
theorem htL_snoc {cs : List Nat} {k k2 p : Nat} (h : htL cs 0 = some k) (hp : htT p k = some k2) : htL (cs ++ [p]) 0 = some k2 := by
  rw [htL_app, h]
  show htL [p] k = some k2
  rw [htL, hp]
  rfl
theorem htT_bin : ∀ x, x < 10 → x ≠ 0 → x ≠ 3 → ∀ k, 2 ≤ k → htT (20000 + x) k = some (k - 1) := fun x h1 h2 h3 k hk => by
  unfold htT
  rw [if_neg (by omega), if_neg (by omega), if_pos (by omega), if_pos hk]
theorem htT_not {k : Nat} (hk : 1 ≤ k) : htT 20003 k = some k := by
  unfold htT
  rw [if_neg (by omega), if_pos rfl, if_pos hk]
theorem ht_pop (l : Nat) : ∀ (stk cs : List Nat), (∀ x, x ∈ stk → x ≤ 9) → htL cs 0 = some (nbS stk + 1) → htL (cs ++ popC l stk) 0 = some (nbS (popS l stk) + 1)
  | [], cs, _, h => by rw [popC, popS, List.append_nil]; exact h
  | x :: r, cs, hx, h => by
    rw [popC, popS]
    by_cases c : x ≠ 0 ∧ l ≤ bn x
    · have hx9 := hx x (List.mem_cons_self ..)
      rw [if_pos c, if_pos c, show cs ++ (20000 + x) :: popC l r = (cs ++ [20000 + x]) ++ popC l r by simp]
      refine ht_pop l r (cs ++ [20000 + x]) (fun y hy => hx y (List.mem_cons_of_mem _ hy)) ?_
      by_cases c3 : x = 3
      · have e : nbS (x :: r) = nbS r := by
          unfold nbS
          rw [List.filter_cons, if_neg (by simp [c3])]
        rw [e] at h
        subst c3
        exact htL_snoc h (htT_not (by omega))
      · have e : nbS (x :: r) = nbS r + 1 := by
          unfold nbS
          rw [List.filter_cons, if_pos (by simp [c3]; exact c.1), List.length_cons]
        rw [e] at h
        have := htT_bin x (by omega) c.1 c3 (nbS r + 1 + 1) (by omega)
        exact htL_snoc h this
    · rw [if_neg c, if_neg c, List.append_nil]
      exact h
