/-! ===== a rule: operators, side by side ===== -/
section OX
variable {tx : Nat → Nat} {n M s0 a0 : Nat} {S0 : Nat → Int32} {V0 : Nat → Nat → Int32} {R0 : Nat → Int32} {W0 : Nat → Nat → Int32} {i d : Nat} {stk cs : List Nat} {w : Nat} {S : Nat → Int32} {V : Nat → Nat → Int32} {S' : Nat → Int32} {V' : Nat → Nat → Int32} {L' : Nat → Int64}
theorem CX_of {V2 V3 : Nat → Nat → Int32} (hc : CX tx n M V V') (h1 : ∀ q, q ≠ 18 → q ≠ 26 → V2 q = V q) (h2 : ∀ q, q < 10 ∨ 12 < q → V3 q = V' q) : CX tx n M V2 V3 := by
  obtain ⟨c1, c2, c3, c4⟩ := hc
  refine ⟨c1, c2, ?_, fun i hi => ?_⟩
  · rw [h1 22 (by decide) (by decide), h1 23 (by decide) (by decide), h1 24 (by decide) (by decide)]
    exact c3
  · rw [h2 5 (by decide)]
    exact c4 i hi
theorem stR_suf {f : Nat → Int32} : ∀ (a b : List Int32), stR f (a ++ b) → stR f b
  | [], _, h => h
  | _ :: a, b, h => stR_suf a b h.2
theorem pop_suf (l : Nat) : ∀ stk : List Nat, ∃ p, stk = p ++ popS l stk
  | [] => ⟨[], rfl⟩
  | x :: r => by
    rw [popS]
    split
    · obtain ⟨p, hp⟩ := pop_suf l r
      exact ⟨x :: p, by rw [List.cons_append, ← hp]⟩
    · exact ⟨[], rfl⟩
theorem stR_pop {f : Nat → Int32} {g : Nat → Int32} (l : Nat) (stk : List Nat) (h : stR f (stk.map g)) : stR f ((popS l stk).map g) := by
  obtain ⟨p, hp⟩ := pop_suf l stk
  rw [hp, List.map_append] at h
  exact stR_suf _ _ h
def ocI (k : Nat) : Int32 := if k = 42 then 8 else if k = 43 then 6 else if k = 45 then 7 else if k = 47 then 9 else if k = 60 then 4 else if k = 61 then 5 else if k = 110 then 1 else if k = 111 then 2 else -1
theorem opT (hc : CX tx n M V V') (hi : i ≤ M) (h05 : S 2005 = nI i) : fX9_operatorTold_25 S V = some (ocI (kdA tx n (tS tx n i))) := by
  have kb := kdA_b hc.2.1 (tS tx n i)
  unfold fX9_operatorTold_25
  rw [kindC hc hi h05, bd1_s]
  generalize kdA tx n (tS tx n i) = k at kb
  have q : ∀ c, c ≤ 200 → ((nI k = nI c) ↔ k = c) := fun c hc => kd_is kb hc
  have q1 : (nI k = 42) ↔ k = 42 := q 42 (by decide)
  have q2 : (nI k = 43) ↔ k = 43 := q 43 (by decide)
  have q3 : (nI k = 45) ↔ k = 45 := q 45 (by decide)
  have q4 : (nI k = 47) ↔ k = 47 := q 47 (by decide)
  have q5 : (nI k = 60) ↔ k = 60 := q 60 (by decide)
  have q6 : (nI k = 61) ↔ k = 61 := q 61 (by decide)
  have q7 : (nI k = 110) ↔ k = 110 := q 110 (by decide)
  have q8 : (nI k = 111) ↔ k = 111 := q 111 (by decide)
  simp only [q1, q2, q3, q4, q5, q6, q7, q8]
  unfold ocI
  repeat (first | rfl | split)
/-- what the class has behind an operator -/
def AFC (s0 d : Nat) (stk2 cs2 : List Nat) (i2 : Nat) (S : Nat → Int32) (V : Nat → Nat → Int32) (S2 : Nat → Int32) (V2 : Nat → Nat → Int32) : Prop := S2 2005 = nI i2 ∧ (S2 2503 = nI stk2.length ∧ stR (V2 26) (stk2.map nI)) ∧ S2 2504 = nI d ∧ CCD s0 cs2 (S2 1213) (V2 18) ∧ FX s0 S V S2 V2
theorem wbX {l : Nat} (hl : l ≤ 6) (hl1 : 1 ≤ l) (h9 : ∀ x, x ∈ stk → x ≤ 9) (hC : S 2503 = nI stk.length ∧ stR (V 26) (stk.map nI)) (h84 : stk.length ≤ 84) (c1 : CCD s0 cs (S 1213) (V 18)) (hb : s0 + cs.length + stk.length < 600) (h4 : S 2504 = nI d) (h05 : S 2005 = nI i) : ∃ S2 V2, fX9_writeBinding_25 S V (nI l) = some (S2, V2) ∧ AFC s0 d (popS l stk) (cs ++ popC l stk) i S V S2 V2 := by
  obtain ⟨u, e1, e2, e3⟩ := wbC hl hl1 stk cs FU S V h9 (by unfold FU; omega) hC.1 hC.2 h84 c1 hb
  refine ⟨_, _, e1, h05, ⟨rfl, stR_pop l stk hC.2⟩, h4, e2, fun q q1 q2 q3 => ?_, fun q q1 q2 => va_up_ne _ _ q1, e3⟩
  simp only [va_up]; (repeat rw [if_neg (by omega)])
/-- push, and a part is wanted -/
theorem pwX {x : Nat} (hc : CX tx n M V V') {a : Bool} (hi : i < M) {stk2 cs2 : List Nat} {S2 : Nat → Int32} {V2 : Nat → Nat → Int32} (h : AFC s0 d stk2 cs2 i S V S2 V2) (h84 : stk2.length < 84) : ∃ S3 V3, bd2 (fX9_push_25 S2 V2 (nI x)) (fun S13 V14 => bd1 (fX9_wantPart_25 S13 (bI a)) (fun S20 => bd1 (fX10_advance_20 S20 V14) (fun S22 => some ((0 : Int32), S22, V14)))) = some (0, S3, V3) ∧ AFC s0 d (x :: stk2) cs2 (i + 1) S V S3 V3 ∧ S3 2505 = 1 ∧ S3 2506 = bI a ∧ S3 2507 = 0 := by
  obtain ⟨a1, ⟨a2, a3⟩, a4, a5, a6⟩ := h
  have hc2 : CX tx n M (va_up V2 26 (upd (V2 26) stk2.length (nI x))) V' := CX_of hc (fun q q1 q2 => by rw [va_up_ne _ _ q2]; exact a6.2.1 q q1 q2) (fun _ _ => rfl)
  have hb : isb (bI a) = true := by cases a <;> decide
  unfold fX9_wantPart_25
  simp only [lt_e]
  refine ⟨va_up (va_up (va_up (va_up (va_up S2 2503 (nI (stk2.length + 1))) 2505 1) 2506 (bI a)) 2507 0) 2005 (nI (i + 1)), va_up V2 26 (upd (V2 26) stk2.length (nI x)), ?_, ⟨rfl, ⟨rfl, ?_, stR_upd (by rw [List.length_map]; exact Nat.le_refl _) a3⟩, a4, a5, FX_t a6 ⟨fun q q1 q2 q3 => ?_, fun q q1 q2 => va_up_ne _ _ q2, fun _ _ => rfl⟩⟩, rfl, rfl, rfl⟩
  · rw [pushC a2 h84, bd2_s, gd_t hb, bd1_s, advC (S := va_up (va_up (va_up (va_up S2 2503 (nI (stk2.length + 1))) 2505 1) 2506 (bI a)) 2507 0) hc2 hi a1, bd1_s]
  · rw [List.length_map]; exact upd_same _ _ _
  · simp only [va_up]; (repeat rw [if_neg (by omega)])
theorem SK_top2 {f : Nat → Int32} (h : SK f d stk) : ∃ seg rest, stk = seg ++ rest ∧ SEG seg ∧ f (d + 1) = bI (has4 seg) ∧ (∀ l, popS l stk = popS l seg ++ rest ∧ popC l stk = popC l seg) ∧ (∀ (seg2 : List Nat) (g : Nat → Int32), SEG seg2 → (∀ j, j ≤ d → g j = f j) → g (d + 1) = bI (has4 seg2) → SK g d (seg2 ++ rest)) ∧ ((d = 0 ∧ rest = []) ∨ ∃ d' r, d = d' + 1 ∧ rest = 0 :: r ∧ SK f d' r) := by
  cases d with
  | zero =>
    exact ⟨stk, [], by simp, h.1, h.2, fun l => ⟨by simp, rfl⟩, fun seg2 g h1 _ h3 => by rw [List.append_nil]; exact ⟨h1, h3⟩, Or.inl ⟨rfl, rfl⟩⟩
  | succ d =>
    obtain ⟨seg, rest, e, h1, h2, h3⟩ := h
    refine ⟨seg, 0 :: rest, e, h1, h2, fun l => by rw [e]; exact pop_app l rest seg, fun seg2 g g1 g2 g3 => ⟨seg2, rest, rfl, g1, g3, SK_cong d rest (fun j hj => g2 j hj) h3⟩, Or.inr ⟨d, rest, rfl, rfl, h3⟩⟩
/-- an operator that isn't a test -/
theorem rdop (hx : XR tx n M s0 a0 S0 V0 R0 W0 i d stk cs 1 S V S' V' L') (hi : i < M) {x : Nat} (hx9 : 1 ≤ x ∧ x ≤ 9) (ho : ocI (kdA tx n (tS tx n i)) = nI x) (h4 : bn x ≠ 4) : ∃ S3 V3, fX9_readOperator_25 S V = some (0, S3, V3) ∧ AFC s0 d (x :: popS (bn x) stk) (cs ++ popC (bn x) stk) (i + 1) S V S3 V3 ∧ S3 2505 = 1 ∧ S3 2506 = bI (decide (x = 1 ∨ x = 2)) ∧ S3 2507 = 0 := by
  obtain ⟨hc, ha, hC, hR, hd, hk, c1, r1, ⟨b1, b2⟩, ht, fx, fy⟩ := id hx
  obtain ⟨hi1, h05, hr, h14⟩ := id ha
  have hM := M600 hc
  have skb := SK_b d stk hk
  have hdd := hd.2.2
  obtain ⟨q1, q2, q3, -⟩ := bn_b x (by omega)
  obtain ⟨S2, V2, e1, e2⟩ := wbX (l := bn x) q2 (q3 (by omega)) skb.2.2 hC (by omega) c1 (by omega) hd.1 h05
  have pl := pop_len (bn x) stk
  obtain ⟨S3, V3, e3, e4⟩ := pwX (x := x) (a := decide (x = 1 ∨ x = 2)) hc hi e2 (by omega)
  refine ⟨S3, V3, ?_, e4⟩
  unfold fX9_readOperator_25
  rw [opT hc hi1 h05, ho, bd1_s, if_neg (nI_m1 (by omega)), gd_n x 10 (by omega) (by decide), nI_cl x (by omega), q1]
  simp only [bk_e]
  rw [if_neg (show ¬ nI (bn x) = 4 from fun z => h4 ((nI_eq (a := bn x) (b := 4) (by omega) (by decide)).mp z)), gd_n x 10 (by omega) (by decide), nI_cl x (by omega), q1, e1, bd2_s]
  rw [← e3]
  congr 1
  funext S13 V14
  have x1 : (nI x = 1) ↔ x = 1 := nI_eq1 (by omega)
  have x2 : (nI x = 2) ↔ x = 2 := nI_eq (a := x) (b := 2) (by omega) (by decide)
  by_cases z1 : x = 1
  · rw [if_pos (x1.mpr z1), decide_eq_true (Or.inl z1)]; rfl
  · rw [if_neg (fun z => z1 (x1.mp z))]
    by_cases z2 : x = 2
    · rw [if_pos (x2.mpr z2), decide_eq_true (Or.inr z2)]; rfl
    · rw [if_neg (fun z => z2 (x2.mp z)), decide_eq_false (fun z => z.elim z1 z2)]; rfl
/-- a test -/
theorem rdopT (hx : XR tx n M s0 a0 S0 V0 R0 W0 i d stk cs 1 S V S' V' L') (hi : i < M) {x : Nat} (hx9 : 1 ≤ x ∧ x ≤ 9) (ho : ocI (kdA tx n (tS tx n i)) = nI x) (h4 : bn x = 4) : (V' 12 (d + 1) = 0 → ∃ S3 V3, fX9_readOperator_25 S V = some (0, S3, V3) ∧ AFC s0 d (x :: popS 4 stk) (cs ++ popC 4 stk) (i + 1) S V S3 V3 ∧ S3 2505 = 1 ∧ S3 2506 = bI false ∧ S3 2507 = 0) ∧ (V' 12 (d + 1) ≠ 0 → ∃ S3 V3, fX9_readOperator_25 S V = some (1, S3, V3) ∧ S3 2005 = nI i ∧ FX s0 S V S3 V3) := by
  obtain ⟨hc, ha, hC, hR, hd, hk, c1, r1, ⟨b1, b2⟩, ht, fx, fy⟩ := id hx
  obtain ⟨hi1, h05, hr, h14⟩ := id ha
  have hM := M600 hc
  have skb := SK_b d stk hk
  have hdd := hd.2.2
  obtain ⟨q1, q2, q3, -⟩ := bn_b x (by omega)
  obtain ⟨S2, V2, e1, e2⟩ := wbX (l := 5) (by decide) (by decide) skb.2.2 hC (by omega) c1 (by omega) hd.1 h05
  obtain ⟨f1, ⟨f2, f3⟩, f4, f5, f6⟩ := id e2
  have pl := pop_len 5 stk
  obtain ⟨p4, p5⟩ := pop54 stk
  obtain ⟨seg, rest, g1, g2, g3, g4, g5, g6⟩ := SK_top2 hk
  have m5 : ∀ y, y ∈ popS 5 stk → y ≤ 9 := fun y hy => skb.2.2 y (pop_mem 5 stk y hy)
  obtain ⟨S4, V4, e3, e4⟩ := wbX (S := S2) (V := V2) (s0 := s0) (stk := popS 5 stk) (cs := cs ++ popC 5 stk) (l := 4) (by decide) (by decide) m5 ⟨f2, f3⟩ (by omega) f5 (by rw [List.length_append]; omega) f4 f1
  rw [p4, List.append_assoc, p5] at e4
  have pl4 := pop_len 4 stk
  have e4' : AFC s0 d (popS 4 stk) (cs ++ popC 4 stk) i S V S4 V4 := ⟨e4.1, e4.2.1, e4.2.2.1, e4.2.2.2.1, FX_t f6 e4.2.2.2.2⟩
  obtain ⟨S5, V5, e5, e6⟩ := pwX (x := x) (a := false) hc hi e4' (by omega)
  obtain ⟨sp1, sp2⟩ := SEG_pop 5 seg g2
  have x1 : ¬ nI x = 1 := fun z => by
    have := (nI_eq1 (n := x) (by omega)).mp z
    rw [this] at h4; exact absurd h4 (by decide)
  have x2 : ¬ nI x = 2 := fun z => by
    have := (nI_eq (a := x) (b := 2) (by omega) (by decide)).mp z
    rw [this] at h4; exact absurd h4 (by decide)
  have K54 : gd (ib (nI x) 10) (bd2 (fX9_writeBinding_25 S2 V2 (bnd (nI x).toNatClampNeg)) (fun S10 V11 => bd2 (fX9_push_25 S10 V11 (nI x)) (fun S13 V14 => if nI x = 1 then bd1 (fX9_wantPart_25 S13 1) (fun S20 => bd1 (fX10_advance_20 S20 V14) (fun S22 => some ((0 : Int32), S22, V14))) else if nI x = 2 then bd1 (fX9_wantPart_25 S13 1) (fun S20 => bd1 (fX10_advance_20 S20 V14) (fun S22 => some (0, S22, V14))) else bd1 (fX9_wantPart_25 S13 0) (fun S20 => bd1 (fX10_advance_20 S20 V14) (fun S22 => some (0, S22, V14)))))) = some (0, S5, V5) := by
    rw [gd_n x 10 (by omega) (by decide), nI_cl x (by omega), q1, h4, e3, bd2_s, ← e5]
    congr 1
    funext S13 V14
    rw [if_neg x1, if_neg x2]
    rfl
  have top : fX9_readOperator_25 S V = (if S2 2503 ≤ 0 then some (0, S5, V5) else gd (ib (S2 2503 - 1) 84) (gd (ib (V2 26 (S2 2503 - 1).toNatClampNeg) 10) (if bnd (V2 26 (S2 2503 - 1).toNatClampNeg).toNatClampNeg = 4 then some (1, S2, V2) else some (0, S5, V5)))) := by
    unfold fX9_readOperator_25
    rw [opT hc hi1 h05, ho, bd1_s, if_neg (nI_m1 (by omega)), gd_n x 10 (by omega) (by decide), nI_cl x (by omega), q1, h4]
    simp only [bk_e, lt_e]
    rw [if_pos (show nI 4 = 4 from rfl), show fX9_writeBinding_25 S V 5 = _ from e1, bd2_s, K54]
  rw [top, f2]
  rw [(g4 5).1]
  -- the top of what waits
  cases hs : popS 5 seg with
  | cons y r =>
    have hy := sp1.1 y (by rw [hs]; exact List.mem_cons_self ..)
    have hv : V2 26 (r ++ rest).length = nI y := by
      have := f3
      rw [(g4 5).1, hs, List.cons_append, List.map_cons] at this
      have t1 := this.1
      rw [List.length_map] at t1
      exact t1
    have h84' : (popS 5 stk).length = (r ++ rest).length + 1 := by rw [(g4 5).1, hs, List.cons_append, List.length_cons]
    have h4y : (has4 seg = true) ↔ bn y = 4 := by
      rw [← has4_pop (show 5 ≤ 5 by decide) seg, has4_top sp1 sp2, hs]
      constructor
      · rintro ⟨z, r', e, q⟩
        rw [(List.cons.inj e).1]; exact q
      · intro q; exact ⟨y, r, rfl, q⟩
    obtain ⟨y1, y2, -, -⟩ := bn_b y (by omega)
    rw [List.cons_append, List.length_cons, if_neg (fun z => by have := (nI_le0 (n := (r ++ rest).length + 1) (by omega)).mp z; omega), nI_dec, gd_n (r ++ rest).length 84 (by omega) (by decide), nI_cl (r ++ rest).length (by omega), hv, gd_n y 10 (by omega) (by decide), nI_cl y (by omega), y1]
    constructor
    · intro z
      have hf : has4 seg = false := by
        cases hq : has4 seg with
        | false => rfl
        | true => rw [g3, hq] at z; exact absurd z (by decide)
      rw [if_neg (show ¬ nI (bn y) = 4 from fun q => by
        have := (nI_eq (a := bn y) (b := 4) (by omega) (by decide)).mp q
        rw [h4y.mpr this] at hf; cases hf)]
      exact ⟨S5, V5, rfl, e6⟩
    · intro z
      have hf : has4 seg = true := by
        cases hq : has4 seg with
        | true => rfl
        | false => rw [g3, hq] at z; exact absurd rfl z
      rw [if_pos (show nI (bn y) = 4 from by rw [h4y.mp hf]; rfl)]
      exact ⟨S2, V2, rfl, f1, f6⟩
  | nil =>
    have hf : has4 seg = false := by
      rw [← has4_pop (show 5 ≤ 5 by decide) seg, hs]
      rfl
    have hz : V' 12 (d + 1) = 0 := by rw [g3, hf]; rfl
    have good : ∃ S3 V3, (some ((0 : Int32), S5, V5) : Option (Int32 × (Nat → Int32) × (Nat → Nat → Int32))) = some (0, S3, V3) ∧ AFC s0 d (x :: popS 4 stk) (cs ++ popC 4 stk) (i + 1) S V S3 V3 ∧ S3 2505 = 1 ∧ S3 2506 = bI false ∧ S3 2507 = 0 := ⟨S5, V5, rfl, e6⟩
    refine ⟨fun _ => ?_, fun z => absurd hz z⟩
    rw [List.nil_append]
    cases hr' : rest with
    | nil =>
      rw [if_pos (show nI ([] : List Nat).length ≤ 0 by decide)]
      exact good
    | cons y r =>
      have hv : V2 26 r.length = nI y := by
        have := f3
        rw [(g4 5).1, hs, hr', List.nil_append, List.map_cons] at this
        have t1 := this.1
        rw [List.length_map] at t1
        exact t1
      have h84' : (popS 5 stk).length = r.length + 1 := by rw [(g4 5).1, hs, hr', List.nil_append, List.length_cons]
      have y0 : y = 0 := by
        rcases g6 with ⟨-, q⟩ | ⟨d', r', -, q, -⟩
        · rw [q] at hr'; cases hr'
        · rw [q] at hr'; exact (List.cons.inj hr').1.symm
      subst y0
      rw [List.length_cons, if_neg (fun z => by have := (nI_le0 (n := r.length + 1) (by omega)).mp z; omega), nI_dec, gd_n r.length 84 (by omega) (by decide), nI_cl r.length (by omega), hv, gd_n 0 10 (by decide) (by decide), nI_cl 0 (by decide), if_neg (show ¬ bnd 0 = 4 by decide)]
      exact good
end OX
