/-! ===== a rule, whole ===== -/
section EX
variable {tx : Nat → Nat} {n M s0 a0 : Nat} {S0 : Nat → Int32} {V0 : Nat → Nat → Int32} {R0 : Nat → Int32} {W0 : Nat → Nat → Int32} {i d m : Nat} {stk cs : List Nat} {w : Nat} {S : Nat → Int32} {V : Nat → Nat → Int32} {S' : Nat → Int32} {V' : Nat → Nat → Int32} {L' : Nat → Int64}
theorem FX_FC (h : FX s0 S0 V0 S V) : FC S0 V0 S V := ⟨fun k hk => h.1 k (by omega) (by omega) (by omega), fun q hq => h.2.1 q (by omega) (by omega)⟩
theorem FY_FR (h : FY a0 R0 W0 S' V') : FR R0 W0 S' V' := ⟨fun k hk => h.1 k (by omega), fun q hq => h.2.1 q (by omega)⟩
theorem drX (hx : XR tx n M s0 a0 S0 V0 R0 W0 i d stk cs w S V S' V' L') {l : Nat} (hl : l ≤ 6) : ∃ S41 V42, fX12_drops_0 S' V' (nI l) = some (S41, V42) ∧ S41 34 = nI (popS l stk).length ∧ V42 11 = V' 11 ∧ S41 35 = nI (d + 1) ∧ RCD a0 (cs ++ popC l stk) (S41 33) (V42 10) ∧ FY a0 S' V' S41 V42 ∧ S41 14 = 0 ∧ RN tx n S41 L' (tS tx n i) ∧ V42 12 = V' 12 ∧ S41 15 = S' 15 := by
  obtain ⟨hc, ha, hC, hR, hd, hk, c1, r1, ⟨b1, b2⟩, ht, fx, fy⟩ := hx
  have hM := M600 hc
  have hi := ha.1
  have skb := SK_b d stk hk
  have hdd := hd.2.2
  obtain ⟨u, e1, e2, e3⟩ := drR (a0 := a0) hl stk cs FU S' V' skb.2.2 (by unfold FU; omega) hR.1 hR.2 (by omega) r1 (by omega)
  refine ⟨_, _, e1, rfl, rfl, hd.2.1, e2, ⟨fun k hk => ?_, fun q hq => va_up_ne _ _ (by omega), e3⟩, ha.2.2.2, ha.2.2.1, rfl, rfl⟩
  simp only [va_up]; (repeat rw [if_neg (by omega)])
theorem popC_len (l : Nat) : ∀ s : List Nat, (∀ x, x ∈ s → x ≤ 9) → ((popC l s).flatMap trT).length = (popC l s).length
  | [], _ => rfl
  | z :: r, hz => by
    have ih := popC_len l r (fun y hy => hz y (List.mem_cons_of_mem _ hy))
    rw [popC]
    split
    · rename_i cz
      rw [List.flatMap_cons, (trO_b z (by have := hz z (List.mem_cons_self ..); omega)).2.2.2 cz.1, List.length_append, ih]
      simp only [List.length_cons, List.length_nil]
      omega
    · rfl
/-- both behind an operator -/
theorem XR_op (hx : XR tx n M s0 a0 S0 V0 R0 W0 i d stk cs 1 S V S' V' L') (hi : i < M) {l x : Nat} (hl : l ≤ 6) (hx9 : 1 ≤ x ∧ x ≤ 9) (hx3 : x ≠ 3) {S3 : Nat → Int32} {V3 : Nat → Nat → Int32} (hA : AFC s0 d (x :: popS l stk) (cs ++ popC l stk) (i + 1) S V S3 V3) {S41 : Nat → Int32} {V42 : Nat → Nat → Int32} (h34 : S41 34 = nI (popS l stk).length) (h11 : V42 11 = V' 11) (h35 : S41 35 = nI (d + 1)) (hrc : RCD a0 (cs ++ popC l stk) (S41 33) (V42 10)) (hfy : FY a0 S' V' S41 V42) (h14 : S41 14 = 0) (hr : RN tx n S41 L' (tS tx n i)) (h15 : S41 15 = S' 15) (g : Nat → Int32) (hsk : SK g d (x :: popS l stk)) : ∃ S50 V51 S56 L57, fX12_waitsFor_0 S41 V42 (nI (trO x)) = some (S50, V51) ∧ S50 35 = nI (d + 1) ∧ V51 12 = V42 12 ∧ fX12_goes_0 S50 (va_up V51 12 g) L' = some (S56, L57) ∧ XR tx n M s0 a0 S0 V0 R0 W0 (i + 1) d (x :: popS l stk) (cs ++ popC l stk) 0 S3 V3 S56 (va_up V51 12 g) L57 := by
  obtain ⟨hc, ha, hC, hR, hd, hk, c1, r1, ⟨b1, b2⟩, ht, fx, fy⟩ := id hx
  have hM := M600 hc
  have skb := SK_b d stk hk
  have hdd := hd.2.2
  have pl := pop_len l stk
  have hc1 : CX tx n M V (va_up (va_up V42 11 (upd (V42 11) (popS l stk).length (nI (trO x)))) 12 g) := CX_of hc (fun _ _ _ => rfl) (fun q hq => by rw [va_up_ne _ _ (by omega), va_up_ne _ _ (by omega)]; exact hfy.2.1 q hq)
  obtain ⟨a1, b1', c1', d1, e1, f1', y, g1, g2⟩ := stepR (V := V) (V' := va_up (va_up V42 11 (upd (V42 11) (popS l stk).length (nI (trO x)))) 12 g) (S' := va_up S41 34 (nI ((popS l stk).length + 1))) (L' := L') hc1 hi hr
  obtain ⟨q1, ⟨q2, q3⟩, q4, q5, q6⟩ := hA
  refine ⟨_, _, _, _, waitR h34 (by omega), h35, rfl, g1, ?_⟩
  have st11 : stR (V42 11) ((popS l stk).map (fun x => nI (trO x))) := by rw [h11]; exact stR_pop l stk hR.2
  have nbx : nbS (x :: popS l stk) = nbS (popS l stk) + 1 := by
    unfold nbS
    rw [List.filter_cons, if_pos (by simp [hx3]; omega), List.length_cons]
  refine ⟨CX_of hc q6.2.1 (fun q hq => by rw [va_up_ne _ _ (by omega), va_up_ne _ _ (by omega)]; exact hfy.2.1 q hq), ⟨hi, q1, g2, h14⟩, ⟨q2, q3⟩, ⟨rfl, ?_, stR_upd (by rw [List.length_map]; exact Nat.le_refl _) st11⟩, ⟨q4, h35, hdd⟩, hsk, q5, hrc, ⟨?_, ?_⟩, ?_, FX_t fx q6, FY_t fy.1 (FY_t hfy ⟨fun q hq => ?_, fun q hq => by rw [va_up_ne _ _ (by omega), va_up_ne _ _ (by omega)], fun _ _ => rfl⟩), h15.trans fy.2⟩
  · rw [List.length_map]; exact upd_same _ _ _
  · rw [List.length_append, List.length_cons]; omega
  · have lf : ((cs ++ popC l stk).flatMap trT).length ≤ (cs.flatMap trT).length + (popC l stk).length := by
      rw [List.flatMap_append, List.length_append]
      rw [popC_len l stk skb.2.2]
      exact Nat.le_refl _
    rw [List.length_cons]
    omega
  · rw [nbx]
    exact ht_pop l stk cs skb.2.2 ht
  · simp only [va_up]; (repeat rw [if_neg (by omega)])
theorem pop1_seg : ∀ seg : List Nat, (∀ x, x ∈ seg → 1 ≤ x ∧ x ≤ 9) → popS 1 seg = []
  | [], _ => rfl
  | x :: r, h => by
    have hx := h x (List.mem_cons_self ..)
    have := (bn_b x (by omega)).2.2.1 (by omega)
    rw [popS, if_pos ⟨by omega, this⟩]
    exact pop1_seg r (fun y hy => h y (List.mem_cons_of_mem _ hy))
theorem eX_bad {tp w : Nat} (h14 : ¬ S' 14 = 0) (h33 : S' 33 = nI tp) (h34 : S' 34 = nI w) (hw : w ≤ 200) (hb : tp + w ≤ 1400) : ∃ S4 V4, eX S' V' L' = some (S4, V4, L') ∧ S4 14 = S' 14 ∧ S4 15 = S' 15 ∧ FR S' V' S4 V4 := by
  obtain ⟨w2, tp2, u, e1, e2⟩ := drA w tp FU S' V' (by unfold FU; omega) h34 (by omega) h33 (by omega)
  refine ⟨va_up (va_up (va_up S' 34 (nI w2)) 33 (nI tp2)) 33 (nI (tp2 + 1)), va_up (va_up V' 10 u) 10 (upd ((va_up V' 10 u) 10) tp2 0), ?_, rfl, rfl, ⟨(fun k hk => by simp only [va_up]; (repeat rw [if_neg (by omega)])), fun q hq => by rw [va_up_ne _ _ (by omega), va_up_ne _ _ (by omega)]⟩⟩
  unfold eX kX
  rw [good_0 h14, bd1_s, if_pos rfl, show fX12_drops_0 S' V' 0 = _ from e1, bd2_s, putsR (S := va_up (va_up S' 34 (nI w2)) 33 (nI tp2)) (s := tp2) rfl (by omega), bd2_s]
/-- the end of a rule, with nothing that waits -/
theorem eX_end (hx : XR tx n M s0 a0 S0 V0 R0 W0 i 0 stk cs 1 S V S' V' L') : ∃ S3 V3, eX S' V' L' = some (S3, V3, L') ∧ S3 14 = 0 ∧ RN tx n S3 L' (tS tx n i) ∧ S3 33 = nI (a0 + ((cs ++ popC 1 stk).flatMap trT).length + 1) ∧ (∀ j p, ((cs ++ popC 1 stk).flatMap trT ++ [0])[j]? = some p → V3 10 (a0 + j) = nI p) ∧ FY a0 S' V' S3 V3 ∧ a0 + ((cs ++ popC 1 stk).flatMap trT).length + 1 ≤ 2 * i ∧ S3 15 = S' 15 := by
  obtain ⟨hc, ha, hC, hR, hd, hk, c1, r1, ⟨b1, b2⟩, ht, fx, fy⟩ := id hx
  have hM := M600 hc
  have hi := ha.1
  have skb := SK_b 0 stk hk
  obtain ⟨S41, V42, e1, e2, e3, e4, e5, e6, e7, e8, e9⟩ := drX hx (l := 0) (by decide)
  obtain ⟨p0, p1⟩ := pop01 stk skb.2.2
  rw [p1] at e5
  have pl := pop_len 1 stk
  have lf : ((cs ++ popC 1 stk).flatMap trT).length ≤ (cs.flatMap trT).length + (popC 1 stk).length := by
    rw [List.flatMap_append, List.length_append]
    rw [popC_len 1 stk skb.2.2]
    exact Nat.le_refl _
  refine ⟨va_up S41 33 (nI (a0 + ((cs ++ popC 1 stk).flatMap trT).length + 1)), va_up V42 10 (upd (V42 10) (a0 + ((cs ++ popC 1 stk).flatMap trT).length) 0), ?_, e7, e8, rfl, fun j p hp => ?_, FY_t e6 ⟨fun k hk => ?_, fun q hq => va_up_ne _ _ (by omega), fun j hj => upd_ne _ _ (by omega)⟩, by omega, e9.2⟩
  · unfold eX kX
    rw [good_1 ha.2.2.2, bd1_s, if_neg (show ¬ (1 : Int32) = 0 by decide), hd.2.1, if_pos (show nI (0 + 1) ≤ 1 by decide), show fX12_drops_0 S' V' 0 = _ from e1, bd2_s, putsR e5.1 (by omega), bd2_s]
  · rcases snoc_at hp with ⟨h1, h2⟩ | ⟨h1, h2⟩
    · show upd (V42 10) _ 0 (a0 + j) = nI p
      rw [upd_ne _ _ (by omega)]
      exact e5.2 j p h2
    · show upd (V42 10) _ 0 (a0 + j) = nI p
      rw [h1, upd_same, h2, nI_0]
  · simp only [va_up]; (repeat rw [if_neg (by omega)])
theorem isOpR (hx : XR tx n M s0 a0 S0 V0 R0 W0 i d stk cs w S V S' V' L') : fX12_isOpened_0 S' V' = some (bI (decide (d ≠ 0))) := by
  obtain ⟨hc, ha, hC, hR, hd, hk, c1, r1, ⟨b1, b2⟩, ht, fx, fy⟩ := hx
  have skb := SK_b d stk hk
  have hdd := hd.2.2
  have L : ∀ (s : List Nat) (f : Nat), s.length < f → s.length ≤ 84 → (∀ x, x ∈ s → x ≤ 9) → stR (V' 11) (s.map (fun x => nI (trO x))) → fX12_isOpened_0_L7 (fun x11 => if x11 < 0 then some 0 else some 1) S' V' f (nI s.length - 1) = some (bI (decide (0 ∈ s))) := by
    intro s
    induction s with
    | nil =>
      intro f hf h84 h9 hst
      obtain ⟨f, rfl⟩ : ∃ z, f = z + 1 := ⟨f - 1, by omega⟩
      rw [fX12_isOpened_0_L7, if_pos (show nI ([] : List Nat).length - 1 < 0 by decide)]
      rfl
    | cons x r ih =>
      intro f hf h84 h9 hst
      obtain ⟨f, rfl⟩ : ∃ z, f = z + 1 := ⟨f - 1, by omega⟩
      have hlen : (x :: r).length = r.length + 1 := rfl
      rw [hlen] at hf h84 ⊢
      have hv : V' 11 r.length = nI (trO x) := by
        have := hst.1
        rw [List.length_map] at this
        exact this
      have hx := h9 x (List.mem_cons_self ..)
      rw [nI_dec, fX12_isOpened_0_L7, if_neg (nI_pos (by omega)), gd_n r.length 800 (by omega) (by decide), nI_cl r.length (by omega), hv, (trO_b x (by omega)).1, bd1_s]
      by_cases x0 : x = 0
      · rw [decide_eq_true x0, if_neg (show ¬ bI true = 0 by decide), if_neg (nI_pos (by omega)), decide_eq_true (by rw [x0]; exact List.mem_cons_self ..)]
        rfl
      · rw [decide_eq_false x0, if_pos (show bI false = 0 from rfl), lt_e, ← Int32.sub_eq_add_neg, ih f (by omega) (by omega) (fun y hy => h9 y (List.mem_cons_of_mem _ hy)) hst.2]
        congr 2
        rw [decide_eq_decide]
        constructor
        · intro z; exact List.mem_cons_of_mem _ z
        · intro z
          rcases List.mem_cons.mp z with q | q
          · exact absurd q.symm x0
          · exact q
  unfold fX12_isOpened_0
  simp only [lt_e, bk_e]
  rw [hR.1, L stk FU (by unfold FU; omega) (by omega) skb.2.2 hR.2]
  congr 2
  rw [decide_eq_decide]
  cases d with
  | zero =>
    constructor
    · intro z
      have := (hk.1.1 0 z).1
      omega
    · intro z; exact absurd rfl z
  | succ d =>
    obtain ⟨seg, rest, e, -⟩ := hk
    constructor
    · intro _; omega
    · intro _
      rw [e]
      exact List.mem_append_right _ (List.mem_cons_self ..)
theorem n19 {E : (Nat → Int32) → (Nat → Nat → Int32) → Option (Int32 × (Nat → Int32) × (Nat → Nat → Int32))} {f c : Nat} (hc : CX tx n M V V') (hi : i ≤ M) (h05 : S 2005 = nI i) (h4 : S 2504 = nI d) (hd : d ≤ 5) (hcn : c ≤ 600) (h5 : S 2505 = 0) : fX9_read_25_L19 E (f + 1) 0 (nI c) S V = (if kdA tx n (tS tx n i) = 59 ∧ d = 0 then E S V else if kdA tx n (tS tx n i) = 41 then bd3 (fX9_readClose_25 S V) (fun r S2 V2 => fX9_read_25_L19 E f r (nI (c + 1)) S2 V2) else bd3 (fX9_readOperator_25 S V) (fun r S2 V2 => fX9_read_25_L19 E f r (nI (c + 1)) S2 V2)) := by
  have kb := kdA_b hc.2.1 (tS tx n i)
  have kc := kindC hc hi h05
  have q4 : (nI (kdA tx n (tS tx n i)) = 59) ↔ kdA tx n (tS tx n i) = 59 := kd_is kb (c := 59) (by decide)
  have q5 : (nI (kdA tx n (tS tx n i)) = 41) ↔ kdA tx n (tS tx n i) = 41 := kd_is kb (c := 41) (by decide)
  have q6 : (nI d = 0) ↔ d = 0 := nI_eq0 (by omega)
  rw [fX9_read_25_L19, if_neg (show ¬ 600 < nI c from nI_nlt (a := 600) (b := c) hcn (by decide)), if_pos rfl]
  simp only [bk_e]
  rw [h5, if_pos rfl, kc, bd1_s, bd1_s]
  simp only [lt_e, nI_1, h4, q4, q5, q6]
  by_cases k9 : kdA tx n (tS tx n i) = 59
  · rw [if_pos k9]
    by_cases d0 : d = 0
    · rw [if_pos d0, if_pos ⟨k9, d0⟩]
    · rw [if_neg d0, if_neg (show ¬ (kdA tx n (tS tx n i) = 59 ∧ d = 0) from fun z => d0 z.2)]
  · rw [if_neg k9, if_neg (show ¬ (kdA tx n (tS tx n i) = 59 ∧ d = 0) from fun z => k9 z.1)]
end EX
