/-! ===== house: the method ===== -/
theorem sm_house : St_house Rel := fun S V S' V' L' a1 hrel => by
  obtain ⟨⟨l, hl, e1, e2, ht⟩, p2, p3, p4, p5, p6, p7⟩ := id hrel
  rcases rng (a := a1) (N := l) (by omega) with x1 | ⟨n, hn, rfl⟩
  · refine Or.inr ⟨0, va_up (va_up S' 0 0) 0 1, V', L', ?_, ?_, rfl, R_thr (R_thr hrel)⟩
    · unfold fX11_house_0
      by_cases c : a1 < 0
      · rw [if_pos c]
      · rw [if_neg c, e1, if_neg (nle_of (x1.resolve_left c))]
    · unfold fX12_house_0
      simp only [lt_e, bk_e]
      have zz : ∀ {β : Type} (A B : β), (if a1 < 0 then A else (if (va_up S' 0 0) 13 < a1 then A else B)) = A := fun A B => by
        by_cases c : a1 < 0
        · rw [if_pos c]
        · rw [if_neg c, if_pos (show (va_up S' 0 0) 13 < a1 from by rw [show (va_up S' 0 0) 13 = nI l from e2]; exact x1.resolve_left c)]
      rw [zz, right_f rfl (by decide), bd2_s, if_pos rfl]
  -- the text
  have txp : ∀ i, i < n → (V' 5 i).toNatClampNeg < 256 ∧ V 1 i = sb (V' 5 i).toNatClampNeg ∧ V' 5 i = nI (V' 5 i).toNatClampNeg := fun i hi => by
    obtain ⟨x, x1, x2, x3⟩ := ht i (by omega)
    have e : (V' 5 i).toNatClampNeg = x := by rw [x3, nI_cl x (by omega)]
    rw [e]
    exact ⟨x1, x2, x3⟩
  generalize htx : (fun i => (V' 5 i).toNatClampNeg) = tx
  have txp2 : ∀ i, i < n → tx i < 256 ∧ V 1 i = sb (tx i) ∧ V' 5 i = nI (tx i) := fun i hi => by
    rw [← htx]; exact txp i hi
  obtain ⟨M, u, ta, tb, td, b1, b2⟩ := beginC (S := va_up S 1 0) (V := V) (v := V 1) (tx := tx) (n := n) rfl (by omega) (fun i hi => ⟨(txp2 i hi).1, (txp2 i hi).2.1⟩)
  have hc : CX tx n M (TV (va_up V 21 u) ta tb td) V' := ⟨by omega, fun i hi => (txp2 i hi).1, b2, fun i hi => (txp2 i hi).2.2⟩
  obtain ⟨a, b, c, d, e, f, y, g1, g2⟩ := goesR (S := hR0 S' (nI n)) (V := V') (L := L') (tx := tx) (n := n) (CX_R hc) rfl (Nat.zero_le n) nI_0.symm
  have hq : QQ tx n M 0 (fun q => ([30, 0, 7, 200, 0, 0, 0] : List Nat).getD q 0) (fun _ _ => 0) (fun _ => []) (fun _ => 0) 0 (hC0 S (nI n)) (TV (va_up V 21 u) ta tb td) (gS (hR0 S' (nI n)) a b c d e f) V' (va_up L' 24 y) := by
    refine ⟨hc, ⟨Nat.zero_le _, rfl, g2, rfl⟩, ⟨0, by decide, rfl, rfl, rfl, rfl⟩, ?_, fun i hi => absurd hi (Nat.not_lt_zero _), fun i hi => absurd hi (Nat.not_lt_zero _), ⟨rfl, rfl, rfl, rfl, rfl, rfl, rfl⟩, fun i hi => absurd hi (Nat.not_lt_zero _), ⟨rfl, rfl, rfl, rfl, rfl, rfl, rfl⟩, fun i hi => absurd hi (Nat.not_lt_zero _), ⟨rfl, rfl, Nat.le_refl _, fun i hi => absurd hi (Nat.not_lt_zero _)⟩, ⟨rfl, Nat.le_refl _, fun i hi => absurd hi (Nat.not_lt_zero _)⟩⟩
    exact ⟨by decide, by decide, by decide, by decide, by decide, by decide, by decide⟩
  have hM := M600 hc
  have rd : fX3_read_11_1 (va_up S 1 0) V (nI n) = fX3_read_11_1_L36 FU 0 0 (hC0 S (nI n)) (TV (va_up V 21 u) ta tb td) := by
    unfold fX3_read_11_1
    rw [b1, bd2_s]
    unfold fX2_clear_12
    simp only [lt_e]
    rw [bd1_s]
  have hcl : fX11_house_0 S V (nI n) = bd3 (fX3_read_11_1_L36 FU 0 0 (hC0 S (nI n)) (TV (va_up V 21 u) ta tb td)) (fun r4 S5 V6 => (if r4 = 0 then bd2 (fX2_copyFrom_3_12 (va_up S5 2 (-1 : Int32)) V6) (fun S10 V11 => bd2 (fX4_clear_30 S10 V11) (fun S13 V14 => bd1 (fX5_clear_42 S13) (fun S16 => bd1 (fX0_forget_49 S16) (fun S18 => bd1 (fX7_forget_59 S18) (fun S20 => some (.inl ((0 : Int32), va_up S20 11 0, V14))))))) else bd1 (fX3_place_11 S5 V6) (fun r23 => gd (ib (0 : Int32) 3) (gd (ib (0 : Int32) 3) (some (.inl (r4, va_up S5 2 r23, va_up V6 2 (upd (V6 2) ((0 : Int32)).toNatClampNeg ((V6 2 ((0 : Int32)).toNatClampNeg) + (1 : Int32)))))))))) := by
    unfold fX11_house_0
    simp only [lt_e]
    rw [if_neg (nI_pos (n := n) (by omega)), e1, if_pos (nI_le hn (by omega)), rd]
  have hrf := house_r (S := S') (V := V') (L := L') e2 hn hl
  rw [g1, bd2_s] at hrf
  have hlp := loopX (E := eH) M 0 0 FU FU _ _ _ _ _ _ _ _ _ _ (by omega) (Nat.le_refl _) (by unfold FU; omega) (by unfold FU; omega) hq
  rw [nI_0] at hlp
  have fc0 : ∀ k, k < 1100 ∨ 2600 ≤ k → k ≠ 1 → hC0 S (nI n) k = S k := fun k hk k1 => by
    simp only [va_up]; (repeat rw [if_neg (by omega)])
  have fv0 : ∀ q, q < 13 ∨ 26 < q → (TV (va_up V 21 u) ta tb td) q = V q := fun q hq => by
    simp only [va_up]; (repeat rw [if_neg (by omega)])
  have fr0 : ∀ k, (k < 13 ∨ 35 < k) → k ≠ 0 → (gS (hR0 S' (nI n)) a b c d e f) k = S' k := fun k hk k0 => by
    simp only [va_up]; (repeat rw [if_neg (by omega)])
  rcases hlp with ⟨S2, V2, S3, V3, L3, h, t, ru, st, tp, r1, r2, r3, r4, r5, r6⟩ | ⟨fl, S2, V2, S3, V3, L3, r1, r2, r3, r4, r5⟩
  · -- a house
    obtain ⟨-, ⟨-, -, -, h14⟩, -, q1, q2, q3, q4, q5, q6, q7, ⟨s0, s1, s2, s3⟩, q9⟩ := id r3
    obtain ⟨w, w1, w2⟩ := fill35 (V := va_up (va_up (va_up (va_up (va_up (va_up (va_up V2 4 (va_cpy (V2 13) (V2 4) 0 0 6)) 5 (va_cpy (V2 14) (V2 5) 0 0 6)) 6 (va_cpy (V2 15) (V2 6) 0 0 6)) 7 (va_cpy (V2 16) (V2 7) 0 0 6)) 8 (va_cpy (V2 17) (V2 8) 0 0 6)) 10 (va_cpy (V2 19) (V2 10) 0 0 4)) 9 (va_cpy (V2 18) (V2 9) 0 0 (st (h 6))))
    have cp := copyF (S := va_up S2 2 (-1)) (V := V2) (s := st (h 6)) s1 (by omega)
    rw [r1, bd3_s, if_pos rfl, cp, bd2_s] at hcl
    unfold fX4_clear_30 fX5_clear_42 fX0_forget_49 fX7_forget_59 at hcl
    simp only [lt_e] at hcl
    rw [w2, bd1_s, bd2_s, bd1_s, bd1_s, bd1_s] at hcl
    rw [r2, eH_good h14] at hrf
    refine Or.inl ⟨0, _, _, _, _, L3, hcl, hrf, ?_, ?_⟩
    · show some (S3 0) = some 0
      rw [r5.1 0 (by decide)]
      rfl
    · have n2 : V2 2 = V 2 := (r4.2 2 (by decide)).trans (fv0 2 (by decide))
      have n6 : V3 6 = V' 6 := r5.2 6 (by decide)
      refine ⟨⟨0, by decide, ?_, ?_, fun i hi => absurd hi (Nat.not_lt_zero _)⟩, ?_, ?_, ⟨h, t, ru, ?_, ⟨0, fun _ _ => 0, ⟨by decide, fun i hi => absurd hi (Nat.not_lt_zero _), fun i j hr _ hj => absurd hj (Nat.not_lt_zero _)⟩, fun m hm k hr hk => absurd hk (by omega), ⟨rfl, fun i hi => absurd hi (Nat.not_lt_zero _), fun x hr hx hh => ?_⟩, ⟨rfl, fun i hi => absurd hi (Nat.not_lt_zero _)⟩⟩, Or.inl ⟨rfl, rfl⟩⟩, ⟨0, fun _ _ => 0, ⟨by decide, fun i hi => absurd hi (Nat.not_lt_zero _)⟩, ⟨rfl, fun i hi => absurd hi (Nat.not_lt_zero _)⟩, ⟨rfl, fun i hi => absurd hi (Nat.not_lt_zero _)⟩⟩, Or.inl ⟨rfl, rfl⟩, Or.inl ⟨rfl, rfl⟩⟩
      · show S2 1 = nI 0
        rw [r4.1 1 (by decide)]; rfl
      · show S3 13 = nI 0
        rw [r5.1 13 (by decide)]; rfl
      · show (-1 : Int32) = S3 15
        exact r6.symm
      · show V2 2 0 = V3 6 0 ∧ V2 2 1 = V3 6 1 ∧ V2 2 2 = V3 6 2
        rw [n2, n6]
        exact p3
      · refine houseG r3 q4 (fun j hj => ⟨cpy_at hj, cpy_at hj, cpy_at hj, cpy_at hj, cpy_at hj⟩) (fun j hj => cpy_at hj) (fun j hj => cpy_at hj) q6 (fun j hj => if_pos hj) (fun j hj => if_pos hj) (fun j hj => if_pos hj) (fun j hj => if_pos hj)
      · show w (24 * x + hr) = _
        rw [w1 _ (by omega)]
        rfl
  · -- a fault
    obtain ⟨f1, f2, f3, i2, f4, f5, f6⟩ := r3
    have hn0 : ¬ S3 14 = 0 := fun z => by
      rw [f3] at z
      have := (nI_eq0 (n := fl) (by omega)).mp z
      omega
    have fl0 : ¬ nI fl = 0 := fun z => by
      have := (nI_eq0 (n := fl) (by omega)).mp z
      omega
    have hc2 : CX tx n M V2 V' := by
      obtain ⟨z1, z2, z3, z4⟩ := hc
      refine ⟨z1, z2, ?_, z4⟩
      rw [r4.2 22 (by decide), r4.2 23 (by decide), r4.2 24 (by decide)]
      exact z3
    have pc : fX3_place_11 S2 V2 = some (nI (tS tx n i2)) := by
      unfold fX3_place_11
      rw [placeC hc2 f4 f5, bd1_s]
    rw [r1, bd3_s, if_neg fl0, pc, bd1_s, gd_t (by decide), gd_t (by decide)] at hcl
    rw [r2, eH_bad hn0, f3] at hrf
    refine Or.inl ⟨nI fl, _, _, _, _, L3, hcl, hrf, ?_, ?_⟩
    · show some (S3 0) = some 0
      rw [r5.1 0 (by decide)]
      rfl
    · have n2 : V2 2 = V 2 := (r4.2 2 (by decide)).trans (fv0 2 (by decide))
      have n6 : V3 6 = V' 6 := r5.2 6 (by decide)
      refine Rel_keep hrel (fun k k1 k2 k3 => ?_) (fun q q1 q2 => ?_) (fun k k1 k2 => ?_) (fun q q1 q2 => ?_) ⟨0, by decide, ?_, ?_, fun i hi => absurd hi (Nat.not_lt_zero _)⟩ ?_ ?_
      · rw [va_up_ne _ _ k3, r4.1 k k1]
        exact fc0 k k1 k2
      · rw [va_up_ne _ _ q2, r4.2 q (by omega)]
        exact fv0 q q1
      · rw [r5.1 k (by omega)]
        exact fr0 k k1 k2
      · rw [va_up_ne _ _ q2]
        exact r5.2 q q1
      · show S2 1 = nI 0
        rw [r4.1 1 (by decide)]; rfl
      · show S3 13 = nI 0
        rw [r5.1 13 (by decide)]; rfl
      · show nI (tS tx n i2) = S3 15
        exact f6.symm
      · show upd (V2 2) 0 (V2 2 0 + 1) 0 = upd (V3 6) 0 (V3 6 0 + 1) 0 ∧ upd (V2 2) 0 (V2 2 0 + 1) 1 = upd (V3 6) 0 (V3 6 0 + 1) 1 ∧ upd (V2 2) 0 (V2 2 0 + 1) 2 = upd (V3 6) 0 (V3 6 0 + 1) 2
        rw [n2, n6, upd_same, upd_same, upd_ne _ _ (by decide), upd_ne _ _ (by decide), upd_ne _ _ (by decide), upd_ne _ _ (by decide), p3.1]
        exact ⟨rfl, p3.2.1, p3.2.2⟩
