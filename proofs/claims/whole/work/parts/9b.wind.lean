/-! ===== wind ===== -/
theorem FU_pos : ∃ m, FU = m + 1 ∧ 24 < m := ⟨FU - 1, by unfold FU; omega, by unfold FU; omega⟩
theorem wind_days {S S' : Nat → Int32} {V V' : Nat → Nat → Int32} {h : Nat → Nat} {t : Nat → Nat → Nat} {n : Nat} {le : Nat → Nat → Nat} (hs : MHs h) (hT : MHt h t) (c0 : S 300 = nI (h 0)) (c1 : S 301 = nI (h 1)) (c2 : S 302 = nI (h 2)) (hCt : CHt h t (V 4) (V 5) (V 6) (V 7) (V 8)) (hc : CHs h (S' 1) (S' 2) (S' 3) (S' 4) (S' 5) (S' 6) (S' 7)) (hRt : RHt h t (V' 1) (V' 2)) (hM : MLs h t n le) (hC : CLs n le (S 3002) (V 31) (V 32) (V 33) (V 34) (V 35)) (hR : RLs n le (S' 42) (V' 13)) {ch : Int32} {N : Nat} (hN : N ≤ 40) :
    ∀ (j i m m' : Nat) (x acc : Int32), i + j = N → j < m → j < m' → ∃ r, fX6_slowInWind_48_L9 S V m (nI N) ch x acc (nI i) = some r ∧ fX12_wind_0_L49 V' m' (nI N) ch x acc (nI i) S' = some (r, S') := by
  intro j
  induction j with
  | zero =>
    intro i m m' x acc e1 e2 e3
    obtain ⟨m, rfl⟩ : ∃ q, m = q + 1 := ⟨m - 1, by omega⟩
    obtain ⟨m', rfl⟩ : ∃ q, m' = q + 1 := ⟨m' - 1, by omega⟩
    refine ⟨acc, ?_, ?_⟩
    · rw [fX6_slowInWind_48_L9, if_pos (nI_le (a := N) (b := i) (by omega) (by omega))]
    · rw [fX12_wind_0_L49, if_pos (nI_le (a := N) (b := i) (by omega) (by omega))]
  | succ j ih =>
    intro i m m' x acc e1 e2 e3
    obtain ⟨m, rfl⟩ : ∃ q, m = q + 1 := ⟨m - 1, by omega⟩
    obtain ⟨m', rfl⟩ : ∃ q, m' = q + 1 := ⟨m' - 1, by omega⟩
    generalize hD : (fun x : Int32 => x * 1103515245 + 12345) = D
    generalize hG : (fun x : Int32 => if ch ≤ ((x >>> ((16 : Int32) &&& 31)) &&& 32767) - ((x >>> ((16 : Int32) &&& 31)) &&& 32767) / 100 * 100 then (0 : Int32) else 5) = G
    have hD2 : ∀ x : Int32, x * 1103515245 + 12345 = D x := fun x => congrFun hD x
    have hG2 : ∀ x : Int32, G x = if ch ≤ ((x >>> ((16 : Int32) &&& 31)) &&& 32767) - ((x >>> ((16 : Int32) &&& 31)) &&& 32767) / 100 * 100 then 0 else 5 := fun x => (congrFun hG x).symm
    have hday := slowDayC hs hT c0 hCt hM hC (oil30 hs i)
    have hF : ∀ q, q < 24 → fX12_swingOf_0_13 S' V' (nI n) (nI q) (nI i) = some ((fun hr => nI (swH h t n le none hr (h 1 - i / h 2))) q) := fun q hq => swOf13 hs hT hc hRt hM hR hq (by omega)
    generalize (fun hr => nI (swH h t n le none hr (h 1 - i / h 2))) = F at hday hF
    obtain ⟨r, q1, q2⟩ := ih (i + 1) m m' (wnd D G 24 x (acc + slF F 0 24 0)).1 (wnd D G 24 x (acc + slF F 0 24 0)).2 (by omega) (by omega) (by omega)
    refine ⟨r, ?_, ?_⟩
    · rw [fX6_slowInWind_48_L9, if_neg (nI_ge (a := i) (b := N) (by omega) (by omega)), oilC hs c1 c2 (by omega)]
      simp only [lt_e, bk_e, bd1_s]
      rw [hday, bd1_s]
      have LL := fun E => windC (S := S) (V := V) (E := E) (a := nI N) (ch := ch) (y := nI i) hD2 hG2 24 0 FU x (acc + slF F 0 24 0) (by omega) (by unfold FU; omega)
      rw [nI_0] at LL
      rw [LL, nI_1]
      exact q1
    · rw [fX12_wind_0_L49, if_neg (nI_ge (a := i) (b := N) (by omega) (by omega))]
      simp only [lt_e, bk_e]
      have LL := fun E => windR (S := S') (V := V') (E := E) (a := nI N) (ch := ch) (d := i) hs hT hc hRt hM hR (by omega) hD2 hG2 hF 24 0 FU x acc (by omega) (by unfold FU; omega)
      rw [nI_0] at LL
      rw [LL, nI_1]
      exact q2
theorem sm_wind : St_wind Rel := fun S V S' V' L' a1 a2 a3 hrel => by
  obtain ⟨-, -, -, ⟨h, t, ru, ⟨hs, hT, -, ⟨c0, c1, c2, -, c4, -⟩, hCt, -, hc', hRt, -⟩, ⟨n, le, hM, -, hC, hR⟩, -⟩, -⟩ := id hrel
  rcases rng (a := a2) (N := 40) (by decide) with x2 | ⟨N, hN, rfl⟩
  · refine Or.inr ⟨0, va_up (va_up S' 0 0) 0 1, ?_, ?_, rfl, R_thr (R_thr hrel)⟩
    · unfold fX11_wind_0
      by_cases y : a2 < 0
      · rw [if_pos y]
      · rw [if_neg y, if_pos (show 40 < a2 from x2.resolve_left y)]
    · unfold fX12_wind_0
      simp only [lt_e, bk_e]
      rw [within_eq, if_pos (show a2 < 0 ∨ 40 < a2 from x2), bd1_s, if_pos rfl, right_f rfl (by decide), bd2_s, if_pos rfl]
  have p1 : ¬ nI N < 0 := nI_pos (by omega)
  have p2 : ¬ (40 : Int32) < nI N := nI_nlt (a := 40) (b := N) hN (by decide)
  have w1 : fX12_within (nI N) 0 40 = some 1 := within_t (a := 0) (b := 40) (by omega) hN (by decide)
  rcases rng (a := a3) (N := 100) (by decide) with x3 | ⟨c, hc3, rfl⟩
  · refine Or.inr ⟨0, va_up (va_up S' 0 0) 0 1, ?_, ?_, rfl, R_thr (R_thr hrel)⟩
    · unfold fX11_wind_0
      rw [if_neg p1, if_neg p2]
      by_cases y : a3 < 0
      · rw [if_pos y]
      · rw [if_neg y, if_neg (show ¬ a3 ≤ 100 from nle_of (x3.resolve_left y))]
    · unfold fX12_wind_0
      simp only [lt_e, bk_e]
      rw [w1, bd1_s, if_neg (by decide), within_eq, if_pos (show a3 < 0 ∨ 100 < a3 from x3), bd1_s, if_pos rfl, right_f rfl (by decide), bd2_s, if_pos rfl]
  obtain ⟨r, q1, q2⟩ := wind_days (S := S) (S' := va_up S' 0 0) (V := V) (V' := V') hs hT c0 c1 c2 hCt hc' hRt hM hC hR (ch := nI c) hN N 0 FU FU a1 0 (by omega) (by unfold FU; omega) (by unfold FU; omega)
  rw [nI_0] at q1 q2
  refine Or.inl ⟨r, va_up S' 0 0, ?_, ?_, rfl, R_thr hrel⟩
  · unfold fX11_wind_0 fX6_slowInWind_48
    rw [if_neg p1, if_neg p2, if_neg (nI_pos (n := c) (by omega)), if_pos (show nI c ≤ 100 from nI_le (a := c) (b := 100) hc3 (by decide)), q1, bd1_s]
  · unfold fX12_wind_0
    simp only [lt_e, bk_e]
    rw [w1, bd1_s, if_neg (by decide), show fX12_within (nI c) 0 100 = some 1 from within_t (a := 0) (b := 100) (by omega) hc3 (by decide), bd1_s, if_neg (by decide), right_t rfl, bd2_s, if_neg (by decide), q2]
