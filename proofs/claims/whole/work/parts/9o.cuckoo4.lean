theorem setOf_eq : ∀ c, c < 343 → fX12_setOf (nI c) = some (nI (bx (c / 49) (c / 7 % 7) (c % 7))) := by decide +kernel
section CU4
variable {h : Nat → Nat} {t : Nat → Nat → Nat} {sw : Int32}
theorem cu_flat (s : Cst) : itF (fun c => gC h t sw (c / 49) (c / 7 % 7) (c % 7)) 0 343 s = itF (gX h t sw) 0 7 s := by
  have a := it_7 (fun q => gC h t sw (q / 7) (q % 7)) 49 0 s
  have b := it_7 (fun x => gY h t sw x) 7 0 s
  refine Eq.trans (it_cong 343 0 s (fun j s _ _ => ?_)) (a.trans b)
  show gC h t sw (j / 49) (j / 7 % 7) (j % 7) s = gC h t sw (j / 7 / 7) (j / 7 % 7) (j % 7) s
  rw [Nat.div_div_eq_div_mul]
theorem cuR {S : Nat → Int32} {V : Nat → Nat → Int32} (hs : MHs h) (hT : MHt h t) (hc : CHs h (S 1) (S 2) (S 3) (S 4) (S 5) (S 6) (S 7)) (hRt : RHt h t (V 1) (V 2)) {E : Int32 → Int32 → Int32 → Int32 → Int32 → (Nat → Int32) → Option (Int32 × (Nat → Int32))} {a : Int32} : ∀ (j c m : Nat) (s : Cst), c + j = 343 → j < m → s.1 + j < 1000 → s.2.2.2 < 10000 → ∃ s2 : Cst, s2 = itF (fun c => gC h t sw (c / 49) (c / 7 % 7) (c % 7)) c j s ∧ s2.1 < 1000 ∧ fX12_cuckoo_0_L35 E V m sw a (nI s.1) (if s.1 = 0 then -1 else nI s.2.1) (nI s.2.2.1) (if s.1 = 0 then -1 else nI s.2.2.2) (nI c) S = E a (nI s2.1) (if s2.1 = 0 then -1 else nI s2.2.1) (nI s2.2.2.1) (if s2.1 = 0 then -1 else nI s2.2.2.2) S := by
  have h46 := hs.2.2.2.2.1
  intro j
  induction j with
  | zero =>
    intro c m s c1 c2 c3 c4
    obtain ⟨m, rfl⟩ : ∃ z, m = z + 1 := ⟨m - 1, by omega⟩
    refine ⟨s, rfl, by omega, ?_⟩
    rw [fX12_cuckoo_0_L35, if_pos (show 343 ≤ nI c from nI_le (a := 343) (b := c) (by omega) (by omega))]
  | succ j ih =>
    intro c m s c1 c2 c3 c4
    obtain ⟨m, rfl⟩ : ∃ z, m = z + 1 := ⟨m - 1, by omega⟩
    have bx1 : c / 49 ≤ 6 := by omega
    have by1 : c / 7 % 7 ≤ 6 := by omega
    have bz1 : c % 7 ≤ 6 := by omega
    have hle := gC_le (h := h) (t := t) (sw := sw) (c / 49) (c / 7 % 7) (c % 7) s
    have hfi : (gC h t sw (c / 49) (c / 7 % 7) (c % 7) s).2.2.2 < 10000 := by
      unfold gC upC
      split
      · split
        · show (if s.1 = 0 then _ else _) < 10000
          split <;> omega
        · exact c4
      · exact c4
    obtain ⟨s2, q1, q2, q3⟩ := ih (c + 1) m (gC h t sw (c / 49) (c / 7 % 7) (c % 7) s) (by omega) (by omega) (by omega) hfi
    refine ⟨s2, q1, q2, ?_⟩
    rw [← q3]
    have hm : ∀ q, q < 1000 → nI q - nI q / 7 * 7 = nI (q % 7) := fun q hq => nI_mod (b := 7) (by omega) (by decide)
    obtain ⟨i1, i2⟩ := isC (S := S) (V := V) hs hT hc.2.2.2.2.1 hRt (c := c) (by omega)
    rw [fX12_cuckoo_0_L35, if_neg (show ¬ 343 ≤ nI c from nI_ge (a := c) (b := 343) (by omega) (by omega))]
    simp only [lt_e, bk_e]
    by_cases ok : caseOK h t (c / 49) (c / 7 % 7) (c % 7)
    · rw [i1 ok, bd1_s, if_neg (by decide), setOf_eq c (by omega)]
      simp only [bd1_s]
      have sb := swBy (S := S) (V := V) hs hT hc hRt (dO_ok ok.1) (dO_ok ok.2.1) (dO_ok ok.2.2.1) (dO_apt ok.2.2.2.2.2.2.1) (dO_apt (x := c / 49) (y := c % 7) (by have := ok.2.2.2.2.2.1; have := ok.2.2.2.2.2.2.2; omega)) (dO_apt (x := c / 7 % 7) (y := c % 7) (by have := ok.2.2.2.2.2.1; have := ok.2.2.2.2.2.2.2; omega)) (d := 0) (by decide)
      rw [Nat.zero_div, Nat.sub_zero, nI_0] at sb
      rw [sb, bd1_s]
      have hg : gC h t sw (c / 49) (c / 7 % 7) (c % 7) s = upC h t sw (c / 49) (c / 7 % 7) (c % 7) s := if_pos ok
      rw [hg]
      by_cases p : nI (swV h t (dO (c / 49)) (dO (c / 7 % 7)) (dO (c % 7)) (h 1)) = sw
      · have hu : upC h t sw (c / 49) (c / 7 % 7) (c % 7) s = (s.1 + 1, (if s.1 = 0 then bx (c / 49) (c / 7 % 7) (c % 7) else s.2.1 &&& bx (c / 49) (c / 7 % 7) (c % 7)), s.2.2.1 ||| bx (c / 49) (c / 7 % 7) (c % 7), (if s.1 = 0 then 100 * (c / 49) + 10 * (c / 7 % 7) + c % 7 else s.2.2.2)) := if_pos p
        rw [if_pos p, hu, fa_or, nI_1, nI_1]
        have hcode : (100 : Int32) * (nI c / 49) + (10 : Int32) * (nI c / 7 - nI c / 7 / 7 * 7) + (nI c - nI c / 7 * 7) = nI (100 * (c / 49) + 10 * (c / 7 % 7) + c % 7) := by
          rw [hm c (by omega), show nI c / 49 = nI (c / 49) from nI_divI (b := 49) (by omega) (by decide), show nI c / 7 = nI (c / 7) from nI_divI (b := 7) (by omega) (by decide), hm (c / 7) (by omega), show (100 : Int32) = nI 100 from rfl, show (10 : Int32) = nI 10 from rfl, nI_mul, nI_mul, nI_add, nI_add]
        rw [hcode]
        show _ = fX12_cuckoo_0_L35 E V m sw a (nI (s.1 + 1)) (if s.1 + 1 = 0 then -1 else nI (if s.1 = 0 then bx (c / 49) (c / 7 % 7) (c % 7) else s.2.1 &&& bx (c / 49) (c / 7 % 7) (c % 7))) (nI (s.2.2.1 ||| bx (c / 49) (c / 7 % 7) (c % 7))) (if s.1 + 1 = 0 then -1 else nI (if s.1 = 0 then 100 * (c / 49) + 10 * (c / 7 % 7) + c % 7 else s.2.2.2)) (nI (c + 1)) S
        rw [if_neg (show ¬ s.1 + 1 = 0 by omega), if_neg (show ¬ s.1 + 1 = 0 by omega)]
        by_cases k0 : s.1 = 0
        · rw [if_pos k0, if_pos k0, if_pos k0, if_pos k0, if_pos rfl, show ∀ q : Nat, (-1 : Int32) &&& nI q = nI q from fun q => by apply b_ext; intro i hi; rw [b_and, b_m1 i hi, Bool.true_and]]
        · rw [if_neg k0, if_neg k0, if_neg k0, if_neg k0, if_neg (nI_m1 (by omega)), fa_and]
      · rw [if_neg p, show upC h t sw (c / 49) (c / 7 % 7) (c % 7) s = s from if_neg p, nI_1]
    · rw [i2 ok, bd1_s, if_pos rfl, show gC h t sw (c / 49) (c / 7 % 7) (c % 7) s = s from if_neg ok, nI_1]
end CU4
theorem sm_cuckoo : St_cuckoo Rel := fun S V S' V' L' a1 a2 hrel => by
  obtain ⟨h1, h2, h3, ⟨h, t, ru, hH, hL, hI⟩, h5, h6⟩ := id hrel
  obtain ⟨hs, hT, -, ⟨c0, c1, c2, c3, c4, -⟩, hCt, -, hc', hRt, -⟩ := id hH
  rcases rng (a := a2) (N := 3) (by decide) with x2 | ⟨w, hw, rfl⟩
  · refine Or.inr ⟨0, va_up (va_up S' 0 0) 0 1, ?_, ?_, rfl, R_thr (R_thr hrel)⟩
    · unfold fX11_cuckoo_0
      by_cases y : a2 < 0
      · rw [if_pos y]
      · rw [if_neg y, if_neg (show ¬ a2 ≤ 3 from nle_of (x2.resolve_left y))]
    · unfold fX12_cuckoo_0
      simp only [lt_e, bk_e]
      rw [within_eq, if_pos (show a2 < 0 ∨ 3 < a2 from x2), bd1_s, right_f rfl (by decide), bd2_s, if_pos rfl]
  obtain ⟨s2, q1, q2, q3⟩ := cuR (S := va_up S' 0 0) (V := V') (sw := a1) (E := fun x52 x53 x54 x55 x56 S57 => if x52 = 0 then some (x53, S57) else (if x52 = 1 then (if x53 = 0 then some (0, S57) else some (x54, S57)) else (if x52 = 2 then some (x55, S57) else some (x56, S57)))) (a := nI w) hs hT hc' hRt 343 0 FU (0, 0, 0, 0) (by omega) (by unfold FU; omega) (by show 0 + 343 < 1000; omega) (by show 0 < 10000; omega)
  rw [cu_flat] at q1
  have qC := gath58 (S := S) (V := V) (sw := a1) hs hT c0 c1 c2 c4 hCt
  rw [← q1] at qC
  have q4 : fX12_cuckoo_0 S' V' a1 (nI w) = (if nI w = 0 then some (nI s2.1, va_up S' 0 0) else (if nI w = 1 then (if nI s2.1 = 0 then some (0, va_up S' 0 0) else some ((if s2.1 = 0 then -1 else nI s2.2.1), va_up S' 0 0)) else (if nI w = 2 then some (nI s2.2.2.1, va_up S' 0 0) else some ((if s2.1 = 0 then -1 else nI s2.2.2.2), va_up S' 0 0)))) := by
    unfold fX12_cuckoo_0
    simp only [lt_e, bk_e]
    rw [show fX12_within (nI w) 0 3 = some 1 from within_t (a := 0) (b := 3) (by omega) hw (by decide), bd1_s, right_t rfl, bd2_s, if_neg (by decide)]
    exact q3
  have q5 : fX11_cuckoo_0 S V a1 (nI w) = (if nI w = 0 then some (.inl (nI s2.1, cS S a1 s2)) else (if nI w = 1 then some (.inl ((if s2.1 = 0 then 0 else nI s2.2.1), cS S a1 s2)) else (if nI w = 2 then some (.inl (nI s2.2.2.1, cS S a1 s2)) else some (.inl ((if s2.1 = 0 then -1 else nI s2.2.2.2), cS S a1 s2))))) := by
    unfold fX11_cuckoo_0
    rw [if_neg (nI_pos (n := w) (by omega)), if_pos (show nI w ≤ 3 from nI_le (a := w) (b := 3) hw (by decide)), qC, bd1_s]
    rfl
  have fin : Rel (cS S a1 s2) V (va_up S' 0 0) V' L' := ⟨h1, h2, h3, ⟨h, t, ru, hH, hL, hI⟩, h5, h6⟩
  rcases (show w = 0 ∨ w = 1 ∨ w = 2 ∨ w = 3 by omega) with rfl | rfl | rfl | rfl
  · exact Or.inl ⟨nI s2.1, cS S a1 s2, va_up S' 0 0, by rw [q5, if_pos nI_0], by rw [q4, if_pos nI_0], rfl, fin⟩
  · refine Or.inl ⟨(if s2.1 = 0 then 0 else nI s2.2.1), cS S a1 s2, va_up S' 0 0, by rw [q5, if_neg (by decide), if_pos (show nI 1 = 1 from rfl)], ?_, rfl, fin⟩
    rw [q4, if_neg (by decide), if_pos (show nI 1 = 1 from rfl)]
    by_cases k : s2.1 = 0
    · rw [if_pos (by rw [k]; exact nI_0), if_pos k]
    · rw [if_neg (nI_ne0 (by omega) (by omega)), if_neg k, if_neg k]
  · exact Or.inl ⟨nI s2.2.2.1, cS S a1 s2, va_up S' 0 0, by rw [q5, if_neg (by decide), if_neg (by decide), if_pos (show nI 2 = 2 from rfl)], by rw [q4, if_neg (by decide), if_neg (by decide), if_pos (show nI 2 = 2 from rfl)], rfl, fin⟩
  · exact Or.inl ⟨(if s2.1 = 0 then -1 else nI s2.2.2.2), cS S a1 s2, va_up S' 0 0, by rw [q5, if_neg (by decide), if_neg (by decide), if_neg (by decide)], by rw [q4, if_neg (by decide), if_neg (by decide), if_neg (by decide)], rfl, fin⟩
