section BI
variable {h : Nat → Nat} {t : Nat → Nat → Nat} {n : Nat} {le : Nat → Nat → Nat}
theorem slowZ (hs : MHs h) (hT : MHt h t) (hM : MLs h t n le) {o : Nat} (ho : o ≤ 30) : slF (fun hr => nI (swH h t n le none hr o)) 0 24 0 = zI (sgI (fun hr => swH h t n le none hr 0) 0 24 - 24 * (o : Int)) := by
  have e : (fun hr => nI (swH h t n le none hr o)) = (fun i => nI ((fun hr => swH h t n le none hr 0) i - o)) := by
    funext i
    rw [(swH_b hs hT hM none i o ho).1]
  rw [e, show (0 : Int32) = zI 0 from rfl, slF_z (fun i => Nat.le_trans ho (Nat.le_trans (by decide) (swH_b hs hT hM none i 0 (by decide)).2.1))]
  congr 1
  omega
/-- a day's slowness -/
abbrev cD (h : Nat → Nat) (t : Nat → Nat → Nat) (n : Nat) (le : Nat → Nat → Nat) : Nat → Int := fun d => sgI (fun hr => swH h t n le none hr 0) 0 24 - 24 * ((h 1 - d / h 2 : Nat) : Int)
theorem cD_b (hs : MHs h) (hT : MHt h t) (hM : MLs h t n le) (d : Nat) : -1200 ≤ cD h t n le d ∧ cD h t n le d ≤ 3360 := by
  have h1 := sgI_b (A := fun hr => swH h t n le none hr 0) (fun i => (swH_b hs hT hM none i 0 (by decide)).2) 24 0
  have h2 := oil30 hs d
  unfold cD
  omega
theorem birR {S : Nat → Int32} {V : Nat → Nat → Int32} (hs : MHs h) (hT : MHt h t) (hc : CHs h (S 1) (S 2) (S 3) (S 4) (S 5) (S 6) (S 7)) (hRt : RHt h t (V 1) (V 2)) (hM : MLs h t n le) (hR : RLs n le (S 42) (V 13)) {day : Nat} : ∀ (j d m : Nat) (v : Int), d + j = 10000 → j < m → -1440 < v → v < 1440 → fX12_birthday_0_L20 (fun x24 x25 S26 => some (((x25 - x24) + (1 : Int32)), S26)) (fun x28 x29 S30 => some (((x28 - x29) - (1 : Int32)), S30)) V m (nI day) (zI v) (nI d) S = some (zI (bdS (cD h t n le) day d j v), S) := by
  intro j
  induction j with
  | zero =>
    intro d m v c1 c2 c3 c4
    obtain ⟨m, rfl⟩ : ∃ z, m = z + 1 := ⟨m - 1, by omega⟩
    rw [fX12_birthday_0_L20, if_pos (show 10000 ≤ nI d from nI_le (a := 10000) (b := d) (by omega) (by omega))]
    rfl
  | succ j ih =>
    intro d m v c1 c2 c3 c4
    obtain ⟨m, rfl⟩ : ∃ z, m = z + 1 := ⟨m - 1, by omega⟩
    obtain ⟨b1, b2⟩ := cD_b hs hT hM d
    rw [fX12_birthday_0_L20, if_neg (show ¬ 10000 ≤ nI d from nI_ge (a := d) (b := 10000) (by omega) (by omega)), slowDayR hs hT hc hRt hM hR (by omega), bd1_s, slowZ hs hT hM (oil30 hs d), show zI (sgI (fun hr => swH h t n le none hr 0) 0 24 - 24 * ((h 1 - d / h 2 : Nat) : Int)) = zI (cD h t n le d) from rfl, zI_add]
    simp only [lt_e, nI_1]
    rw [show (-1440 : Int32) = zI (-1440) from by decide, show (1440 : Int32) = zI 1440 from rfl, bdS]
    generalize cD h t n le d = cc at b1 b2
    by_cases p1 : v + cc < 1440
    · rw [if_pos ((zI_lt (by omega) (by omega) (by omega) (by omega)).mpr p1), if_pos p1]
      by_cases p2 : -1440 < v + cc
      · rw [if_pos ((zI_lt (by omega) (by omega) (by omega) (by omega)).mpr p2), if_pos p2]
        exact ih (d + 1) m _ (by omega) (by omega) p2 p1
      · rw [if_neg (fun z => p2 ((zI_lt (by omega) (by omega) (by omega) (by omega)).mp z)), if_neg p2, nI_z, nI_z, show (1 : Int32) = zI 1 from rfl, zI_sub, zI_sub]
    · rw [if_neg (fun z => p1 ((zI_lt (by omega) (by omega) (by omega) (by omega)).mp z)), if_neg p1, nI_z, nI_z, show (1 : Int32) = zI 1 from rfl, zI_sub, zI_add]
theorem lessOil {S : Nat → Int32} (hs : MHs h) (e1 : S 301 = nI (h 1)) (e2 : S 302 = nI (h 2)) {s : Nat} (hd : s < 10000) : ∃ e : Nat, fX2_dayOfLessOil_3 S (nI s) = some (nI e) ∧ s < e ∧ e ≤ 10000 ∧ (∀ i, s ≤ i → i < e → h 1 - i / h 2 = h 1 - s / h 2) ∧ (e < 10000 → h 1 - e / h 2 + 1 ≤ h 1 - s / h 2) := by
  have h1 := hs.2.1
  have h2 := hs.2.2.1
  have hi := oil30 hs s
  unfold fX2_dayOfLessOil_3
  rw [oilC hs e1 e2 hd, bd1_s, e2]
  by_cases z : h 1 - s / h 2 = 0
  · rw [if_pos (by rw [z]; exact nI_0)]
    refine ⟨10000, rfl, hd, Nat.le_refl _, fun i i1 i2 => ?_, fun hh => by omega⟩
    have := Nat.div_le_div_right (c := h 2) i1
    generalize i / h 2 = A at this ⊢
    generalize s / h 2 = B at this z ⊢
    omega
  · have hp : 0 < h 2 := by omega
    have hm := Nat.div_add_mod s (h 2)
    have hl := Nat.mod_lt s hp
    have hmul : (s / h 2 + 1) * h 2 = h 2 * (s / h 2) + h 2 := by rw [Nat.add_mul, Nat.one_mul, Nat.mul_comm]
    have hbig : h 2 * (s / h 2) + h 2 ≤ 2970 := by
      have q1 : s / h 2 + 1 ≤ 30 := by omega
      have q2 : h 2 * (s / h 2 + 1) ≤ 99 * 30 := Nat.mul_le_mul h2.2 q1
      rw [Nat.mul_add, Nat.mul_one] at q2
      exact q2
    refine ⟨(s / h 2 + 1) * h 2, ?_, by omega, by omega, fun i i1 i2 => ?_, fun _ => ?_⟩
    · rw [if_neg (nI_ne0 (by omega) (by omega)), if_pos ((nI_gt0 (by omega)).mpr hp)]
      simp only [lt_e]
      rw [gd_t (show nz (nI (h 2)) = true from decide_eq_true (nI_ne0 hp (by omega))), nI_divI (by omega) (by omega), nI_1, nI_mul]
    · have : i / h 2 = s / h 2 := by
        apply Nat.le_antisymm
        · have := (Nat.div_lt_iff_lt_mul hp).mpr i2
          omega
        · exact Nat.div_le_div_right i1
      rw [this]
    · rw [Nat.mul_div_cancel _ hp]
      omega
theorem birC {S : Nat → Int32} {V : Nat → Nat → Int32} {sz : Int32} (hs : MHs h) (hT : MHt h t) (e0 : S 300 = nI (h 0)) (e1 : S 301 = nI (h 1)) (e2 : S 302 = nI (h 2)) (hCt : CHt h t (V 4) (V 5) (V 6) (V 7) (V 8)) (hM : MLs h t n le) (hC : CLs n le sz (V 31) (V 32) (V 33) (V 34) (V 35)) {day : Nat} (hday : day < 10000) : ∀ (j s r m : Nat) (v : Int), s ≤ 10000 → (s < 10000 → h 1 - s / h 2 < j ∧ r + (h 1 - s / h 2) ≤ 30) → j < m → -1440 < v → v < 1440 → r ≤ 31 → fX6_daysToBirthday_48_L7 (fun x34 x35 x36 x37 => lt (((x35 - x34) + x37)) (fun x38 => (if 0 ≤ x36 then some x38 else some ((-x38))))) S V m (nI day) (zI v) (nI s) (nI r) = some (zI (bdS (cD h t n le) day s (10000 - s) v)) := by
  intro j
  induction j with
  | zero =>
    intro s r m v c1 c2 c3 c4 c5 c6
    obtain ⟨m, rfl⟩ : ∃ z, m = z + 1 := ⟨m - 1, by omega⟩
    have hs10 : s = 10000 := by
      rcases Nat.lt_or_ge s 10000 with hh | hh
      · exact absurd (c2 hh).1 (Nat.not_lt_zero _)
      · omega
    subst hs10
    rw [fX6_daysToBirthday_48_L7]
    split
    · rfl
    · rw [if_pos (show 9999 < nI 10000 from nI_lt (a := 9999) (b := 10000) (by decide) (by decide))]
      rfl
  | succ j ih =>
    intro s r m v c1 c2 c3 c4 c5 c6
    obtain ⟨m, rfl⟩ : ∃ z, m = z + 1 := ⟨m - 1, by omega⟩
    rcases Nat.lt_or_ge s 10000 with hh | hh
    · obtain ⟨d1, d2⟩ := c2 hh
      obtain ⟨e, q0, q1, q2, q3, q4⟩ := lessOil (S := S) hs e1 e2 hh
      obtain ⟨b1, b2⟩ := cD_b hs hT hM s
      have hcc : ∀ i, s ≤ i → i < s + (e - s) → cD h t n le i = cD h t n le s := fun i i1 i2 => by
        show _ - 24 * ((h 1 - i / h 2 : Nat) : Int) = _ - 24 * ((h 1 - s / h 2 : Nat) : Int)
        rw [q3 i i1 (by omega)]
      rw [fX6_daysToBirthday_48_L7, if_neg (show ¬ 30 < nI r from nI_nlt (a := 30) (b := r) (by omega) (by omega)), if_neg (show ¬ 9999 < nI s from nI_nlt (a := 9999) (b := s) (by omega) (by omega)), oilC hs e1 e2 hh, bd1_s, slowDayC hs hT e0 hCt hM hC (oil30 hs s), bd1_s, q0, bd1_s, slowZ hs hT hM (oil30 hs s), show zI (sgI (fun hr => swH h t n le none hr 0) 0 24 - 24 * ((h 1 - s / h 2 : Nat) : Int)) = zI (cD h t n le s) from rfl]
      simp only [lt_e, bk_e]
      have step : ∀ v2 : Int, v2 = v + cD h t n le s * ((e - s : Nat) : Int) → -1440 < v2 → v2 < 1440 → bdS (cD h t n le) day s (10000 - s) v = bdS (cD h t n le) day (s + (e - s)) (10000 - s - (e - s)) v2 → fX6_daysToBirthday_48_L7 (fun x34 x35 x36 x37 => lt (((x35 - x34) + x37)) (fun x38 => (if 0 ≤ x36 then some x38 else some ((-x38))))) S V m (nI day) (zI v + zI (cD h t n le s) * (nI e - nI s)) (nI e) (nI r + 1) = some (zI (bdS (cD h t n le) day s (10000 - s) v)) := by
        intro v2 hv2 w1 w2 w3
        rw [nI_sub (by omega), nI_z (e - s), zI_mul, zI_add, ← hv2, nI_1, ih e (r + 1) m v2 q2 (fun he => by have := q4 he; omega) (by omega) w1 w2 (by omega), w3, show s + (e - s) = e by omega, show 10000 - s - (e - s) = 10000 - e by omega]
      simp only [lt_e] at step
      by_cases p : 0 ≤ cD h t n le s
      · have hz : 0 ≤ zI (cD h t n le s) := (zI_le (a := 0) (by decide) (by decide) (by omega) (by omega)).mpr p
        rw [if_pos hz]
        rcases Int.lt_or_eq_of_le p with p1 | p1
        · obtain ⟨N, n0, n1, n2, n3⟩ := ceilN (C := cD h t n le s) (w := 1440 - v) p1 (by omega)
          rw [dtd_pos p1 (by omega) c5 c4, bd1_s, n0]
          obtain ⟨g1, g2⟩ := bd_pos (c := cD h t n le) (day := day) (v := v) (s := s) (k := 10000 - s) (l := e - s) p1 c4 (by omega) hcc n1 n2 n3
          have hNb : (N : Int) ≤ 10000 := by
            have := Int.mul_le_mul_of_nonneg_right (show (1 : Int) ≤ cD h t n le s by omega) (show (0 : Int) ≤ (N : Int) - 1 by omega)
            omega
          by_cases pn : N ≤ e - s
          · rw [if_neg (by rw [nI_sub (by omega), nI_z (e - s)]; exact fun z => by have := (zI_lt (by omega) (by omega) (by omega) (by omega)).mp z; omega), if_pos hz, g1 pn, nI_z s, nI_z day, zI_sub, zI_add]
          · obtain ⟨g3, g4, g5⟩ := g2 (by omega)
            rw [if_pos (by rw [nI_sub (by omega), nI_z (e - s)]; exact (zI_lt (by omega) (by omega) (by omega) (by omega)).mpr (by omega))]
            exact step _ rfl g4 g5 g3
        · have hdz : fX6_daysToADay (zI v) (zI (cD h t n le s)) = some 10001 := by
            rw [← p1]
            unfold fX6_daysToADay
            rw [if_neg (by decide)]
          rw [hdz, bd1_s, if_pos (show nI e - nI s < 10001 by rw [nI_sub (by omega)]; exact nI_lt (a := e - s) (b := 10001) (by omega) (by decide))]
          have rr := bd_run (c := cD h t n le) (day := day) (C := cD h t n le s) (e - s) (10000 - s) s v (by omega) hcc (fun i _ _ => by rw [← p1, Int.zero_mul]; omega)
          exact step _ rfl (by rw [← p1, Int.zero_mul]; omega) (by rw [← p1, Int.zero_mul]; omega) rr
      · have hz : ¬ 0 ≤ zI (cD h t n le s) := fun z => p ((zI_le (a := 0) (by decide) (by decide) (by omega) (by omega)).mp z)
        rw [if_neg hz, zI_neg, zI_neg]
        have p1 : 0 < -cD h t n le s := by omega
        obtain ⟨N, n0, n1, n2, n3⟩ := ceilN (C := -cD h t n le s) (w := 1440 - -v) p1 (by omega)
        rw [dtd_pos p1 (by omega) (by omega) (by omega), bd1_s, n0]
        obtain ⟨g1, g2⟩ := bd_neg (c := cD h t n le) (day := day) (v := v) (s := s) (k := 10000 - s) (l := e - s) (by omega) c5 (by omega) hcc n1 (by omega) (by omega)
        have hNb : (N : Int) ≤ 10000 := by
          have := Int.mul_le_mul_of_nonneg_right (show (1 : Int) ≤ -cD h t n le s by omega) (show (0 : Int) ≤ (N : Int) - 1 by omega)
          omega
        by_cases pn : N ≤ e - s
        · rw [if_neg (by rw [nI_sub (by omega), nI_z (e - s)]; exact fun z => by have := (zI_lt (by omega) (by omega) (by omega) (by omega)).mp z; omega), if_neg hz, g1 pn, nI_z s, nI_z day, zI_sub, zI_add, zI_neg]
        · obtain ⟨g3, g4, g5⟩ := g2 (by omega)
          rw [if_pos (by rw [nI_sub (by omega), nI_z (e - s)]; exact (zI_lt (by omega) (by omega) (by omega) (by omega)).mpr (by omega))]
          exact step _ rfl g4 g5 g3
    · have hs10 : s = 10000 := by omega
      subst hs10
      rw [fX6_daysToBirthday_48_L7]
      split
      · rfl
      · rw [if_pos (show 9999 < nI 10000 from nI_lt (a := 9999) (b := 10000) (by decide) (by decide))]
        rfl
end BI
theorem sm_birthday : St_birthday Rel := fun S V S' V' L' a1 hrel => by
  obtain ⟨-, -, -, ⟨h, t, ru, ⟨hs, hT, -, ⟨c0, c1, c2, c3, c4, -⟩, hCt, -, hc', hRt, -⟩, ⟨n, le, hM, -, hC, hR⟩, -⟩, -⟩ := id hrel
  rcases rng (a := a1) (N := 9999) (by decide) with x1 | ⟨d, hd, rfl⟩
  · refine Or.inr ⟨0, va_up (va_up S' 0 0) 0 1, ?_, ?_, rfl, R_thr (R_thr hrel)⟩
    · unfold fX11_birthday_0
      rw [nDay_f x1, bdx_r]
    · unfold fX12_birthday_0
      simp only [lt_e]
      rw [isDay_f rfl (by decide) x1, bd2_s, if_pos rfl]
  have hi := oil30 hs d
  have eC := birC (S := S) (V := V) hs hT c0 c1 c2 hCt hM hC (day := d) (by omega) 31 d 0 FU 0 (by omega) (fun _ => by omega) (by unfold FU; omega) (by decide) (by decide) (by decide)
  have eR := birR (S := va_up S' 0 0) (V := V') hs hT hc' hRt hM hR (day := d) (10000 - d) d FU 0 (by omega) (by unfold FU; omega) (by decide) (by decide)
  rw [show zI 0 = 0 from rfl] at eC eR
  rw [nI_0] at eC
  refine Or.inl ⟨zI (bdS (cD h t n le) d d (10000 - d) 0), va_up S' 0 0, ?_, ?_, rfl, R_thr hrel⟩
  · unfold fX11_birthday_0 fX6_daysToBirthday_48
    simp only [bk_e]
    rw [nDay_t (by omega), bdx_l, eC, bd1_s]
  · unfold fX12_birthday_0
    simp only [lt_e, bk_e]
    rw [isDay_t rfl (by omega), bd2_s, if_neg (by decide), eR]
