/-! ===== slowBy, wind ===== -/
section S3
variable {h : Nat → Nat} {t : Nat → Nat → Nat} {n : Nat} {le : Nat → Nat → Nat}
theorem slowByL {S : Nat → Int32} {V : Nat → Nat → Int32} (hs : MHs h) (hT : MHt h t) (hc : CHs h (S 1) (S 2) (S 3) (S 4) (S 5) (S 6) (S 7)) (hRt : RHt h t (V 1) (V 2)) (hM : MLs h t n le) (hR : RLs n le (S 42) (V 13)) {k d : Nat} (hk : k < h 4) (hd : d < 10000) {E : Int32 → Int32 → (Nat → Int32) → Option (Int32 × (Nat → Int32))} : ∀ (j i m : Nat) (acc : Int32), i + j = 24 → j < m → fX12_slowBy_0_L29 E V m (nI k) (nI d) acc (nI i) S = E (nI d) (slF (fun hr => nI (swH h t n le (some k) hr (h 1 - d / h 2))) i j acc) S := by
  have h46 := hs.2.2.2.2.1
  intro j
  induction j with
  | zero =>
    intro i m acc e1 e2
    obtain ⟨m, rfl⟩ : ∃ m', m = m' + 1 := ⟨m - 1, by omega⟩
    unfold fX12_slowBy_0_L29
    rw [if_pos (show 24 ≤ nI i from nI_le (a := 24) (b := i) (by omega) (by omega))]
    rfl
  | succ j ih =>
    intro i m acc e1 e2
    obtain ⟨m, rfl⟩ : ∃ m', m = m' + 1 := ⟨m - 1, by omega⟩
    unfold fX12_slowBy_0_L29
    rw [if_neg (show ¬ 24 ≤ nI i from nI_ge (a := i) (b := 24) (by omega) (by omega)), hR.1, allIn13 h46 hM hR (by omega), bd1_s, set_out (by omega), swBy hs hT hc hRt (pres_ok (who_ok hM 0 i)) (pres_ok (who_ok hM 1 i)) (pres_ok (who_ok hM 2 i)) (pres_apt (who_apt hM (by decide) i)) (pres_apt (who_apt hM (by decide) i)) (pres_apt (who_apt hM (by decide) i)) hd]
    simp only [lt_e, bk_e, bd0_s, bd1_s, bd2_s, bd3_s, bd4_s, bdx_l, bdx_r, gd_tt, nI_1]
    exact ih (i + 1) m _ (by omega) (by omega)
theorem slowDayR {S : Nat → Int32} {V : Nat → Nat → Int32} (hs : MHs h) (hT : MHt h t) (hc : CHs h (S 1) (S 2) (S 3) (S 4) (S 5) (S 6) (S 7)) (hRt : RHt h t (V 1) (V 2)) (hM : MLs h t n le) (hR : RLs n le (S 42) (V 13)) {d : Nat} (hd : d < 10000) : fX12_slowDay_0 S V (nI d) = some (slF (fun hr => nI (swH h t n le none hr (h 1 - d / h 2))) 0 24 0) := by
  unfold fX12_slowDay_0
  rw [hR.1, show fX12_slowOf_0_13 S V (nI n) 0 23 (nI d) = _ from slowOf13 (f := 0) (g := 23) hs hT hc hRt hM hR (by decide) (by decide) hd, bd1_s]
theorem slowDayC {S : Nat → Int32} {V : Nat → Nat → Int32} {sz : Int32} {oil : Nat} (hs : MHs h) (hT : MHt h t) (e0 : S 300 = nI (h 0)) (hCt : CHt h t (V 4) (V 5) (V 6) (V 7) (V 8)) (hM : MLs h t n le) (hC : CLs n le sz (V 31) (V 32) (V 33) (V 34) (V 35)) (ho : oil ≤ 30) : fX6_slownessOfDay_48 S V (nI oil) = some (slF (fun hr => nI (swH h t n le none hr oil)) 0 24 0) := by
  unfold fX6_slownessOfDay_48
  rw [show fX6_slowness_48 S V 0 23 (nI oil) (-1) = _ from slow48 (f := 0) (g := 23) hs hT e0 hCt hM hC ho (no_ok (h 4)) (by decide) (by decide), bd1_s]
end S3
theorem oil30 {h : Nat → Nat} (hs : MHs h) (d : Nat) : h 1 - d / h 2 ≤ 30 := Nat.le_trans (Nat.sub_le _ _) hs.2.1
theorem sm_slowBy : St_slowBy Rel := fun S V S' V' L' a1 a2 hrel => by
  obtain ⟨-, -, -, ⟨h, t, ru, ⟨hs, hT, -, ⟨c0, c1, c2, -, c4, -⟩, hCt, -, hc', hRt, -⟩, ⟨n, le, hM, -, hC, hR⟩, -⟩, -⟩ := id hrel
  have h46 := hs.2.2.2.2.1
  rcases ten (S := S) (S' := va_up S' 0 0) (a := a1) h46 c4 hc'.2.2.2.2.1 rfl with ⟨e1, e2⟩ | ⟨k, hk, rfl, e1, e2⟩
  · refine Or.inr (Or.inl ⟨0, va_up (va_up S' 0 0) 0 1, ?_, ?_, rfl, R_thr (R_thr hrel)⟩)
    · unfold fX11_slowBy_0
      rw [e1, bdx_r]
    · unfold fX12_slowBy_0
      simp only [lt_e]
      rw [e2, bd2_s, if_pos rfl]
  rcases rng (a := a2) (N := 9999) (by decide) with x3 | ⟨d, hd, rfl⟩
  · refine Or.inr (Or.inr ⟨0, va_up (va_up S' 0 0) 0 2, ?_, ?_, rfl, R_thr (R_thr hrel)⟩)
    · unfold fX11_slowBy_0
      rw [e1, bdx_l, nDay_f x3, bdx_r]
    · unfold fX12_slowBy_0
      simp only [lt_e]
      rw [e2, bd2_s, if_neg (by decide), isDay_f rfl (by decide) x3, bd2_s, if_pos rfl]
  refine Or.inl ⟨slF (fun hr => nI (swH h t n le none hr (h 1 - d / h 2))) 0 24 0 - slF (fun hr => nI (swH h t n le (some k) hr (h 1 - d / h 2))) 0 24 0, va_up S' 0 0, ?_, ?_, rfl, R_thr hrel⟩
  · unfold fX11_slowBy_0
    rw [e1, bdx_l, nDay_t (by omega), bdx_l, oilC hs c1 c2 (by omega), bd1_s, slowDayC hs hT c0 hCt hM hC (oil30 hs d), bd1_s, show fX6_slowness_48 S V 0 23 (nI (h 1 - d / h 2)) (nI k) = _ from slow48 (f := 0) (g := 23) hs hT c0 hCt hM hC (oil30 hs d) (ab_ok hk) (by decide) (by decide), bd1_s]
  · unfold fX12_slowBy_0
    simp only [lt_e, bk_e]
    rw [e2, bd2_s, if_neg (by decide), isDay_t rfl (by omega), bd2_s, if_neg (by decide)]
    have LL := fun E => slowByL (S := va_up S' 0 0) (V := V') (E := E) hs hT hc' hRt hM hR hk (d := d) (by omega) 24 0 FU 0 (by omega) (by unfold FU; omega)
    rw [nI_0] at LL
    rw [LL, slowDayR (S := va_up S' 0 0) hs hT hc' hRt hM hR (by omega), bd1_s]
/-! wind -/
theorem sh16 (x : Int32) : ((x.toUInt32 >>> ((16 : Int32).toUInt32 &&& Int32.toUInt32 31)).toInt32 &&& 32767) = ((x >>> ((16 : Int32) &&& 31)) &&& 32767) := by
  have hm : ∀ i, i < 32 → bt 32767 i = decide (i < 15) := by decide +kernel
  apply b_ext
  intro i hi
  rw [b_and, b_and, show ((x.toUInt32 >>> ((16 : Int32).toUInt32 &&& Int32.toUInt32 31)).toInt32) = ((x.toUInt32 >>> ((nI 16).toUInt32 &&& Int32.toUInt32 31)).toInt32) from rfl, b_ushr 16 (by decide) x i, show (x >>> ((16 : Int32) &&& 31)) = (x >>> (nI 16 &&& 31)) from rfl, b_sshr 16 (by decide) x hi, hm i hi]
  by_cases c : i < 15
  · rw [if_pos (by omega)]
  · simp [c]
theorem slF_acc (f : Nat → Int32) : ∀ (k i : Nat) (acc : Int32), slF f i k acc = acc + slF f i k 0
  | 0, i, acc => by show acc = acc + 0; grind
  | k + 1, i, acc => by
    show slF f (i + 1) k (acc + (f i - 60)) = acc + slF f (i + 1) k (0 + (f i - 60))
    rw [slF_acc f k (i + 1) (acc + (f i - 60)), slF_acc f k (i + 1) (0 + (f i - 60))]
    grind
/-- k hours of wind: what is drawn, what the gusts take -/
def wnd (D G : Int32 → Int32) : Nat → Int32 → Int32 → Int32 × Int32
  | 0, x, acc => (x, acc)
  | k + 1, x, acc => wnd D G k (D x) (acc - G (D x))
theorem wnd_s (D G : Int32 → Int32) (k : Nat) (x acc : Int32) : wnd D G (k + 1) x acc = wnd D G k (D x) (acc - G (D x)) := rfl
section WN
variable {h : Nat → Nat} {t : Nat → Nat → Nat} {n : Nat} {le : Nat → Nat → Nat} {D G : Int32 → Int32}
theorem windC {S : Nat → Int32} {V : Nat → Nat → Int32} {E : Int32 → Int32 → Int32 → Int32 → Int32 → Option Int32} {a ch y : Int32} (hD : ∀ x : Int32, x * 1103515245 + 12345 = D x) (hG : ∀ x : Int32, G x = if ch ≤ ((x >>> ((16 : Int32) &&& 31)) &&& 32767) - ((x >>> ((16 : Int32) &&& 31)) &&& 32767) / 100 * 100 then 0 else 5) : ∀ (j i m : Nat) (x acc : Int32), i + j = 24 → j < m → fX6_slowInWind_48_L36 E S V m a ch x acc y (nI i) = E a ch (wnd D G j x acc).1 (wnd D G j x acc).2 y := by
  intro j
  induction j with
  | zero =>
    intro i m x acc e1 e2
    obtain ⟨m, rfl⟩ : ∃ m', m = m' + 1 := ⟨m - 1, by omega⟩
    rw [fX6_slowInWind_48_L36, if_pos (show 24 ≤ nI i from nI_le (a := 24) (b := i) (by omega) (by omega))]
    rfl
  | succ j ih =>
    intro i m x acc e1 e2
    obtain ⟨m, rfl⟩ : ∃ m', m = m' + 1 := ⟨m - 1, by omega⟩
    rw [fX6_slowInWind_48_L36, if_neg (show ¬ 24 ≤ nI i from nI_ge (a := i) (b := 24) (by omega) (by omega)), hD]
    simp only [lt_e, bk_e, sh16, nI_1]
    rw [wnd_s, hG (D x)]
    split
    · rw [ih (i + 1) m _ _ (by omega) (by omega), Int32.sub_zero]
    · rw [ih (i + 1) m _ _ (by omega) (by omega), show acc + (-5) = acc - 5 by grind]
theorem windR {S : Nat → Int32} {V : Nat → Nat → Int32} (hs : MHs h) (hT : MHt h t) (hc : CHs h (S 1) (S 2) (S 3) (S 4) (S 5) (S 6) (S 7)) (hRt : RHt h t (V 1) (V 2)) (hM : MLs h t n le) (hR : RLs n le (S 42) (V 13)) {d : Nat} (hd : d < 10000) {E : Int32 → Int32 → Int32 → Int32 → Int32 → (Nat → Int32) → Option (Int32 × (Nat → Int32))} {a ch : Int32} (hD : ∀ x : Int32, x * 1103515245 + 12345 = D x) (hG : ∀ x : Int32, G x = if ch ≤ ((x >>> ((16 : Int32) &&& 31)) &&& 32767) - ((x >>> ((16 : Int32) &&& 31)) &&& 32767) / 100 * 100 then 0 else 5) {F : Nat → Int32} (hF : ∀ i, i < 24 → fX12_swingOf_0_13 S V (nI n) (nI i) (nI d) = some (F i)) : ∀ (j i m : Nat) (x acc : Int32), i + j = 24 → j < m → fX12_wind_0_L58 E V m a ch x acc (nI d) (nI i) S = E a ch (wnd D G j x (acc + slF F i j 0)).1 (wnd D G j x (acc + slF F i j 0)).2 (nI d) S := by
  intro j
  induction j with
  | zero =>
    intro i m x acc e1 e2
    obtain ⟨m, rfl⟩ : ∃ m', m = m' + 1 := ⟨m - 1, by omega⟩
    rw [fX12_wind_0_L58, if_pos (show 24 ≤ nI i from nI_le (a := 24) (b := i) (by omega) (by omega))]
    show E a ch x acc (nI d) S = E a ch x (acc + 0) (nI d) S
    rw [Int32.add_zero]
  | succ j ih =>
    intro i m x acc e1 e2
    obtain ⟨m, rfl⟩ : ∃ m', m = m' + 1 := ⟨m - 1, by omega⟩
    rw [fX12_wind_0_L58, if_neg (show ¬ 24 ≤ nI i from nI_ge (a := i) (b := 24) (by omega) (by omega)), hR.1, hF i (by omega), hD]
    simp only [lt_e, bk_e, bd1_s, nI_1]
    have e4 : slF F i (j + 1) 0 = (F i - 60) + slF F (i + 1) j 0 := by
      show slF F (i + 1) j (0 + (F i - 60)) = _
      rw [slF_acc]
      grind
    rw [e4, wnd_s, hG (D x)]
    generalize F i = w
    generalize D x = y2
    have e5 : ∀ g s : Int32, acc + (w - 60 + s) - g = (acc + ((w - 60) - g)) + s := fun g s => by grind
    rw [e5]
    split
    · rw [ih (i + 1) m _ _ (by omega) (by omega)]
    · rw [ih (i + 1) m _ _ (by omega) (by omega)]
end WN
