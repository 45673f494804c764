theorem m1T {x : Nat} (h : x < 1000) : (nI x - 1).toInt = (x : Int) - 1 := nI_subT (a := x) (b := 1) (by omega) (by decide)
theorem m1_le {a x : Nat} (ha : a < 1000) (hx : x < 1000) : (nI a ≤ nI x - 1) ↔ a < x := by
  rw [i_le, m1T hx, nI_toInt (by omega)]
  omega
theorem m1_lt {a x : Nat} (ha : a < 1000) (hx : x < 1000) : (nI x - 1 < nI a) ↔ x ≤ a := by
  rw [i_lt, m1T hx, nI_toInt (by omega)]
  omega
theorem m1_m1 {x : Nat} (hx : x < 1000) : (nI x - 1 = -1) ↔ x = 0 := by
  rw [← Int32.toInt_inj, m1T hx, show (-1 : Int32).toInt = -1 from by decide]
  omega
theorem m1_eq {x y : Nat} (hx : x < 1000) (hy : y < 1000) : (nI x - 1 = nI y - 1) ↔ x = y := by
  rw [← Int32.toInt_inj, m1T hx, m1T hy]
  omega
section CU2
variable {h : Nat → Nat} {t : Nat → Nat → Nat} {sw : Int32}
theorem brL {V : Nat → Nat → Int32} (hs : MHs h) (hT : MHt h t) (hCt : CHt h t (V 4) (V 5) (V 6) (V 7) (V 8)) {a x : Nat} (ha : a < h 4) (hx : x < 3) : (letsT t a x → fX2_breathLets_3 V (nI a) (nI x) = some 1) ∧ (¬ letsT t a x → fX2_breathLets_3 V (nI a) (nI x) = some 0) := by
  have h46 := hs.2.2.2.2.1
  have b2 := (hT a ha).1.2.1
  obtain ⟨-, c1, -⟩ := hCt a ha
  unfold fX2_breathLets_3 letsT
  rw [gd_n a 6 (by omega) (by decide), gd_n a 6 (by omega) (by decide), nI_cl a (by omega), c1]
  rw [show (2 : Int32) = nI 2 from rfl]
  by_cases p : x = 2
  · rw [if_pos (by rw [p])]
    exact ⟨fun _ => rfl, fun q => absurd (Or.inl p) q⟩
  · rw [if_neg (fun q => p ((nI_eq (by omega) (by decide)).mp q))]
    by_cases p2 : t a 1 = 2
    · rw [if_pos (by rw [p2])]
      exact ⟨fun _ => rfl, fun q => absurd (Or.inr (Or.inl p2)) q⟩
    · rw [if_neg (fun q => p2 ((nI_eq (by omega) (by decide)).mp q))]
      by_cases p3 : t a 1 = x
      · rw [if_pos (by rw [p3])]
        exact ⟨fun _ => rfl, fun q => absurd (Or.inr (Or.inr p3)) q⟩
      · rw [if_neg (fun q => p3 ((nI_eq (by omega) (by omega)).mp q))]
        exact ⟨fun q => by rcases q with q | q | q <;> contradiction, fun _ => rfl⟩
theorem ltR {V : Nat → Nat → Int32} (hs : MHs h) (hT : MHt h t) (hRt : RHt h t (V 1) (V 2)) {a x : Nat} (ha : a < h 4) (hx : x < 3) : (letsT t a x → fX12_lets_0 V (nI a) (nI x) = some 1) ∧ (¬ letsT t a x → fX12_lets_0 V (nI a) (nI x) = some 0) := by
  have h46 := hs.2.2.2.2.1
  have b2 := (hT a ha).1.2.1
  obtain ⟨-, c1, -⟩ := hRt a ha
  unfold fX12_lets_0 letsT
  simp only [lt_e]
  rw [nI_41, gd_n (4 * a + 1) 24 (by omega) (by decide), gd_n (4 * a + 1) 24 (by omega) (by decide), nI_cl (4 * a + 1) (by omega), c1]
  rw [show (2 : Int32) = nI 2 from rfl]
  by_cases p : x = 2
  · rw [if_pos (by rw [p])]
    exact ⟨fun _ => rfl, fun q => absurd (Or.inl p) q⟩
  · rw [if_neg (fun q => p ((nI_eq (by omega) (by decide)).mp q))]
    by_cases p2 : t a 1 = 2
    · rw [if_pos (by rw [p2])]
      exact ⟨fun _ => rfl, fun q => absurd (Or.inr (Or.inl p2)) q⟩
    · rw [if_neg (fun q => p2 ((nI_eq (by omega) (by decide)).mp q))]
      by_cases p3 : t a 1 = x
      · rw [if_pos (by rw [p3])]
        exact ⟨fun _ => rfl, fun q => absurd (Or.inr (Or.inr p3)) q⟩
      · rw [if_neg (fun q => p3 ((nI_eq (by omega) (by omega)).mp q))]
        exact ⟨fun q => by rcases q with q | q | q <;> contradiction, fun _ => rfl⟩
theorem upC_le (x y z : Nat) (s : Cst) : (upC h t sw x y z s).1 ≤ s.1 + 1 := by
  unfold upC
  split <;> simp
theorem gC_le (x y z : Nat) (s : Cst) : (gC h t sw x y z s).1 ≤ s.1 + 1 := by
  unfold gC
  split
  · exact upC_le x y z s
  · omega
theorem it_le {f : Nat → Cst → Cst} {B : Nat} (hf : ∀ i s, (f i s).1 ≤ s.1 + B) : ∀ (n i : Nat) (s : Cst), (itF f i n s).1 ≤ s.1 + n * B
  | 0, _, s => by show s.1 ≤ s.1 + 0 * B; omega
  | n + 1, i, s => by
    have h1 := it_le hf n (i + 1) (f i s)
    have h2 := hf i s
    show (itF f (i + 1) n (f i s)).1 ≤ _
    rw [Nat.add_mul, Nat.one_mul]
    omega
section CL
theorem half58L {S : Nat → Int32} {V : Nat → Nat → Int32} (hs : MHs h) (hT : MHt h t) (e0 : S 300 = nI (h 0)) (e1 : S 301 = nI (h 1)) (e2 : S 302 = nI (h 2)) (e4 : S 304 = nI (h 4)) (hCt : CHt h t (V 4) (V 5) (V 6) (V 7) (V 8)) {x y : Nat} (hx : 1 ≤ x ∧ x ≤ h 4 ∧ letsT t (x - 1) 0) (hy : 1 ≤ y ∧ y ≤ h 4 ∧ letsT t (y - 1) 1) (hxy : x ≠ y) : ∀ (j i m : Nat) (s : Cst), i + j = h 4 → j < m → s.1 + j < 1000 → fX1_gatherWithHalves_58_L20 V m (nI x - 1) (nI y - 1) (nI i) (cS S sw s) = some (cS S sw (itF (gC h t sw x y) (i + 1) j s)) := by
  have h46 := hs.2.2.2.2.1
  intro j
  induction j with
  | zero =>
    intro i m s c1 c2 c3
    obtain ⟨m, rfl⟩ : ∃ z, m = z + 1 := ⟨m - 1, by omega⟩
    rw [fX1_gatherWithHalves_58_L20, show cS S sw s 304 = nI (h 4) from e4, if_pos (nI_le (by omega) (by omega))]
    rfl
  | succ j ih =>
    intro i m s c1 c2 c3
    obtain ⟨m, rfl⟩ : ∃ z, m = z + 1 := ⟨m - 1, by omega⟩
    have hi : nI i = nI (i + 1) - 1 := by rw [nI_s1 (by omega), Nat.add_sub_cancel]
    rw [fX1_gatherWithHalves_58_L20, show cS S sw s 304 = nI (h 4) from e4, if_neg (nI_ge (a := i) (b := h 4) (by omega) (by omega))]
    simp only [lt_e, bk_e, nI_1]
    show _ = some (cS S sw (itF (gC h t sw x y) (i + 1 + 1) j (gC h t sw x y (i + 1) s)))
    by_cases p : i + 1 = x
    · rw [if_pos (by rw [hi, p]), show gC h t sw x y (i + 1) s = s from if_neg (fun q => q.2.2.2.2.2.2.2.elim (by omega) (fun q => q.1 p))]
      exact ih (i + 1) m s (by omega) (by omega) (by omega)
    · rw [if_neg (fun q => p ((m1_eq (by omega) (by omega)).mp (hi ▸ q)))]
      by_cases p2 : i + 1 = y
      · rw [if_pos (by rw [hi, p2]), show gC h t sw x y (i + 1) s = s from if_neg (fun q => q.2.2.2.2.2.2.2.elim (by omega) (fun q => q.2 p2))]
        exact ih (i + 1) m s (by omega) (by omega) (by omega)
      · rw [if_neg (fun q => p2 ((m1_eq (by omega) (by omega)).mp (hi ▸ q)))]
        rw [show fX1_lookAt_58 (cS S sw s) V (nI x - 1) (nI y - 1) (nI i) = some (cS S sw (upC h t sw x y (i + 1) s)) by rw [hi]; exact look58 hs hT e0 e1 e2 hCt hx.2.1 hy.2.1 (by omega) s (by omega), bd1_s, show gC h t sw x y (i + 1) s = upC h t sw x y (i + 1) s from if_pos ⟨hx.2.1, hy.2.1, by omega, Or.inr hx.2.2, Or.inr hy.2.2, Or.inr ⟨by omega, by omega⟩, Or.inr hxy, Or.inr ⟨p, p2⟩⟩]
        exact ih (i + 1) m _ (by omega) (by omega) (by have := upC_le (h := h) (t := t) (sw := sw) x y (i + 1) s; omega)
theorem half58 {S : Nat → Int32} {V : Nat → Nat → Int32} (hs : MHs h) (hT : MHt h t) (e0 : S 300 = nI (h 0)) (e1 : S 301 = nI (h 1)) (e2 : S 302 = nI (h 2)) (e4 : S 304 = nI (h 4)) (hCt : CHt h t (V 4) (V 5) (V 6) (V 7) (V 8)) {x y : Nat} (hx : x ≤ h 4 ∧ (x = 0 ∨ letsT t (x - 1) 0)) (hy : y ≤ h 4 ∧ (y = 0 ∨ letsT t (y - 1) 1)) (hxy : x = 0 ∨ x ≠ y) (s : Cst) (hk : s.1 < 900) : fX1_gatherWithHalves_58 (cS S sw s) V (nI x - 1) (nI y - 1) = some (cS S sw (itF (gC h t sw x y) 0 7 s)) := by
  have h46 := hs.2.2.2.2.1
  have g0 : gC h t sw x y 0 s = upC h t sw x y 0 s := if_pos ⟨hx.1, hy.1, by omega, hx.2, hy.2, Or.inl rfl, hxy, Or.inl rfl⟩
  have le0 := upC_le (h := h) (t := t) (sw := sw) x y 0 s
  unfold fX1_gatherWithHalves_58
  rw [show fX1_lookAt_58 (cS S sw s) V (nI x - 1) (nI y - 1) (-1) = some (cS S sw (upC h t sw x y 0 s)) from look58 (z := 0) hs hT e0 e1 e2 hCt hx.1 hy.1 (by omega) s (by omega), bd1_s]
  show _ = some (cS S sw (itF (gC h t sw x y) 1 6 (gC h t sw x y 0 s)))
  rw [g0]
  by_cases p : x = 0
  · rw [if_pos ((m1_m1 (by omega)).mpr p), it_id]
    exact fun j s h1 h2 => if_neg (fun q => q.2.2.2.2.2.1.elim (by omega) (fun q => q.1 p))
  · rw [if_neg (fun q => p ((m1_m1 (by omega)).mp q))]
    by_cases p2 : y = 0
    · rw [if_pos ((m1_m1 (by omega)).mpr p2), it_id]
      exact fun j s h1 h2 => if_neg (fun q => q.2.2.2.2.2.1.elim (by omega) (fun q => q.2 p2))
    · rw [if_neg (fun q => p2 ((m1_m1 (by omega)).mp q)), show (6 : Nat) = h 4 + (6 - h 4) by omega, it_split, it_id (6 - h 4)]
      · have := half58L (sw := sw) hs hT e0 e1 e2 e4 hCt (x := x) (y := y) ⟨by omega, hx.1, hx.2.resolve_left p⟩ ⟨by omega, hy.1, hy.2.resolve_left p2⟩ (hxy.resolve_left p) (h 4) 0 FU (upC h t sw x y 0 s) (by omega) (by unfold FU; omega) (by omega)
        rw [nI_0] at this
        exact this
      · exact fun j s h1 h2 => if_neg (fun q => by have := q.2.2.1; omega)
end CL
end CU2
