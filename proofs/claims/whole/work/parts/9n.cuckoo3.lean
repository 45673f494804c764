section CU3
variable {h : Nat → Nat} {t : Nat → Nat → Nat} {sw : Int32}
/-- one left, one right: all pauses -/
noncomputable abbrev gY (h : Nat → Nat) (t : Nat → Nat → Nat) (sw : Int32) (x y : Nat) (s : Cst) : Cst := itF (gC h t sw x y) 0 7 s
noncomputable abbrev gX (h : Nat → Nat) (t : Nat → Nat → Nat) (sw : Int32) (x : Nat) (s : Cst) : Cst := itF (gY h t sw x) 0 7 s
theorem gY_le (x y : Nat) (s : Cst) : (gY h t sw x y s).1 ≤ s.1 + 7 := it_le (B := 1) (fun i s => gC_le x y i s) 7 0 s
theorem gX_le (x : Nat) (s : Cst) : (gX h t sw x s).1 ≤ s.1 + 49 := it_le (B := 7) (fun i s => gY_le x i s) 7 0 s
theorem gY_id {x y : Nat} (hn : ∀ z, ¬ caseOK h t x y z) (s : Cst) : gY h t sw x y s = s := it_id 7 0 s (fun j s _ _ => if_neg (hn j))
theorem gX_id {x : Nat} (hn : ∀ y z, ¬ caseOK h t x y z) (s : Cst) : gX h t sw x s = s := it_id 7 0 s (fun j s _ _ => gY_id (hn j) s)
section CL
theorem left58L {S : Nat → Int32} {V : Nat → Nat → Int32} (hs : MHs h) (hT : MHt h t) (e0 : S 300 = nI (h 0)) (e1 : S 301 = nI (h 1)) (e2 : S 302 = nI (h 2)) (e4 : S 304 = nI (h 4)) (hCt : CHt h t (V 4) (V 5) (V 6) (V 7) (V 8)) {x : Nat} (hx : x ≤ h 4 ∧ (x = 0 ∨ letsT t (x - 1) 0)) : ∀ (j y m : Nat) (s : Cst), y + j = h 4 + 1 → j < m → s.1 + 7 * j < 500 → fX1_gatherWithLeft_58_L2 V m (nI x - 1) (nI y - 1) (cS S sw s) = some (cS S sw (itF (gY h t sw x) y j s)) := by
  have h46 := hs.2.2.2.2.1
  intro j
  induction j with
  | zero =>
    intro y m s c1 c2 c3
    obtain ⟨m, rfl⟩ : ∃ z, m = z + 1 := ⟨m - 1, by omega⟩
    rw [fX1_gatherWithLeft_58_L2, show cS S sw s 304 = nI (h 4) from e4, if_pos ((m1_le (by omega) (by omega)).mpr (by omega))]
    rfl
  | succ j ih =>
    intro y m s c1 c2 c3
    obtain ⟨m, rfl⟩ : ∃ z, m = z + 1 := ⟨m - 1, by omega⟩
    have hinc : nI y - 1 + 1 = nI (y + 1) - 1 := by rw [← nI_1]; grind
    have hle := gY_le (h := h) (t := t) (sw := sw) x y s
    have hle2 : (itF (gC h t sw x y) 0 7 s).1 ≤ s.1 + 7 := hle
    rw [fX1_gatherWithLeft_58_L2, show cS S sw s 304 = nI (h 4) from e4, if_neg (fun q => by have := (m1_le (by omega) (by omega)).mp q; omega)]
    simp only [lt_e, bk_e]
    rw [hinc]
    show _ = some (cS S sw (itF (gY h t sw x) (y + 1) j (gY h t sw x y s)))
    by_cases p : y = 0
    · rw [if_pos ((m1_m1 (by omega)).mpr p), half58 hs hT e0 e1 e2 e4 hCt hx ⟨by omega, Or.inl p⟩ (by omega) s (by omega), bd1_s]
      exact ih (y + 1) m _ (by omega) (by omega) (by omega)
    · rw [if_neg (fun q => p ((m1_m1 (by omega)).mp q))]
      by_cases p2 : y = x
      · rw [if_pos (by rw [p2]), gY_id (fun z q => q.2.2.2.2.2.2.1.elim (by omega) (fun q => q p2.symm))]
        exact ih (y + 1) m _ (by omega) (by omega) (by omega)
      · rw [if_neg (fun q => p2 ((m1_eq (by omega) (by omega)).mp q))]
        obtain ⟨b1, b2⟩ := brL (x := 1) hs hT hCt (show y - 1 < h 4 by omega) (by decide)
        rw [show nI (y - 1) = nI y - 1 from (nI_s1 (by omega)).symm] at b1 b2
        by_cases p3 : letsT t (y - 1) 1
        · rw [show fX2_breathLets_3 V (nI y - 1) 1 = some 1 from b1 p3, bd1_s, if_neg (by decide), half58 hs hT e0 e1 e2 e4 hCt hx ⟨by omega, Or.inr p3⟩ (Or.inr (fun q => p2 q.symm)) s (by omega), bd1_s]
          exact ih (y + 1) m _ (by omega) (by omega) (by omega)
        · rw [show fX2_breathLets_3 V (nI y - 1) 1 = some 0 from b2 p3, bd1_s, if_pos rfl, gY_id (fun z q => q.2.2.2.2.1.elim p p3)]
          exact ih (y + 1) m _ (by omega) (by omega) (by omega)
theorem left58 {S : Nat → Int32} {V : Nat → Nat → Int32} (hs : MHs h) (hT : MHt h t) (e0 : S 300 = nI (h 0)) (e1 : S 301 = nI (h 1)) (e2 : S 302 = nI (h 2)) (e4 : S 304 = nI (h 4)) (hCt : CHt h t (V 4) (V 5) (V 6) (V 7) (V 8)) {x : Nat} (hx : x ≤ h 4 ∧ (x = 0 ∨ letsT t (x - 1) 0)) (s : Cst) (hk : s.1 < 400) : fX1_gatherWithLeft_58 (cS S sw s) V (nI x - 1) = some (cS S sw (gX h t sw x s)) := by
  have h46 := hs.2.2.2.2.1
  unfold fX1_gatherWithLeft_58
  have L := left58L (sw := sw) hs hT e0 e1 e2 e4 hCt hx (h 4 + 1) 0 FU s (by omega) (by unfold FU; omega) (by omega)
  rw [show nI 0 - 1 = -1 from by decide] at L
  rw [L]
  unfold gX
  rw [show (7 : Nat) = (h 4 + 1) + (6 - h 4) by omega, it_split (gY h t sw x) (h 4 + 1) (6 - h 4), it_id (6 - h 4)]
  exact fun j s h1 h2 => gY_id (fun z q => by have := q.2.1; omega) s
theorem gath58L {S : Nat → Int32} {V : Nat → Nat → Int32} (hs : MHs h) (hT : MHt h t) (e0 : S 300 = nI (h 0)) (e1 : S 301 = nI (h 1)) (e2 : S 302 = nI (h 2)) (e4 : S 304 = nI (h 4)) (hCt : CHt h t (V 4) (V 5) (V 6) (V 7) (V 8)) : ∀ (j x m : Nat) (s : Cst), x + j = h 4 + 1 → j < m → s.1 + 49 * j < 400 → fX1_gather_58_L27 V m (nI x - 1) (cS S sw s) = some (cS S sw (itF (gX h t sw) x j s)) := by
  have h46 := hs.2.2.2.2.1
  intro j
  induction j with
  | zero =>
    intro x m s c1 c2 c3
    obtain ⟨m, rfl⟩ : ∃ z, m = z + 1 := ⟨m - 1, by omega⟩
    rw [fX1_gather_58_L27, show cS S sw s 304 = nI (h 4) from e4, if_pos ((m1_le (by omega) (by omega)).mpr (by omega))]
    rfl
  | succ j ih =>
    intro x m s c1 c2 c3
    obtain ⟨m, rfl⟩ : ∃ z, m = z + 1 := ⟨m - 1, by omega⟩
    have hinc : nI x - 1 + 1 = nI (x + 1) - 1 := by rw [← nI_1]; grind
    have hle := gX_le (h := h) (t := t) (sw := sw) x s
    have hle2 : (itF (gY h t sw x) 0 7 s).1 ≤ s.1 + 49 := hle
    rw [fX1_gather_58_L27, show cS S sw s 304 = nI (h 4) from e4, if_neg (fun q => by have := (m1_le (by omega) (by omega)).mp q; omega)]
    simp only [lt_e, bk_e]
    rw [hinc]
    show _ = some (cS S sw (itF (gX h t sw) (x + 1) j (gX h t sw x s)))
    by_cases p : x = 0
    · rw [if_pos ((m1_m1 (by omega)).mpr p), left58 hs hT e0 e1 e2 e4 hCt ⟨by omega, Or.inl p⟩ s (by omega), bd1_s]
      exact ih (x + 1) m _ (by omega) (by omega) (by omega)
    · rw [if_neg (fun q => p ((m1_m1 (by omega)).mp q))]
      obtain ⟨b1, b2⟩ := brL (x := 0) hs hT hCt (show x - 1 < h 4 by omega) (by decide)
      rw [show nI (x - 1) = nI x - 1 from (nI_s1 (by omega)).symm] at b1 b2
      by_cases p3 : letsT t (x - 1) 0
      · rw [show fX2_breathLets_3 V (nI x - 1) 0 = some 1 from b1 p3, bd1_s, if_neg (by decide), left58 hs hT e0 e1 e2 e4 hCt ⟨by omega, Or.inr p3⟩ s (by omega), bd1_s]
        exact ih (x + 1) m _ (by omega) (by omega) (by omega)
      · rw [show fX2_breathLets_3 V (nI x - 1) 0 = some 0 from b2 p3, bd1_s, if_pos rfl, gX_id (fun y z q => q.2.2.2.1.elim p p3)]
        exact ih (x + 1) m _ (by omega) (by omega) (by omega)
theorem gath58 {S : Nat → Int32} {V : Nat → Nat → Int32} (hs : MHs h) (hT : MHt h t) (e0 : S 300 = nI (h 0)) (e1 : S 301 = nI (h 1)) (e2 : S 302 = nI (h 2)) (e4 : S 304 = nI (h 4)) (hCt : CHt h t (V 4) (V 5) (V 6) (V 7) (V 8)) : fX1_gather_58 S V sw = some (cS S sw (itF (gX h t sw) 0 7 (0, 0, 0, 0))) := by
  have h46 := hs.2.2.2.2.1
  unfold fX1_gather_58
  simp only [lt_e]
  have L := gath58L (sw := sw) hs hT e0 e1 e2 e4 hCt (h 4 + 1) 0 FU (0, 0, 0, 0) (by omega) (by unfold FU; omega) (by show 0 + 49 * (h 4 + 1) < 400; omega)
  rw [show nI 0 - 1 = -1 from by decide] at L
  rw [show va_up (va_up (va_up (va_up (va_up S 5801 sw) 5802 0) 5803 0) 5804 0) 5805 (-1) = cS S sw (0, 0, 0, 0) from rfl, L, show (7 : Nat) = (h 4 + 1) + (6 - h 4) by omega, it_split (gX h t sw) (h 4 + 1) (6 - h 4), it_id (6 - h 4)]
  exact fun j s h1 h2 => gX_id (fun y z q => by have := q.1; omega) s
end CL
theorem isC {S : Nat → Int32} {V : Nat → Nat → Int32} (hs : MHs h) (hT : MHt h t) (e4 : S 5 = nI (h 4)) (hRt : RHt h t (V 1) (V 2)) {c : Nat} (hc : c < 343) : (caseOK h t (c / 49) (c / 7 % 7) (c % 7) → fX12_isCase_0 S V (nI c) = some 1) ∧ (¬ caseOK h t (c / 49) (c / 7 % 7) (c % 7) → fX12_isCase_0 S V (nI c) = some 0) := by
  have h46 := hs.2.2.2.2.1
  have hm : ∀ q, q < 1000 → nI q - nI q / 7 * 7 = nI (q % 7) := fun q hq => nI_mod (b := 7) (by omega) (by decide)
  unfold fX12_isCase_0 caseOK
  rw [show nI c / 49 = nI (c / 49) from nI_divI (b := 49) (by omega) (by decide), show nI c / 7 = nI (c / 7) from nI_divI (b := 7) (by omega) (by decide)]
  simp only [lt_e, bk_e]
  rw [hm (c / 7) (by omega), show nI c - nI (c / 7) * 7 = nI (c % 7) by rw [← hm c (by omega), show nI c / 7 = nI (c / 7) from nI_divI (b := 7) (by omega) (by decide)], e4]
  have bx1 : c / 49 ≤ 6 := by omega
  have by1 : c / 7 % 7 ≤ 6 := by omega
  have bz1 : c % 7 ≤ 6 := by omega
  generalize c / 49 = x at bx1
  generalize c / 7 % 7 = y at by1
  generalize c % 7 = z at bz1
  simp only [m1_le (show h 4 < 1000 by omega) (show x < 1000 by omega), m1_le (show h 4 < 1000 by omega) (show y < 1000 by omega), m1_lt (show h 4 < 1000 by omega) (show z < 1000 by omega), m1_m1 (show x < 1000 by omega), m1_m1 (show y < 1000 by omega), m1_m1 (show z < 1000 by omega), m1_eq (show x < 1000 by omega) (show y < 1000 by omega), m1_eq (show z < 1000 by omega) (show x < 1000 by omega), m1_eq (show z < 1000 by omega) (show y < 1000 by omega)]
  by_cases p1 : h 4 < x
  · rw [if_pos p1]
    exact ⟨fun q => by omega, fun _ => rfl⟩
  rw [if_neg p1]
  by_cases p2 : h 4 < y
  · rw [if_pos p2]
    exact ⟨fun q => by omega, fun _ => rfl⟩
  rw [if_neg p2]
  by_cases p3 : z ≤ h 4
  case neg =>
    rw [if_neg p3]
    exact ⟨fun q => absurd q.2.2.1 p3, fun _ => rfl⟩
  rw [if_pos p3]
  have lx : x = 0 ∨ (x ≠ 0 ∧ letsT t (x - 1) 0 ∧ fX12_lets_0 V (nI x - 1) 0 = some 1) ∨ (x ≠ 0 ∧ ¬ letsT t (x - 1) 0 ∧ fX12_lets_0 V (nI x - 1) 0 = some 0) := by
    by_cases x0 : x = 0
    · exact Or.inl x0
    · obtain ⟨b1, b2⟩ := ltR (x := 0) hs hT hRt (show x - 1 < h 4 by omega) (by decide)
      rw [show nI (x - 1) = nI x - 1 from (nI_s1 (by omega)).symm] at b1 b2
      by_cases q : letsT t (x - 1) 0
      · exact Or.inr (Or.inl ⟨x0, q, b1 q⟩)
      · exact Or.inr (Or.inr ⟨x0, q, b2 q⟩)
  have ly : y = 0 ∨ (y ≠ 0 ∧ letsT t (y - 1) 1 ∧ fX12_lets_0 V (nI y - 1) 1 = some 1) ∨ (y ≠ 0 ∧ ¬ letsT t (y - 1) 1 ∧ fX12_lets_0 V (nI y - 1) 1 = some 0) := by
    by_cases x0 : y = 0
    · exact Or.inl x0
    · obtain ⟨b1, b2⟩ := ltR (x := 1) hs hT hRt (show y - 1 < h 4 by omega) (by decide)
      rw [show nI (y - 1) = nI y - 1 from (nI_s1 (by omega)).symm] at b1 b2
      by_cases q : letsT t (y - 1) 1
      · exact Or.inr (Or.inl ⟨x0, q, b1 q⟩)
      · exact Or.inr (Or.inr ⟨x0, q, b2 q⟩)
  have x4 : x ≤ h 4 := by omega
  have y4 : y ≤ h 4 := by omega
  rcases lx with x0 | ⟨x0, xl, xe⟩ | ⟨x0, xl, xe⟩
  · rcases ly with y0 | ⟨y0, yl, ye⟩ | ⟨y0, yl, ye⟩
    · rw [if_pos x0, if_pos y0]
      by_cases z0 : z = 0
      · rw [if_pos z0, if_pos x0, if_pos z0]
        exact ⟨fun _ => rfl, fun q => absurd ⟨x4, y4, p3, Or.inl x0, Or.inl y0, Or.inl z0, Or.inl x0, Or.inl z0⟩ q⟩
      · rw [if_neg z0, if_pos x0]
        exact ⟨fun q => q.2.2.2.2.2.1.elim (fun q => absurd q z0) (fun q => absurd x0 q.1), fun _ => rfl⟩
    · rw [if_pos x0, if_neg y0, ye, bd1_s, if_neg (by decide)]
      by_cases z0 : z = 0
      · rw [if_pos z0, if_pos x0, if_pos z0]
        exact ⟨fun _ => rfl, fun q => absurd ⟨x4, y4, p3, Or.inl x0, Or.inr yl, Or.inl z0, Or.inl x0, Or.inl z0⟩ q⟩
      · rw [if_neg z0, if_pos x0]
        exact ⟨fun q => q.2.2.2.2.2.1.elim (fun q => absurd q z0) (fun q => absurd x0 q.1), fun _ => rfl⟩
    · rw [if_pos x0, if_neg y0, ye, bd1_s, if_pos rfl]
      exact ⟨fun q => q.2.2.2.2.1.elim (fun q => absurd q y0) (fun q => absurd q yl), fun _ => rfl⟩
  · rw [if_neg x0, xe, bd1_s, if_neg (by decide)]
    rcases ly with y0 | ⟨y0, yl, ye⟩ | ⟨y0, yl, ye⟩
    · rw [if_pos y0]
      by_cases z0 : z = 0
      · rw [if_pos z0, if_neg x0, if_neg (show ¬ x = y by omega), if_pos z0]
        exact ⟨fun _ => rfl, fun q => absurd ⟨x4, y4, p3, Or.inr xl, Or.inl y0, Or.inl z0, Or.inr (by omega), Or.inl z0⟩ q⟩
      · rw [if_neg z0, if_neg x0, if_pos y0]
        exact ⟨fun q => q.2.2.2.2.2.1.elim (fun q => absurd q z0) (fun q => absurd y0 q.2), fun _ => rfl⟩
    · rw [if_neg y0, ye, bd1_s, if_neg (by decide)]
      by_cases z0 : z = 0
      · rw [if_pos z0, if_neg x0]
        by_cases xy : x = y
        · rw [if_pos xy]
          exact ⟨fun q => q.2.2.2.2.2.2.1.elim (fun q => absurd q x0) (fun q => absurd xy q), fun _ => rfl⟩
        · rw [if_neg xy, if_pos z0]
          exact ⟨fun _ => rfl, fun q => absurd ⟨x4, y4, p3, Or.inr xl, Or.inr yl, Or.inl z0, Or.inr xy, Or.inl z0⟩ q⟩
      · rw [if_neg z0, if_neg x0, if_neg y0, if_neg x0]
        by_cases xy : x = y
        · rw [if_pos xy]
          exact ⟨fun q => q.2.2.2.2.2.2.1.elim (fun q => absurd q x0) (fun q => absurd xy q), fun _ => rfl⟩
        · rw [if_neg xy, if_neg z0]
          by_cases zx : z = x
          · rw [if_pos zx]
            exact ⟨fun q => q.2.2.2.2.2.2.2.elim (fun q => absurd q z0) (fun q => absurd zx q.1), fun _ => rfl⟩
          · rw [if_neg zx]
            by_cases zy : z = y
            · rw [if_pos zy]
              exact ⟨fun q => q.2.2.2.2.2.2.2.elim (fun q => absurd q z0) (fun q => absurd zy q.2), fun _ => rfl⟩
            · rw [if_neg zy]
              exact ⟨fun _ => rfl, fun q => absurd ⟨x4, y4, p3, Or.inr xl, Or.inr yl, Or.inr ⟨x0, y0⟩, Or.inr xy, Or.inr ⟨zx, zy⟩⟩ q⟩
    · rw [if_neg y0, ye, bd1_s, if_pos rfl]
      exact ⟨fun q => q.2.2.2.2.1.elim (fun q => absurd q y0) (fun q => absurd q yl), fun _ => rfl⟩
  · rw [if_neg x0, xe, bd1_s, if_pos rfl]
    exact ⟨fun q => q.2.2.2.1.elim (fun q => absurd q x0) (fun q => absurd q xl), fun _ => rfl⟩
end CU3
