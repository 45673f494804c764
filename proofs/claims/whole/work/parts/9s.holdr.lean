def ML2 (h : Nat → Nat) (n : Nat) (le : Nat → Nat → Nat) : Prop := n ≤ 13 ∧ (∀ i, i < n → le i 0 < h 4 ∧ le i 1 < 3 ∧ le i 2 ≤ le i 3 ∧ le i 3 < 24) ∧
  ∀ i j hr, i < j → j < n → le i 2 ≤ hr → hr ≤ le i 3 → le j 2 ≤ hr → hr ≤ le j 3 → le i 1 ≠ le j 1 ∧ le i 0 ≠ le j 0
def RL2 (n : Nat) (le : Nat → Nat → Nat) (row : Nat → Int32) : Prop := ∀ i, i < n → row (4 * i) = nI (le i 0) ∧ row (4 * i + 1) = nI (le i 1) ∧ row (4 * i + 2) = nI (le i 2) ∧ row (4 * i + 3) = nI (le i 3)
section HR
variable {h : Nat → Nat} {t : Nat → Nat → Nat} {n : Nat} {le : Nat → Nat → Nat}
theorem ML2_of (hM : MLs h t n le) : ML2 h n le := ⟨by have := hM.1; omega, fun i hi => ⟨(hM.2.1 i hi).1, (hM.2.1 i hi).2.1, (hM.2.1 i hi).2.2.1, (hM.2.1 i hi).2.2.2.1⟩, hM.2.2⟩
theorem who_ok2 (hM : ML2 h n le) (x hr : Nat) : okT (h 4) (whoL le n x hr) := fun a e => by
  obtain ⟨p, hp, -, -, -, rfl⟩ := who_spec e
  exact (hM.2.1 p hp).1
theorem who_apt2 (hM : ML2 h n le) {x y : Nat} (hxy : x ≠ y) (hr : Nat) : apt (whoL le n x hr) (whoL le n y hr) := fun i e1 e2 => by
  obtain ⟨p, hp, p1, p2, p3, p4⟩ := who_spec e1
  obtain ⟨q, hq, q1, q2, q3, q4⟩ := who_spec e2
  rcases Nat.lt_trichotomy p q with c | c | c
  · exact (hM.2.2 p q hr c hq p2 p3 q2 q3).2 (p4.trans q4.symm)
  · subst c; omega
  · exact (hM.2.2 q p hr c hp q2 q3 p2 p3).2 (q4.trans p4.symm)
theorem inOf2 {V : Nat → Nat → Int32} {x hr : Nat} (hM : ML2 h n le) (hR : RL2 n le (V 13)) (hx : x < 3) (hh : hr < 24) : fX12_inOf_13 V (nI n) (nI x) (nI hr) = some (enc (whoL le n x hr)) := by
  rw [inOf13 hM.1 hR (fun i hi => by obtain ⟨-, h1, h2, h3⟩ := hM.2.1 i hi; exact ⟨h1, by omega, h3⟩) hx hh]
  unfold whoL
  cases occL le n x hr <;> rfl
theorem wtR {V : Nat → Nat → Int32} (h46 : h 4 ≤ 6) (hRt : RHt h t (V 1) (V 2)) {o : Option Nat} (ho : okT (h 4) o) : fX12_weightOf_0 V (enc o) = some (nI (wOf t o)) := by
  unfold fX12_weightOf_0
  cases o with
  | none => rw [if_pos (show enc none = -1 from rfl)]; rfl
  | some a =>
    have ha := ho a rfl
    have e := (hRt a ha).1
    rw [if_neg (show ¬ enc (some a) = -1 from nI_m1 (by omega)), show enc (some a) = nI a from rfl]
    simp only [lt_e]
    rw [nI_40, gd_n (4 * a) 24 (by omega) (by decide), nI_cl (4 * a) (by omega), e]
    rfl
theorem valR {V : Nat → Nat → Int32} (hs : MHs h) (hT : MHt h t) (hRt : RHt h t (V 1) (V 2)) (hM : ML2 h n le) (hR : RL2 n le (V 13)) {k hr : Nat} (hk : k < n) (hh : hr < 24) : ∀ q, q < 6 → fX12_valueOf_0_13 V (nI q) (nI n) (nI k) (nI hr) = some (nI (vaL t n le k hr q)) := by
  have h46 := hs.2.2.2.2.1
  obtain ⟨m0, m1, m2, m3⟩ := hM.2.1 k hk
  obtain ⟨r0, r1, r2, r3⟩ := hR k hk
  have hn := hM.1
  have tt := hRt (le k 0) m0
  intro q hq
  unfold fX12_valueOf_0_13
  simp only [lt_e, nI_41, nI_42, nI_43]
  simp (disch := omega) only [nI_40, gd_n, nI_cl, r0, r1, r2, r3]
  rcases (show q = 0 ∨ q = 1 ∨ q = 2 ∨ q = 3 ∨ q = 4 ∨ q = 5 by omega) with rfl | rfl | rfl | rfl | rfl | rfl
  · rw [if_pos (show nI 0 = 0 from nI_0), tt.1]
    rfl
  · rw [if_neg (by decide), if_pos (show nI 1 = 1 from rfl)]
    rfl
  · rw [if_neg (by decide), if_neg (by decide), if_pos (show nI 2 = 2 from rfl)]
    rfl
  · rw [if_neg (by decide), if_neg (by decide), if_neg (by decide), if_pos (show nI 3 = 3 from rfl), nI_sub m2, nI_1]
    rfl
  · rw [if_neg (by decide), if_neg (by decide), if_neg (by decide), if_neg (by decide), if_pos (show nI 4 = 4 from rfl)]
    have i0 : fX12_inOf_13 V (nI n) 0 (nI hr) = _ := inOf2 (x := 0) hM hR (by decide) hh
    have i1 : fX12_inOf_13 V (nI n) 1 (nI hr) = _ := inOf2 (x := 1) hM hR (by decide) hh
    show _ = some (nI ((if le k 1 = 0 then 0 else wOf t (whoL le n 0 hr)) + (if le k 1 = 1 then 0 else wOf t (whoL le n 1 hr))))
    by_cases c2 : 2 ≤ le k 1
    · rw [if_pos (show 2 ≤ nI (le k 1) from nI_le (a := 2) (b := le k 1) c2 (by omega)), i0, bd1_s, wtR h46 hRt (who_ok2 hM 0 hr), bd1_s, i1, bd1_s, wtR h46 hRt (who_ok2 hM 1 hr), bd1_s, nI_add, if_neg (by omega), if_neg (by omega)]
    · rw [if_neg (show ¬ 2 ≤ nI (le k 1) from nI_ge (a := le k 1) (b := 2) (by omega) (by decide))]
      rcases (show le k 1 = 0 ∨ le k 1 = 1 by omega) with e | e
      · rw [e, show (1 : Int32) - nI 0 = 1 from by decide, i1, bd1_s, wtR h46 hRt (who_ok2 hM 1 hr), bd1_s, if_pos rfl, if_neg (by decide), Nat.zero_add]
      · rw [e, show (1 : Int32) - nI 1 = 0 from by decide, i0, bd1_s, wtR h46 hRt (who_ok2 hM 0 hr), bd1_s, if_neg (by decide), if_pos rfl, Nat.add_zero]
  · rw [if_neg (by decide), if_neg (by decide), if_neg (by decide), if_neg (by decide), if_neg (by decide)]
    have i0 : fX12_inOf_13 V (nI n) 0 (nI hr) = _ := inOf2 (x := 0) hM hR (by decide) hh
    have i1 : fX12_inOf_13 V (nI n) 1 (nI hr) = _ := inOf2 (x := 1) hM hR (by decide) hh
    have i2 : fX12_inOf_13 V (nI n) 2 (nI hr) = _ := inOf2 (x := 2) hM hR (by decide) hh
    have k6 : ∀ o, okT (h 4) o → okT 6 o := fun o ho x e => by have := ho x e; omega
    have k8 : ∀ o, okT (h 4) o → okT 8 o := fun o ho x e => by have := ho x e; omega
    rw [allIn13_of (k6 _ (who_ok2 hM 0 hr)) (k6 _ (who_ok2 hM 1 hr)) (k6 _ (who_ok2 hM 2 hr)) i0 i1 i2, bd1_s, tt.2.2.2.2, fa_and, bits_eq, bd1_s, ct_and, smF_set (k8 _ (who_ok2 hM 0 hr)) (k8 _ (who_ok2 hM 1 hr)) (k8 _ (who_ok2 hM 2 hr)) (who_apt2 hM (by decide) hr) (who_apt2 hM (by decide) hr) (who_apt2 hM (by decide) hr)]
    show _ = some (nI (qOf t (le k 0) (whoL le n 0 hr) + qOf t (le k 0) (whoL le n 1 hr) + qOf t (le k 0) (whoL le n 2 hr)))
    have g : ∀ o : Option Nat, gO (fun j => if (t (le k 0) 4).testBit j = true then 1 else 0) o = qOf t (le k 0) o := fun o => by cases o <;> rfl
    rw [g, g, g]
theorem reckR {V : Nat → Nat → Int32} {ru : Nat → List Nat} (hs : MHs h) (hT : MHt h t) (hRt : RHt h t (V 1) (V 2)) (hM : ML2 h n le) (hR : RL2 n le (V 13)) (hU : MU (h 6) ru) (hRU : RU (h 6) ru (V 4) (V 3)) {k hr r : Nat} (hk : k < n) (hh : hr < 24) (hr6 : r < h 6) (f : Nat → Int32) : ∃ f2, fX12_reckons_0_13 (va_up V 15 f) (V 3 r) (nI n) (nI k) (nI hr) = some (topR (vaL t n le k hr) ru r, va_up V 15 f2) := by
  obtain ⟨a, a1, a2, a3⟩ := hRU r hr6
  have hpl : (ru r).length ≤ ((ru r).flatMap trT).length := by
    generalize ru r = ps
    induction ps with
    | nil => exact Nat.le_refl _
    | cons p ps ih =>
      rw [List.flatMap_cons, List.length_append, List.length_cons]
      have : 1 ≤ (trT p).length := by
        unfold trT
        split
        · simp
        · split
          · simp
          · simp
      omega
  obtain ⟨f2, r1, r2, r3⟩ := evR (V := V) (va := vaL t n le k hr) (N := nI n) (l := nI k) (hr := nI hr) (fun q hq f => valR (V := va_up V 15 f) hs hT hRt hM hR hk hh q hq) (E := fun V73 => gd (ib (0 : Int32) 800) (some (V73 15 ((0 : Int32)).toNatClampNeg, V73))) (ru r) [] f a FU 1 trivial (by decide) (hU r hr6) a3 a2 (by unfold FU; omega)
  refine ⟨f2, ?_⟩
  unfold fX12_reckons_0_13
  simp only [bk_e]
  rw [show nI ([] : List Int32).length = 0 from nI_0] at r3
  rw [a1, r3, gd_t (by decide), va_up_self, show ((0 : Int32)).toNatClampNeg = 0 from by decide, stR_top r1 r2]
end HR
