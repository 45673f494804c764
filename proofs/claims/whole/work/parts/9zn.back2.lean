/-! ===== forth and back: what comes of it ===== -/
theorem fst1_skip {P : Nat → Bool} {s d q : Nat} (h1 : s ≤ q) (h2 : q < s + d) (h3 : ∀ i, s ≤ i → i ≤ q → P i = false) : fst1 P s d = fst1 P (q + 1) (s + d - (q + 1)) := by
  cases h : fst1 P (q + 1) (s + d - (q + 1)) with
  | none =>
    have := fst1_none.mp h
    refine fst1_none.mpr (fun j a1 a2 => ?_)
    by_cases c : j ≤ q
    · exact h3 j a1 c
    · exact this j (by omega) (by omega)
  | some k =>
    obtain ⟨q1, q2, q3, q4⟩ := fst1_some.mp h
    refine fst1_some.mpr ⟨by omega, by omega, q3, fun j a1 a2 => ?_⟩
    by_cases c : j ≤ q
    · exact h3 j a1 c
    · exact q4 j (by omega) (by omega)
theorem nx_sdr {Hs : Nat → Nat → Bool} {m fr : Nat → Bool} {t hr : Nat} (ht : t < 6) (hm : m t = true) (hn : nxF Hs m t fr = some hr) : sdr Hs (fun a => decide (t ≤ a) && m a) fr := by
  have cg : ∀ a, a < 6 → (fun a => if a = t then false else (decide (t ≤ a) && m a)) a = (fun a => decide (t < a) && m a) a := fun a _ => by
    by_cases e : a = t
    · subst e; simp
    · have : (t ≤ a) ↔ (t < a) := by omega
      simp [e, this]
  obtain ⟨-, r1, r2, -⟩ := fst1_some.mp hn
  simp only [Bool.and_eq_true] at r2
  exact (sdr_step (t := t) ht (by simp [hm])).mpr ⟨hr, by omega, r2.1.1, r2.1.2, (sdr_cong cg (fun _ _ => rfl)).mpr (eb_iff.mp r2.2)⟩
section BT
variable {h : Nat → Nat} {t : Nat → Nat → Nat} {n : Nat} {le : Nat → Nat → Nat} {S : Nat → Int32} {V : Nat → Nat → Int32} {m fr l : Nat} {E : Int32 → (Nat → Nat → Int32) → Option (Int32 × (Nat → Nat → Int32))}
def btG (E : Int32 → (Nat → Nat → Int32) → Option (Int32 × (Nat → Nat → Int32))) (S : Nat → Int32) (V : Nat → Nat → Int32) (Hs : Nat → Nat → Bool) (T m fr l j k : Nat) : Prop := ∀ (f : Nat) (w : Nat → Int32), cB j < f → (∀ a, k ≤ a → a < 6 → w a = -1) →
  (sdr Hs (fun a => decide (k ≤ a) && m.testBit a) (frW fr l k w) → fX12_visitsBy_0_L27 E S f (nI m) (nI fr) (nI l) (nI k) (va_up V 19 w) = E (nI T) (va_up V 19 (lxF Hs m.testBit (6 - k) k (frW fr l k w) w))) ∧
  (¬ sdr Hs (fun a => decide (k ≤ a) && m.testBit a) (frW fr l k w) → ∃ f', f ≤ f' + cB j ∧ fX12_visitsBy_0_L27 E S f (nI m) (nI fr) (nI l) (nI k) (va_up V 19 w) = fX12_visitsBy_0_L27 E S f' (nI m) (nI fr) (nI l) (pvA m k) (va_up V 19 w))
theorem bt_in (h46 : h 4 ≤ 6) (hS5 : S 5 = nI (h 4)) (hM : MLs h t n le) (hR : RLs n le (S 42) (V 13)) (hl : l < 24) (hfl : fr ≤ l) {j k : Nat} (hk : k + (j + 1) = h 4) (hmk : m.testBit k = true) (ih : btG E S V (fun a hr => (bitsT le a n).testBit hr) (h 4) m fr l j (k + 1)) (w0 : Nat → Int32) (hw0 : ∀ a, k < a → a < 6 → w0 a = -1) : ∀ (d s f : Nat) (x : Int32), s + d = l + 1 → fr ≤ s → (d + 1) * (cB j + 3) < f → ((x = -1 ∧ s = fr) ∨ (∃ z, x = nI z ∧ z < 24 ∧ s = z + 1)) →
  match fst1 (fun hr => (bitsT le k n).testBit hr && frW fr l k w0 hr && eb (fun a hr => (bitsT le a n).testBit hr) (fun a => decide (k < a) && m.testBit a) (wo (frW fr l k w0) hr)) s d with
  | some q => fX12_visitsBy_0_L27 E S f (nI m) (nI fr) (nI l) (nI k) (va_up V 19 (upd w0 k x)) = E (nI (h 4)) (va_up V 19 (lxF (fun a hr => (bitsT le a n).testBit hr) m.testBit (6 - (k + 1)) (k + 1) (wo (frW fr l k w0) q) (upd w0 k (nI q))))
  | none => ∃ f', f ≤ f' + (d + 1) * (cB j + 3) ∧ fX12_visitsBy_0_L27 E S f (nI m) (nI fr) (nI l) (nI k) (va_up V 19 (upd w0 k x)) = fX12_visitsBy_0_L27 E S f' (nI m) (nI fr) (nI l) (pvA m k) (va_up V 19 (upd w0 k (-1))) := by
  intro d
  induction d using Nat.strongRecOn with
  | _ d ihd =>
    intro s f x c1 c2 c3 c4
    have hc : (d + 1) * (cB j + 3) = d * (cB j + 3) + (cB j + 3) := Nat.succ_mul _ _
    obtain ⟨f, rfl⟩ : ∃ z, f = z + 1 := ⟨f - 1, by omega⟩
    have st := bt_ask (E := E) (V := V) (fr := fr) (f := f) h46 hS5 hM hR hl (show k < h 4 by omega) hmk (w := upd w0 k x) (s := s) (by rw [upd_same]; exact c4) (by omega)
    have eq1 : fst1 (fun q => (bitsT le k n).testBit q && !anF (fun a => decide (upd w0 k x a = nI q)) 0 k) s (l + 1 - s) = fst1 (fun q => (bitsT le k n).testBit q && frW fr l k w0 q) s d := by
      rw [show l + 1 - s = d by omega]
      apply fst1_congr
      intro q q1 q2
      unfold frW
      rw [decide_eq_true (show fr ≤ q ∧ q ≤ l by omega), Bool.true_and, anF_cong (q := fun a => decide (w0 a = nI q)) (fun a _ ha => by rw [upd_ne _ _ (show a ≠ k by omega)])]
    rw [eq1] at st
    cases hA : fst1 (fun q => (bitsT le k n).testBit q && frW fr l k w0 q) s d with
    | none =>
      rw [hA] at st
      have hPn := fst1_none.mp hA
      rw [fst1_none.mpr (fun i i1 i2 => by
        have : ((bitsT le k n).testBit i && frW fr l k w0 i) = false := hPn i i1 i2
        show (((bitsT le k n).testBit i && frW fr l k w0 i) && _) = false
        rw [this, Bool.false_and])]
      refine ⟨f, by omega, ?_⟩
      rw [st]
      simp only [upd_upd]
    | some q =>
      rw [hA] at st
      obtain ⟨q1, q2, q3, q4⟩ := fst1_some.mp hA
      simp only [upd_upd] at st
      have hq24 : q < 24 := by omega
      obtain ⟨g1, g2⟩ := ih f (upd w0 k (nI q)) (by omega) (fun a a1 a2 => by rw [upd_ne _ _ (show a ≠ k by omega)]; exact hw0 a (by omega) a2)
      have fcg : ∀ i, i < 24 → frW fr l (k + 1) (upd w0 k (nI q)) i = wo (frW fr l k w0) q i := frW_step hq24
      have pcg : ∀ a, a < 6 → (fun a => decide (k + 1 ≤ a) && m.testBit a) a = (fun a => decide (k < a) && m.testBit a) a := fun a _ => rfl
      by_cases hs : sdr (fun a hr => (bitsT le a n).testBit hr) (fun a => decide (k + 1 ≤ a) && m.testBit a) (frW fr l (k + 1) (upd w0 k (nI q)))
      · have hs' := eb_iff.mpr ((sdr_cong pcg fcg).mp hs)
        rw [fst1_some.mpr ⟨q1, q2, (by
          show (((bitsT le k n).testBit q && frW fr l k w0 q) && _) = true
          rw [show ((bitsT le k n).testBit q && frW fr l k w0 q) = true from q3, hs']; rfl), fun i i1 i2 => (by
          show (((bitsT le k n).testBit i && frW fr l k w0 i) && _) = false
          rw [show ((bitsT le k n).testBit i && frW fr l k w0 i) = false from q4 i i1 i2, Bool.false_and])⟩]
        show _ = _
        rw [st]
        show fX12_visitsBy_0_L27 E S f (nI m) (nI fr) (nI l) (nI (k + 1)) (va_up V 19 (upd w0 k (nI q))) = _
        rw [g1 hs, lxF_cong _ _ _ _ _ fcg]
      · have hs' : eb (fun a hr => (bitsT le a n).testBit hr) (fun a => decide (k < a) && m.testBit a) (wo (frW fr l k w0) q) = false := by
          cases he : eb (fun a hr => (bitsT le a n).testBit hr) (fun a => decide (k < a) && m.testBit a) (wo (frW fr l k w0) q) with
          | false => rfl
          | true => exact absurd ((sdr_cong pcg fcg).mpr (eb_iff.mp he)) hs
        obtain ⟨f', d1, d2⟩ := g2 hs
        rw [pvA, if_pos hmk] at d2
        have dle : (l - q + 1) * (cB j + 3) ≤ d * (cB j + 3) := Nat.mul_le_mul_right _ (by omega)
        have rcc := ihd (l - q) (by omega) (q + 1) f' (nI q) (by omega) (by omega) (by omega) (Or.inr ⟨q, rfl, hq24, rfl⟩)
        have sk := fst1_skip (P := fun hr => (bitsT le k n).testBit hr && frW fr l k w0 hr && eb (fun a hr => (bitsT le a n).testBit hr) (fun a => decide (k < a) && m.testBit a) (wo (frW fr l k w0) hr)) q1 q2 (fun i i1 i2 => by
          show (((bitsT le k n).testBit i && frW fr l k w0 i) && _) = false
          by_cases e : i = q
          · subst e; rw [hs', Bool.and_false]
          · rw [show ((bitsT le k n).testBit i && frW fr l k w0 i) = false from q4 i i1 (by omega), Bool.false_and])
        rw [sk, show s + d - (q + 1) = l - q by omega]
        have st2 : fX12_visitsBy_0_L27 E S (f + 1) (nI m) (nI fr) (nI l) (nI k) (va_up V 19 (upd w0 k x)) = fX12_visitsBy_0_L27 E S f (nI m) (nI fr) (nI l) (nI (k + 1)) (va_up V 19 (upd w0 k (nI q))) := st
        rw [st2]
        rw [d2]
        cases hr : fst1 (fun hr => (bitsT le k n).testBit hr && frW fr l k w0 hr && eb (fun a hr => (bitsT le a n).testBit hr) (fun a => decide (k < a) && m.testBit a) (wo (frW fr l k w0) hr)) (q + 1) (l - q) with
        | some q2 =>
          rw [hr] at rcc
          exact rcc
        | none =>
          rw [hr] at rcc
          obtain ⟨f2, e1, e2⟩ := rcc
          exact ⟨f2, by omega, e2⟩
theorem bt_all (h46 : h 4 ≤ 6) (hS5 : S 5 = nI (h 4)) (hM : MLs h t n le) (hR : RLs n le (S 42) (V 13)) (hl : l < 24) (hfl : fr ≤ l) (hm : ∀ a, h 4 ≤ a → m.testBit a = false) : ∀ (j k : Nat), k + j = h 4 → btG E S V (fun a hr => (bitsT le a n).testBit hr) (h 4) m fr l j k := by
  intro j
  induction j with
  | zero =>
    intro k c1 f w c2 c3
    obtain ⟨f, rfl⟩ : ∃ z, f = z + 1 := ⟨f - 1, by omega⟩
    have e : k = h 4 := by omega
    subst e
    constructor
    · intro _
      rw [fX12_visitsBy_0_L27, if_neg (nI_pos (by omega)), hS5, if_pos (nI_le (Nat.le_refl _) (by omega)), lxF_end _ _ _ _ (fun a a1 a2 => ⟨hm a a1, c3 a a1 (by omega)⟩)]
    · intro hn
      exact absurd ⟨fun _ => 0, fun a a1 a2 => (by
        rw [Bool.and_eq_true, decide_eq_true_iff] at a2
        rw [hm a a2.1] at a2
        cases a2.2), fun a b a1 b1 a2 => (by
        rw [Bool.and_eq_true, decide_eq_true_iff] at a2
        rw [hm a a2.1] at a2
        cases a2.2)⟩ hn
  | succ j ih =>
    intro k c1 f w c2 c3
    have ihk := ih (k + 1) (by omega)
    rw [cB] at c2
    rw [show 6 - k = (6 - (k + 1)) + 1 by omega, lxF]
    cases hmk : m.testBit k with
    | false =>
      obtain ⟨f, rfl⟩ : ∃ z, f = z + 1 := ⟨f - 1, by omega⟩
      obtain ⟨g1, g2⟩ := ihk f w (by omega) (fun a a1 a2 => c3 a (by omega) a2)
      have hwk : w k = -1 := c3 k (Nat.le_refl _) (by omega)
      have fcg : ∀ i, i < 24 → frW fr l (k + 1) w i = frW fr l k w i := frW_no hwk
      have pcg : ∀ a, a < 6 → (fun a => decide (k + 1 ≤ a) && m.testBit a) a = (fun a => decide (k ≤ a) && m.testBit a) a := fun a _ => by
        by_cases e : a = k
        · subst e; simp [hmk]
        · have : (k ≤ a) ↔ (k + 1 ≤ a) := by omega
          simp [this]
      rw [if_neg (by decide), upd_id hwk, bt_not h46 hS5 (show k < h 4 by omega) hmk]
      constructor
      · intro hs
        rw [g1 ((sdr_cong pcg fcg).mpr hs), lxF_cong _ _ _ _ _ fcg]
      · intro hs
        obtain ⟨f', e1, e2⟩ := g2 (fun z => hs ((sdr_cong pcg fcg).mp z))
        rw [pvA, if_neg (by rw [hmk]; decide)] at e2
        exact ⟨f', by rw [cB]; omega, e2⟩
    | true =>
      have hwk : w k = -1 := c3 k (Nat.le_refl _) (by omega)
      have dle : (l + 1 - fr + 1) * (cB j + 3) ≤ 30 * (cB j + 3) := Nat.mul_le_mul_right _ (by omega)
      have inn := bt_in (V := V) (m := m) h46 hS5 hM hR hl hfl (by omega) hmk ihk w (fun a a1 a2 => c3 a (by omega) a2) (l + 1 - fr) fr f (-1) (by omega) (Nat.le_refl _) (by omega) (Or.inl ⟨rfl, rfl⟩)
      rw [upd_id hwk] at inn
      have nxe : nxF (fun a hr => (bitsT le a n).testBit hr) m.testBit k (frW fr l k w) = fst1 (fun hr => (bitsT le k n).testBit hr && frW fr l k w hr && eb (fun a hr => (bitsT le a n).testBit hr) (fun a => decide (k < a) && m.testBit a) (wo (frW fr l k w) hr)) fr (l + 1 - fr) := by
        unfold nxF
        refine fst1_in hfl hl (fun i _ hi => ?_)
        simp only [Bool.and_eq_true] at hi
        have := hi.1.2
        unfold frW at this
        rw [Bool.and_eq_true, decide_eq_true_iff] at this
        exact this.1
      rw [← nxe] at inn
      rw [if_pos rfl]
      constructor
      · intro hs
        obtain ⟨hr, n1, -, -⟩ := nx_some (show k < 6 by omega) hmk hs
        rw [n1] at inn ⊢
        exact inn
      · intro hs
        cases hn : nxF (fun a hr => (bitsT le a n).testBit hr) m.testBit k (frW fr l k w) with
        | some hr => exact absurd (nx_sdr (show k < 6 by omega) hmk hn) hs
        | none =>
          rw [hn] at inn
          obtain ⟨f', e1, e2⟩ := inn
          exact ⟨f', by rw [cB]; omega, e2⟩
/-- all six at none -/
theorem vb6 {x y z u : Int32} {E : Int32 → Int32 → Int32 → Int32 → (Nat → Nat → Int32) → Option (Int32 × (Nat → Nat → Int32))} : ∃ w : Nat → Int32, (∀ a, a < 6 → w a = -1) ∧ ∀ f, 6 < f → fX12_visitsBy_0_L6 E S f x y z u 0 V = E x y z u (va_up V 19 w) := by
  have L : ∀ (j i : Nat) (v : Nat → Int32), i + j = 6 → (∀ a, a < i → v a = -1) → ∃ w : Nat → Int32, (∀ a, a < 6 → w a = -1) ∧ ∀ f, j < f → fX12_visitsBy_0_L6 E S f x y z u (nI i) (va_up V 19 v) = E x y z u (va_up V 19 w) := by
    intro j
    induction j with
    | zero =>
      intro i v c1 c2
      refine ⟨v, fun a ha => c2 a (by omega), fun f hf => ?_⟩
      obtain ⟨f, rfl⟩ : ∃ z, f = z + 1 := ⟨f - 1, by omega⟩
      rw [fX12_visitsBy_0_L6, if_pos (show 6 ≤ nI i from nI_le (a := 6) (b := i) (by omega) (by omega))]
    | succ j ih =>
      intro i v c1 c2
      obtain ⟨w, e1, e2⟩ := ih (i + 1) (upd v i (-1)) (by omega) (fun a ha => by
        by_cases e : a = i
        · rw [e, upd_same]
        · rw [upd_ne _ _ e]; exact c2 a (by omega))
      refine ⟨w, e1, fun f hf => ?_⟩
      obtain ⟨f, rfl⟩ : ∃ z, f = z + 1 := ⟨f - 1, by omega⟩
      rw [fX12_visitsBy_0_L6, if_neg (show ¬ 6 ≤ nI i from nI_ge (a := i) (b := 6) (by omega) (by omega)), gd_n i 6 (by omega) (by decide), nI_cl i (by omega)]
      simp only [lt_e, va_up_self, va_up_up, nI_1]
      exact e2 f (by omega)
  obtain ⟨w, e1, e2⟩ := L 6 0 (V 19) (by omega) (fun a ha => by omega)
  refine ⟨w, e1, fun f hf => ?_⟩
  have := e2 f hf
  rw [nI_0, show va_up V 19 (V 19) = V from va_same rfl] at this
  exact this
theorem visB (h46 : h 4 ≤ 6) (hS5 : S 5 = nI (h 4)) (hM : MLs h t n le) (hR : RLs n le (S 42) (V 13)) (hl : l < 24) (hfl : fr ≤ l) (hm : ∀ a, h 4 ≤ a → m.testBit a = false) : ∃ w : Nat → Int32, (∀ a, a < 6 → w a = -1) ∧ fX12_visitsBy_0 S V (nI m) (nI fr) (nI l) = some (if eb (fun a hr => (bitsT le a n).testBit hr) m.testBit (ivl fr l).testBit = true then (1, va_up V 19 (lxF (fun a hr => (bitsT le a n).testBit hr) m.testBit 6 0 (ivl fr l).testBit w)) else (0, va_up V 19 w)) := by
  obtain ⟨w, w1, w2⟩ := vb6 (S := S) (V := V) (x := nI m) (y := nI fr) (z := nI l) (u := 0) (E := fun x17 x18 x19 x20 V21 => fX12_visitsBy_0_L27 (fun x93 V94 => if x93 < 0 then some ((0 : Int32), V94) else some ((1 : Int32), V94)) S FB x17 x18 x19 x20 V21)
  refine ⟨w, w1, ?_⟩
  have e0 : fX12_visitsBy_0 S V (nI m) (nI fr) (nI l) = fX12_visitsBy_0_L27 (fun x93 V94 => if x93 < 0 then some ((0 : Int32), V94) else some ((1 : Int32), V94)) S FB (nI m) (nI fr) (nI l) 0 (va_up V 19 w) := by
    unfold fX12_visitsBy_0
    simp only [bk_e]
    exact w2 FB (by unfold FB; omega)
  have cb : ∀ j, j ≤ 6 → cB j + 2 < FB := by
    unfold FB
    decide
  obtain ⟨g1, g2⟩ := bt_all (E := fun x93 V94 => if x93 < 0 then some ((0 : Int32), V94) else some ((1 : Int32), V94)) (V := V) h46 hS5 hM hR hl hfl hm (h 4) 0 (by omega) FB w (by have := cb (h 4) h46; omega) (fun a _ ha => w1 a ha)
  have fcg : ∀ i, i < 24 → frW fr l 0 w i = (ivl fr l).testBit i := fun i hi => by
    rw [ivl_tb' hfl hl]
    unfold frW
    rw [anF, Bool.not_false, Bool.and_true]
  have pcg : ∀ a, a < 6 → (fun a => decide (0 ≤ a) && m.testBit a) a = m.testBit a := fun a _ => by simp
  rw [e0]
  rw [nI_0] at g1 g2
  by_cases hs : sdr (fun a hr => (bitsT le a n).testBit hr) m.testBit (ivl fr l).testBit
  · rw [if_pos (eb_iff.mpr hs), g1 ((sdr_cong pcg fcg).mpr hs)]
    show (if nI (h 4) < 0 then _ else _) = _
    rw [if_neg (nI_pos (n := h 4) (by omega)), show 6 - 0 = 6 from rfl, lxF_cong _ _ _ _ _ fcg]
  · obtain ⟨f', e1, e2⟩ := g2 (fun z => hs ((sdr_cong pcg fcg).mp z))
    have := cb (h 4) h46
    obtain ⟨f', rfl⟩ : ∃ z, f' = z + 1 := ⟨f' - 1, by omega⟩
    rw [if_neg (fun z => hs (eb_iff.mp z)), e2, pvA, fX12_visitsBy_0_L27, if_pos (by decide)]
    rfl
end BT
