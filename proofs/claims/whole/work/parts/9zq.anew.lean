/-! ===== housed anew: what a way is ===== -/
abbrev frS (s : Nat) : Nat := s % 8 * 3
section AN
variable (h : Nat → Nat) (t : Nat → Nat → Nat) (ru : Nat → List Nat) (wh : Nat → Nat) (N : Nat)
def leW (ws : Nat → Nat) (k : Nat) : Nat → Nat
  | 0 => wh k
  | 1 => ws k / 8
  | 2 => frS (ws k)
  | _ => frS (ws k) + t (wh k) 2 - 1
def inS (k s hr : Nat) : Bool := decide (frS s ≤ hr ∧ hr < frS s + t (wh k) 2)
def Gk (k s : Nat) : Prop := frS s + t (wh k) 2 ≤ 24 ∧ letsT t (wh k) (s / 8)
def ok1 (k s hr : Nat) : Prop := okR (vq (t (wh k) 0) (s / 8) hr (t (wh k) 2) 0 0) (h 6) ru
def ok2 (k s o hr : Nat) : Prop := okR (vq (t (wh k) 0) (s / 8) hr (t (wh k) 2) (t (wh o) 0) (qq t (some (wh k)) (some (wh o)))) (h 6) ru
def noC (ws : Nat → Nat) (n : Nat) : Prop := ∀ k j, k < n → j < k → ¬ (ws j / 8 = ws k / 8 ∧ frS (ws j) < frS (ws k) + t (wh k) 2 ∧ frS (ws k) < frS (ws j) + t (wh j) 2)
def vldW (ws : Nat → Nat) : Prop := (∀ k, k < N → Gk t wh k (ws k)) ∧ noC t wh ws N ∧ okL t (h 6) ru N (leW t wh ws)
def spOK (k s : Nat) : Prop := Gk t wh k s ∧ ∀ hr, inS t wh k s hr = true → ok1 h t ru wh k s hr ∨ ∃ o, o < N ∧ o ≠ k ∧ ok2 h t ru wh k s o hr
def fitW (ws : Nat → Nat) (k s : Nat) : Prop := spOK h t ru wh N k s ∧ ∀ o, o < k → (∃ hr, inS t wh k s hr = true ∧ inS t wh o (ws o) hr = true) → s / 8 ≠ ws o / 8 ∧ ∀ hr, inS t wh k s hr = true → inS t wh o (ws o) hr = true → ok2 h t ru wh k s o hr ∧ ok2 h t ru wh o (ws o) k hr
def leafW (ws : Nat → Nat) : Prop := ∀ k, k < N → ∀ hr, inS t wh k (ws k) hr = true → (∀ o, o < N → o ≠ k → inS t wh o (ws o) hr = false) → ok1 h t ru wh k (ws k) hr
end AN
section AM
variable {h : Nat → Nat} {t : Nat → Nat → Nat} {ru : Nat → List Nat} {wh : Nat → Nat} {N : Nat}
/-- the tenants that are housed -/
def whOK (h : Nat → Nat) (wh : Nat → Nat) (N : Nat) : Prop := N ≤ 4 ∧ (∀ k, k < N → wh k < h 4) ∧ ∀ i j, i < j → j < N → wh i ≠ wh j
theorem inS_iff {k s hr : Nat} : inS t wh k s hr = true ↔ frS s ≤ hr ∧ hr < frS s + t (wh k) 2 := decide_eq_true_iff
theorem stay_b (hT : MHt h t) (hw : whOK h wh N) {k : Nat} (hk : k < N) : 1 ≤ t (wh k) 2 ∧ t (wh k) 2 ≤ 12 := ⟨(hT (wh k) (hw.2.1 k hk)).1.2.2.1, (hT (wh k) (hw.2.1 k hk)).1.2.2.2.1⟩
theorem leW_in (hT : MHt h t) (hw : whOK h wh N) {ws : Nat → Nat} {k hr : Nat} (hk : k < N) : (leW t wh ws k 2 ≤ hr ∧ hr ≤ leW t wh ws k 3) ↔ inS t wh k (ws k) hr = true := by
  have := stay_b hT hw hk
  rw [inS_iff]
  show (frS (ws k) ≤ hr ∧ hr ≤ frS (ws k) + t (wh k) 2 - 1) ↔ _
  omega
theorem ML4_W (hT : MHt h t) (hw : whOK h wh N) {ws : Nat → Nat} (h16 : ∀ k, k < N → ws k < 16) {n : Nat} (hn : n ≤ N) (hG : ∀ k, k < n → Gk t wh k (ws k)) (hc : noC t wh ws n) : ML4 h n (leW t wh ws) := by
  refine ⟨by have := hw.1; omega, fun i hi => ?_, fun i j hr hij hj a1 a2 a3 a4 => ?_⟩
  · have := stay_b hT hw (show i < N by omega)
    have := (hG i hi).1
    have := h16 i (by omega)
    refine ⟨hw.2.1 i (by omega), ?_, ?_, ?_⟩
    · show ws i / 8 < 3
      omega
    · show frS (ws i) ≤ frS (ws i) + t (wh i) 2 - 1
      omega
    · show frS (ws i) + t (wh i) 2 - 1 < 24
      omega
  · refine ⟨fun e => ?_, hw.2.2 i j hij (by omega)⟩
    have b1 := (leW_in hT hw (show i < N by omega)).mp ⟨a1, a2⟩
    have b2 := (leW_in hT hw (show j < N by omega)).mp ⟨a3, a4⟩
    rw [inS_iff] at b1 b2
    exact hc j i hj hij ⟨e, by omega, by omega⟩
theorem who_at {n : Nat} {le : Nat → Nat → Nat} {x hr i : Nat} (hM : ML4 h n le) (hi : i < n) (h1 : le i 1 = x) (h2 : le i 2 ≤ hr) (h3 : hr ≤ le i 3) : whoL le n x hr = some (le i 0) := by
  cases hw : whoL le n x hr with
  | none => exact absurd ⟨i, hi, h1, h2, h3⟩ (who_none.mp hw)
  | some a =>
    obtain ⟨p, hp, p1, p2, p3, p4⟩ := who_spec hw
    rcases Nat.lt_trichotomy p i with c | c | c
    · exact absurd (p1.trans h1.symm) (hM.2.2 p i hr c hi p2 p3 h2 h3).1
    · subst c; rw [p4]
    · exact absurd (h1.trans p1.symm) (hM.2.2 i p hr c hp h2 h3 p2 p3).1
theorem qq_n (t : Nat → Nat → Nat) (a : Option Nat) : qq t a none = 0 := by cases a <;> rfl
/-- what the rules see of one who is housed -/
theorem see1 (hT : MHt h t) (hw : whOK h wh N) {ws : Nat → Nat} (h16 : ∀ k, k < N → ws k < 16) (hG : ∀ k, k < N → Gk t wh k (ws k)) (hc : noC t wh ws N) {k hr : Nat} (hk : k < N) (hi : inS t wh k (ws k) hr = true) (hno : ∀ o, o < N → o ≠ k → inS t wh o (ws o) hr = false) : vaL t N (leW t wh ws) k hr = vq (t (wh k) 0) (ws k / 8) hr (t (wh k) 2) 0 0 := by
  have hM := ML4_W hT hw h16 (Nat.le_refl N) hG hc
  have hin := (leW_in hT hw hk).mpr hi
  have hst := stay_b hT hw hk
  have own : whoL (leW t wh ws) N (ws k / 8) hr = some (wh k) := who_at hM hk rfl hin.1 hin.2
  have oth : ∀ x, x ≠ ws k / 8 → whoL (leW t wh ws) N x hr = none := fun x hx => who_none.mpr (fun ⟨i, a1, a2, a3, a4⟩ => by
    have := (leW_in hT hw a1).mp ⟨a3, a4⟩
    by_cases e : i = k
    · subst e; exact hx a2.symm
    · rw [hno i a1 e] at this; cases this)
  have qs : qq t (some (wh k)) (some (wh k)) = 0 := qq_self hT (ab_ok (hw.2.1 k hk))
  have h8 := h16 k hk
  rw [← vq_vaL]
  show vq (t (wh k) 0) (ws k / 8) hr (frS (ws k) + t (wh k) 2 - 1 - frS (ws k) + 1) ((if ws k / 8 = 0 then 0 else wOf t (whoL (leW t wh ws) N 0 hr)) + (if ws k / 8 = 1 then 0 else wOf t (whoL (leW t wh ws) N 1 hr))) (qOf t (wh k) (whoL (leW t wh ws) N 0 hr) + qOf t (wh k) (whoL (leW t wh ws) N 1 hr) + qOf t (wh k) (whoL (leW t wh ws) N 2 hr)) = _
  rw [show frS (ws k) + t (wh k) 2 - 1 - frS (ws k) + 1 = t (wh k) 2 by omega, oth 2 (by omega)]
  simp only [qOf_qq]
  rcases (show ws k / 8 = 0 ∨ ws k / 8 = 1 by omega) with e | e
  · rw [e] at own oth ⊢
    rw [own, oth 1 (by decide), qs, if_pos rfl, if_neg (by decide), qq_n]
    rfl
  · rw [e] at own oth ⊢
    rw [own, oth 0 (by decide), qs, if_pos rfl, if_neg (by decide), qq_n]
    rfl
theorem see2 (hT : MHt h t) (hw : whOK h wh N) {ws : Nat → Nat} (h16 : ∀ k, k < N → ws k < 16) (hG : ∀ k, k < N → Gk t wh k (ws k)) (hc : noC t wh ws N) {k o hr : Nat} (hk : k < N) (ho : o < N) (hok : o ≠ k) (hi : inS t wh k (ws k) hr = true) (hio : inS t wh o (ws o) hr = true) : vaL t N (leW t wh ws) k hr = vq (t (wh k) 0) (ws k / 8) hr (t (wh k) 2) (t (wh o) 0) (qq t (some (wh k)) (some (wh o))) := by
  have hM := ML4_W hT hw h16 (Nat.le_refl N) hG hc
  have hin := (leW_in hT hw hk).mpr hi
  have hino := (leW_in hT hw ho).mpr hio
  have hst := stay_b hT hw hk
  have own : whoL (leW t wh ws) N (ws k / 8) hr = some (wh k) := who_at hM hk rfl hin.1 hin.2
  have otr : whoL (leW t wh ws) N (ws o / 8) hr = some (wh o) := who_at hM ho rfl hino.1 hino.2
  have h8 := h16 k hk
  have h9 := h16 o ho
  have hne : ws o / 8 ≠ ws k / 8 := fun e => by
    have b1 := inS_iff.mp hi
    have b2 := inS_iff.mp hio
    rcases Nat.lt_or_ge o k with c | c
    · exact hc k o hk c ⟨e, by omega, by omega⟩
    · exact hc o k ho (by omega) ⟨e.symm, by omega, by omega⟩
  have oth : whoL (leW t wh ws) N 2 hr = none := who_none.mpr (fun ⟨i, a1, a2, a3, a4⟩ => by
    have a2' : ws i / 8 = 2 := a2
    have := h16 i a1
    omega)
  have qs : qq t (some (wh k)) (some (wh k)) = 0 := qq_self hT (ab_ok (hw.2.1 k hk))
  rw [← vq_vaL]
  show vq (t (wh k) 0) (ws k / 8) hr (frS (ws k) + t (wh k) 2 - 1 - frS (ws k) + 1) ((if ws k / 8 = 0 then 0 else wOf t (whoL (leW t wh ws) N 0 hr)) + (if ws k / 8 = 1 then 0 else wOf t (whoL (leW t wh ws) N 1 hr))) (qOf t (wh k) (whoL (leW t wh ws) N 0 hr) + qOf t (wh k) (whoL (leW t wh ws) N 1 hr) + qOf t (wh k) (whoL (leW t wh ws) N 2 hr)) = _
  rw [show frS (ws k) + t (wh k) 2 - 1 - frS (ws k) + 1 = t (wh k) 2 by omega, oth]
  simp only [qOf_qq]
  rcases (show ws k / 8 = 0 ∨ ws k / 8 = 1 by omega) with e | e
  · have e2 : ws o / 8 = 1 := by omega
    rw [e] at own ⊢
    rw [e2] at otr
    rw [own, otr, qs, if_pos rfl, if_neg (by decide), qq_n, Nat.zero_add, Nat.zero_add, Nat.add_zero]
    rfl
  · have e2 : ws o / 8 = 0 := by omega
    rw [e] at own ⊢
    rw [e2] at otr
    rw [own, otr, qs, if_pos rfl, if_neg (by decide), qq_n, Nat.add_zero, Nat.add_zero]
    rfl
theorem vld_iff (hT : MHt h t) (hw : whOK h wh N) {ws : Nat → Nat} (h16 : ∀ k, k < N → ws k < 16) : vldW h t ru wh N ws ↔ (∀ k, k < N → fitW h t ru wh N ws k (ws k)) ∧ leafW h t ru wh N ws := by
  constructor
  · rintro ⟨hG, hc, hok⟩
    have hr2 : ∀ {k o hr}, k < N → o < N → o ≠ k → inS t wh k (ws k) hr = true → inS t wh o (ws o) hr = true → ok2 h t ru wh k (ws k) o hr := fun {k o hr} hk ho hok2 hi hio => by
      have hin := (leW_in hT hw hk).mpr hi
      have := hok k hr hk hin.1 hin.2
      rw [see2 hT hw h16 hG hc hk ho hok2 hi hio] at this
      exact this
    have hr1 : leafW h t ru wh N ws := fun k hk hr hi hno => by
      have hin := (leW_in hT hw hk).mpr hi
      have := hok k hr hk hin.1 hin.2
      rw [see1 hT hw h16 hG hc hk hi hno] at this
      exact this
    refine ⟨fun k hk => ⟨⟨hG k hk, fun hr hi => ?_⟩, fun o ho ⟨hr, a1, a2⟩ => ⟨fun e => ?_, fun hr b1 b2 => ⟨hr2 hk (by omega) (by omega) b1 b2, hr2 (by omega) hk (by omega) b2 b1⟩⟩⟩, hr1⟩
    · by_cases c : ∃ o, o < N ∧ o ≠ k ∧ inS t wh o (ws o) hr = true
      · obtain ⟨o, c1, c2, c3⟩ := c
        exact Or.inr ⟨o, c1, c2, hr2 hk c1 c2 hi c3⟩
      · refine Or.inl (hr1 k hk hr hi (fun o o1 o2 => ?_))
        cases hq : inS t wh o (ws o) hr with
        | false => rfl
        | true => exact absurd ⟨o, o1, o2, hq⟩ c
    · have b1 := inS_iff.mp a1
      have b2 := inS_iff.mp a2
      exact hc k o hk ho ⟨e.symm, by omega, by omega⟩
  · rintro ⟨hf, hl⟩
    have hG : ∀ k, k < N → Gk t wh k (ws k) := fun k hk => (hf k hk).1.1
    have hc : noC t wh ws N := fun k j hk hj ⟨e1, e2, e3⟩ => by
      have s1 := stay_b hT hw hk
      have s2 := stay_b hT hw (show j < N by omega)
      refine ((hf k hk).2 j hj ?_).1 e1.symm
      rcases Nat.le_total (frS (ws k)) (frS (ws j)) with c | c
      · exact ⟨frS (ws j), inS_iff.mpr ⟨c, e2⟩, inS_iff.mpr ⟨Nat.le_refl _, by omega⟩⟩
      · exact ⟨frS (ws k), inS_iff.mpr ⟨Nat.le_refl _, by omega⟩, inS_iff.mpr ⟨c, e3⟩⟩
    refine ⟨hG, hc, fun k hr hk a1 a2 => ?_⟩
    have hi := (leW_in hT hw hk).mp ⟨a1, a2⟩
    by_cases c : ∃ o, o < N ∧ o ≠ k ∧ inS t wh o (ws o) hr = true
    · obtain ⟨o, c1, c2, c3⟩ := c
      rw [see2 hT hw h16 hG hc hk c1 c2 hi c3]
      rcases Nat.lt_or_ge o k with q | q
      · exact (((hf k hk).2 o q ⟨hr, hi, c3⟩).2 hr hi c3).1
      · exact (((hf o c1).2 k (by omega) ⟨hr, c3, hi⟩).2 hr c3 hi).2
    · have hno : ∀ o, o < N → o ≠ k → inS t wh o (ws o) hr = false := fun o o1 o2 => by
        cases hq : inS t wh o (ws o) hr with
        | false => rfl
        | true => exact absurd ⟨o, o1, o2, hq⟩ c
      rw [see1 hT hw h16 hG hc hk hi hno]
      exact hl k hk hr hi hno
theorem fit_cong {ws ws2 : Nat → Nat} {k s : Nat} (he : ∀ i, i < k → ws i = ws2 i) (hf : fitW h t ru wh N ws k s) : fitW h t ru wh N ws2 k s := ⟨hf.1, fun o ho hx => by
  have := hf.2 o ho
  rw [he o ho] at this
  exact this hx⟩
end AM
