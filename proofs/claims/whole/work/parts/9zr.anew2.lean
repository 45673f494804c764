/-! ===== housed anew: how slow ===== -/
section AS
variable {h : Nat → Nat} {t : Nat → Nat → Nat} {ru : Nat → List Nat} {wh : Nat → Nat} {N : Nat}
theorem sN_add (f g : Nat → Nat) : ∀ n, sN (fun i => f i + g i) n = sN f n + sN g n
  | 0 => rfl
  | n + 1 => by
    rw [sN, sN, sN, sN_add f g n]
    omega
theorem sN_cong {f g : Nat → Nat} : ∀ {n : Nat}, (∀ i, i < n → f i = g i) → sN f n = sN g n
  | 0, _ => rfl
  | n + 1, he => by rw [sN, sN, sN_cong (fun i hi => he i (by omega)), he n (by omega)]
theorem sN_0 : ∀ n, sN (fun _ => 0) n = 0
  | 0 => rfl
  | n + 1 => by rw [sN, sN_0 n]
theorem sN_mono {f g : Nat → Nat} : ∀ {n : Nat}, (∀ i, i < n → f i ≤ g i) → sN f n ≤ sN g n
  | 0, _ => Nat.le_refl _
  | n + 1, he => by
    have h1 := sN_mono (fun i hi => he i (by omega : i < n + 1)) (n := n)
    have h2 := he n (by omega)
    rw [sN, sN]
    omega
theorem sN_mulr (f : Nat → Nat) (c : Nat) : ∀ n, sN (fun i => f i * c) n = sN f n * c
  | 0 => (Nat.zero_mul c).symm
  | n + 1 => by rw [sN, sN, sN_mulr f c n, Nat.add_mul]
def qW (t : Nat → Nat → Nat) (wh : Nat → Nat) (k o : Nat) : Nat := qq t (some (wh k)) (some (wh o))
/-- what one adds in so many hours, beside those ahead of him -/
def adW (t : Nat → Nat → Nat) (wh : Nat → Nat) (H : Nat) (ws : Nat → Nat) (k s : Nat) : Nat := t (wh k) 0 * fb_ct (inS t wh k s) H + sN (fun o => 3 * qW t wh k o * fb_ct (fun hr => inS t wh k s hr && inS t wh o (ws o) hr) H) k
def pHr (t : Nat → Nat → Nat) (wh : Nat → Nat) (ws : Nat → Nat) (hr k : Nat) : Nat := if inS t wh k (ws k) hr = true then t (wh k) 0 + sN (fun o => if inS t wh o (ws o) hr = true then 3 * qW t wh k o else 0) k else 0
theorem ad_step (ws : Nat → Nat) (H k : Nat) : adW t wh (H + 1) ws k (ws k) = adW t wh H ws k (ws k) + pHr t wh ws H k := by
  unfold adW pHr
  rw [fb_ct_succ]
  cases hi : inS t wh k (ws k) H with
  | false =>
    rw [if_neg (by decide), if_neg (by decide), Nat.add_zero]
    show _ = t (wh k) 0 * fb_ct (inS t wh k (ws k)) H + sN _ k
    congr 1
    apply sN_cong
    intro o _
    rw [fb_ct_succ, hi, Bool.false_and, if_neg (by decide), Nat.add_zero]
  | true =>
    rw [if_pos rfl, if_pos rfl, Nat.mul_add, Nat.mul_one]
    have : sN (fun o => 3 * qW t wh k o * fb_ct (fun hr => inS t wh k (ws k) hr && inS t wh o (ws o) hr) (H + 1)) k = sN (fun o => 3 * qW t wh k o * fb_ct (fun hr => inS t wh k (ws k) hr && inS t wh o (ws o) hr) H) k + sN (fun o => if inS t wh o (ws o) H = true then 3 * qW t wh k o else 0) k := by
      rw [← sN_add]
      apply sN_cong
      intro o _
      show _ = _ + (if inS t wh o (ws o) H = true then 3 * qW t wh k o else 0)
      rw [fb_ct_succ, hi, Bool.true_and, Nat.mul_add]
      split <;> simp
    rw [this]
    omega
theorem ad_all (ws : Nat → Nat) (n : Nat) : ∀ H, sN (fun k => adW t wh H ws k (ws k)) n = sN (fun hr => sN (pHr t wh ws hr) n) H
  | 0 => by
    rw [sN]
    rw [sN_cong (g := fun _ => 0) (fun k _ => ?_), sN_0]
    unfold adW
    rw [sN_cong (f := fun o => 3 * qW t wh k o * fb_ct (fun hr => inS t wh k (ws k) hr && inS t wh o (ws o) hr) 0) (g := fun _ => 0) (fun o _ => Nat.mul_zero _), sN_0]
    rfl
  | H + 1 => by
    rw [sN, ← ad_all ws n H, ← sN_add]
    exact sN_cong (fun k _ => ad_step ws H k)
theorem qq_l (t : Nat → Nat → Nat) (a : Option Nat) : qq t none a = 0 := by cases a <;> rfl
theorem who_s {le : Nat → Nat → Nat} (n x hr : Nat) : whoL le (n + 1) x hr = (match whoL le n x hr with
    | some a => some a
    | none => if covL le x hr n = true then some (le n 0) else none) := by
  unfold whoL
  rw [occ_succ]
  cases occL le n x hr with
  | some j => rfl
  | none =>
    show Option.map _ (if covL le x hr n = true then some n else none) = (if covL le x hr n = true then some (le n 0) else none)
    split <;> rfl
/-- one more who is housed, in an hour -/
theorem who_more (hT : MHt h t) (hw : whOK h wh N) {ws : Nat → Nat} (h16 : ∀ k, k < N → ws k < 16) (hG : ∀ k, k < N → Gk t wh k (ws k)) (hc : noC t wh ws N) {n hr : Nat} (hn : n < N) : (inS t wh n (ws n) hr = false → ∀ x, whoL (leW t wh ws) (n + 1) x hr = whoL (leW t wh ws) n x hr) ∧ (inS t wh n (ws n) hr = true → whoL (leW t wh ws) n (ws n / 8) hr = none ∧ whoL (leW t wh ws) (n + 1) (ws n / 8) hr = some (wh n) ∧ ∀ x, x ≠ ws n / 8 → whoL (leW t wh ws) (n + 1) x hr = whoL (leW t wh ws) n x hr) := by
  have cv : ∀ x, covL (leW t wh ws) x hr n = true ↔ (ws n / 8 = x ∧ inS t wh n (ws n) hr = true) := fun x => by
    unfold covL
    rw [decide_eq_true_iff, leW_in hT hw hn]
    rfl
  constructor
  · intro hi x
    rw [who_s]
    cases whoL (leW t wh ws) n x hr with
    | some a => rfl
    | none =>
      rw [if_neg (fun z => by have := ((cv x).mp z).2; rw [hi] at this; cases this)]
  · intro hi
    have e0 : whoL (leW t wh ws) n (ws n / 8) hr = none := who_none.mpr (fun ⟨i, a1, a2, a3, a4⟩ => by
      have b1 := inS_iff.mp ((leW_in hT hw (show i < N by omega)).mp ⟨a3, a4⟩)
      have b2 := inS_iff.mp hi
      exact hc n i hn a1 ⟨a2, by omega, by omega⟩)
    refine ⟨e0, ?_, fun x hx => ?_⟩
    · rw [who_s, e0]
      show (if covL (leW t wh ws) (ws n / 8) hr n = true then _ else _) = _
      rw [if_pos ((cv _).mpr ⟨rfl, hi⟩)]
      rfl
    · rw [who_s]
      cases whoL (leW t wh ws) n x hr with
      | some a => rfl
      | none => rw [if_neg (fun z => hx ((cv x).mp z).1.symm)]
theorem qsum (hT : MHt h t) (hw : whOK h wh N) {ws : Nat → Nat} (h16 : ∀ k, k < N → ws k < 16) (hG : ∀ k, k < N → Gk t wh k (ws k)) (hc : noC t wh ws N) (hr : Nat) (a : Option Nat) : ∀ n, n ≤ N → sN (fun o => if inS t wh o (ws o) hr = true then 3 * qq t a (some (wh o)) else 0) n = 3 * (qq t a (whoL (leW t wh ws) n 0 hr) + qq t a (whoL (leW t wh ws) n 1 hr))
  | 0, _ => by
    rw [show whoL (leW t wh ws) 0 0 hr = none from rfl, show whoL (leW t wh ws) 0 1 hr = none from rfl, qq_n]
    rfl
  | n + 1, hn => by
    have ih := qsum hT hw h16 hG hc hr a n (by omega)
    obtain ⟨w0, w1⟩ := who_more hT hw h16 hG hc (hr := hr) (show n < N by omega)
    have h8 := h16 n (by omega)
    rw [sN, ih]
    cases hi : inS t wh n (ws n) hr with
    | false =>
      rw [if_neg (by decide), w0 hi 0, w0 hi 1, Nat.add_zero]
    | true =>
      obtain ⟨e0, e1, e2⟩ := w1 hi
      rw [if_pos rfl]
      rcases (show ws n / 8 = 0 ∨ ws n / 8 = 1 by omega) with e | e
      · rw [e] at e0 e1 e2
        rw [e1, e0, e2 1 (by decide), qq_n]
        omega
      · rw [e] at e0 e1 e2
        rw [e1, e0, e2 0 (by decide), qq_n]
        omega
theorem pHr_sum (hT : MHt h t) (hw : whOK h wh N) {ws : Nat → Nat} (h16 : ∀ k, k < N → ws k < 16) (hG : ∀ k, k < N → Gk t wh k (ws k)) (hc : noC t wh ws N) (hr : Nat) : ∀ n, n ≤ N → sN (pHr t wh ws hr) n = wOf t (whoL (leW t wh ws) n 0 hr) + wOf t (whoL (leW t wh ws) n 1 hr) + 3 * qq t (whoL (leW t wh ws) n 0 hr) (whoL (leW t wh ws) n 1 hr)
  | 0, _ => by
    rw [show whoL (leW t wh ws) 0 0 hr = none from rfl, show whoL (leW t wh ws) 0 1 hr = none from rfl, qq_n]
    rfl
  | n + 1, hn => by
    have ih := pHr_sum hT hw h16 hG hc hr n (by omega)
    have hM := ML4_W hT hw h16 (show n ≤ N by omega) (fun k hk => hG k (by omega)) (fun k j hk hj => hc k j (by omega) hj)
    obtain ⟨w0, w1⟩ := who_more hT hw h16 hG hc (hr := hr) (show n < N by omega)
    have h8 := h16 n (by omega)
    rw [sN, ih]
    unfold pHr
    cases hi : inS t wh n (ws n) hr with
    | false =>
      rw [if_neg (by decide), w0 hi 0, w0 hi 1, Nat.add_zero]
    | true =>
      obtain ⟨e0, e1, e2⟩ := w1 hi
      have qs := qsum hT hw h16 hG hc hr (some (wh n)) n (by omega)
      rw [if_pos rfl]
      unfold qW
      rw [qs]
      rcases (show ws n / 8 = 0 ∨ ws n / 8 = 1 by omega) with e | e
      · rw [e] at e0 e1 e2
        rw [e1, e0, e2 1 (by decide), qq_n, qq_l]
        show 0 + wOf t (whoL (leW t wh ws) n 1 hr) + 3 * 0 + (t (wh n) 0 + 3 * (0 + qq t (some (wh n)) (whoL (leW t wh ws) n 1 hr))) = t (wh n) 0 + wOf t (whoL (leW t wh ws) n 1 hr) + 3 * qq t (some (wh n)) (whoL (leW t wh ws) n 1 hr)
        omega
      · rw [e] at e0 e1 e2
        rw [e1, e0, e2 0 (by decide), qq_n, qq_n, qq_sym hT (a := some (wh n)) (ab_ok (hw.2.1 n (by omega))) (who_ok4 hM 0 hr)]
        show wOf t (whoL (leW t wh ws) n 0 hr) + 0 + 3 * 0 + (t (wh n) 0 + 3 * (qq t (whoL (leW t wh ws) n 0 hr) (some (wh n)) + 0)) = wOf t (whoL (leW t wh ws) n 0 hr) + t (wh n) 0 + 3 * qq t (whoL (leW t wh ws) n 0 hr) (some (wh n))
        omega
theorem sN_front (A : Nat → Nat) (i : Nat) : ∀ k, sN (fun q => A (i + q)) (k + 1) = A i + sN (fun q => A (i + 1 + q)) k
  | 0 => by simp [sN]
  | k + 1 => by
    rw [sN, sN_front A i k, sN, show i + (k + 1) = i + 1 + k by omega]
    omega
theorem sgI_n (A : Nat → Nat) : ∀ (k i : Nat), sgI A i k = ((sN (fun q => A (i + q)) k : Nat) : Int) - 60 * (k : Int)
  | 0, i => rfl
  | k + 1, i => by
    rw [sgI, sgI_n A k (i + 1)]
    have e := sN_front A i k
    rw [e]
    omega
/-- slow of a way -/
def slW (h : Nat → Nat) (t : Nat → Nat → Nat) (wh : Nat → Nat) (oil : Nat) (ws : Nat → Nat) (n : Nat) : Int := 12 * (2 * (h 0 : Int) - (oil : Int) - 60) + ((sN (fun k => adW t wh 12 ws k (ws k)) n : Nat) : Int)
theorem slow_W (hs : MHs h) (hT : MHt h t) (hw : whOK h wh N) {ws : Nat → Nat} (h16 : ∀ k, k < N → ws k < 16) (hG : ∀ k, k < N → Gk t wh k (ws k)) (hc : noC t wh ws N) {oil : Nat} (ho : oil ≤ 30) : slF (fun hr => nI (swH h t N (leW t wh ws) none hr oil)) 0 12 0 = zI (slW h t wh oil ws N) := by
  have hM := ML4_W hT hw h16 (Nat.le_refl N) hG hc
  have e : ∀ hr, swH h t N (leW t wh ws) none hr oil = (2 * h 0 + sN (pHr t wh ws hr) N) - oil := fun hr => by
    have w2 : whoL (leW t wh ws) N 2 hr = none := who_none.mpr (fun ⟨i, a1, a2, a3, a4⟩ => by
      have a2' : ws i / 8 = 2 := a2
      have := h16 i a1
      omega)
    unfold swH swV
    rw [pres_none, pres_none, pres_none, w2, pHr_sum hT hw h16 hG hc hr N (Nat.le_refl _), qq_n, qq_n]
    show 2 * h 0 + (wOf t (whoL (leW t wh ws) N 0 hr) + wOf t (whoL (leW t wh ws) N 1 hr) + 0) + 3 * (qq t (whoL (leW t wh ws) N 0 hr) (whoL (leW t wh ws) N 1 hr) + 0 + 0) - oil = _
    congr 1
    omega
  have h0 := hs.1
  rw [show (fun hr => nI (swH h t N (leW t wh ws) none hr oil)) = (fun hr => nI ((2 * h 0 + sN (pHr t wh ws hr) N) - oil)) from funext (fun hr => by rw [e hr]), show (0 : Int32) = zI 0 from by decide, slF_z (A := fun hr => 2 * h 0 + sN (pHr t wh ws hr) N) (fun i => by show oil ≤ 2 * h 0 + _; omega), sgI_n]
  congr 1
  unfold slW
  rw [ad_all ws N 12, show (fun q => 2 * h 0 + sN (pHr t wh ws (0 + q)) N) = (fun q => (fun _ => 2 * h 0) q + (fun q => sN (pHr t wh ws q) N) q) from funext (fun q => by rw [Nat.zero_add]), sN_add]
  have c : sN (fun _ => 2 * h 0) 12 = 12 * (2 * h 0) := by simp [sN]; omega
  rw [c]
  omega
theorem ct_ivl (f y : Nat) : ∀ n, fb_ct (fun x => decide (f ≤ x ∧ x < f + y)) n ≤ y ∧ (n ≤ f → fb_ct (fun x => decide (f ≤ x ∧ x < f + y)) n = 0) ∧ (f ≤ n → fb_ct (fun x => decide (f ≤ x ∧ x < f + y)) n ≤ n - f)
  | 0 => ⟨Nat.zero_le _, fun _ => rfl, fun _ => Nat.zero_le _⟩
  | n + 1 => by
    obtain ⟨h1, h2, h3⟩ := ct_ivl f y n
    rw [fb_ct_succ]
    by_cases c : f ≤ n ∧ n < f + y
    · rw [decide_eq_true c, if_pos rfl]
      have := h3 c.1
      exact ⟨by omega, fun z => by omega, fun z => by omega⟩
    · rw [decide_eq_false c, if_neg (by decide), Nat.add_zero]
      refine ⟨h1, fun z => h2 (by omega), fun z => ?_⟩
      by_cases e : f ≤ n
      · have := h3 e; omega
      · rw [h2 (by omega)]; omega
def mstW (t : Nat → Nat → Nat) (wh : Nat → Nat) (k : Nat) : Nat := t (wh k) 0 + sN (fun o => 3 * qW t wh k o) k
theorem ad_le (ws : Nat → Nat) (k s : Nat) : adW t wh 12 ws k s ≤ mstW t wh k * t (wh k) 2 := by
  have c1 : fb_ct (inS t wh k s) 12 ≤ t (wh k) 2 := (ct_ivl (frS s) (t (wh k) 2) 12).1
  unfold adW mstW
  rw [Nat.add_mul, ← sN_mulr]
  refine Nat.add_le_add (Nat.mul_le_mul_left _ c1) (sN_mono (fun o _ => Nat.mul_le_mul_left _ (Nat.le_trans (fb_ct_sub (fun hr _ hp => ?_)) c1)))
  rw [Bool.and_eq_true] at hp
  exact hp.1
theorem ad_cong {ws ws2 : Nat → Nat} {H k s : Nat} (he : ∀ i, i < k → ws i = ws2 i) : adW t wh H ws k s = adW t wh H ws2 k s := by
  unfold adW
  congr 1
  exact sN_cong (fun o ho => by rw [he o ho])
/-- what all behind can add -/
def mbW (t : Nat → Nat → Nat) (wh : Nat → Nat) (k : Nat) : Nat → Nat
  | 0 => 0
  | j + 1 => mbW t wh (k + 1) j + mstW t wh k * t (wh k) 2
theorem sl_more (oil : Nat) (ws : Nat → Nat) : ∀ (j k : Nat), slW h t wh oil ws k ≤ slW h t wh oil ws (k + j) ∧ slW h t wh oil ws (k + j) ≤ slW h t wh oil ws k + ((mbW t wh k j : Nat) : Int)
  | 0, k => ⟨Int.le_refl _, by rw [mbW, Nat.add_zero]; omega⟩
  | j + 1, k => by
    obtain ⟨h1, h2⟩ := sl_more oil ws j (k + 1)
    have e : slW h t wh oil ws (k + 1) = slW h t wh oil ws k + ((adW t wh 12 ws k (ws k) : Nat) : Int) := by
      unfold slW
      rw [sN]
      omega
    have a := ad_le (t := t) (wh := wh) ws k (ws k)
    rw [show k + (j + 1) = k + 1 + j by omega, mbW]
    constructor <;> omega
theorem sl_cong {ws ws2 : Nat → Nat} {oil k : Nat} (he : ∀ i, i < k → ws i = ws2 i) : slW h t wh oil ws k = slW h t wh oil ws2 k := by
  unfold slW
  rw [sN_cong (fun i hi => ?_)]
  rw [he i hi]
  exact ad_cong (fun q hq => he q (by omega))
theorem mst_b (hT : MHt h t) (hw : whOK h wh N) {k : Nat} (hk : k < N) : mstW t wh k ≤ 29 := by
  have h1 := (hT (wh k) (hw.2.1 k hk)).1.1
  have h2 : sN (fun o => 3 * qW t wh k o) k ≤ k * 3 := sN_le (fun o _ => by unfold qW; have := qq_le t (some (wh k)) (some (wh o)); omega)
  have := hw.1
  unfold mstW
  omega
theorem mb_b (hT : MHt h t) (hw : whOK h wh N) : ∀ (j k : Nat), k + j ≤ N → mbW t wh k j ≤ 348 * j
  | 0, _, _ => Nat.le_refl _
  | j + 1, k, hk => by
    have h1 := mb_b hT hw j (k + 1) (by omega)
    have h2 := mst_b hT hw (show k < N by omega)
    have h3 := (stay_b hT hw (show k < N by omega)).2
    have h4 : mstW t wh k * t (wh k) 2 ≤ 29 * 12 := Nat.mul_le_mul h2 h3
    rw [mbW]
    omega
theorem sl_b (hs : MHs h) (hT : MHt h t) (hw : whOK h wh N) {oil : Nat} (ho : oil ≤ 30) (ws : Nat → Nat) {k : Nat} (hk : k ≤ N) : -600 ≤ slW h t wh oil ws k ∧ slW h t wh oil ws k ≤ 3000 := by
  obtain ⟨h1, h2⟩ := sl_more (h := h) (t := t) (wh := wh) oil ws k 0
  have h3 := mb_b hT hw k 0 (by omega)
  have h4 := hw.1
  have h5 := hs.1
  rw [Nat.zero_add] at h1 h2
  have e : slW h t wh oil ws 0 = 12 * (2 * (h 0 : Int) - (oil : Int) - 60) := by
    unfold slW
    rw [sN]
    omega
  constructor <;> omega
end AS
