/-! ===== a text: letters, digits, where a token ends ===== -/
def isLt (c : Nat) : Bool := decide (97 ≤ c ∧ c ≤ 122)
def isDg (c : Nat) : Bool := decide (48 ≤ c ∧ c ≤ 57)
def isBl (c : Nat) : Bool := decide (c = 32 ∨ c = 10)
def isSg (c : Nat) : Bool := decide (c = 59 ∨ c = 40 ∨ c = 41 ∨ c = 43 ∨ c = 45 ∨ c = 42 ∨ c = 47 ∨ c = 60 ∨ c = 61)
theorem sb_L : ∀ x, x < 256 → ((sb x < 97 ∨ 122 < sb x) ↔ isLt x = false) := by decide +kernel
theorem sb_D : ∀ x, x < 256 → ((sb x < 48 ∨ 57 < sb x) ↔ isDg x = false) := by decide +kernel
theorem sb_32 : ∀ x, x < 256 → ((sb x = 32) ↔ x = 32) := by decide +kernel
theorem sb_10 : ∀ x, x < 256 → ((sb x = 10) ↔ x = 10) := by decide +kernel
theorem sb_lo : ∀ x, x < 128 → sb x = nI x := by decide +kernel
theorem sb_ch : ∀ x, x < 256 → ∀ c, c < 128 → ((nI c = sb x) ↔ c = x) := by decide +kernel
theorem sb_hi : ∀ x, x < 256 → ((sb x ≤ 0) ↔ (x = 0 ∨ 128 ≤ x)) := by decide +kernel
section TX
variable (tx : Nat → Nat) (n : Nat)
/-- the first place from p on where P doesn't hold, or the end -/
def fsE (P : Nat → Bool) (p : Nat) : Nat := (fst1 (fun i => !P (tx i)) p (n - p)).getD n
def tkE (p : Nat) : Nat := if isLt (tx p) = true then fsE tx n isLt (p + 1) else if isDg (tx p) = true then fsE tx n isDg (p + 1) else p + 1
def dgV (p : Nat) : Nat → Nat
  | 0 => 0
  | k + 1 => 10 * dgV p k + (tx (p + k) - 48)
end TX
section TY
variable {tx : Nat → Nat} {n : Nat} {P : Nat → Bool}
theorem fsE_t {p : Nat} (hp : p < n) (h : P (tx p) = true) : fsE tx n P p = fsE tx n P (p + 1) := by
  unfold fsE
  rw [show n - p = (n - (p + 1)) + 1 by omega, fst1, if_neg (by rw [h]; decide)]
theorem fsE_f {p : Nat} (hp : p < n) (h : P (tx p) = false) : fsE tx n P p = p := by
  unfold fsE
  rw [show n - p = (n - (p + 1)) + 1 by omega, fst1, if_pos (by rw [h]; rfl)]
  rfl
theorem fsE_n : fsE tx n P n = n := by
  unfold fsE
  rw [Nat.sub_self]
  rfl
theorem fsE_b {p : Nat} (hp : p ≤ n) : p ≤ fsE tx n P p ∧ fsE tx n P p ≤ n := by
  unfold fsE
  cases h : fst1 (fun i => !P (tx i)) p (n - p) with
  | none => exact ⟨hp, Nat.le_refl _⟩
  | some q =>
    obtain ⟨h1, h2, -⟩ := fst1_some.mp h
    exact ⟨h1, by show q ≤ n; omega⟩
theorem fsE_all {p q : Nat} (h1 : p ≤ q) (h2 : q < fsE tx n P p) : P (tx q) = true := by
  unfold fsE at h2
  cases h : fst1 (fun i => !P (tx i)) p (n - p) with
  | none =>
    rw [h] at h2
    have h2' : q < n := h2
    have := fst1_none.mp h q h1 (by omega)
    simpa using this
  | some r =>
    rw [h] at h2
    have h2' : q < r := h2
    obtain ⟨-, -, -, h3⟩ := fst1_some.mp h
    have := h3 q h1 h2'
    simpa using this
theorem fsE_end {p : Nat} (hp : p ≤ n) (h : fsE tx n P p < n) : P (tx (fsE tx n P p)) = false := by
  unfold fsE at h ⊢
  cases h2 : fst1 (fun i => !P (tx i)) p (n - p) with
  | none => rw [h2] at h; exact absurd h (Nat.lt_irrefl _)
  | some q =>
    obtain ⟨-, -, h3, -⟩ := fst1_some.mp h2
    simpa using h3
theorem tkE_b {p : Nat} (hp : p < n) : p < tkE tx n p ∧ tkE tx n p ≤ n := by
  unfold tkE
  have h1 := fsE_b (tx := tx) (P := isLt) (show p + 1 ≤ n by omega)
  have h2 := fsE_b (tx := tx) (P := isDg) (show p + 1 ≤ n by omega)
  split
  · omega
  · split <;> omega
theorem lt_dg {c : Nat} (h : isLt c = true) : isDg c = false := by
  unfold isLt at h
  unfold isDg
  rw [decide_eq_true_iff] at h
  rw [decide_eq_false_iff_not]
  omega
variable {S : Nat → Int32} {V : Nat → Nat → Int32}
/-- the class's copy of the text -/
def Tx (tx : Nat → Nat) (n : Nat) (v : Nat → Int32) : Prop := n ≤ 600 ∧ ∀ i, i < n → tx i < 256 ∧ v i = sb (tx i)
theorem letC (hx : Tx tx n (V 21)) {p : Nat} (hp : p < n) : fX10_isLetter_20 V (nI p) = some (bI (isLt (tx p))) := by
  obtain ⟨h6, hv⟩ := hx
  obtain ⟨h1, h2⟩ := hv p hp
  have hb := sb_L (tx p) h1
  unfold fX10_isLetter_20
  rw [gd_n p 600 (by omega) (by decide), gd_n p 600 (by omega) (by decide), nI_cl p (by omega), h2]
  by_cases c1 : sb (tx p) < 97
  · rw [if_pos c1, hb.mp (Or.inl c1)]; rfl
  · rw [if_neg c1]
    by_cases c2 : 122 < sb (tx p)
    · rw [if_pos c2, hb.mp (Or.inr c2)]; rfl
    · rw [if_neg c2]
      cases hl : isLt (tx p) with
      | true => rfl
      | false => exact absurd (hb.mpr hl) (fun z => z.elim c1 c2)
theorem digC (hx : Tx tx n (V 21)) {p : Nat} (hp : p < n) : fX10_isDigit_20 V (nI p) = some (bI (isDg (tx p))) := by
  obtain ⟨h6, hv⟩ := hx
  obtain ⟨h1, h2⟩ := hv p hp
  have hb := sb_D (tx p) h1
  unfold fX10_isDigit_20
  rw [gd_n p 600 (by omega) (by decide), gd_n p 600 (by omega) (by decide), nI_cl p (by omega), h2]
  by_cases c1 : sb (tx p) < 48
  · rw [if_pos c1, hb.mp (Or.inl c1)]; rfl
  · rw [if_neg c1]
    by_cases c2 : 57 < sb (tx p)
    · rw [if_pos c2, hb.mp (Or.inr c2)]; rfl
    · rw [if_neg c2]
      cases hl : isDg (tx p) with
      | true => rfl
      | false => exact absurd (hb.mpr hl) (fun z => z.elim c1 c2)
theorem eot12 (hx : Tx tx n (V 21)) (hS : S 2001 = nI n) : ∀ (j p f : Nat), p + j = n → j < f → fX10_endOfToken_20_L12 S V f (nI p) = some (nI (fsE tx n isLt p)) := by
  have h6 := hx.1
  intro j
  induction j with
  | zero =>
    intro p f c1 c2
    obtain ⟨f, rfl⟩ : ∃ z, f = z + 1 := ⟨f - 1, by omega⟩
    have : p = n := by omega
    subst this
    rw [fX10_endOfToken_20_L12, hS, if_pos (nI_le (Nat.le_refl _) (by omega)), fsE_n]
  | succ j ih =>
    intro p f c1 c2
    obtain ⟨f, rfl⟩ : ∃ z, f = z + 1 := ⟨f - 1, by omega⟩
    rw [fX10_endOfToken_20_L12, hS, if_neg (nI_ge (a := p) (b := n) (by omega) (by omega)), letC hx (by omega), bd1_s]
    simp only [lt_e, nI_1]
    cases hl : isLt (tx p) with
    | true => rw [if_neg (by decide), ih (p + 1) f (by omega) (by omega), fsE_t (by omega) hl]
    | false => rw [if_pos (show bI false = 0 from rfl), fsE_f (by omega) hl]
theorem eot42 (hx : Tx tx n (V 21)) (hS : S 2001 = nI n) : ∀ (j p f : Nat), p + j = n → j < f → fX10_endOfToken_20_L42 S V f (nI p) = some (nI (fsE tx n isDg p)) := by
  have h6 := hx.1
  intro j
  induction j with
  | zero =>
    intro p f c1 c2
    obtain ⟨f, rfl⟩ : ∃ z, f = z + 1 := ⟨f - 1, by omega⟩
    have : p = n := by omega
    subst this
    rw [fX10_endOfToken_20_L42, hS, if_pos (nI_le (Nat.le_refl _) (by omega)), fsE_n]
  | succ j ih =>
    intro p f c1 c2
    obtain ⟨f, rfl⟩ : ∃ z, f = z + 1 := ⟨f - 1, by omega⟩
    rw [fX10_endOfToken_20_L42, hS, if_neg (nI_ge (a := p) (b := n) (by omega) (by omega)), digC hx (by omega), bd1_s]
    simp only [lt_e, nI_1]
    cases hl : isDg (tx p) with
    | true => rw [if_neg (by decide), ih (p + 1) f (by omega) (by omega), fsE_t (by omega) hl]
    | false => rw [if_pos (show bI false = 0 from rfl), fsE_f (by omega) hl]
theorem eotC (hx : Tx tx n (V 21)) (hS : S 2001 = nI n) {p : Nat} (hp : p < n) : fX10_endOfToken_20 S V (nI p) = some (nI (tkE tx n p)) := by
  have h6 := hx.1
  unfold fX10_endOfToken_20 tkE
  simp only [lt_e, nI_1]
  rw [letC hx hp, bd1_s]
  cases hl : isLt (tx p) with
  | true => rw [if_neg (by decide), if_pos rfl, eot12 hx hS (n - (p + 1)) (p + 1) FU (by omega) (by unfold FU; omega)]
  | false =>
    rw [if_pos (show bI false = 0 from rfl), if_neg (by decide), digC hx hp, bd1_s]
    cases hd : isDg (tx p) with
    | true => rw [if_neg (by decide), if_pos rfl, eot42 hx hS (n - (p + 1)) (p + 1) FU (by omega) (by unfold FU; omega)]
    | false => rw [if_pos (show bI false = 0 from rfl), if_neg (by decide)]
theorem dgV_b (p : Nat) : ∀ k, (∀ i, i < k → isDg (tx (p + i)) = true) → dgV tx p k < 10 ^ k
  | 0, _ => by simp [dgV]
  | k + 1, h => by
    have h1 := dgV_b p k (fun i hi => h i (by omega))
    have h2 := h k (by omega)
    unfold isDg at h2
    rw [decide_eq_true_iff] at h2
    rw [dgV, Nat.pow_succ]
    omega
theorem numL (hx : Tx tx n (V 21)) {p e : Nat} (he : e ≤ n) (hd : ∀ i, p ≤ i → i < e → isDg (tx i) = true) : ∀ (j k f : Nat), p + k + j = e → j < f → fX10_numberOf_20_L14 V f (nI e) (nI (dgV tx p k)) (nI (p + k)) = some (nI (dgV tx p (e - p))) := by
  have h6 := hx.1
  intro j
  induction j with
  | zero =>
    intro k f c1 c2
    obtain ⟨f, rfl⟩ : ∃ z, f = z + 1 := ⟨f - 1, by omega⟩
    rw [fX10_numberOf_20_L14, if_pos (nI_le (by omega) (by omega)), show e - p = k by omega]
  | succ j ih =>
    intro k f c1 c2
    obtain ⟨f, rfl⟩ : ∃ z, f = z + 1 := ⟨f - 1, by omega⟩
    obtain ⟨t1, t2⟩ := hx.2 (p + k) (by omega)
    have t3 := hd (p + k) (by omega) (by omega)
    unfold isDg at t3
    rw [decide_eq_true_iff] at t3
    have ihn := ih (k + 1) f (by omega) (by omega)
    rw [dgV] at ihn
    rw [fX10_numberOf_20_L14, if_neg (nI_ge (a := p + k) (b := e) (by omega) (by omega)), gd_n (p + k) 600 (by omega) (by decide), nI_cl (p + k) (by omega), t2, sb_lo _ (by omega)]
    simp only [lt_e, nI_1]
    rw [show (10 : Int32) = nI 10 from rfl, show (48 : Int32) = nI 48 from rfl, nI_mul, nI_add, nI_sub (by omega), show dgV tx p k * 10 + tx (p + k) - 48 = 10 * dgV tx p k + (tx (p + k) - 48) by omega]
    exact ihn
def nmI (tx : Nat → Nat) (n p : Nat) : Int32 := if tkE tx n p - p ≤ 4 then nI (dgV tx p (tkE tx n p - p)) else -1
theorem tk_dg {p : Nat} (hp : p < n) (hd : isDg (tx p) = true) : ∀ i, p ≤ i → i < tkE tx n p → isDg (tx i) = true := fun i h1 h2 => by
  have hl : ¬ isLt (tx p) = true := fun z => by rw [lt_dg z] at hd; cases hd
  unfold tkE at h2
  rw [if_neg hl, if_pos hd] at h2
  by_cases e : i = p
  · subst e; exact hd
  · exact fsE_all (by omega) h2
theorem tk_lt {p : Nat} (hp : p < n) (hd : isLt (tx p) = true) : ∀ i, p ≤ i → i < tkE tx n p → isLt (tx i) = true := fun i h1 h2 => by
  unfold tkE at h2
  rw [if_pos hd] at h2
  by_cases e : i = p
  · subst e; exact hd
  · exact fsE_all (by omega) h2
theorem numC (hx : Tx tx n (V 21)) {p : Nat} (hp : p < n) (hd : isDg (tx p) = true) : fX10_numberOf_20 V (nI p) (nI (tkE tx n p)) = some (nmI tx n p) := by
  have h6 := hx.1
  have hb := tkE_b (tx := tx) hp
  unfold fX10_numberOf_20 nmI
  rw [nI_sub (by omega)]
  by_cases c : tkE tx n p - p ≤ 4
  · rw [if_pos (show nI (tkE tx n p - p) ≤ 4 from nI_le (a := tkE tx n p - p) (b := 4) c (by decide)), if_pos c]
    exact numL hx hb.2 (tk_dg hp hd) (tkE tx n p - p) 0 FU (by omega) (by unfold FU; omega)
  · rw [if_neg (show ¬ nI (tkE tx n p - p) ≤ 4 from nI_ge (a := 4) (b := tkE tx n p - p) (by omega) (by omega)), if_neg c]
end TY
