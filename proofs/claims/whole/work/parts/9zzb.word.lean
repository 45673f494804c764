/-! ===== words ===== -/
def cWl : List Nat := [98, 97, 115, 101, 32, 111, 105, 108, 32, 115, 116, 111, 112, 32, 116, 101, 110, 97, 110, 116, 32, 113, 117, 97, 114, 114, 101, 108, 32, 114, 117, 108, 101, 32, 108, 101, 102, 116, 32, 114, 105, 103, 104, 116, 32, 98, 111, 116, 104, 32, 111, 114, 32, 97, 110, 100, 32, 110, 111, 116, 32, 119, 101, 105, 103, 104, 116, 32, 104, 97, 108, 102, 32, 104, 111, 117, 114, 32, 104, 111, 117, 114, 115, 32, 111, 116, 104, 101, 114, 32, 113, 117, 97, 114, 114, 101, 108, 115, 32]
def cW (i : Nat) : Nat := cWl.getD i 0
def wS (j : Nat) : Nat := ([0, 5, 9, 14, 21, 29, 34, 39, 45, 50, 53, 57, 61, 68, 73, 78, 84, 90, 99] : List Nat).getD j 0
def wLn (j : Nat) : Nat := ([4, 3, 4, 6, 7, 4, 4, 5, 4, 2, 3, 3, 6, 4, 4, 5, 5, 8] : List Nat).getD j 0
theorem cW_at : ∀ i, i < 99 → fJ0_charAt_5068e_s1 (nI i) = some (nI (cW i)) := by decide +kernel
theorem cW_len : fJ0_length_8abf5_s1 = some 99 := by decide +kernel
theorem cW_lt : ∀ i, i < 99 → cW i < 128 := by decide +kernel
theorem wS_in : ∀ j, j < 18 → wS j + wLn j < 99 ∧ wS (j + 1) = wS j + wLn j + 1 ∧ cW (wS j + wLn j) = 32 := by decide +kernel
theorem wS_let : ∀ j, j < 18 → ∀ k, k < wLn j → (97 ≤ cW (wS j + k) ∧ cW (wS j + k) ≤ 122) := by decide +kernel
theorem wS_two : ∀ j, j < 18 → ∀ k, k < 18 → (wLn j = wLn k ∧ ∀ i, i < wLn j → cW (wS j + i) = cW (wS k + i)) → j = k := by decide +kernel
section WD
variable (tx : Nat → Nat) (p e : Nat)
/-- is it the word j -/
def wEq (j : Nat) : Bool := decide (wLn j = e - p ∧ ∀ i, i < wLn j → cW (wS j + i) = tx (p + i))
def kdW : Nat := match fst1 (wEq tx p e) 0 18 with
  | some j => 101 + j
  | none => 100
end WD
section WE
variable {tx : Nat → Nat} {n : Nat} {V : Nat → Nat → Int32} {p e : Nat}
theorem wAt (hx : Tx tx n (V 21)) (he : e ≤ n) {s : Nat} (hs : s + (e - p) ≤ 99) : ∀ (j k f : Nat), p + k + j = e → j < f → fX10_isWordAt_20_L3 V f (nI s) (nI p) (nI e) (nI (p + k)) = some (bI (decide (∀ i, i < e - p → k ≤ i → cW (s + i) = tx (p + i)))) := by
  have h6 := hx.1
  intro j
  induction j with
  | zero =>
    intro k f c1 c2
    obtain ⟨f, rfl⟩ : ∃ z, f = z + 1 := ⟨f - 1, by omega⟩
    rw [fX10_isWordAt_20_L3, if_pos (nI_le (by omega) (by omega)), decide_eq_true (fun i h1 h2 => by omega)]
    rfl
  | succ j ih =>
    intro k f c1 c2
    obtain ⟨f, rfl⟩ : ∃ z, f = z + 1 := ⟨f - 1, by omega⟩
    obtain ⟨t1, t2⟩ := hx.2 (p + k) (by omega)
    have ihn := ih (k + 1) f (by omega) (by omega)
    have hc := sb_ch (tx (p + k)) t1 (cW (s + k)) (cW_lt (s + k) (by omega))
    rw [fX10_isWordAt_20_L3, if_neg (nI_ge (a := p + k) (b := e) (by omega) (by omega)), nI_add, nI_sub (by omega), show s + (p + k) - p = s + k by omega, cW_at (s + k) (by omega), bd1_s, gd_n (p + k) 600 (by omega) (by decide), nI_cl (p + k) (by omega), t2]
    simp only [lt_e, nI_1]
    by_cases c : cW (s + k) = tx (p + k)
    · rw [if_pos (hc.mpr c)]
      refine ihn.trans ?_
      congr 2
      rw [decide_eq_decide]
      constructor
      · intro z i h1 h2
        by_cases q : i = k
        · rw [q]; exact c
        · exact z i h1 (by omega)
      · intro z i h1 h2
        exact z i h1 (by omega)
    · rw [if_neg (fun z => c (hc.mp z)), decide_eq_false (fun z => c (z k (by omega) (Nat.le_refl _)))]
      rfl
theorem wL9 (hx : Tx tx n (V 21)) (he : e ≤ n) (hp : p ≤ e) : ∀ (j w f : Nat), w + j = 18 → 100 * j + 100 < f → fX10_kindOfWord_20_L9 V f (nI p) (nI e) (nI (101 + w)) (nI (wS w)) (nI (wS w)) = some (nI (match fst1 (wEq tx p e) w j with
    | some q => 101 + q
    | none => 100)) := by
  have h6 := hx.1
  intro j
  induction j with
  | zero =>
    intro w f c1 c2
    obtain ⟨f, rfl⟩ : ∃ z, f = z + 1 := ⟨f - 1, by omega⟩
    have : w = 18 := by omega
    subst this
    rw [fX10_kindOfWord_20_L9, cW_len, bd1_s, if_pos (by decide)]
    rfl
  | succ j ih =>
    intro w f c1 c2
    obtain ⟨b1, b2, b3⟩ := wS_in w (by omega)
    have bl := wS_let w (by omega)
    have run : ∀ (m k f : Nat), k + m = wLn w → fX10_kindOfWord_20_L9 V (f + m) (nI p) (nI e) (nI (101 + w)) (nI (wS w)) (nI (wS w + k)) = fX10_kindOfWord_20_L9 V f (nI p) (nI e) (nI (101 + w)) (nI (wS w)) (nI (wS w + wLn w)) := by
      intro m
      induction m with
      | zero => intro k f d1; rw [show k = wLn w by omega]; rfl
      | succ m ihm =>
        intro k f d1
        have hne := bl k (by omega)
        rw [show f + (m + 1) = (f + m) + 1 by omega, fX10_kindOfWord_20_L9, cW_len, bd1_s, if_neg (show ¬ 99 ≤ nI (wS w + k) from nI_ge (a := wS w + k) (b := 99) (by omega) (by decide)), cW_at (wS w + k) (by omega), bd1_s]
        simp only [bk_e, lt_e]
        rw [if_neg (show ¬ nI (cW (wS w + k)) = 32 from fun z => by have := (nI_eq (a := cW (wS w + k)) (b := 32) (by omega) (by decide)).mp z; omega), nI_1]
        exact ihm (k + 1) f (by omega)
    have hwl : wLn w ≤ 8 := (by decide +kernel : ∀ w, w < 18 → wLn w ≤ 8) w (by omega)
    obtain ⟨f1, rfl⟩ : ∃ z, f = z + wLn w := ⟨f - wLn w, by omega⟩
    have r0 := run (wLn w) 0 f1 (by omega)
    rw [Nat.add_zero] at r0
    rw [r0]
    obtain ⟨f, rfl⟩ : ∃ z, f1 = z + 1 := ⟨f1 - 1, by omega⟩
    have ihn := ih (w + 1) f (by omega) (by omega)
    rw [b2] at ihn
    rw [fX10_kindOfWord_20_L9, cW_len, bd1_s, if_neg (show ¬ 99 ≤ nI (wS w + wLn w) from nI_ge (a := wS w + wLn w) (b := 99) (by omega) (by decide)), cW_at (wS w + wLn w) (by omega), bd1_s, b3]
    simp only [bk_e, lt_e]
    rw [if_pos (show nI 32 = 32 from rfl), nI_sub (by omega), nI_sub hp, show wS w + wLn w - wS w = wLn w by omega, nI_1, nI_1, fst1]
    by_cases c : wLn w = e - p
    · rw [if_pos (by rw [c])]
      have wa := wAt (V := V) hx he (s := wS w) (p := p) (e := e) (by omega) (e - p) 0 FU (by omega) (by unfold FU; omega)
      unfold fX10_isWordAt_20
      rw [Nat.add_zero] at wa
      rw [wa, bd1_s]
      by_cases m : ∀ i, i < wLn w → cW (wS w + i) = tx (p + i)
      · have wt : wEq tx p e w = true := decide_eq_true ⟨c, m⟩
        rw [decide_eq_true (fun i hi _ => m i (by omega)), if_neg (by decide), if_pos wt]
      · have wt : ¬ wEq tx p e w = true := fun z => m (of_decide_eq_true z).2
        rw [decide_eq_false (fun z => m (fun i hi => z i (by omega) (Nat.zero_le _))), if_pos (show bI false = 0 from rfl), if_neg wt]
        exact ihn
    · have wt : ¬ wEq tx p e w = true := fun z => c (of_decide_eq_true z).1
      rw [if_neg (fun z => c ((nI_eq (by omega) (by omega)).mp z)), if_neg wt]
      exact ihn
theorem kdC (hx : Tx tx n (V 21)) (he : e ≤ n) (hp : p ≤ e) : fX10_kindOfWord_20 V (nI p) (nI e) = some (nI (kdW tx p e)) :=
  wL9 hx he hp 18 0 FU (by omega) (by unfold FU; omega)
theorem kdW_b : 100 ≤ kdW tx p e ∧ kdW tx p e ≤ 118 := by
  unfold kdW
  cases h : fst1 (wEq tx p e) 0 18 with
  | none => exact ⟨by decide, by decide⟩
  | some j =>
    obtain ⟨-, h2, -⟩ := fst1_some.mp h
    show 100 ≤ 101 + j ∧ 101 + j ≤ 118
    omega
end WE
/-! the reference's packed words -/
def pkF (g : Nat → Nat) : Nat → Nat
  | 0 => 0
  | k + 1 => pkF g k * 32 + (g k - 96)
theorem pkF_inj {g g2 : Nat → Nat} : ∀ (k k2 : Nat), (∀ i, i < k → 97 ≤ g i ∧ g i ≤ 122) → (∀ i, i < k2 → 97 ≤ g2 i ∧ g2 i ≤ 122) → pkF g k = pkF g2 k2 → k = k2 ∧ ∀ i, i < k → g i = g2 i
  | 0, 0, _, _, _ => ⟨rfl, fun i hi => by omega⟩
  | 0, k2 + 1, _, h2, e => by
    have := h2 k2 (by omega)
    rw [pkF, pkF] at e
    omega
  | k + 1, 0, h1, _, e => by
    have := h1 k (by omega)
    rw [pkF, pkF] at e
    omega
  | k + 1, k2 + 1, h1, h2, e => by
    have a1 := h1 k (by omega)
    have a2 := h2 k2 (by omega)
    rw [pkF, pkF] at e
    obtain ⟨b1, b2⟩ := pkF_inj k k2 (fun i hi => h1 i (by omega)) (fun i hi => h2 i (by omega)) (by omega)
    refine ⟨by omega, fun i hi => ?_⟩
    by_cases q : i = k
    · subst q; subst b1; omega
    · exact b2 i (by omega)
theorem pkF_lt {g : Nat → Nat} : ∀ k, (∀ i, i < k → 97 ≤ g i ∧ g i ≤ 122) → pkF g k < 32 ^ k
  | 0, _ => by simp [pkF]
  | k + 1, h => by
    have := pkF_lt k (fun i hi => h i (by omega))
    have := h k (by omega)
    rw [pkF, Nat.pow_succ]
    omega
theorem pkF_cong {g g2 : Nat → Nat} : ∀ k, (∀ i, i < k → g i = g2 i) → pkF g k = pkF g2 k
  | 0, _ => rfl
  | k + 1, h => by rw [pkF, pkF, pkF_cong k (fun i hi => h i (by omega)), h k (by omega)]
/-- which word of the class's row is the reference's k, and back -/
def pmR (k : Nat) : Nat := ([12, 13, 14, 15, 16, 17, 6, 7, 8, 0, 1, 2, 3, 4, 5, 10, 9, 11] : List Nat).getD k 0
def ipR (j : Nat) : Nat := ([9, 10, 11, 12, 13, 14, 6, 7, 8, 16, 15, 17, 0, 1, 2, 3, 4, 5] : List Nat).getD j 0
theorem pm_ip : ∀ k, k < 18 → ipR (pmR k) = k ∧ pmR k < 18 := by decide +kernel
theorem ip_pm : ∀ j, j < 18 → pmR (ipR j) = j ∧ ipR j < 18 := by decide +kernel
theorem let_pk : ∀ k, k < 18 → fX12_letters (nI k) = some (lN (pkF (fun i => cW (wS (pmR k) + i)) (wLn (pmR k)))) := by decide +kernel
def kmI (k : Nat) : Int32 := if 101 ≤ k ∧ k ≤ 118 then nI (ipR (k - 101)) else -1
theorem lN_inj {a b : Nat} (ha : a < 2 ^ 64) (hb : b < 2 ^ 64) (h : lN a = lN b) : a = b := by
  have := congrArg (fun x => x.toBitVec.toNat) h
  simpa only [lN_nat ha, lN_nat hb] using this
theorem knW {tx : Nat → Nat} {p e : Nat} {S : Nat → Int32} {L : Nat → Int64} (hl : ∀ i, p ≤ i → i < e → isLt (tx i) = true) (h8 : e - p ≤ 8) (h19 : S 19 = 1) (h21 : S 21 = nI (e - p)) (hL : L 24 = lN (pkF (fun i => tx (p + i)) (e - p))) : fX12_knownWord_0 S L = some (kmI (kdW tx p e)) := by
  have hg : ∀ i, i < e - p → 97 ≤ tx (p + i) ∧ tx (p + i) ≤ 122 := fun i hi => by
    have := hl (p + i) (by omega) (by omega)
    unfold isLt at this
    exact of_decide_eq_true this
  have p64 : ∀ k, k ≤ 8 → 32 ^ k ≤ 2 ^ 64 := by decide
  have hwl : ∀ w, w < 18 → wLn w ≤ 8 := by decide +kernel
  have key : ∀ k, k < 18 → ((lN (pkF (fun i => cW (wS (pmR k) + i)) (wLn (pmR k))) = L 24) ↔ wEq tx p e (pmR k) = true) := fun k hk => by
    have hj := (pm_ip k hk).2
    have hc := wS_let (pmR k) hj
    rw [hL]
    constructor
    · intro z
      have := lN_inj (Nat.lt_of_lt_of_le (pkF_lt _ hc) (p64 _ (hwl _ hj))) (Nat.lt_of_lt_of_le (pkF_lt _ hg) (p64 _ h8)) z
      obtain ⟨e1, e2⟩ := pkF_inj _ _ hc hg this
      exact decide_eq_true ⟨e1, e2⟩
    · intro z
      obtain ⟨e1, e2⟩ := of_decide_eq_true z
      rw [← e1, pkF_cong _ e2]
  have LL : ∀ (j k f : Nat), k + j = 18 → j < f → fX12_knownWord_0_L21 S L f (nI k) = some (match fst1 (fun q => wEq tx p e (pmR q)) k j with
      | some q => nI q
      | none => -1) := by
    intro j
    induction j with
    | zero =>
      intro k f c1 c2
      obtain ⟨f, rfl⟩ : ∃ z, f = z + 1 := ⟨f - 1, by omega⟩
      rw [fX12_knownWord_0_L21, if_pos (show 18 ≤ nI k from nI_le (a := 18) (b := k) (by omega) (by omega))]
      rfl
    | succ j ih =>
      intro k f c1 c2
      obtain ⟨f, rfl⟩ : ∃ z, f = z + 1 := ⟨f - 1, by omega⟩
      rw [fX12_knownWord_0_L21, if_neg (show ¬ 18 ≤ nI k from nI_ge (a := k) (b := 18) (by omega) (by decide)), let_pk k (by omega), bd1_s, fst1]
      simp only [lt_e, nI_1]
      by_cases c : wEq tx p e (pmR k) = true
      · rw [if_pos ((lg_cmp_eq _ _).mpr ((key k (by omega)).mpr c)), if_pos c]
      · rw [if_neg (fun z => c ((key k (by omega)).mp ((lg_cmp_eq _ _).mp z))), if_neg c]
        exact ih (k + 1) f (by omega) (by omega)
  have excl : ∀ j k, j < 18 → k < 18 → wEq tx p e j = true → wEq tx p e k = true → j = k := fun j k hj hk a1 a2 => by
    obtain ⟨x1, x2⟩ := of_decide_eq_true a1
    obtain ⟨y1, y2⟩ := of_decide_eq_true a2
    exact wS_two j hj k hk ⟨by omega, fun i hi => (x2 i hi).trans (y2 i (by omega)).symm⟩
  have h0 := LL 18 0 FU (by omega) (by unfold FU; omega)
  rw [nI_0] at h0
  unfold fX12_knownWord_0
  rw [h19, if_pos rfl, h21, if_pos (show nI (e - p) ≤ 8 from nI_le (a := e - p) (b := 8) h8 (by decide)), h0]
  congr 1
  unfold kdW
  cases hj : fst1 (wEq tx p e) 0 18 with
  | none =>
    have hn := fst1_none.mp hj
    rw [fst1_none.mpr (fun q _ hq => hn (pmR q) (Nat.zero_le _) (by have := (pm_ip q (by omega)).2; omega))]
    rfl
  | some j =>
    obtain ⟨-, j1, j2, -⟩ := fst1_some.mp hj
    have hj18 : j < 18 := by omega
    cases hk : fst1 (fun q => wEq tx p e (pmR q)) 0 18 with
    | none =>
      have := fst1_none.mp hk (ipR j) (Nat.zero_le _) (by have := (ip_pm j hj18).2; omega)
      rw [(ip_pm j hj18).1, j2] at this
      cases this
    | some k =>
      obtain ⟨-, k1, k2, -⟩ := fst1_some.mp hk
      have hk18 : k < 18 := by omega
      have e1 := excl (pmR k) j (pm_ip k hk18).2 hj18 k2 j2
      have e2 := (pm_ip k hk18).1
      show nI k = kmI (101 + j)
      unfold kmI
      rw [if_pos (by omega), show 101 + j - 101 = j by omega, ← e1, e2]
theorem knN {S : Nat → Int32} {L : Nat → Int64} (h : ¬ S 19 = 1) : fX12_knownWord_0 S L = some (-1) := by
  unfold fX12_knownWord_0
  rw [if_neg h]
theorem kn9 {S : Nat → Int32} {L : Nat → Int64} {k : Nat} (h21 : S 21 = nI k) (hk : 8 < k) (hk2 : k < 2 ^ 31) : fX12_knownWord_0 S L = some (-1) := by
  unfold fX12_knownWord_0
  rw [h21, if_neg (show ¬ nI k ≤ 8 from nI_ge (a := 8) (b := k) hk hk2)]
  split <;> rfl
theorem kd9 {tx : Nat → Nat} {p e : Nat} (h : 8 < e - p) : kdW tx p e = 100 := by
  unfold kdW
  rw [fst1_none.mpr (fun j _ hj => ?_)]
  have := (by decide +kernel : ∀ w, w < 18 → wLn w ≤ 8) j (by omega)
  exact decide_eq_false (fun z => by omega)
