/-! ===== the reference's next visit ===== -/
theorem takenR {V : Nat → Nat → Int32} {t hr : Nat} (ht : t ≤ 6) : fX12_isTaken_0 V (nI t) (nI hr) = some (bI (anF (fun k => decide (V 19 k = nI hr)) 0 t)) := by
  have L : ∀ (j k f : Nat), k + j = t → j < f → fX12_isTaken_0_L2 V f (nI t) (nI hr) (nI k) = some (bI (anF (fun k => decide (V 19 k = nI hr)) k j)) := by
    intro j
    induction j with
    | zero =>
      intro k f c1 c2
      obtain ⟨f, rfl⟩ : ∃ z, f = z + 1 := ⟨f - 1, by omega⟩
      rw [fX12_isTaken_0_L2, if_pos (nI_le (by omega) (by omega))]
      rfl
    | succ j ih =>
      intro k f c1 c2
      obtain ⟨f, rfl⟩ : ∃ z, f = z + 1 := ⟨f - 1, by omega⟩
      have ihn := ih (k + 1) f (by omega) (by omega)
      rw [fX12_isTaken_0_L2, if_neg (nI_ge (a := k) (b := t) (by omega) (by omega)), gd_n k 6 (by omega) (by decide), nI_cl k (by omega)]
      simp only [lt_e, nI_1]
      rw [anF]
      by_cases c : V 19 k = nI hr
      · rw [if_pos c, decide_eq_true c]
        rfl
      · rw [if_neg c, decide_eq_false c, Bool.false_or]
        exact ihn
  have := L t 0 FU (by omega) (by unfold FU; omega)
  rw [nI_0] at this
  exact this
theorem pB_bit {h : Nat → Nat} {t : Nat → Nat → Nat} {n : Nat} {le : Nat → Nat → Nat} (hM : MLs h t n le) {w q : Nat} (hq : q < 32) : pB le n w q = (bitsT le w n).testBit q := by
  rw [Bool.eq_iff_iff, who_iff hM, bitsT_tb hM w n (Nat.le_refl _) q hq]
theorem visitR {h : Nat → Nat} {t : Nat → Nat → Nat} {n : Nat} {le : Nat → Nat → Nat} {S : Nat → Int32} {V : Nat → Nat → Int32} (h46 : h 4 ≤ 6) (hM : MLs h t n le) (hR : RLs n le (S 42) (V 13)) {w s l : Nat} {a2 : Int32} (hw : w < h 4) (hs : a2 + 1 = nI s) (hsl : s ≤ l + 1) (hl : l < 24) : fX12_visitOf_0 S V (nI w) a2 (nI l) = some (enc (fst1 (fun q => (bitsT le w n).testBit q && !anF (fun k => decide (V 19 k = nI q)) 0 w) s (l + 1 - s))) := by
  have L : ∀ (j q f : Nat), q + j = l + 1 → j < f → fX12_visitOf_0_L5 S V f (nI w) (nI l) (nI q) = some (enc (fst1 (fun q => (bitsT le w n).testBit q && !anF (fun k => decide (V 19 k = nI q)) 0 w) q j)) := by
    intro j
    induction j with
    | zero =>
      intro q f c1 c2
      obtain ⟨f, rfl⟩ : ∃ z, f = z + 1 := ⟨f - 1, by omega⟩
      rw [fX12_visitOf_0_L5, if_pos (nI_lt (by omega) (by omega))]
      rfl
    | succ j ih =>
      intro q f c1 c2
      obtain ⟨f, rfl⟩ : ∃ z, f = z + 1 := ⟨f - 1, by omega⟩
      have ihn := ih (q + 1) f (by omega) (by omega)
      have s1 : ((nI (bo (whoL le n 0 q) ||| bo (whoL le n 1 q) ||| bo (whoL le n 2 q)) >>> (nI w &&& 31)) &&& 1 = 1) ↔ (bitsT le w n).testBit q = true := by
        rw [← pB_bit hM (by omega), sh1 (by omega)]
        cases hb : pB le n w q <;> simp [pB] at hb <;> simp [hb]
      rw [fX12_visitOf_0_L5, if_neg (nI_nlt (by omega) (by omega)), hR.1, allIn13 h46 hM hR (by omega), bd1_s, takenR (by omega)]
      simp only [lt_e, bk_e, bd1_s, nI_1, s1]
      rw [fst1, ihn]
      cases hb : (bitsT le w n).testBit q with
      | false =>
        rw [if_neg (by decide), Bool.false_and, if_neg (by decide)]
      | true =>
        rw [if_pos rfl, Bool.true_and]
        cases ha : anF (fun k => decide (V 19 k = nI q)) 0 w with
        | true => rw [if_neg (by decide), if_neg (by decide)]
        | false => rw [if_pos (show bI false = 0 from rfl), if_pos (show (!false) = true from rfl)]; rfl
  unfold fX12_visitOf_0
  simp only [lt_e]
  rw [hs]
  exact L (l + 1 - s) s FU (by omega) (by unfold FU; omega)
