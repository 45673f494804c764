/-! ===== the next token, whole; what is seen of it ===== -/
section GQ
variable {tx : Nat → Nat} {n : Nat} {S : Nat → Int32} {V : Nat → Nat → Int32} {L : Nat → Int64}
theorem sgn_all {x : Nat} (hx : x < 256) {β : Type} (A B : β) : (if nI x = 59 then A else if nI x = 40 then A else if nI x = 41 then A else if nI x = 43 then A else if nI x = 45 then A else if nI x = 42 then A else if nI x = 47 then A else if nI x = 60 then A else if nI x = 61 then A else B) = if isSg x = true then A else B := by
  have q : ∀ c, c < 256 → ((nI x = nI c) ↔ x = c) := fun c hc => nI_eq (by omega) (by omega)
  have q1 : (nI x = 59) ↔ x = 59 := q 59 (by decide)
  have q2 : (nI x = 40) ↔ x = 40 := q 40 (by decide)
  have q3 : (nI x = 41) ↔ x = 41 := q 41 (by decide)
  have q4 : (nI x = 43) ↔ x = 43 := q 43 (by decide)
  have q5 : (nI x = 45) ↔ x = 45 := q 45 (by decide)
  have q6 : (nI x = 42) ↔ x = 42 := q 42 (by decide)
  have q7 : (nI x = 47) ↔ x = 47 := q 47 (by decide)
  have q8 : (nI x = 60) ↔ x = 60 := q 60 (by decide)
  have q9 : (nI x = 61) ↔ x = 61 := q 61 (by decide)
  simp only [q1, q2, q3, q4, q5, q6, q7, q8, q9, isSg, decide_eq_true_iff]
  by_cases c1 : x = 59
  · simp [c1]
  · by_cases c2 : x = 40
    · simp [c2]
    · by_cases c3 : x = 41
      · simp [c3]
      · by_cases c4 : x = 43
        · simp [c4]
        · by_cases c5 : x = 45
          · simp [c5]
          · by_cases c6 : x = 42
            · simp [c6]
            · by_cases c7 : x = 47
              · simp [c7]
              · by_cases c8 : x = 60
                · simp [c8]
                · by_cases c9 : x = 61
                  · simp [c9]
                  · simp [c1, c2, c3, c4, c5, c6, c7, c8, c9]
theorem goesR (hx : TxR tx n (V 5)) (h17 : S 17 = nI n) {p : Nat} (hp : p ≤ n) (h18 : S 18 = nI p) : ∃ a b c d e f y, fX12_goes_0 S V L = some (gS S a b c d e f, va_up L 24 y) ∧ RT tx n (nI n) a b c d e f y (fsE tx n isBl p) := by
  have h6 := hx.1
  have hq := fsE_b (tx := tx) (P := isBl) hp
  have fin : ∀ (S2 : Nat → Int32) (L2 : Nat → Int64) (y : Int64), (∀ k, k < 18 ∨ 23 < k → S2 k = S k) → L2 = va_up L 24 y → RT tx n (nI n) (S2 18) (S2 19) (S2 20) (S2 21) (S2 22) (S2 23) y (fsE tx n isBl p) → ∃ a b c d e f y, (some (S2, L2) : Option ((Nat → Int32) × (Nat → Int64))) = some (gS S a b c d e f, va_up L 24 y) ∧ RT tx n (nI n) a b c d e f y (fsE tx n isBl p) := fun S2 L2 y h1 h2 h3 => ⟨S2 18, S2 19, S2 20, S2 21, S2 22, S2 23, y, by rw [h2, ← gS_ext h1], h3⟩
  have LL := fun E => go0 (S := S) (V := V) (L := L) (E := E) hx h17 (n - p) p FU (by omega) (by unfold FU; omega)
  rw [show va_up S 18 (nI p) = S from by rw [← h18]; exact va_up_id _ _] at LL
  unfold fX12_goes_0
  simp only [bk_e, lt_e]
  rw [LL]
  generalize hqq : fsE tx n isBl p = q at *
  simp only [va_up_self]
  rw [show (va_up (va_up (va_up S 18 (nI q)) 20 (nI q)) 22 0) 18 = nI q from rfl, byC (S := va_up (va_up (va_up S 18 (nI q)) 20 (nI q)) 22 0) hx h17 (by omega), bd1_s, show (va_up (va_up (va_up (va_up S 18 (nI q)) 20 (nI q)) 22 0) 23 (nI (bA tx n q))) 18 = nI q from rfl, show (va_up (va_up (va_up (va_up S 18 (nI q)) 20 (nI q)) 22 0) 23 (nI (bA tx n q))) 17 = nI n from h17]
  by_cases hqn : q < n
  · have hb : bA tx n q = tx q := if_pos hqn
    have ht := (hx.2 q hqn).1
    have tb := tkE_b (tx := tx) hqn
    have nx : nxA tx n q = tkE tx n q := if_pos hqn
    have ek : kdA tx n q = (if isLt (tx q) = true then kdW tx q (tkE tx n q) else if isDg (tx q) = true then 1 else if isSg (tx q) = true then tx q else 2) := if_pos hqn
    rw [if_pos (nI_lt hqn (by omega)), hb, lt_bA ht, bd1_s]
    cases hl : isLt (tx q) with
    | true =>
      have te : tkE tx n q = fsE tx n isLt q := by
        unfold tkE
        rw [if_pos hl, fsE_t hqn hl]
      have kb := kdW_b (tx := tx) (p := q) (e := tkE tx n q)
      have k2 : kdA tx n q = kdW tx q (tkE tx n q) := by rw [ek, if_pos hl]
      have G := fun E => go108 (S := va_up (va_up (va_up (va_up S 18 (nI q)) 20 (nI q)) 22 0) 23 (nI (tx q))) (V := V) (L := L) (E := E) hx h17 (q := q) rfl (n - q) 0 FU (by omega) (by unfold FU; omega) (fun i hi => by omega)
      rw [show (pkF (fun i => tx (q + i)) (min 0 8)) = 0 from rfl, show lN 0 = 0 from rfl, show va_up (va_up (va_up (va_up (va_up S 18 (nI q)) 20 (nI q)) 22 0) 23 (nI (tx q))) 18 (nI (q + 0)) = va_up (va_up (va_up (va_up S 18 (nI q)) 20 (nI q)) 22 0) 23 (nI (tx q)) from va_up_id _ _, Nat.add_zero, ← te] at G
      rw [if_neg (show ¬ bI true = 0 by decide), G]
      refine fin _ _ (lN (pkF (fun i => tx (q + i)) (min (tkE tx n q - q) 8))) (fun k hk => ?_) rfl ?_
      · simp only [va_up, if_neg (show ¬ k = 18 by omega), if_neg (show ¬ k = 19 by omega), if_neg (show ¬ k = 20 by omega), if_neg (show ¬ k = 21 by omega), if_neg (show ¬ k = 22 by omega), if_neg (show ¬ k = 23 by omega)]
      · refine ⟨by omega, rfl, by rw [nx]; rfl, ?_, rfl, ?_, fun z => by omega, fun z => ?_, fun _ h8 => by rw [show min (tkE tx n q - q) 8 = tkE tx n q - q by omega]⟩
        · show (1 : Int32) = nI (soA (kdA tx n q))
          unfold soA
          rw [if_neg (by omega), if_neg (by omega), if_neg (by omega), if_neg (by omega)]
          rfl
        · show nI (tkE tx n q) - nI q = _
          rw [nI_sub (by omega), nx]
        · unfold soA at z
          rw [if_neg (by omega), if_neg (by omega), if_neg (by omega), if_neg (by omega)] at z
          cases z
    | false =>
      rw [if_pos (show bI false = 0 from rfl), dg_bA ht, bd1_s]
      cases hd : isDg (tx q) with
      | true =>
        have te : tkE tx n q = fsE tx n isDg q := by
          unfold tkE
          rw [if_neg (by rw [hl]; decide), if_pos hd, fsE_t hqn hd]
        have k2 : kdA tx n q = 1 := by rw [ek, if_neg (by rw [hl]; decide), if_pos hd]
        have G := fun E => go187 (S := va_up (va_up (va_up (va_up S 18 (nI q)) 20 (nI q)) 22 0) 23 (nI (tx q))) (V := V) (L := va_up L 24 0) (E := E) hx h17 (q := q) rfl (n - q) 0 FU (by omega) (by unfold FU; omega) (fun i hi => by omega)
        rw [show dgV tx q (min 0 4) = 0 from rfl, nI_0, show va_up (va_up (va_up (va_up (va_up (va_up S 18 (nI q)) 20 (nI q)) 22 0) 23 (nI (tx q))) 18 (nI (q + 0))) 22 0 = va_up (va_up (va_up (va_up S 18 (nI q)) 20 (nI q)) 22 0) 23 (nI (tx q)) from by
          show va_up (va_up (va_up (va_up (va_up (va_up S 18 (nI q)) 20 (nI q)) 22 0) 23 (nI (tx q))) 18 ((va_up (va_up (va_up (va_up S 18 (nI q)) 20 (nI q)) 22 0) 23 (nI (tx q))) 18)) 22 ((va_up (va_up (va_up (va_up (va_up S 18 (nI q)) 20 (nI q)) 22 0) 23 (nI (tx q))) 18 ((va_up (va_up (va_up (va_up S 18 (nI q)) 20 (nI q)) 22 0) 23 (nI (tx q))) 18)) 22) = _
          rw [va_up_id, va_up_id], Nat.add_zero, ← te] at G
        rw [if_neg (show ¬ bI true = 0 by decide), G]
        refine fin _ _ 0 (fun k hk => ?_) rfl ?_
        · simp only [va_up, if_neg (show ¬ k = 18 by omega), if_neg (show ¬ k = 19 by omega), if_neg (show ¬ k = 20 by omega), if_neg (show ¬ k = 21 by omega), if_neg (show ¬ k = 22 by omega), if_neg (show ¬ k = 23 by omega)]
        · refine ⟨by omega, rfl, by rw [nx]; rfl, by rw [k2]; rfl, rfl, ?_, fun _ => rfl, fun z => by rw [k2] at z; exact absurd z (by decide), fun z => by omega⟩
          show nI (tkE tx n q) - nI q = _
          rw [nI_sub (by omega), nx]
      | false =>
        have te : tkE tx n q = q + 1 := by
          unfold tkE
          rw [if_neg (by rw [hl]; decide), if_neg (by rw [hd]; decide)]
        have k2 : kdA tx n q = (if isSg (tx q) = true then tx q else 2) := by rw [ek, if_neg (by rw [hl]; decide), if_neg (by rw [hd]; decide)]
        rw [if_pos (show bI false = 0 from rfl), sgn_all ht, nI_1]
        cases hg : isSg (tx q) with
        | true =>
          have sl := sg_lo (tx q) ht hg
          have k3 : kdA tx n q = tx q := by rw [k2, hg]; rfl
          rw [if_pos rfl]
          refine fin _ _ 0 (fun k hk => ?_) rfl ?_
          · simp only [va_up, if_neg (show ¬ k = 18 by omega), if_neg (show ¬ k = 19 by omega), if_neg (show ¬ k = 20 by omega), if_neg (show ¬ k = 21 by omega), if_neg (show ¬ k = 22 by omega), if_neg (show ¬ k = 23 by omega)]
          · refine ⟨by omega, rfl, by rw [nx, te]; rfl, ?_, rfl, ?_, fun z => by omega, fun _ => by rw [k3]; rfl, fun z => by omega⟩
            · show (3 : Int32) = nI (soA (kdA tx n q))
              unfold soA
              rw [if_neg (by omega), if_neg (by omega), if_neg (by omega), if_pos (by omega)]
              rfl
            · show nI (q + 1) - nI q = _
              rw [nI_sub (by omega), nx, te]
        | false =>
          have k3 : kdA tx n q = 2 := by rw [k2, hg]; rfl
          rw [if_neg (by decide)]
          refine fin _ _ 0 (fun k hk => ?_) rfl ?_
          · simp only [va_up, if_neg (show ¬ k = 18 by omega), if_neg (show ¬ k = 19 by omega), if_neg (show ¬ k = 20 by omega), if_neg (show ¬ k = 21 by omega), if_neg (show ¬ k = 22 by omega), if_neg (show ¬ k = 23 by omega)]
          · refine ⟨by omega, rfl, by rw [nx, te]; rfl, by rw [k3]; rfl, rfl, ?_, fun z => by omega, fun z => by rw [k3] at z; exact absurd z (by decide), fun z => by omega⟩
            show nI (q + 1) - nI q = _
            rw [nI_sub (by omega), nx, te]
  · have nx : nxA tx n q = q := if_neg hqn
    have k3 : kdA tx n q = 0 := if_neg hqn
    rw [if_neg (nI_nlt (by omega) (by omega))]
    refine fin _ _ 0 (fun k hk => ?_) rfl ?_
    · simp only [va_up, if_neg (show ¬ k = 18 by omega), if_neg (show ¬ k = 19 by omega), if_neg (show ¬ k = 20 by omega), if_neg (show ¬ k = 21 by omega), if_neg (show ¬ k = 22 by omega), if_neg (show ¬ k = 23 by omega)]
    · refine ⟨by omega, rfl, by rw [nx]; rfl, by rw [k3]; rfl, rfl, ?_, fun z => by omega, fun z => by rw [k3] at z; exact absurd z (by decide), fun z => by omega⟩
      show nI q - nI q = _
      rw [nI_sub (Nat.le_refl _), nx]
/-- the token that stands there now -/
abbrev RN (tx : Nat → Nat) (n : Nat) (S : Nat → Int32) (L : Nat → Int64) (q : Nat) : Prop := RT tx n (S 17) (S 18) (S 19) (S 20) (S 21) (S 22) (S 23) (L 24) q
theorem so_b : ∀ k, k ≤ 118 → soA k ≤ 4 := by decide
theorem so_3 : ∀ k, k ≤ 118 → (soA k = 3 ↔ 3 ≤ k ∧ k < 100) := by decide
theorem so_1 : ∀ k, k ≤ 118 → (soA k = 1 ↔ 100 ≤ k) := by decide
theorem so_2 : ∀ k, k ≤ 118 → (soA k = 2 ↔ k = 1) := by decide
theorem so_0 : ∀ k, k ≤ 118 → (soA k = 0 ↔ k = 0) := by decide
theorem s19 (hx : ∀ i, i < n → tx i < 256) {q : Nat} (h : RN tx n S L q) (c : Nat) (hc : c ≤ 4) : (S 19 = nI c) ↔ soA (kdA tx n q) = c := by
  rw [h.2.2.2.1]
  have := so_b _ (kdA_b hx q)
  exact nI_eq (by omega) (by omega)
theorem sgnR (hx : ∀ i, i < n → tx i < 256) {q : Nat} (h : RN tx n S L q) {c : Nat} (h1 : 3 ≤ c) (h2 : c < 100) : fX12_isSign_0 S (nI c) = some (bI (decide (kdA tx n q = c))) := by
  have kb := kdA_b hx q
  unfold fX12_isSign_0
  by_cases c3 : soA (kdA tx n q) = 3
  · rw [if_pos (show S 19 = 3 from (s19 hx h 3 (by decide)).mpr c3), h.2.2.2.2.2.2.2.1 c3]
    by_cases e : kdA tx n q = c
    · rw [if_pos (by rw [e]), decide_eq_true e]; rfl
    · rw [if_neg (fun z => e ((nI_eq (by omega) (by omega)).mp z)), decide_eq_false e]; rfl
  · rw [if_neg (show ¬ S 19 = 3 from fun z => c3 ((s19 hx h 3 (by decide)).mp z)), decide_eq_false (fun e => c3 ((so_3 _ kb).mpr (by omega)))]
    rfl
theorem knR (hx : ∀ i, i < n → tx i < 256) (h6 : n ≤ 600) {q : Nat} (h : RN tx n S L q) : fX12_knownWord_0 S L = some (kmI (kdA tx n q)) := by
  have kb := kdA_b hx q
  by_cases c : 100 ≤ kdA tx n q
  · have hqn : q < n := by
      refine Nat.lt_of_not_le (fun z => ?_)
      have : kdA tx n q = 0 := if_neg (by omega)
      omega
    have tb := tkE_b (tx := tx) hqn
    have ek : kdA tx n q = (if isLt (tx q) = true then kdW tx q (tkE tx n q) else if isDg (tx q) = true then 1 else if isSg (tx q) = true then tx q else 2) := if_pos hqn
    have hl : isLt (tx q) = true := by
      cases hl : isLt (tx q) with
      | true => rfl
      | false =>
        rw [if_neg (by rw [hl]; decide)] at ek
        cases hd : isDg (tx q) with
        | true => rw [if_pos hd] at ek; omega
        | false =>
          rw [if_neg (by rw [hd]; decide)] at ek
          cases hg : isSg (tx q) with
          | true =>
            have := sg_lo (tx q) (hx q hqn) hg
            rw [if_pos hg] at ek
            omega
          | false => rw [if_neg (by rw [hg]; decide)] at ek; omega
    rw [if_pos hl] at ek
    have h21 : S 21 = nI (tkE tx n q - q) := by
      rw [h.2.2.2.2.2.1]
      unfold nxA
      rw [if_pos hqn]
    rw [ek]
    by_cases l8 : tkE tx n q - q ≤ 8
    · exact knW (tk_lt hqn hl) l8 ((s19 hx h 1 (by decide)).mpr ((so_1 _ kb).mpr c)) h21 (h.2.2.2.2.2.2.2.2 c l8)
    · rw [kn9 h21 (by omega) (by omega), kd9 (by omega)]
      rfl
  · rw [knN (fun z => c ((so_1 _ kb).mp ((s19 hx h 1 (by decide)).mp z)))]
    unfold kmI
    rw [if_neg (by omega)]
end GQ
