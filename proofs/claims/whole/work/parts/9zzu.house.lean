/-! ===== house ===== -/
theorem fill35 {V : Nat → Nat → Int32} : ∃ u : Nat → Int32, (∀ i, i < 72 → u i = -1) ∧ fJ7_fill_53178_35 V (-1) = some (va_up V 35 u) := by
  have L : ∀ (j i f : Nat) (v : Nat → Int32), i + j = 72 → j < f → (∀ a, a < i → v a = -1) → ∃ u : Nat → Int32, (∀ a, a < 72 → u a = -1) ∧ fJ7_fill_53178_35_L5 f (-1) (nI i) 72 (va_up V 35 v) = some (va_up V 35 u) := by
    intro j
    induction j with
    | zero =>
      intro i f v c1 c2 c3
      obtain ⟨f, rfl⟩ : ∃ z, f = z + 1 := ⟨f - 1, by omega⟩
      refine ⟨v, fun a ha => c3 a (by omega), ?_⟩
      rw [fJ7_fill_53178_35_L5, if_pos (show 72 ≤ nI i from nI_le (a := 72) (b := i) (by omega) (by omega))]
    | succ j ih =>
      intro i f v c1 c2 c3
      obtain ⟨f, rfl⟩ : ∃ z, f = z + 1 := ⟨f - 1, by omega⟩
      obtain ⟨u, e1, e2⟩ := ih (i + 1) f (upd v i (-1)) (by omega) (by omega) (fun a ha => by
        by_cases e : a = i
        · rw [e, upd_same]
        · rw [upd_ne _ _ e]; exact c3 a (by omega))
      refine ⟨u, e1, ?_⟩
      rw [fJ7_fill_53178_35_L5, if_neg (show ¬ 72 ≤ nI i from nI_ge (a := i) (b := 72) (by omega) (by omega)), gd_n i 72 (by omega) (by decide), nI_cl i (by omega)]
      simp only [lt_e, va_up_self, va_up_up, nI_1]
      exact e2
  obtain ⟨u, e1, e2⟩ := L 72 0 FU (V 35) (by omega) (by unfold FU; omega) (fun a ha => by omega)
  refine ⟨u, e1, ?_⟩
  rw [nI_0, va_up_id] at e2
  exact e2
theorem bd4_s' {α γ δ ε β : Type} {a : α} {b : γ} {c : δ} {d : ε} {k : α → γ → δ → ε → Option β} : bd4 (some (a, b, c, d)) k = k a b c d := (rfl : _ = _).trans rfl
/-- the new house stands on both sides -/
theorem houseG {tx : Nat → Nat} {n M : Nat} {h : Nat → Nat} {t : Nat → Nat → Nat} {ru : Nat → List Nat} {st : Nat → Nat} {tp : Nat} {S2 S3 : Nat → Int32} {V2 V3 : Nat → Nat → Int32} {L3 : Nat → Int64} (hq : QQ tx n M M h t ru st tp S2 V2 S3 V3 L3) {A B : Nat → Int32} {C D : Nat → Nat → Int32} (hB1 : CHs h (A 300) (A 301) (A 302) (A 303) (A 304) (A 305) (A 306)) (hB2 : ∀ j, j < 6 → C 4 j = V2 13 j ∧ C 5 j = V2 14 j ∧ C 6 j = V2 15 j ∧ C 7 j = V2 16 j ∧ C 8 j = V2 17 j) (hB3 : ∀ j, j < 4 → C 10 j = V2 19 j) (hB4 : ∀ j, j < st (h 6) → C 9 j = V2 18 j) (hR1 : CHs h (B 1) (B 2) (B 3) (B 4) (B 5) (B 6) (B 7)) (hR2 : ∀ j, j < 24 → D 1 j = V3 7 j) (hR3 : ∀ j, j < 6 → D 2 j = V3 8 j) (hR4 : ∀ j, j < 4 → D 3 j = V3 9 j) (hR5 : ∀ j, j < 1600 → D 4 j = V3 10 j) : RHouse h t ru A C B D := by
  obtain ⟨hc, -, -, q1, q2, q3, q4, q5, q6, q7, ⟨s0, s1, s2, s3⟩, ⟨r1, r2, r3⟩⟩ := hq
  have hM := M600 hc
  have h46 : h 4 ≤ 6 := q1.2.2.2.2.1
  have h64 : h 6 ≤ 4 := q1.2.2.2.2.2.2
  have mono := st_mono (N := h 6) (st := st) (ru := ru) (fun r hr => (s3 r hr).1.2)
  refine ⟨q1, q2, q3, hB1, fun i hi => ?_, ⟨st, s0, fun r hr => ?_⟩, hR1, fun i hi => ?_, fun r hr => ?_⟩
  · obtain ⟨p0, p1, p2, p3, p4⟩ := q5 i hi
    obtain ⟨b0, b1, b2, b3, b4⟩ := hB2 i (by omega)
    exact ⟨b0.trans p0, b1.trans p1, b2.trans p2, b3.trans p3, b4.trans p4⟩
  · obtain ⟨⟨x1, x2⟩, x3⟩ := s3 r hr
    have mr := mono (h 6 - (r + 1)) (r + 1) (by omega)
    refine ⟨⟨(hB3 r (by omega)).trans x1, x2, by omega⟩, fun j p hp => ?_⟩
    have hj := (List.getElem?_eq_some_iff.mp hp).1
    rw [hB4 (st r + j) (by omega)]
    exact x3 j p hp
  · obtain ⟨p0, p1, p2, p3, p4⟩ := q7 i hi
    exact ⟨(hR2 _ (by omega)).trans p0, (hR2 _ (by omega)).trans p1, (hR2 _ (by omega)).trans p2, (hR2 _ (by omega)).trans p3, (hR3 i (by omega)).trans p4⟩
  · obtain ⟨a, x1, x2, x3⟩ := r3 r hr
    refine ⟨a, (hR4 r (by omega)).trans x1, by omega, fun j p hp => ?_⟩
    have hj := (List.getElem?_eq_some_iff.mp hp).1
    rw [List.length_append] at hj
    have hj' : j < ((ru r).flatMap trT).length + 1 := hj
    rw [hR5 (a + j) (by omega)]
    exact x3 j p hp
/-- all but the tape, the fault's place and the refused ones stays -/
theorem Rel_keep {S S2 S' S3 : Nat → Int32} {V V2 V' V3 : Nat → Nat → Int32} {L' L3 : Nat → Int64} (h : Rel S V S' V' L') (c1 : ∀ k, k < 1100 ∨ 2600 ≤ k → k ≠ 1 → k ≠ 2 → S2 k = S k) (c2 : ∀ q, q < 13 ∨ 26 < q → q ≠ 2 → V2 q = V q) (r1 : ∀ k, k < 13 ∨ 35 < k → k ≠ 0 → S3 k = S' k) (r2 : ∀ q, q < 7 ∨ 12 < q → q ≠ 6 → V3 q = V' q) (t1 : RTape (S2 1) (S3 13) (V2 1) (V3 5)) (t2 : S2 2 = S3 15) (t3 : V2 2 0 = V3 6 0 ∧ V2 2 1 = V3 6 1 ∧ V2 2 2 = V3 6 2) : Rel S2 V2 S3 V3 L3 := by
  obtain ⟨-, -, -, ⟨hh, t, ru, hH, hL, hI⟩, hO, hK, hW⟩ := h
  have s : ∀ k, (k < 1100 ∨ 2600 ≤ k) ∧ k ≠ 1 ∧ k ≠ 2 → S2 k = S k := fun k hk => c1 k hk.1 hk.2.1 hk.2.2
  have v : ∀ q, (q < 13 ∨ 26 < q) ∧ q ≠ 2 → V2 q = V q := fun q hq => c2 q hq.1 hq.2
  have s' : ∀ k, (k < 13 ∨ 35 < k) ∧ k ≠ 0 → S3 k = S' k := fun k hk => r1 k hk.1 hk.2
  have v' : ∀ q, (q < 7 ∨ 12 < q) ∧ q ≠ 6 → V3 q = V' q := fun q hq => r2 q hq.1 hq.2
  refine ⟨t1, t2, t3, ⟨hh, t, ru, ?_, ?_, ?_⟩, ?_, ?_, ?_⟩
  · unfold RHouse at hH ⊢
    rw [s 300 (by decide), s 301 (by decide), s 302 (by decide), s 303 (by decide), s 304 (by decide), s 305 (by decide), s 306 (by decide), v 4 (by decide), v 5 (by decide), v 6 (by decide), v 7 (by decide), v 8 (by decide), v 9 (by decide), v 10 (by decide), s' 1 (by decide), s' 2 (by decide), s' 3 (by decide), s' 4 (by decide), s' 5 (by decide), s' 6 (by decide), s' 7 (by decide), v' 1 (by decide), v' 2 (by decide), v' 3 (by decide), v' 4 (by decide)]
    exact hH
  · rw [s 3002 (by decide), v 31 (by decide), v 32 (by decide), v 33 (by decide), v 34 (by decide), v 35 (by decide), s' 42 (by decide), v' 13 (by decide)]
    exact hL
  · unfold RImg at hI ⊢
    rw [s 11 (by decide), s' 55 (by decide), s 3602 (by decide), v 37 (by decide), v 38 (by decide), v 39 (by decide), v 40 (by decide), v 41 (by decide), s' 56 (by decide), v' 22 (by decide), s 4500 (by decide), v 46 (by decide), v 47 (by decide), s' 57 (by decide), v' 23 (by decide)]
    exact hI
  · rw [s 4200 (by decide), v 43 (by decide), v 44 (by decide), s' 53 (by decide), v' 21 (by decide)]
    exact hO
  · rw [s 4911 (by decide), s' 49 (by decide), v 57 (by decide), v' 18 (by decide)]
    exact hK
  · rw [s 5903 (by decide), s' 52 (by decide), v 62 (by decide), v' 20 (by decide)]
    exact hW
