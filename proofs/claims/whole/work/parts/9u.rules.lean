/-! ===== the class looks at one cell ===== -/
def CL2 (n : Nat) (le : Nat → Nat → Nat) (te ha fr to cl : Nat → Int32) : Prop := (∀ i, i < n → te i = nI (le i 0) ∧ ha i = nI (le i 1) ∧ fr i = nI (le i 2) ∧ to i = nI (le i 3)) ∧ ∀ x hr, x < 3 → hr < 24 → cl (24 * x + hr) = (match occL le n x hr with
  | some i => nI i
  | none => -1)
section RC
variable {h : Nat → Nat} {t : Nat → Nat → Nat} {n : Nat} {le : Nat → Nat → Nat} {ru : Nat → List Nat} {S : Nat → Int32} {V : Nat → Nat → Int32}
theorem who30b (hn : n ≤ 13) (hC : CL2 n le (V 31) (V 32) (V 33) (V 34) (V 35)) {x hr : Nat} (hx : x < 3) (hh : hr < 24) : fX4_who_30 V (nI x) (nI hr) = some (enc (whoL le n x hr)) := by
  unfold fX4_who_30
  simp only [lt_e]
  rw [show (24 : Int32) = nI 24 from rfl, nI_mul, nI_add, gd_n (x * 24 + hr) 72 (by omega) (by decide), nI_cl (x * 24 + hr) (by omega), show x * 24 + hr = 24 * x + hr by omega, hC.2 x hr hx hh]
  unfold whoL
  cases ho : occL le n x hr with
  | none => rfl
  | some j =>
    obtain ⟨h1, -⟩ := occ_lt ho
    show (if nI j = -1 then some (-1) else gd (ib (nI j) 13) (some (V 31 (nI j).toNatClampNeg))) = _
    rw [if_neg (nI_m1 (i := j) (by omega)), gd_n j 13 (by omega) (by decide), nI_cl j (by omega), (hC.1 j h1).1]
    rfl
theorem vq_vaL {k hr : Nat} : vq (t (le k 0) 0) (le k 1) hr (le k 3 - le k 2 + 1) ((if le k 1 = 0 then 0 else wOf t (whoL le n 0 hr)) + (if le k 1 = 1 then 0 else wOf t (whoL le n 1 hr))) (qOf t (le k 0) (whoL le n 0 hr) + qOf t (le k 0) (whoL le n 1 hr) + qOf t (le k 0) (whoL le n 2 hr)) = vaL t n le k hr := by
  funext q
  match q with
  | 0 => rfl
  | 1 => rfl
  | 2 => rfl
  | 3 => rfl
  | 4 => rfl
  | q + 5 => rfl
theorem qOf_qq (t : Nat → Nat → Nat) (i : Nat) (o : Option Nat) : qOf t i o = qq t (some i) o := by cases o <;> rfl
theorem ruleIn (hs : MHs h) (hT : MHt h t) (e6 : S 306 = nI (h 6)) (hCt : CHt h t (V 4) (V 5) (V 6) (V 7) (V 8)) (hU : MU (h 6) ru) (hCU : CU (h 6) ru (V 9) (V 10)) (hM : ML2 h n le) (hC : CL2 n le (V 31) (V 32) (V 33) (V 34) (V 35)) {x hr : Nat} (hx : x < 3) (hh : hr < 24) : ∃ V2 b, fX4_rulesHoldIn_30 S V (nI x) (nI hr) = some (b, V2) ∧ (∃ f g, V2 = va_up (va_up V 28 f) 29 g) ∧ ((b = 1 ∧ ∀ k, occL le n x hr = some k → okR (vaL t n le k hr) (h 6) ru) ∨ (b = 0 ∧ ∃ k, occL le n x hr = some k ∧ ¬ okR (vaL t n le k hr) (h 6) ru)) := by
  have h46 := hs.2.2.2.2.1
  have hn := hM.1
  have vid : V = va_up (va_up V 28 (V 28)) 29 (V 29) := by rw [va_up_id, va_up_id]
  unfold fX4_rulesHoldIn_30
  simp only [lt_e, bk_e]
  rw [show (24 : Int32) = nI 24 from rfl, nI_mul, nI_add, gd_n (x * 24 + hr) 72 (by omega) (by decide), nI_cl (x * 24 + hr) (by omega), show x * 24 + hr = 24 * x + hr by omega, hC.2 x hr hx hh]
  cases ho : occL le n x hr with
  | none =>
    refine ⟨V, 1, ?_, ⟨V 28, V 29, vid⟩, Or.inl ⟨rfl, fun k e => by cases e⟩⟩
    show (if (-1 : Int32) = -1 then _ else _) = _
    rw [if_pos rfl]
  | some k =>
    obtain ⟨h1, h2, h3, h4⟩ := occ_lt ho
    obtain ⟨c0, c1, c2, c3⟩ := hC.1 k h1
    obtain ⟨m0, m1, m2, m3⟩ := hM.2.1 k h1
    have w0 : fX4_who_30 V 0 (nI hr) = _ := who30b (x := 0) hn hC (by decide) hh
    have w1 : fX4_who_30 V 1 (nI hr) = _ := who30b (x := 1) hn hC (by decide) hh
    have w2 : fX4_who_30 V 2 (nI hr) = _ := who30b (x := 2) hn hC (by decide) hh
    have q0 : fX2_quarrelsOf_3 V (nI (le k 0)) (enc (whoL le n 0 hr)) = _ := qr3 h46 hCt (a := some (le k 0)) (ab_ok m0) (who_ok2 hM 0 hr)
    have q1 : fX2_quarrelsOf_3 V (nI (le k 0)) (enc (whoL le n 1 hr)) = _ := qr3 h46 hCt (a := some (le k 0)) (ab_ok m0) (who_ok2 hM 1 hr)
    have q2 : fX2_quarrelsOf_3 V (nI (le k 0)) (enc (whoL le n 2 hr)) = _ := qr3 h46 hCt (a := some (le k 0)) (ab_ok m0) (who_ok2 hM 2 hr)
    obtain ⟨f, g, b, e1, e2⟩ := holdC (S := S) (V := V) (ru := ru) hs hCt e6 hU hCU (who := le k 0) (half := le k 1) (hr := hr) (hours := le k 3 - le k 2 + 1) (other := (if le k 1 = 0 then 0 else wOf t (whoL le n 0 hr)) + (if le k 1 = 1 then 0 else wOf t (whoL le n 1 hr))) (quar := qOf t (le k 0) (whoL le n 0 hr) + qOf t (le k 0) (whoL le n 1 hr) + qOf t (le k 0) (whoL le n 2 hr)) m0
    rw [vq_vaL] at e2
    refine ⟨va_up (va_up V 28 f) 29 g, b, ?_, ⟨f, g, rfl⟩, ?_⟩
    · show (if nI k = -1 then _ else _) = _
      rw [if_neg (nI_m1 (by omega))]
      have bb : isb b = true := by
        rcases e2 with ⟨b1, -⟩ | ⟨b1, -⟩ <;> (rw [b1]; decide)
      simp (disch := omega) only [w0, w1, w2, bd1_s, q0, q1, q2, gd_n, nI_cl, c0, c2, c3, wt3 h46 hCt (who_ok2 hM 0 hr), wt3 h46 hCt (who_ok2 hM 1 hr)]
      rw [qOf_qq, qOf_qq, qOf_qq] at e1
      rw [nI_sub m2, nI_1, nI_add, nI_add]
      subst h2
      rcases (show le k 1 = 0 ∨ le k 1 = 1 ∨ le k 1 = 2 by omega) with e | e | e
      · rw [e] at e1 ⊢
        rw [if_pos (show nI 0 = 0 from nI_0), if_neg (by decide), nI_0a]
        rw [if_pos rfl, if_neg (by decide), Nat.zero_add] at e1
        rw [e1, bd2_s, gd_t bb]
      · rw [e] at e1 ⊢
        rw [if_neg (by decide), if_pos (show nI 1 = 1 from rfl), nI_a0]
        rw [if_neg (by decide), if_pos rfl, Nat.add_zero (wOf t (whoL le n 0 hr))] at e1
        rw [e1, bd2_s, gd_t bb]
      · rw [e] at e1 ⊢
        rw [if_neg (by decide), if_neg (by decide), nI_add]
        rw [if_neg (by decide), if_neg (by decide)] at e1
        rw [e1, bd2_s, gd_t bb]
    · rcases e2 with ⟨b1, b2⟩ | ⟨b1, b2⟩
      · exact Or.inl ⟨b1, fun k2 e => by cases e; exact b2⟩
      · exact Or.inr ⟨b1, k, rfl, b2⟩
end RC
