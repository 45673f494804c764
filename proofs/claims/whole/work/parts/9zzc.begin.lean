/-! ===== the tokens of a text, in rows (the class) ===== -/
def sgR (x : Nat) : Int32 := if x = 59 then 0 else if x = 40 then 1 else if x = 41 then 2 else if x = 43 then 3 else if x = 45 then 4 else if x = 42 then 5 else if x = 47 then 6 else if x = 60 then 7 else if x = 61 then 8 else -1
theorem sg_at : ∀ x, x < 128 → fJ0_indexOf_0f7a4_s2 (((nI x).toUInt32 % 65536).toInt32) = some (sgR x) := by decide +kernel
theorem sg_neg : ∀ x, x < 128 → ((sgR x < 0) ↔ isSg x = false) := by decide +kernel
theorem sg_lo : ∀ x, x < 256 → isSg x = true → 40 ≤ x ∧ x ≤ 61 := by decide +kernel
section BG
variable (tx : Nat → Nat) (n : Nat)
def kdA (p : Nat) : Nat := if p < n then (if isLt (tx p) = true then kdW tx p (tkE tx n p) else if isDg (tx p) = true then 1 else if isSg (tx p) = true then tx p else 2) else 0
def tS : Nat → Nat
  | 0 => fsE tx n isBl 0
  | i + 1 => if tS i < n then fsE tx n isBl (tkE tx n (tS i)) else n
def TKS (M : Nat) (a b c : Nat → Int32) : Prop := M ≤ n ∧ (∀ i, i ≤ M → a i = nI (kdA tx n (tS tx n i)) ∧ b i = nI (tS tx n i) ∧ (kdA tx n (tS tx n i) = 1 → c i = nmI tx n (tS tx n i))) ∧ (∀ i, i < M → tS tx n i < n) ∧ tS tx n M = n
end BG
abbrev TV (V : Nat → Nat → Int32) (a b c : Nat → Int32) : Nat → Nat → Int32 := va_up (va_up (va_up V 22 a) 23 b) 24 c
theorem tv_22 (V : Nat → Nat → Int32) (a b c a2 : Nat → Int32) : va_up (TV V a b c) 22 a2 = TV V a2 b c := by
  funext x
  simp only [TV, va_up]
  by_cases h1 : x = 22
  · subst h1; rfl
  · simp only [if_neg h1]
theorem tv_23 (V : Nat → Nat → Int32) (a b c a2 : Nat → Int32) : va_up (TV V a b c) 23 a2 = TV V a a2 c := by
  funext x
  simp only [TV, va_up]
  by_cases h1 : x = 23
  · subst h1; rfl
  · simp only [if_neg h1]
theorem tv_24 (V : Nat → Nat → Int32) (a b c a2 : Nat → Int32) : va_up (TV V a b c) 24 a2 = TV V a b a2 := va_up_up _ _ _ _
section BH
variable {tx : Nat → Nat} {n : Nat} {S : Nat → Int32} {V : Nat → Nat → Int32}
theorem kdA_n : kdA tx n n = 0 := if_neg (Nat.lt_irrefl _)
theorem kdA_b (hx : ∀ i, i < n → tx i < 256) (p : Nat) : kdA tx n p ≤ 118 := by
  unfold kdA
  split
  · rename_i hp
    split
    · exact kdW_b.2
    · split
      · decide
      · split
        · rename_i h1 h2 h3
          have := sg_lo (tx p) (hx p hp) h3
          omega
        · decide
  · decide
theorem tS_le : ∀ i, tS tx n i ≤ n
  | 0 => (fsE_b (Nat.zero_le _)).2
  | i + 1 => by
    rw [tS]
    split
    · rename_i h
      exact (fsE_b (tkE_b h).2).2
    · exact Nat.le_refl _
theorem putC (hx : Tx tx n (V 21)) {c p : Nat} (hS : S 2005 = nI c) (hc : c ≤ 600) (hp : p < n) (a b d : Nat → Int32) : ∃ d2, fX10_putToken_20 S (TV V a b d) (nI p) (nI (tkE tx n p)) = some (TV V (upd a c (nI (kdA tx n p))) (upd b c (nI p)) d2) ∧ (∀ i, i ≠ c → d2 i = d i) ∧ (kdA tx n p = 1 → d2 c = nmI tx n p) := by
  have h6 := hx.1
  have hb := tkE_b (tx := tx) hp
  obtain ⟨t1, t2⟩ := hx.2 p hp
  have ek : kdA tx n p = (if isLt (tx p) = true then kdW tx p (tkE tx n p) else if isDg (tx p) = true then 1 else if isSg (tx p) = true then tx p else 2) := if_pos hp
  unfold fX10_putToken_20
  simp only [lt_e]
  rw [hS, gd_n c 601 (by omega) (by decide), nI_cl c (by omega), tv_23, show TV V a b d 23 = b from rfl, letC (V := TV V a (upd b c (nI p)) d) hx hp, bd1_s]
  cases hl : isLt (tx p) with
  | true =>
    have k2 : kdA tx n p = kdW tx p (tkE tx n p) := by rw [ek, if_pos hl]
    rw [if_neg (show ¬ bI true = 0 by decide), kdC (V := TV V a (upd b c (nI p)) d) hx hb.2 (Nat.le_of_lt hb.1), bd1_s, gd_n c 601 (by omega) (by decide), tv_22, show TV V a (upd b c (nI p)) d 22 = a from rfl, ← k2]
    refine ⟨d, rfl, fun _ _ => rfl, fun z => ?_⟩
    have := (kdW_b (tx := tx) (p := p) (e := tkE tx n p)).1
    omega
  | false =>
    rw [if_pos (show bI false = 0 from rfl), digC (V := TV V a (upd b c (nI p)) d) hx hp, bd1_s]
    cases hd : isDg (tx p) with
    | true =>
      have k2 : kdA tx n p = 1 := by rw [ek, if_neg (by rw [hl]; decide), if_pos hd]
      rw [if_neg (show ¬ bI true = 0 by decide), gd_n c 601 (by omega) (by decide), tv_22, show TV V a (upd b c (nI p)) d 22 = a from rfl, numC (V := TV V (upd a c 1) (upd b c (nI p)) d) hx hp hd, bd1_s, gd_n c 601 (by omega) (by decide), tv_24, show TV V (upd a c 1) (upd b c (nI p)) d 24 = d from rfl, k2]
      exact ⟨upd d c (nmI tx n p), rfl, fun i hi => upd_ne _ _ hi, fun _ => upd_same _ _ _⟩
    | false =>
      rw [if_pos (show bI false = 0 from rfl), gd_n p 600 (by omega) (by decide), nI_cl p (by omega), show TV V a (upd b c (nI p)) d 21 p = sb (tx p) from t2]
      simp only [bk_e]
      have fin : ∀ x : Nat, kdA tx n p = x → ¬ x = 1 → ∃ d2, gd (ib (nI c) 601) (some (va_up (TV V a (upd b c (nI p)) d) 22 (upd ((TV V a (upd b c (nI p)) d) 22) (nI c).toNatClampNeg (nI x)))) = some (TV V (upd a c (nI (kdA tx n p))) (upd b c (nI p)) d2) ∧ (∀ i, i ≠ c → d2 i = d i) ∧ (kdA tx n p = 1 → d2 c = nmI tx n p) := fun x e1 e2 => by
        rw [gd_n c 601 (by omega) (by decide), tv_22, nI_cl c (by omega), e1]
        exact ⟨d, rfl, fun _ _ => rfl, fun z => absurd z e2⟩
      have ek2 : kdA tx n p = (if isSg (tx p) = true then tx p else 2) := by rw [ek, if_neg (by rw [hl]; decide), if_neg (by rw [hd]; decide)]
      by_cases c0 : sb (tx p) ≤ 0
      · rw [if_pos c0]
        have : isSg (tx p) = false := by
          cases hg : isSg (tx p) with
          | false => rfl
          | true =>
            have := sg_lo (tx p) t1 hg
            rcases (sb_hi (tx p) t1).mp c0 with z | z <;> omega
        exact fin 2 (by rw [ek2, this]; rfl) (by decide)
      · have lo : tx p < 128 := by
          rcases Nat.lt_or_ge (tx p) 128 with z | z
          · exact z
          · exact absurd ((sb_hi (tx p) t1).mpr (Or.inr z)) c0
        rw [if_neg c0, sb_lo _ lo, sg_at _ lo, bd1_s]
        cases hg : isSg (tx p) with
        | false =>
          rw [if_pos ((sg_neg _ lo).mpr hg)]
          exact fin 2 (by rw [ek2, hg]; rfl) (by decide)
        | true =>
          have := sg_lo (tx p) t1 hg
          rw [if_neg (fun z => by rw [(sg_neg _ lo).mp z] at hg; cases hg)]
          exact fin (tx p) (by rw [ek2, hg]; rfl) (by omega)
theorem bg44 (hx : Tx tx n (V 21)) (hS : S 2001 = nI n) {E : (Nat → Int32) → (Nat → Nat → Int32) → Option ((Nat → Int32) × (Nat → Nat → Int32))} : ∀ (j p i c f : Nat) (a b d : Nat → Int32), p + j = n → j < f → i ≤ p → c ≤ p → fsE tx n isBl p = tS tx n c → (∀ q, q < c → tS tx n q < n ∧ a q = nI (kdA tx n (tS tx n q)) ∧ b q = nI (tS tx n q) ∧ (kdA tx n (tS tx n q) = 1 → d q = nmI tx n (tS tx n q))) → ∃ M a2 b2 d2, fX10_begin_20_1_L44 E f (nI p) (nI i) (va_up S 2005 (nI c)) (TV V a b d) = E (va_up S 2005 (nI M)) (TV V a2 b2 d2) ∧ M ≤ n ∧ tS tx n M = n ∧ (∀ q, q < M → tS tx n q < n ∧ a2 q = nI (kdA tx n (tS tx n q)) ∧ b2 q = nI (tS tx n q) ∧ (kdA tx n (tS tx n q) = 1 → d2 q = nmI tx n (tS tx n q))) := by
  have h6 := hx.1
  intro j
  induction j using Nat.strongRecOn with
  | _ j ih =>
    intro p i c f a b d c1 c2 c3 c4 c5 c6
    obtain ⟨f, rfl⟩ : ∃ z, f = z + 1 := ⟨f - 1, by omega⟩
    by_cases hp : p < n
    · have hb := tkE_b (tx := tx) hp
      obtain ⟨t1, t2⟩ := hx.2 p hp
      rw [fX10_begin_20_1_L44, if_neg (show ¬ 600 ≤ nI i from nI_ge (a := i) (b := 600) (by omega) (by decide)), show (va_up S 2005 (nI c)) 2001 = nI n from hS, if_neg (nI_ge (a := p) (b := n) hp (by omega)), eotC (S := va_up S 2005 (nI c)) (V := TV V a b d) hx hS hp, bd1_s, gd_n p 600 (by omega) (by decide)]
      simp only [bk_e, lt_e]
      rw [gd_n p 600 (by omega) (by decide), nI_cl p (by omega), show TV V a b d 21 p = sb (tx p) from t2]
      simp only [nI_1]
      by_cases bl : isBl (tx p) = true
      · have e1 : tkE tx n p = p + 1 := by
          unfold isBl at bl
          rw [decide_eq_true_iff] at bl
          unfold tkE
          rw [if_neg (fun z => by unfold isLt at z; rw [decide_eq_true_iff] at z; omega), if_neg (fun z => by unfold isDg at z; rw [decide_eq_true_iff] at z; omega)]
        have go := ih (j - 1) (by omega) (p + 1) (i + 1) c f a b d (by omega) (by omega) (by omega) (by omega) (by rw [← fsE_t hp bl]; exact c5) c6
        rw [e1]
        unfold isBl at bl
        rw [decide_eq_true_iff] at bl
        by_cases d1 : sb (tx p) = 32
        · rw [if_pos d1]
          exact go
        · rw [if_neg d1, if_pos ((sb_10 _ t1).mpr (bl.resolve_left (fun z => d1 ((sb_32 _ t1).mpr z))))]
          exact go
      · have bl2 : isBl (tx p) = false := by
          cases hq : isBl (tx p) with
          | false => rfl
          | true => exact absurd hq bl
        have ets : tS tx n c = p := by rw [← c5, fsE_f hp bl2]
        unfold isBl at bl
        rw [decide_eq_true_iff] at bl
        rw [if_neg (fun z => bl (Or.inl ((sb_32 _ t1).mp z))), if_neg (fun z => bl (Or.inr ((sb_10 _ t1).mp z)))]
        obtain ⟨d2, q1, q2, q3⟩ := putC (S := va_up S 2005 (nI c)) (V := V) (c := c) hx rfl (by omega) hp a b d
        rw [q1, bd1_s, va_up_self, nI_1, va_up_up]
        refine ih (n - tkE tx n p) (by omega) (tkE tx n p) (i + 1) (c + 1) f _ _ d2 (by omega) (by omega) (by omega) (by omega) ?_ (fun q hq => ?_)
        · rw [tS, ets, if_pos hp]
        · by_cases e : q = c
          · subst e
            rw [ets, upd_same, upd_same]
            exact ⟨hp, rfl, rfl, q3⟩
          · obtain ⟨y0, y1, y2, y3⟩ := c6 q (by omega)
            rw [upd_ne _ _ e, upd_ne _ _ e, q2 q e]
            exact ⟨y0, y1, y2, y3⟩
    · have e : p = n := by omega
      subst e
      refine ⟨c, a, b, d, ?_, c4, ?_, c6⟩
      · rw [fX10_begin_20_1_L44, show (va_up S 2005 (nI c)) 2001 = nI p from hS, if_pos (nI_le (Nat.le_refl _) (by omega))]
        split <;> rfl
      · rw [← c5, fsE_n]
theorem fit_sb : ∀ x, x < 256 → fits .byte (.int (sb x)) = true := by decide +kernel
theorem beginC {v : Nat → Int32} (hv : V 1 = v) (h6 : n ≤ 600) (hx : ∀ i, i < n → tx i < 256 ∧ v i = sb (tx i)) : ∃ M u a b d, fX10_begin_20_1 S V (nI n) = some (va_up (va_up S 2001 (nI n)) 2005 0, TV (va_up V 21 u) a b d) ∧ TKS tx n M a b d := by
  have cpfT : cpf (V 1) 0 (nI n) = true := by
    unfold cpf
    rw [nI_cl n (by omega), List.all_eq_true]
    intro i hi
    rw [List.mem_range] at hi
    rw [show (0 : Int32).toNatClampNeg + i = i from Nat.zero_add i, hv, (hx i hi).2]
    exact fit_sb _ (hx i hi).1
  have hx21 : Tx tx n ((va_up V 21 (va_cpy (V 1) (V 21) 0 0 n)) 21) := ⟨h6, fun i hi => ⟨(hx i hi).1, by rw [va_up_self, cpy_at hi, hv]; exact (hx i hi).2⟩⟩
  obtain ⟨M, a, b, d, e1, e2, e3, e4⟩ := bg44 (S := va_up S 2001 (nI n)) (V := va_up V 21 (va_cpy (V 1) (V 21) 0 0 n)) hx21 rfl (E := fun S38 V39 => lt ((S38 2001)) (fun x40 => lt ((S38 2005)) (fun x41 => gd (ib x41 601) (lt (va_up V39 23 (upd (V39 23) (x41).toNatClampNeg x40)) (fun V43 => lt ((S38 2005)) (fun x44 => gd (ib x44 601) (lt (va_up V43 22 (upd (V43 22) (x44).toNatClampNeg (0 : Int32))) (fun V46 => lt (va_up S38 2005 (0 : Int32)) (fun S47 => some (S47, V46)))))))))) n 0 0 0 FU (V 22) (V 23) (V 24) (by omega) (by unfold FU; omega) (Nat.le_refl _) (Nat.le_refl _) rfl (fun q hq => by omega)
  rw [nI_0, show TV (va_up V 21 (va_cpy (V 1) (V 21) 0 0 n)) (V 22) (V 23) (V 24) = va_up V 21 (va_cpy (V 1) (V 21) 0 0 n) from by
    show va_up (va_up (va_up (va_up V 21 (va_cpy (V 1) (V 21) 0 0 n)) 22 ((va_up V 21 (va_cpy (V 1) (V 21) 0 0 n)) 22)) 23 ((va_up V 21 (va_cpy (V 1) (V 21) 0 0 n)) 23)) 24 ((va_up V 21 (va_cpy (V 1) (V 21) 0 0 n)) 24) = _
    rw [va_up_id, va_up_id, va_up_id]] at e1
  refine ⟨M, va_cpy (V 1) (V 21) 0 0 n, upd a M 0, upd b M (nI n), d, ?_, e2, fun i hi => ?_, fun i hi => (e4 i hi).1, e3⟩
  · unfold fX10_begin_20_1
    have m1 : fJ9_min_7cf53 (600 : Int32) (600 : Int32) = some 600 := by decide
    have m2 : fJ9_min_7cf53 (nI n) 600 = some (nI n) := by
      unfold fJ9_min_7cf53
      by_cases q : 600 < nI n
      · exact absurd q (nI_nlt (a := 600) (b := n) h6 (by decide))
      · rw [if_neg q]
    have m3 : fJ9_max_7cf53 0 (nI n) = some (nI n) := by
      unfold fJ9_max_7cf53
      by_cases q : 0 < nI n
      · rw [if_pos q]
      · rw [if_neg q]
        have : n = 0 := by
          rcases Nat.eq_zero_or_pos n with z | z
          · exact z
          · exact absurd ((nI_gt0 (by omega)).mpr z) q
        rw [this, nI_0]
    rw [m1, bd1_s, m2, bd1_s, m3, bd1_s]
    simp only [lt_e, bk_e]
    simp only [lt_e] at e1
    rw [va_up_self, gd_t (cpr_n h6 h6 (by decide)), gd_t cpfT, nI_cl n (by omega)]
    refine e1.trans ?_
    rw [show (va_up (va_up S 2001 (nI n)) 2005 (nI M)) 2005 = nI M from rfl, show (va_up (va_up S 2001 (nI n)) 2005 (nI M)) 2001 = nI n from rfl, gd_n M 601 (by omega) (by decide), gd_n M 601 (by omega) (by decide), nI_cl M (by omega), tv_23, tv_22, va_up_up]
    rfl
  · by_cases e : i = M
    · subst e
      rw [upd_same, upd_same, e3, kdA_n]
      exact ⟨nI_0.symm, rfl, fun z => absurd z (by decide)⟩
    · rw [upd_ne _ _ e, upd_ne _ _ e]
      exact (e4 i (by omega)).2
end BH
