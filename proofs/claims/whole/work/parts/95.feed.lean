/-! ===== feed ===== -/
theorem low8 (v : BitVec 32) (s : Nat) (hs : s ≤ 24) : (v.sshiftRight s &&& 255#32).toNat = (v.toNat >>> s) % 256 := by
  have h : v.sshiftRight s &&& 255#32 = (v >>> s) &&& 255#32 := by
    apply BitVec.eq_of_getLsbD_eq
    intro i hi
    rw [BitVec.getLsbD_and, BitVec.getLsbD_and, BitVec.getLsbD_sshiftRight, BitVec.getLsbD_ushiftRight]
    by_cases h8 : i < 8
    · rw [if_pos (show s + i < 32 by omega)]
      have : decide (32 ≤ i) = false := decide_eq_false (by omega)
      rw [this]
      simp
    · have h0 : (255#32).getLsbD i = false := by
        have : (255#32).getLsbD i = (255 : Nat).testBit i := rfl
        rw [this]
        exact Nat.testBit_lt_two_pow (Nat.lt_of_lt_of_le (by decide : 255 < 2 ^ 8) (Nat.pow_le_pow_right (by decide) (by omega)))
      rw [h0, Bool.and_false, Bool.and_false]
  rw [h, BitVec.toNat_and, BitVec.toNat_ushiftRight]
  exact Nat.and_two_pow_sub_one_eq_mod (v.toNat >>> s) 8
theorem ubR {a s : Int32} {k : Nat} (h : ((s &&& 31).toBitVec.smod 32#32).toNat = k) (hk : k ≤ 24) : (a >>> (s &&& 31)) &&& 255 = nI ((a.toBitVec.toNat >>> k) % 256) := by
  apply Int32.toBitVec_inj.mp
  apply BitVec.eq_of_toNat_eq
  show (a.toBitVec.sshiftRight ((s &&& 31).toBitVec.smod 32#32).toNat &&& 255#32).toNat = (BitVec.ofNat 32 ((a.toBitVec.toNat >>> k) % 256)).toNat
  rw [h, low8 _ _ hk, BitVec.toNat_ofNat, Nat.mod_eq_of_lt (show (a.toBitVec.toNat >>> k) % 256 < 2 ^ 32 by omega)]
theorem bcC {a s : Int32} {k : Nat} (h : (s.toUInt32 &&& Int32.toUInt32 31).toNat % 32 = k) : vp_nar .byte (((a.toUInt32 >>> (s.toUInt32 &&& Int32.toUInt32 31)).toInt32).toInt8.toInt32) = sb ((a.toBitVec.toNat >>> k) % 256) := by
  have e : (a.toUInt32 >>> (s.toUInt32 &&& Int32.toUInt32 31)).toInt32.toInt8 = (nI ((a.toBitVec.toNat >>> k) % 256)).toInt8 := by
    apply Int8.toBitVec_inj.mp
    rw [Int32.toBitVec_toInt8, Int32.toBitVec_toInt8, BitVec.signExtend_eq_setWidth_of_le _ (by decide), BitVec.signExtend_eq_setWidth_of_le _ (by decide)]
    apply BitVec.eq_of_toNat_eq
    rw [BitVec.toNat_setWidth, BitVec.toNat_setWidth]
    have e1 : (a.toUInt32 >>> (s.toUInt32 &&& Int32.toUInt32 31)).toInt32.toBitVec.toNat = a.toBitVec.toNat >>> k := by
      show (a.toUInt32 >>> (s.toUInt32 &&& Int32.toUInt32 31)).toNat = _
      rw [UInt32.toNat_shiftRight, h]
      rfl
    have e2 : (nI ((a.toBitVec.toNat >>> k) % 256)).toBitVec.toNat = (a.toBitVec.toNat >>> k) % 256 := by
      show (BitVec.ofNat 32 ((a.toBitVec.toNat >>> k) % 256)).toNat = _
      rw [BitVec.toNat_ofNat, Nat.mod_eq_of_lt (show (a.toBitVec.toNat >>> k) % 256 < 2 ^ 32 by omega)]
    rw [e1, e2]
    omega
  show ((a.toUInt32 >>> (s.toUInt32 &&& Int32.toUInt32 31)).toInt32.toInt8.toInt32).toInt8.toInt32 = _
  rw [Int8.toInt8_toInt32, e]
  rfl
def RTn (l : Nat) (f g : Nat → Int32) : Prop := ∀ i, i < l → ∃ x : Nat, x < 256 ∧ f i = sb x ∧ g i = nI x
theorem RTn_step {l x : Nat} {f g : Nat → Int32} (h : RTn l f g) (hx : x < 256) : RTn (l + 1) (upd f l (sb x)) (upd g l (nI x)) := fun i hi => by
  by_cases e : i = l
  · subst e
    exact ⟨x, hx, upd_same _ _ _, upd_same _ _ _⟩
  · obtain ⟨y, h1, h2, h3⟩ := h i (by omega)
    exact ⟨y, h1, (upd_ne _ _ e).trans h2, (upd_ne _ _ e).trans h3⟩
theorem up2 {α : Type} (f : Nat → α) (k : Nat) (x y : α) : va_up (va_up f k x) k y = va_up f k y := by
  funext j
  by_cases h : j = k
  · subst h; rw [va_up_self, va_up_self]
  · rw [va_up_ne _ _ h, va_up_ne _ _ h, va_up_ne _ _ h]
theorem put_step {S : Nat → Int32} {V : Nat → Nat → Int32} {a s : Int32} {l k m : Nat} (hS : S 1 = nI l) (hl : l < 600) (hs : ¬ s < 0) (h : (s.toUInt32 &&& Int32.toUInt32 31).toNat % 32 = k) : fX11_putBytes_0_L3 (m + 1) a s S V = fX11_putBytes_0_L3 m a (s + -8) (va_up S 1 (nI (l + 1))) (va_up V 1 (upd (V 1) l (sb ((a.toBitVec.toNat >>> k) % 256)))) := by
  conv => lhs; unfold fX11_putBytes_0_L3
  rw [if_neg hs]
  simp only [lt_e, bk_e]
  rw [hS, if_neg (show ¬ (600 : Int32) ≤ nI l from nI_ge (a := l) (b := 600) hl (by decide)), gd_n l 600 hl (by decide), nI_cl l (by omega), nI_1, bcC h]
theorem lay_step {S : Nat → Int32} {V : Nat → Nat → Int32} {a s : Int32} {l k m : Nat} (hS : S 13 = nI l) (hl : l < 600) (hs : ¬ s < 0) (h : ((s &&& 31).toBitVec.smod 32#32).toNat = k) (hk : k ≤ 24) : fX12_lays_0_L3 (m + 1) a s S V = fX12_lays_0_L3 m a (s + -8) (va_up S 13 (nI (l + 1))) (va_up V 5 (upd (V 5) l (nI ((a.toBitVec.toNat >>> k) % 256)))) := by
  conv => lhs; unfold fX12_lays_0_L3
  rw [if_neg hs]
  simp only [lt_e]
  rw [hS, gd_n l 600 hl (by decide), nI_cl l (by omega), nI_1, ubR h hk]
theorem FU_5 : ∃ m : Nat, FU = m + 1 + 1 + 1 + 1 + 1 := ⟨FU - 5, by unfold FU; rfl⟩
theorem put_lay {S S' : Nat → Int32} {V V' : Nat → Nat → Int32} {a : Int32} {l : Nat} (hS : S 1 = nI l) (hS' : S' 13 = nI l) (hl : l + 4 ≤ 600) (hR : RTn l (V 1) (V' 5)) : ∃ f g, fX11_putBytes_0 S V a = some (va_up S 1 (nI (l + 4)), va_up V 1 f) ∧ fX12_lays_0 S' V' a = some (va_up S' 13 (nI (l + 4)), va_up V' 5 g) ∧ RTn (l + 4) f g := by
  obtain ⟨m, hm⟩ := FU_5
  have r1 := RTn_step hR (x := (a.toBitVec.toNat >>> 24) % 256) (by omega)
  have r2 := RTn_step r1 (x := (a.toBitVec.toNat >>> 16) % 256) (by omega)
  have r3 := RTn_step r2 (x := (a.toBitVec.toNat >>> 8) % 256) (by omega)
  have r4 := RTn_step r3 (x := (a.toBitVec.toNat >>> 0) % 256) (by omega)
  refine ⟨_, _, ?_, ?_, r4⟩
  · unfold fX11_putBytes_0
    rw [hm, put_step (k := 24) hS (by omega) (by decide) (by decide), show (24 : Int32) + -8 = 16 from by decide, put_step (l := l + 1) (k := 16) (va_up_self _ _ _) (by omega) (by decide) (by decide), show (16 : Int32) + -8 = 8 from by decide, put_step (l := l + 1 + 1) (k := 8) (va_up_self _ _ _) (by omega) (by decide) (by decide), show (8 : Int32) + -8 = 0 from by decide, put_step (l := l + 1 + 1 + 1) (k := 0) (va_up_self _ _ _) (by omega) (by decide) (by decide), show (0 : Int32) + -8 = -8 from by decide]
    unfold fX11_putBytes_0_L3
    rw [if_pos (by decide)]
    simp only [up2, va_up_self]
  · unfold fX12_lays_0
    rw [hm, lay_step (k := 24) hS' (by omega) (by decide) (by decide) (by decide), show (24 : Int32) + -8 = 16 from by decide, lay_step (l := l + 1) (k := 16) (va_up_self _ _ _) (by omega) (by decide) (by decide) (by decide), show (16 : Int32) + -8 = 8 from by decide, lay_step (l := l + 1 + 1) (k := 8) (va_up_self _ _ _) (by omega) (by decide) (by decide) (by decide), show (8 : Int32) + -8 = 0 from by decide, lay_step (l := l + 1 + 1 + 1) (k := 0) (va_up_self _ _ _) (by omega) (by decide) (by decide) (by decide), show (0 : Int32) + -8 = -8 from by decide]
    unfold fX12_lays_0_L3
    rw [if_pos (by decide)]
    simp only [up2, va_up_self]
theorem sm_feed : St_feed Rel := fun S V S' V' L' a1 a2 a3 a4 a5 h => by
  obtain ⟨⟨l, hl, e, e', hT⟩, h2⟩ := id h
  have eC : S 1 + 20 = nI (l + 20) := by rw [e]; exact nI_add l 20
  have eR : va_up S' 0 0 13 + 20 = nI (l + 20) := by
    show S' 13 + 20 = _
    rw [e']; exact nI_add l 20
  by_cases hb : l + 20 ≤ 600
  · obtain ⟨f1, g1, p1, q1, t1⟩ := put_lay (S := S) (S' := va_up S' 0 0) (V := V) (V' := V') (a := a1) (l := l) e e' (by omega) hT
    obtain ⟨f2, g2, p2, q2, t2⟩ := put_lay (S := va_up S 1 (nI (l + 4))) (S' := va_up (va_up S' 0 0) 13 (nI (l + 4))) (V := va_up V 1 f1) (V' := va_up V' 5 g1) (a := a2) (l := l + 4) rfl rfl (by omega) t1
    obtain ⟨f3, g3, p3, q3, t3⟩ := put_lay (S := va_up S 1 (nI (l + 4 + 4))) (S' := va_up (va_up S' 0 0) 13 (nI (l + 4 + 4))) (V := va_up V 1 f2) (V' := va_up V' 5 g2) (a := a3) (l := l + 4 + 4) rfl rfl (by omega) t2
    obtain ⟨f4, g4, p4, q4, t4⟩ := put_lay (S := va_up S 1 (nI (l + 4 + 4 + 4))) (S' := va_up (va_up S' 0 0) 13 (nI (l + 4 + 4 + 4))) (V := va_up V 1 f3) (V' := va_up V' 5 g3) (a := a4) (l := l + 4 + 4 + 4) rfl rfl (by omega) t3
    obtain ⟨f5, g5, p5, q5, t5⟩ := put_lay (S := va_up S 1 (nI (l + 4 + 4 + 4 + 4))) (S' := va_up (va_up S' 0 0) 13 (nI (l + 4 + 4 + 4 + 4))) (V := va_up V 1 f4) (V' := va_up V' 5 g4) (a := a5) (l := l + 4 + 4 + 4 + 4) rfl rfl (by omega) t4
    simp only [up2] at p2 q2 p3 q3 p4 q4 p5 q5
    refine ⟨nI (l + 4 + 4 + 4 + 4 + 4), va_up S 1 (nI (l + 4 + 4 + 4 + 4 + 4)), va_up V 1 f5, va_up (va_up S' 0 0) 13 (nI (l + 4 + 4 + 4 + 4 + 4)), va_up V' 5 g5, ?_, ?_, ⟨l + 4 + 4 + 4 + 4 + 4, by omega, rfl, rfl, t5⟩, h2⟩
    · unfold fX11_feed_0
      rw [eC, if_pos (show nI (l + 20) ≤ 600 from nI_le (a := l + 20) (b := 600) hb (by decide)), p1]
      simp only [bd2]
      rw [p2]
      simp only [bd2]
      rw [p3]
      simp only [bd2]
      rw [p4]
      simp only [bd2]
      rw [p5]
      rfl
    · unfold fX12_feed_0
      simp only [lt_e]
      rw [eR, if_pos (show nI (l + 20) ≤ 600 from nI_le (a := l + 20) (b := 600) hb (by decide)), q1]
      simp only [bd2]
      rw [q2]
      simp only [bd2]
      rw [q3]
      simp only [bd2]
      rw [q4]
      simp only [bd2]
      rw [q5]
      rfl
  · refine ⟨-1, S, V, va_up S' 0 0, V', ?_, ?_, R_thr h⟩
    · unfold fX11_feed_0
      rw [eC, if_neg (show ¬ nI (l + 20) ≤ 600 from nI_ge (a := 600) (b := l + 20) (by omega) (by omega))]
    · unfold fX12_feed_0
      simp only [lt_e]
      rw [eR, if_neg (show ¬ nI (l + 20) ≤ 600 from nI_ge (a := 600) (b := l + 20) (by omega) (by omega))]
