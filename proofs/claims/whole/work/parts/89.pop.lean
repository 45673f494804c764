/-! ===== Integer.bitCount counts bits ===== -/
theorem i_ush {x j : Nat} (hx : x < 2 ^ 32) (hj : j < 32) : ((nI x).toUInt32 >>> ((nI j).toUInt32 &&& Int32.toUInt32 31)).toInt32 = nI (x / 2 ^ j) := by
  apply Int32.toBitVec_inj.mp
  apply BitVec.eq_of_toNat_eq
  have e1 : ((nI x).toUInt32 >>> ((nI j).toUInt32 &&& Int32.toUInt32 31)).toInt32.toBitVec.toNat = x >>> j := by
    show ((nI x).toUInt32 >>> ((nI j).toUInt32 &&& Int32.toUInt32 31)).toNat = _
    rw [UInt32.toNat_shiftRight]
    have e2 : ((nI j).toUInt32 &&& Int32.toUInt32 31).toNat % 32 = j := by
      have := s_u j hj
      rw [BitVec.toNat_umod] at this
      exact this
    have e3 : (nI x).toUInt32.toNat = x := by
      show (BitVec.ofNat 32 x).toNat = x
      rw [BitVec.toNat_ofNat, Nat.mod_eq_of_lt hx]
    rw [e2, e3]
  rw [e1, Nat.shiftRight_eq_div_pow]
  show _ = (BitVec.ofNat 32 (x / 2 ^ j)).toNat
  rw [BitVec.toNat_ofNat, Nat.mod_eq_of_lt (Nat.lt_of_le_of_lt (Nat.div_le_self _ _) hx)]
theorem and_nib (x m M : Nat) (hm : m < 16) : x &&& (m + 16 * M) = (x % 16 &&& m) + 16 * (x / 16 &&& M) := by
  have h1 : (x % 16 &&& m) < 2 ^ 4 := Nat.lt_of_le_of_lt Nat.and_le_right hm
  rw [show m + 16 * M = 2 ^ 4 * M + m by omega, show (x % 16 &&& m) + 16 * (x / 16 &&& M) = 2 ^ 4 * (x / 16 &&& M) + (x % 16 &&& m) by omega]
  apply Nat.eq_of_testBit_eq
  intro j
  rw [Nat.testBit_and, Nat.testBit_two_pow_mul_add _ hm, Nat.testBit_two_pow_mul_add _ h1]
  by_cases hj : j < 4
  · rw [if_pos hj, if_pos hj, Nat.testBit_and, show (16 : Nat) = 2 ^ 4 from rfl, Nat.testBit_mod_two_pow]
    simp [hj]
  · rw [if_neg hj, if_neg hj, Nat.testBit_and, show (16 : Nat) = 2 ^ 4 from rfl, Nat.testBit_div_two_pow]
    rw [show j - 4 + 4 = j by omega]
/-- by half bytes -/
def nibs (g : Nat → Nat) (x : Nat) : Nat := g (x % 16) + 16 * (g (x / 16 % 16) + 16 * (g (x / 256 % 16) + 16 * (g (x / 4096 % 16) + 16 * (g (x / 65536 % 16) + 16 * (g (x / 1048576 % 16) + 16 * (g (x / 16777216 % 16) + 16 * g (x / 268435456 % 16)))))))
theorem and_rep (x m : Nat) (hx : x < 2 ^ 32) (hm : m < 16) : x &&& (m + 16 * (m + 16 * (m + 16 * (m + 16 * (m + 16 * (m + 16 * (m + 16 * m))))))) = nibs (fun n => n &&& m) x := by
  unfold nibs
  rw [and_nib _ _ _ hm, and_nib _ _ _ hm, and_nib _ _ _ hm, and_nib _ _ _ hm, and_nib _ _ _ hm, and_nib _ _ _ hm, and_nib _ _ _ hm]
  rw [Nat.div_div_eq_div_mul, Nat.div_div_eq_div_mul, Nat.div_div_eq_div_mul, Nat.div_div_eq_div_mul, Nat.div_div_eq_div_mul, Nat.div_div_eq_div_mul]
  rw [show x / (16 * 16 * 16 * 16 * 16 * 16 * 16) % 16 = x / (16 * 16 * 16 * 16 * 16 * 16 * 16) from Nat.mod_eq_of_lt (by omega)]
def g55 (n : Nat) : Nat := n / 2 &&& 5
def h55 (n : Nat) : Nat := n - g55 n
def p33 (n : Nat) : Nat := (h55 n &&& 3) + (h55 n / 4 &&& 3)
theorem g55_le : ∀ n, n < 16 → g55 n ≤ n := by decide +kernel
theorem h55_lt : ∀ n, n < 16 → h55 n < 16 := by decide +kernel
theorem p33_le : ∀ n, n < 16 → p33 n ≤ 4 := by decide +kernel
theorem p33_ct : ∀ n, n < 16 → fb_ct n.testBit 4 = p33 n := by decide +kernel
theorem s55 : ∀ y, y < 32 → (y / 2 % 16 &&& 5) = g55 (y % 16) := by decide +kernel
theorem s33 : ∀ y, y < 64 → (y / 4 % 16 &&& 3) = (y % 16 / 4 &&& 3) := by decide +kernel
theorem nib_lt (x k : Nat) : x / k % 16 < 16 := Nat.mod_lt _ (by decide)
theorem sh55 (x k : Nat) : (x / 2 / k % 16 &&& 5) = g55 (x / k % 16) := by
  have h := s55 (x / k % 32) (Nat.mod_lt _ (by decide))
  rw [show x / 2 / k = x / k / 2 by rw [Nat.div_div_eq_div_mul, Nat.div_div_eq_div_mul, Nat.mul_comm], show x / k / 2 % 16 = x / k % 32 / 2 % 16 by omega, h]
  congr 1
  omega
theorem sh33 (x k : Nat) : (x / 4 / k % 16 &&& 3) = (x / k % 16 / 4 &&& 3) := by
  have h := s33 (x / k % 64) (Nat.mod_lt _ (by decide))
  rw [show x / 4 / k = x / k / 4 by rw [Nat.div_div_eq_div_mul, Nat.div_div_eq_div_mul, Nat.mul_comm], show x / k / 4 % 16 = x / k % 64 / 4 % 16 by omega, h]
  congr 2
  omega
theorem sh55' (x : Nat) : (x / 2 % 16 &&& 5) = g55 (x % 16) := by have := sh55 x 1; rwa [Nat.div_one, Nat.div_one] at this
theorem sh33' (x : Nat) : (x / 4 % 16 &&& 3) = (x % 16 / 4 &&& 3) := by have := sh33 x 1; rwa [Nat.div_one, Nat.div_one] at this
/-- eight half bytes -/
def sum8 (a b c d e f g h : Nat) : Nat := a + 16 * (b + 16 * (c + 16 * (d + 16 * (e + 16 * (f + 16 * (g + 16 * h))))))
theorem nib8 {a b c d e f g h : Nat} (h1 : a < 16) (h2 : b < 16) (h3 : c < 16) (h4 : d < 16) (h5 : e < 16) (h6 : f < 16) (h7 : g < 16) (h8 : h < 16) : sum8 a b c d e f g h % 16 = a ∧ sum8 a b c d e f g h / 16 % 16 = b ∧ sum8 a b c d e f g h / 256 % 16 = c ∧ sum8 a b c d e f g h / 4096 % 16 = d ∧ sum8 a b c d e f g h / 65536 % 16 = e ∧ sum8 a b c d e f g h / 1048576 % 16 = f ∧ sum8 a b c d e f g h / 16777216 % 16 = g ∧ sum8 a b c d e f g h / 268435456 % 16 = h ∧ sum8 a b c d e f g h < 2 ^ 32 := by
  unfold sum8
  refine ⟨?_, ?_, ?_, ?_, ?_, ?_, ?_, ?_, ?_⟩ <;> omega
theorem split8 {x : Nat} (hx : x < 2 ^ 32) : x = sum8 (x % 16) (x / 16 % 16) (x / 256 % 16) (x / 4096 % 16) (x / 65536 % 16) (x / 1048576 % 16) (x / 16777216 % 16) (x / 268435456 % 16) := by
  unfold sum8
  omega
theorem ct_split {x : Nat} : fb_ct x.testBit 32 = fb_ct (x % 16).testBit 4 + fb_ct (x / 16 % 16).testBit 4 + fb_ct (x / 256 % 16).testBit 4 + fb_ct (x / 4096 % 16).testBit 4 + fb_ct (x / 65536 % 16).testBit 4 + fb_ct (x / 1048576 % 16).testBit 4 + fb_ct (x / 16777216 % 16).testBit 4 + fb_ct (x / 268435456 % 16).testBit 4 := by
  have hb : ∀ (i k : Nat), k < 4 → (x / 2 ^ i % 16).testBit k = x.testBit (i + k) := fun i k hk => by
    rw [show (16 : Nat) = 2 ^ 4 from rfl, Nat.testBit_mod_two_pow, Nat.testBit_div_two_pow]
    simp [hk, Nat.add_comm]
  have c : ∀ i, fb_ct (x / 2 ^ i % 16).testBit 4 = fb_ct (fun k => x.testBit (i + k)) 4 := fun i => fb_ct_cong (fun k hk => hb i k hk)
  have c0 := c 0
  have c1 := c 4
  have c2 := c 8
  have c3 := c 12
  have c4 := c 16
  have c5 := c 20
  have c6 := c 24
  have c7 := c 28
  rw [show x / 2 ^ 0 = x from Nat.div_one x] at c0
  rw [show (2 : Nat) ^ 4 = 16 from rfl] at c1
  rw [show (2 : Nat) ^ 8 = 256 from rfl] at c2
  rw [show (2 : Nat) ^ 12 = 4096 from rfl] at c3
  rw [show (2 : Nat) ^ 16 = 65536 from rfl] at c4
  rw [show (2 : Nat) ^ 20 = 1048576 from rfl] at c5
  rw [show (2 : Nat) ^ 24 = 16777216 from rfl] at c6
  rw [show (2 : Nat) ^ 28 = 268435456 from rfl] at c7
  rw [c0, c1, c2, c3, c4, c5, c6, c7]
  have s : ∀ m, fb_ct x.testBit (m + 4) = fb_ct x.testBit m + fb_ct (fun k => x.testBit (m + k)) 4 := fun m => fb_ct_split _ m 4
  have s0 : fb_ct x.testBit 4 = 0 + fb_ct (fun k => x.testBit (0 + k)) 4 := s 0
  have s1 : fb_ct x.testBit 8 = _ := s 4
  have s2 : fb_ct x.testBit 12 = _ := s 8
  have s3 : fb_ct x.testBit 16 = _ := s 12
  have s4 : fb_ct x.testBit 20 = _ := s 16
  have s5 : fb_ct x.testBit 24 = _ := s 20
  have s6 : fb_ct x.testBit 28 = _ := s 24
  have s7 : fb_ct x.testBit 32 = _ := s 28
  rw [s7, s6, s5, s4, s3, s2, s1, s0, Nat.zero_add]
theorem s8_v2 {a b c d e f g h : Nat} (ha : a ≤ 4) (hb : b ≤ 4) (hc : c ≤ 4) (hd : d ≤ 4) (he : e ≤ 4) (hf : f ≤ 4) (hg : g ≤ 4) (hh : h ≤ 4) : sum8 a b c d e f g h + sum8 a b c d e f g h / 2 ^ 4 = sum8 (a + b) (b + c) (c + d) (d + e) (e + f) (f + g) (g + h) h := by
  have e1 : sum8 a b c d e f g h / 2 ^ 4 = sum8 b c d e f g h 0 := by
    unfold sum8
    generalize b + 16 * (c + 16 * (d + 16 * (e + 16 * (f + 16 * (g + 16 * h))))) = z
    omega
  rw [e1]
  unfold sum8
  omega
theorem s8_v5 {p q r s : Nat} (hp : p ≤ 8) (hq : q ≤ 8) (hr : r ≤ 8) (hs : s ≤ 8) : sum8 p 0 q 0 r 0 s 0 + sum8 p 0 q 0 r 0 s 0 / 2 ^ 8 = sum8 (p + q) 0 (q + r) 0 (r + s) 0 s 0 := by
  have e1 : sum8 p 0 q 0 r 0 s 0 / 2 ^ 8 = sum8 q 0 r 0 s 0 0 0 := by
    unfold sum8
    generalize q + 16 * (0 + 16 * (r + 16 * (0 + 16 * (s + 16 * 0)))) = z
    omega
  rw [e1]
  unfold sum8
  omega
theorem s8_v6 {p q r s : Nat} (hp : p ≤ 8) (hq : q ≤ 8) (hr : r ≤ 8) (hs : s ≤ 8) : (sum8 (p + q) 0 (q + r) 0 (r + s) 0 s 0 + sum8 (p + q) 0 (q + r) 0 (r + s) 0 s 0 / 2 ^ 16) % 2 ^ 6 = p + q + r + s := by
  have e1 : sum8 (p + q) 0 (q + r) 0 (r + s) 0 s 0 / 2 ^ 16 = sum8 (r + s) 0 s 0 0 0 0 0 := by
    unfold sum8
    generalize (r + s) + 16 * (0 + 16 * (s + 16 * 0)) = z
    omega
  rw [e1]
  unfold sum8
  omega
theorem s8_x1 {x a b c d e f g h ga gb gc gd ge gf gg gh : Nat} (q : x = sum8 a b c d e f g h) (qa : ga ≤ a) (qb : gb ≤ b) (qc : gc ≤ c) (qd : gd ≤ d) (qe : ge ≤ e) (qf : gf ≤ f) (qg : gg ≤ g) (qh : gh ≤ h) : x - sum8 ga gb gc gd ge gf gg gh = sum8 (a - ga) (b - gb) (c - gc) (d - gd) (e - ge) (f - gf) (g - gg) (h - gh) ∧ sum8 ga gb gc gd ge gf gg gh ≤ x := by
  subst q
  unfold sum8
  omega
theorem s8_add {a b c d e f g h a2 b2 c2 d2 e2 f2 g2 h2 : Nat} : (a + 16 * (b + 16 * (c + 16 * (d + 16 * (e + 16 * (f + 16 * (g + 16 * h))))))) + (a2 + 16 * (b2 + 16 * (c2 + 16 * (d2 + 16 * (e2 + 16 * (f2 + 16 * (g2 + 16 * h2))))))) = sum8 (a + a2) (b + b2) (c + c2) (d + d2) (e + e2) (f + f2) (g + g2) (h + h2) := by
  unfold sum8
  omega
theorem s8_lt {a b c d e f g h : Nat} (qa : a < 16) (qb : b < 16) (qc : c < 16) (qd : d < 16) (qe : e < 16) (qf : f < 16) (qg : g < 16) (qh : h < 16) : sum8 a b c d e f g h < 2 ^ 32 := by
  unfold sum8
  omega
theorem s8_lt2 {p q r s : Nat} (hp : p ≤ 16) (hq : q ≤ 16) (hr : r ≤ 16) (hs : s ≤ 8) : sum8 p 0 q 0 r 0 s 0 < 2 ^ 32 := by
  unfold sum8
  omega
theorem bitCount_eq {x : Nat} (hx : x < 2 ^ 31) : fJ6_bitCount_0f7a4 (nI x) = some (nI (fb_ct x.testBit 32)) := by
  have hx2 : x < 2 ^ 32 := by omega
  unfold fJ6_bitCount_0f7a4
  simp only [lt_e]
  generalize ha : x % 16 = a
  generalize hb : x / 16 % 16 = b
  generalize hc : x / 256 % 16 = c
  generalize hd : x / 4096 % 16 = d
  generalize he : x / 65536 % 16 = e
  generalize hf : x / 1048576 % 16 = f
  generalize hg : x / 16777216 % 16 = g
  generalize hh : x / 268435456 % 16 = h
  have a1 : a < 16 := by omega
  have b1 : b < 16 := by omega
  have c1 : c < 16 := by omega
  have d1 : d < 16 := by omega
  have e1 : e < 16 := by omega
  have f1 : f < 16 := by omega
  have g1 : g < 16 := by omega
  have h1 : h < 16 := by omega
  have y1 : x / 2 ^ 1 &&& 1431655765 = sum8 (g55 a) (g55 b) (g55 c) (g55 d) (g55 e) (g55 f) (g55 g) (g55 h) := by
    have := and_rep (x / 2) 5 (by omega) (by decide)
    rw [show x / 2 ^ 1 = x / 2 from rfl]
    refine this.trans ?_
    unfold nibs sum8
    simp only [sh55, sh55', ha, hb, hc, hd, he, hf, hg, hh]
  obtain ⟨x1, ley⟩ : x - sum8 (g55 a) (g55 b) (g55 c) (g55 d) (g55 e) (g55 f) (g55 g) (g55 h) = sum8 (h55 a) (h55 b) (h55 c) (h55 d) (h55 e) (h55 f) (h55 g) (h55 h) ∧ sum8 (g55 a) (g55 b) (g55 c) (g55 d) (g55 e) (g55 f) (g55 g) (g55 h) ≤ x := by
    have q := split8 hx2
    rw [ha, hb, hc, hd, he, hf, hg, hh] at q
    exact s8_x1 q (g55_le a a1) (g55_le b b1) (g55_le c c1) (g55_le d d1) (g55_le e e1) (g55_le f f1) (g55_le g g1) (g55_le h h1)
  obtain ⟨n0, n1, n2, n3, n4, n5, n6, n7, nl⟩ := nib8 (h55_lt a a1) (h55_lt b b1) (h55_lt c c1) (h55_lt d d1) (h55_lt e e1) (h55_lt f f1) (h55_lt g g1) (h55_lt h h1)
  generalize hw : sum8 (h55 a) (h55 b) (h55 c) (h55 d) (h55 e) (h55 f) (h55 g) (h55 h) = w at *
  have z1 : w &&& 858993459 = nibs (fun n => n &&& 3) w := and_rep w 3 nl (by decide)
  have z2 : w / 2 ^ 2 &&& 858993459 = nibs (fun n => n / 4 &&& 3) w := by
    have := and_rep (w / 4) 3 (by omega) (by decide)
    rw [show w / 2 ^ 2 = w / 4 from rfl]
    refine this.trans ?_
    unfold nibs
    simp only [sh33, sh33']
  have z3 : (w &&& 858993459) + (w / 2 ^ 2 &&& 858993459) = sum8 (p33 a) (p33 b) (p33 c) (p33 d) (p33 e) (p33 f) (p33 g) (p33 h) := by
    rw [z1, z2]
    unfold nibs
    simp only [n0, n1, n2, n3, n4, n5, n6, n7]
    exact s8_add
  have pa := p33_le a a1
  have pb := p33_le b b1
  have pc := p33_le c c1
  have pd := p33_le d d1
  have pe := p33_le e e1
  have pf := p33_le f f1
  have pg := p33_le g g1
  have ph := p33_le h h1
  rw [ct_split, ha, hb, hc, hd, he, hf, hg, hh]
  clear ha hb hc hd he hf hg hh
  rw [p33_ct a a1, p33_ct b b1, p33_ct c c1, p33_ct d d1, p33_ct e e1, p33_ct f f1, p33_ct g g1, p33_ct h h1]
  rw [show (1 : Int32) = nI 1 from rfl, show (2 : Int32) = nI 2 from rfl, show (4 : Int32) = nI 4 from rfl, show (8 : Int32) = nI 8 from rfl, show (16 : Int32) = nI 16 from rfl, show (1431655765 : Int32) = nI 1431655765 from rfl, show (858993459 : Int32) = nI 858993459 from rfl, show (252645135 : Int32) = nI 252645135 from rfl, show (63 : Int32) = nI 63 from rfl]
  rw [i_ush hx2 (by decide : 1 < 32), fa_and, y1, nI_sub ley, x1, i_ush nl (by decide : 2 < 32), fa_and, fa_and, nI_add, z3]
  generalize p33 a = pa' at *
  generalize p33 b = pb' at *
  generalize p33 c = pc' at *
  generalize p33 d = pd' at *
  generalize p33 e = pe' at *
  generalize p33 f = pf' at *
  generalize p33 g = pg' at *
  generalize p33 h = ph' at *
  have v1 : sum8 pa' pb' pc' pd' pe' pf' pg' ph' < 2 ^ 32 := s8_lt (by omega) (by omega) (by omega) (by omega) (by omega) (by omega) (by omega) (by omega)
  have v2 : sum8 pa' pb' pc' pd' pe' pf' pg' ph' + sum8 pa' pb' pc' pd' pe' pf' pg' ph' / 2 ^ 4 = sum8 (pa' + pb') (pb' + pc') (pc' + pd') (pd' + pe') (pe' + pf') (pf' + pg') (pg' + ph') ph' := s8_v2 pa pb pc pd pe pf pg ph
  rw [i_ush v1 (by decide : 4 < 32), nI_add, v2]
  have v3 : sum8 (pa' + pb') (pb' + pc') (pc' + pd') (pd' + pe') (pe' + pf') (pf' + pg') (pg' + ph') ph' &&& 252645135 = sum8 (pa' + pb') 0 (pc' + pd') 0 (pe' + pf') 0 (pg' + ph') 0 := by
    obtain ⟨k0, k1, k2, k3, k4, k5, k6, k7, kl⟩ := nib8 (show pa' + pb' < 16 by omega) (show pb' + pc' < 16 by omega) (show pc' + pd' < 16 by omega) (show pd' + pe' < 16 by omega) (show pe' + pf' < 16 by omega) (show pf' + pg' < 16 by omega) (show pg' + ph' < 16 by omega) (show ph' < 16 by omega)
    generalize sum8 (pa' + pb') (pb' + pc') (pc' + pd') (pd' + pe') (pe' + pf') (pf' + pg') (pg' + ph') ph' = u at *
    rw [show (252645135 : Nat) = 15 + 16 * (0 + 16 * (15 + 16 * (0 + 16 * (15 + 16 * (0 + 16 * (15 + 16 * 0)))))) from rfl]
    rw [and_nib _ _ _ (by decide), and_nib _ _ _ (by decide), and_nib _ _ _ (by decide), and_nib _ _ _ (by decide), and_nib _ _ _ (by decide), and_nib _ _ _ (by decide), and_nib _ _ _ (by decide)]
    rw [Nat.div_div_eq_div_mul, Nat.div_div_eq_div_mul, Nat.div_div_eq_div_mul, Nat.div_div_eq_div_mul, Nat.div_div_eq_div_mul, Nat.div_div_eq_div_mul]
    rw [k0, show u / (16 * 16) % 16 = pc' + pd' from k2, show u / (16 * 16 * 16 * 16) % 16 = pe' + pf' from k4, show u / (16 * 16 * 16 * 16 * 16 * 16) % 16 = pg' + ph' from k6]
    have m15 : ∀ n, n < 16 → n &&& 15 = n := by decide +kernel
    simp only [Nat.and_zero]
    rw [m15 _ (by omega), m15 _ (by omega), m15 _ (by omega), m15 _ (by omega)]
    rfl
  rw [fa_and, v3]
  have v4 : sum8 (pa' + pb') 0 (pc' + pd') 0 (pe' + pf') 0 (pg' + ph') 0 < 2 ^ 32 := s8_lt (by omega) (by omega) (by omega) (by omega) (by omega) (by omega) (by omega) (by omega)
  rw [i_ush v4 (by decide : 8 < 32), nI_add, s8_v5 (by omega) (by omega) (by omega) (by omega)]
  have v5 : sum8 (pa' + pb' + (pc' + pd')) 0 (pc' + pd' + (pe' + pf')) 0 (pe' + pf' + (pg' + ph')) 0 (pg' + ph') 0 < 2 ^ 32 := s8_lt2 (by omega) (by omega) (by omega) (by omega)
  rw [i_ush v5 (by decide : 16 < 32), nI_add, show nI 63 = nI (2 ^ 6 - 1) from rfl, fa_mask, s8_v6 (by omega) (by omega) (by omega) (by omega)]
  refine congrArg some (congrArg nI ?_)
  omega
