/-! ===== house, to its end ===== -/
def eH (S44 : Nat → Int32) (V45 : Nat → Nat → Int32) (L46 : Nat → Int64) : Option (Int32 × (Nat → Int32) × (Nat → Nat → Int32) × (Nat → Int64)) :=

  bd1 (fX12_isGood_0 S44) (fun r47 =>
  (if r47 = 0 then
  gd (ib (0 : Int32) 3) (
  lt (((V45 6 ((0 : Int32)).toNatClampNeg) + (1 : Int32))) (fun x78 =>
  gd (ib (0 : Int32) 3) (
  lt (va_up V45 6 (upd (V45 6) ((0 : Int32)).toNatClampNeg x78)) (fun V80 =>
  some ((S44 14), S44, V80, L46)))))
  else
  lt ((S44 25)) (fun x50 =>
  lt (va_up S44 1 x50) (fun S51 =>
  lt ((S51 26)) (fun x52 =>
  lt (va_up S51 2 x52) (fun S53 =>
  lt ((S53 27)) (fun x54 =>
  lt (va_up S53 3 x54) (fun S55 =>
  lt ((S55 28)) (fun x56 =>
  lt (va_up S55 4 x56) (fun S57 =>
  lt ((S57 29)) (fun x58 =>
  lt (va_up S57 5 x58) (fun S59 =>
  lt ((S59 30)) (fun x60 =>
  lt (va_up S59 6 x60) (fun S61 =>
  lt ((S61 31)) (fun x62 =>
  lt (va_up S61 7 x62) (fun S63 =>
  bd1 (fX12_copies_0_7_1 V45) (fun V64 =>
  bd1 (fX12_copies_0_8_2 V64) (fun V66 =>
  bd1 (fX12_copies_0_9_3 V66) (fun V68 =>
  bd1 (fX12_copies_0_10_4 V68) (fun V70 =>
  lt (va_up S63 42 (0 : Int32)) (fun S72 =>
  lt (va_up S72 53 (0 : Int32)) (fun S73 =>
  lt (va_up S73 49 (0 : Int32)) (fun S74 =>
  lt (va_up S74 52 (0 : Int32)) (fun S75 =>
  lt (va_up S75 55 (0 : Int32)) (fun S76 =>
  some ((0 : Int32), S76, V70, L46))))))))))))))))))))))))))
abbrev hR0 (S : Nat → Int32) (n : Int32) : Nat → Int32 := va_up (va_up (va_up (va_up (va_up (va_up (va_up (va_up (va_up (va_up (va_up (va_up (va_up (va_up (va_up S 0 0) 13 0) 15 (-1)) 14 0) 17 n) 18 0) 25 30) 26 0) 27 7) 28 200) 29 0) 30 0) 31 0) 32 0) 33 0
abbrev hC0 (S : Nat → Int32) (n : Int32) : Nat → Int32 := va_up (va_up (va_up (va_up (va_up (va_up (va_up (va_up (va_up (va_up (va_up (va_up (va_up (va_up S 1 0) 2001 n) 2005 0) 1200 30) 1201 0) 1202 7) 1203 200) 1204 0) 1205 0) 1206 0) 1213 0) 1103 0) 1104 0) 1105 0
section HS
variable {S : Nat → Int32} {V : Nat → Nat → Int32} {L : Nat → Int64}
theorem house_r {n l : Nat} (h13 : S 13 = nI l) (hnl : n ≤ l) (hl : l ≤ 600) : fX12_house_0 S V L (nI n) = bd2 (fX12_goes_0 (hR0 S (nI n)) V L) (fun S26 L27 => fX12_house_0_L110 eH FU S26 V L27) := by
  unfold fX12_house_0
  rw [lt_e, bk_e, bk_e, if_neg (nI_pos (n := n) (by omega)), show (va_up S 0 0) 13 = nI l from h13, if_neg (nI_nlt hnl (by omega))]
  dsimp only
  rw [right_t rfl, bd2_s, if_neg (show ¬ (1 : Int32) = 0 by decide), lt_e, lt_e, lt_e, lt_e, lt_e, lt_e, lt_e, lt_e, lt_e, lt_e, lt_e, lt_e, lt_e, lt_e]
  refine congrArg (bd2 _) ?_
  funext S26 L27
  rw [bk_e]
  refine congrArg (fun E => fX12_house_0_L110 E FU S26 V L27) ?_
  funext S44 V45 L46
  unfold eH
  exact Eq.refl _
theorem eH_bad (h : ¬ S 14 = 0) : eH S V L = some (S 14, S, va_up V 6 (upd (V 6) 0 (V 6 0 + 1)), L) := by
  unfold eH
  rw [good_0 h, bd1_s, if_pos rfl, gd_t (by decide), lt_e, gd_t (by decide), lt_e]
  rfl
theorem eH_good (h : S 14 = 0) : eH S V L = some (0, va_up (va_up (va_up (va_up (va_up (va_up (va_up (va_up (va_up (va_up (va_up (va_up S 1 (S 25)) 2 (S 26)) 3 (S 27)) 4 (S 28)) 5 (S 29)) 6 (S 30)) 7 (S 31)) 42 0) 53 0) 49 0) 52 0) 55 0, va_up (va_up (va_up (va_up V 1 (fun j => if j < 24 then V 7 j else V 1 j)) 2 (fun j => if j < 6 then V 8 j else V 2 j)) 3 (fun j => if j < 4 then V 9 j else V 3 j)) 4 (fun j => if j < 1600 then V 10 j else V 4 j), L) := by
  unfold eH
  rw [good_1 h, bd1_s, if_neg (show ¬ (1 : Int32) = 0 by decide)]
  simp only [lt_e]
  rw [cp_7_1, bd1_s, cp_8_2, bd1_s, cp_9_3, bd1_s, cp_10_4, bd1_s]
  rfl
theorem copyF {s : Nat} (h13 : S 1213 = nI s) (hs : s ≤ 600) : fX2_copyFrom_3_12 S V = some (va_up (va_up (va_up (va_up (va_up (va_up (va_up (va_up S 300 (S 1200)) 301 (S 1201)) 302 (S 1202)) 303 (S 1203)) 304 (S 1204)) 305 (S 1205)) 306 (S 1206)) 313 (nI s), va_up (va_up (va_up (va_up (va_up (va_up (va_up V 4 (va_cpy (V 13) (V 4) 0 0 6)) 5 (va_cpy (V 14) (V 5) 0 0 6)) 6 (va_cpy (V 15) (V 6) 0 0 6)) 7 (va_cpy (V 16) (V 7) 0 0 6)) 8 (va_cpy (V 17) (V 8) 0 0 6)) 10 (va_cpy (V 19) (V 10) 0 0 4)) 9 (va_cpy (V 18) (V 9) 0 0 s)) := by
  unfold fX2_copyFrom_3_12
  simp only [lt_e]
  show gd (cpr 0 0 6 6 6) (gd (cpr 0 0 6 6 6) (gd (cpr 0 0 6 6 6) (gd (cpr 0 0 6 6 6) (gd (cpr 0 0 6 6 6) (gd (cpr 0 0 4 4 4) (gd (cpr 0 0 (S 1213) 600 600) (some (va_up (va_up (va_up (va_up (va_up (va_up (va_up (va_up S 300 (S 1200)) 301 (S 1201)) 302 (S 1202)) 303 (S 1203)) 304 (S 1204)) 305 (S 1205)) 306 (S 1206)) 313 (S 1213), va_up (va_up (va_up (va_up (va_up (va_up (va_up V 4 (va_cpy (V 13) (V 4) 0 0 6)) 5 (va_cpy (V 14) (V 5) 0 0 6)) 6 (va_cpy (V 15) (V 6) 0 0 6)) 7 (va_cpy (V 16) (V 7) 0 0 6)) 8 (va_cpy (V 17) (V 8) 0 0 6)) 10 (va_cpy (V 19) (V 10) 0 0 4)) 9 (va_cpy (V 18) (V 9) 0 0 (S 1213).toNatClampNeg)))))))))  = _
  rw [gd_t (by decide), gd_t (by decide), gd_t (by decide), gd_t (by decide), gd_t (by decide), gd_t (by decide), h13, gd_t (cpr_n hs hs (by decide)), nI_cl s (by omega)]
end HS
