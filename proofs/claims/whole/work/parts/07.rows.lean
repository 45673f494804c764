/-! ===== the tables of cells ===== -/
def tcs0 : List (Nat × Nat) := [(1, 1), (0, 0), (0, 0), (1, 2), (1, 3), (1, 11), (1, 27), (1, 30), (1, 36), (1, 42), (1, 45), (0, 0), (1, 48), (1, 49), (1, 58), (1, 59)]
def tcs3 : List (Nat × Nat) := [(0, 0), (0, 0), (0, 0), (0, 0), (0, 0), (0, 0), (0, 0), (1, 4), (1, 5), (1, 6), (1, 7), (1, 8), (1, 9), (0, 0), (1, 10)]
def tcs11 : List (Nat × Nat) := [(1, 12), (1, 20), (1, 25), (0, 0), (0, 0), (0, 0), (0, 0)]
def tcs12 : List (Nat × Nat) := [(0, 0), (0, 0), (0, 0), (0, 0), (0, 0), (0, 0), (0, 0), (1, 13), (1, 14), (1, 15), (1, 16), (1, 17), (1, 18), (0, 0), (1, 19)]
def tcs20 : List (Nat × Nat) := [(1, 21), (0, 0), (1, 22), (1, 23), (1, 24), (0, 0)]
def tcs25 : List (Nat × Nat) := [(1, 20), (1, 12), (1, 26), (0, 0), (0, 0), (0, 0), (0, 0), (0, 0)]
def tcs27 : List (Nat × Nat) := [(1, 3), (1, 28), (1, 29)]
def tcs30 : List (Nat × Nat) := [(1, 3), (1, 27), (0, 0), (1, 31), (1, 32), (1, 33), (1, 34), (1, 35)]
def tcs36 : List (Nat × Nat) := [(1, 3), (1, 27), (0, 0), (1, 37), (1, 38), (1, 39), (1, 40), (1, 41)]
def tcs42 : List (Nat × Nat) := [(0, 0), (1, 43), (1, 44), (0, 0), (0, 0)]
def tcs45 : List (Nat × Nat) := [(0, 0), (1, 46), (1, 47), (0, 0), (0, 0)]
def tcs48 : List (Nat × Nat) := [(1, 3), (1, 30)]
def tcs49 : List (Nat × Nat) := [(1, 3), (1, 27), (1, 50), (0, 0), (1, 51), (1, 52), (1, 53), (1, 54), (1, 55), (1, 56), (0, 0), (0, 0), (1, 57)]
def tcs58 : List (Nat × Nat) := [(1, 3), (0, 0), (0, 0), (0, 0), (0, 0), (0, 0)]
def tcs59 : List (Nat × Nat) := [(1, 30), (1, 60), (1, 61), (0, 0), (1, 62)]
def TC : jT := [.inl (11, tcs0), .inr (600, 1), .inr (3, 0), .inl (2, tcs3), .inr (6, 0), .inr (6, 0), .inr (6, 0), .inr (6, 0), .inr (6, 0), .inr (600, 0), .inr (4, 0), .inl (3, tcs11), .inl (2, tcs12), .inr (6, 0), .inr (6, 0), .inr (6, 0), .inr (6, 0), .inr (6, 0), .inr (600, 0), .inr (4, 0), .inl (10, tcs20), .inr (600, 1), .inr (601, 0), .inr (601, 0), .inr (601, 0), .inl (9, tcs25), .inr (84, 0), .inl (8, tcs27), .inr (6, 0), .inr (40, 0), .inl (4, tcs30), .inr (13, 0), .inr (13, 0), .inr (13, 0), .inr (13, 0), .inr (72, 0), .inl (4, tcs36), .inr (13, 0), .inr (13, 0), .inr (13, 0), .inr (13, 0), .inr (72, 0), .inl (5, tcs42), .inr (8, 0), .inr (8, 0), .inl (5, tcs45), .inr (8, 0), .inr (8, 0), .inl (6, tcs48), .inl (0, tcs49), .inr (4, 0), .inr (64, 0), .inr (64, 0), .inr (256, 0), .inr (5, 0), .inr (4, 0), .inr (4, 0), .inr (6, 0), .inl (1, tcs58), .inl (7, tcs59), .inr (64, 0), .inr (6, 0), .inr (6, 0)]
/-- x -/
theorem tc_0 : TC[0]? = some (.inl (11, tcs0)) := rfl
/-- x.tape -/
theorem tc_1 : TC[1]? = some (.inr (600, 1)) := rfl
/-- x.refused -/
theorem tc_2 : TC[2]? = some (.inr (3, 0)) := rfl
/-- dwelling -/
theorem tc_3 : TC[3]? = some (.inl (2, tcs3)) := rfl
/-- dwelling.weight -/
theorem tc_4 : TC[4]? = some (.inr (6, 0)) := rfl
/-- dwelling.breath -/
theorem tc_5 : TC[5]? = some (.inr (6, 0)) := rfl
/-- dwelling.stay -/
theorem tc_6 : TC[6]? = some (.inr (6, 0)) := rfl
/-- dwelling.rentAnHour -/
theorem tc_7 : TC[7]? = some (.inr (6, 0)) := rfl
/-- dwelling.foes -/
theorem tc_8 : TC[8]? = some (.inr (6, 0)) := rfl
/-- dwelling.code -/
theorem tc_9 : TC[9]? = some (.inr (600, 0)) := rfl
/-- dwelling.ruleEnd -/
theorem tc_10 : TC[10]? = some (.inr (4, 0)) := rfl
/-- reader -/
theorem tc_11 : TC[11]? = some (.inl (3, tcs11)) := rfl
/-- draft -/
theorem tc_12 : TC[12]? = some (.inl (2, tcs12)) := rfl
/-- draft.weight -/
theorem tc_13 : TC[13]? = some (.inr (6, 0)) := rfl
/-- draft.breath -/
theorem tc_14 : TC[14]? = some (.inr (6, 0)) := rfl
/-- draft.stay -/
theorem tc_15 : TC[15]? = some (.inr (6, 0)) := rfl
/-- draft.rentAnHour -/
theorem tc_16 : TC[16]? = some (.inr (6, 0)) := rfl
/-- draft.foes -/
theorem tc_17 : TC[17]? = some (.inr (6, 0)) := rfl
/-- draft.code -/
theorem tc_18 : TC[18]? = some (.inr (600, 0)) := rfl
/-- draft.ruleEnd -/
theorem tc_19 : TC[19]? = some (.inr (4, 0)) := rfl
/-- tokens -/
theorem tc_20 : TC[20]? = some (.inl (10, tcs20)) := rfl
/-- tokens.text -/
theorem tc_21 : TC[21]? = some (.inr (600, 1)) := rfl
/-- tokens.kinds -/
theorem tc_22 : TC[22]? = some (.inr (601, 0)) := rfl
/-- tokens.starts -/
theorem tc_23 : TC[23]? = some (.inr (601, 0)) := rfl
/-- tokens.numbers -/
theorem tc_24 : TC[24]? = some (.inr (601, 0)) := rfl
/-- ruleReader -/
theorem tc_25 : TC[25]? = some (.inl (9, tcs25)) := rfl
/-- ruleReader.waiting -/
theorem tc_26 : TC[26]? = some (.inr (84, 0)) := rfl
/-- ruleJudge -/
theorem tc_27 : TC[27]? = some (.inl (8, tcs27)) := rfl
/-- ruleJudge.values -/
theorem tc_28 : TC[28]? = some (.inr (6, 0)) := rfl
/-- ruleJudge.operands -/
theorem tc_29 : TC[29]? = some (.inr (40, 0)) := rfl
/-- leases -/
theorem tc_30 : TC[30]? = some (.inl (4, tcs30)) := rfl
/-- leases.tenant -/
theorem tc_31 : TC[31]? = some (.inr (13, 0)) := rfl
/-- leases.half -/
theorem tc_32 : TC[32]? = some (.inr (13, 0)) := rfl
/-- leases.from -/
theorem tc_33 : TC[33]? = some (.inr (13, 0)) := rfl
/-- leases.to -/
theorem tc_34 : TC[34]? = some (.inr (13, 0)) := rfl
/-- leases.cells -/
theorem tc_35 : TC[35]? = some (.inr (72, 0)) := rfl
/-- leasesImage -/
theorem tc_36 : TC[36]? = some (.inl (4, tcs36)) := rfl
/-- leasesImage.tenant -/
theorem tc_37 : TC[37]? = some (.inr (13, 0)) := rfl
/-- leasesImage.half -/
theorem tc_38 : TC[38]? = some (.inr (13, 0)) := rfl
/-- leasesImage.from -/
theorem tc_39 : TC[39]? = some (.inr (13, 0)) := rfl
/-- leasesImage.to -/
theorem tc_40 : TC[40]? = some (.inr (13, 0)) := rfl
/-- leasesImage.cells -/
theorem tc_41 : TC[41]? = some (.inr (72, 0)) := rfl
/-- offers -/
theorem tc_42 : TC[42]? = some (.inl (5, tcs42)) := rfl
/-- offers.hours -/
theorem tc_43 : TC[43]? = some (.inr (8, 0)) := rfl
/-- offers.coins -/
theorem tc_44 : TC[44]? = some (.inr (8, 0)) := rfl
/-- offersImage -/
theorem tc_45 : TC[45]? = some (.inl (5, tcs45)) := rfl
/-- offersImage.hours -/
theorem tc_46 : TC[46]? = some (.inr (8, 0)) := rfl
/-- offersImage.coins -/
theorem tc_47 : TC[47]? = some (.inr (8, 0)) := rfl
/-- pendulum -/
theorem tc_48 : TC[48]? = some (.inl (6, tcs48)) := rfl
/-- anew -/
theorem tc_49 : TC[49]? = some (.inl (0, tcs49)) := rfl
/-- anew.who -/
theorem tc_50 : TC[50]? = some (.inr (4, 0)) := rfl
/-- anew.span -/
theorem tc_51 : TC[51]? = some (.inr (64, 0)) := rfl
/-- anew.alone -/
theorem tc_52 : TC[52]? = some (.inr (64, 0)) := rfl
/-- anew.beside -/
theorem tc_53 : TC[53]? = some (.inr (256, 0)) := rfl
/-- anew.mostBehind -/
theorem tc_54 : TC[54]? = some (.inr (5, 0)) := rfl
/-- anew.slot -/
theorem tc_55 : TC[55]? = some (.inr (4, 0)) := rfl
/-- anew.bestSlot -/
theorem tc_56 : TC[56]? = some (.inr (4, 0)) := rfl
/-- anew.keptPlace -/
theorem tc_57 : TC[57]? = some (.inr (6, 0)) := rfl
/-- cases -/
theorem tc_58 : TC[58]? = some (.inl (1, tcs58)) := rfl
/-- rounds -/
theorem tc_59 : TC[59]? = some (.inl (7, tcs59)) := rfl
/-- rounds.hoursOfSome -/
theorem tc_60 : TC[60]? = some (.inr (64, 0)) := rfl
/-- rounds.hourFound -/
theorem tc_61 : TC[61]? = some (.inr (6, 0)) := rfl
/-- rounds.keptHour -/
theorem tc_62 : TC[62]? = some (.inr (6, 0)) := rfl
theorem TC_ok : jok TC := jok_of (by decide)
def trs0 : List (Nat × Nat) := [(0, 0), (0, 0), (0, 0), (0, 0), (0, 0), (0, 0), (0, 0), (0, 0), (1, 1), (1, 2), (1, 3), (1, 4), (1, 5), (0, 0), (0, 0), (0, 0), (1, 6), (0, 0), (0, 0), (0, 0), (0, 0), (0, 0), (0, 0), (0, 0), (2, 0), (0, 0), (0, 0), (0, 0), (0, 0), (0, 0), (0, 0), (0, 0), (0, 0), (0, 0), (0, 0), (0, 0), (1, 7), (1, 8), (1, 9), (1, 10), (1, 11), (1, 12), (0, 0), (1, 13), (1, 14), (1, 15), (1, 16), (1, 17), (1, 18), (0, 0), (1, 19), (1, 20), (0, 0), (0, 0), (1, 21), (0, 0), (0, 0), (0, 0), (1, 22), (1, 23)]
def TR : jT := [.inl (12, trs0), .inr (24, 0), .inr (6, 0), .inr (4, 0), .inr (1600, 0), .inr (600, 0), .inr (3, 0), .inr (24, 0), .inr (6, 0), .inr (4, 0), .inr (1600, 0), .inr (800, 0), .inr (9, 2), .inr (52, 0), .inr (16, 0), .inr (800, 0), .inr (4, 0), .inr (4, 0), .inr (6, 0), .inr (6, 0), .inr (6, 0), .inr (24, 0), .inr (52, 0), .inr (24, 0)]
/-- m -/
theorem tr_0 : TR[0]? = some (.inl (12, trs0)) := rfl
/-- m.tenant -/
theorem tr_1 : TR[1]? = some (.inr (24, 0)) := rfl
/-- m.against -/
theorem tr_2 : TR[2]? = some (.inr (6, 0)) := rfl
/-- m.ruleAt -/
theorem tr_3 : TR[3]? = some (.inr (4, 0)) := rfl
/-- m.code -/
theorem tr_4 : TR[4]? = some (.inr (1600, 0)) := rfl
/-- m.tape -/
theorem tr_5 : TR[5]? = some (.inr (600, 0)) := rfl
/-- m.refused -/
theorem tr_6 : TR[6]? = some (.inr (3, 0)) := rfl
/-- m.newTenant -/
theorem tr_7 : TR[7]? = some (.inr (24, 0)) := rfl
/-- m.newAgainst -/
theorem tr_8 : TR[8]? = some (.inr (6, 0)) := rfl
/-- m.newRuleAt -/
theorem tr_9 : TR[9]? = some (.inr (4, 0)) := rfl
/-- m.readCode -/
theorem tr_10 : TR[10]? = some (.inr (1600, 0)) := rfl
/-- m.waits -/
theorem tr_11 : TR[11]? = some (.inr (800, 0)) := rfl
/-- m.tested -/
theorem tr_12 : TR[12]? = some (.inr (9, 2)) := rfl
/-- m.lease -/
theorem tr_13 : TR[13]? = some (.inr (52, 0)) := rfl
/-- m.trial -/
theorem tr_14 : TR[14]? = some (.inr (16, 0)) := rfl
/-- m.pile -/
theorem tr_15 : TR[15]? = some (.inr (800, 0)) := rfl
/-- m.who -/
theorem tr_16 : TR[16]? = some (.inr (4, 0)) := rfl
/-- m.way -/
theorem tr_17 : TR[17]? = some (.inr (4, 0)) := rfl
/-- m.housed -/
theorem tr_18 : TR[18]? = some (.inr (6, 0)) := rfl
/-- m.visiting -/
theorem tr_19 : TR[19]? = some (.inr (6, 0)) := rfl
/-- m.visited -/
theorem tr_20 : TR[20]? = some (.inr (6, 0)) := rfl
/-- m.offer -/
theorem tr_21 : TR[21]? = some (.inr (24, 0)) := rfl
/-- m.imageLease -/
theorem tr_22 : TR[22]? = some (.inr (52, 0)) := rfl
/-- m.imageOffer -/
theorem tr_23 : TR[23]? = some (.inr (24, 0)) := rfl
theorem TR_ok : jok TR := jok_of (by decide)
theorem cb_6 : (Int8.ofInt 6).toInt32 = (6 : Int32) := by decide
theorem cb_7 : (Int8.ofInt 7).toInt32 = (7 : Int32) := by decide
theorem cb_8 : (Int8.ofInt 8).toInt32 = (8 : Int32) := by decide
theorem cb_9 : (Int8.ofInt 9).toInt32 = (9 : Int32) := by decide
theorem cb_10 : (Int8.ofInt 10).toInt32 = (10 : Int32) := by decide
theorem cb_11 : (Int8.ofInt 11).toInt32 = (11 : Int32) := by decide
theorem cb_12 : (Int8.ofInt 12).toInt32 = (12 : Int32) := by decide
theorem cb_13 : (Int8.ofInt 13).toInt32 = (13 : Int32) := by decide
theorem cb_14 : (Int8.ofInt 14).toInt32 = (14 : Int32) := by decide
theorem cb_15 : (Int8.ofInt 15).toInt32 = (15 : Int32) := by decide
theorem cb_16 : (Int8.ofInt 16).toInt32 = (16 : Int32) := by decide
theorem cb_17 : (Int8.ofInt 17).toInt32 = (17 : Int32) := by decide
theorem cb_18 : (Int8.ofInt 18).toInt32 = (18 : Int32) := by decide
theorem cb_20 : (Int8.ofInt 20).toInt32 = (20 : Int32) := by decide
theorem cb_23 : (Int8.ofInt 23).toInt32 = (23 : Int32) := by decide
theorem cb_24 : (Int8.ofInt 24).toInt32 = (24 : Int32) := by decide
theorem cb_30 : (Int8.ofInt 30).toInt32 = (30 : Int32) := by decide
theorem cb_32 : (Int8.ofInt 32).toInt32 = (32 : Int32) := by decide
theorem cb_40 : (Int8.ofInt 40).toInt32 = (40 : Int32) := by decide
theorem cb_41 : (Int8.ofInt 41).toInt32 = (41 : Int32) := by decide
theorem cb_42 : (Int8.ofInt 42).toInt32 = (42 : Int32) := by decide
theorem cb_43 : (Int8.ofInt 43).toInt32 = (43 : Int32) := by decide
theorem cb_45 : (Int8.ofInt 45).toInt32 = (45 : Int32) := by decide
theorem cb_47 : (Int8.ofInt 47).toInt32 = (47 : Int32) := by decide
theorem cb_48 : (Int8.ofInt 48).toInt32 = (48 : Int32) := by decide
theorem cb_49 : (Int8.ofInt 49).toInt32 = (49 : Int32) := by decide
theorem cb_57 : (Int8.ofInt 57).toInt32 = (57 : Int32) := by decide
theorem cb_59 : (Int8.ofInt 59).toInt32 = (59 : Int32) := by decide
theorem cb_60 : (Int8.ofInt 60).toInt32 = (60 : Int32) := by decide
theorem cb_61 : (Int8.ofInt 61).toInt32 = (61 : Int32) := by decide
theorem cb_63 : (Int8.ofInt 63).toInt32 = (63 : Int32) := by decide
theorem cb_72 : (Int8.ofInt 72).toInt32 = (72 : Int32) := by decide
theorem cb_84 : (Int8.ofInt 84).toInt32 = (84 : Int32) := by decide
theorem cb_96 : (Int8.ofInt 96).toInt32 = (96 : Int32) := by decide
theorem cb_97 : (Int8.ofInt 97).toInt32 = (97 : Int32) := by decide
theorem cb_98 : (Int8.ofInt 98).toInt32 = (98 : Int32) := by decide
theorem cb_99 : (Int8.ofInt 99).toInt32 = (99 : Int32) := by decide
theorem cb_100 : (Int8.ofInt 100).toInt32 = (100 : Int32) := by decide
theorem cb_101 : (Int8.ofInt 101).toInt32 = (101 : Int32) := by decide
theorem cb_102 : (Int8.ofInt 102).toInt32 = (102 : Int32) := by decide
theorem cb_103 : (Int8.ofInt 103).toInt32 = (103 : Int32) := by decide
theorem cb_104 : (Int8.ofInt 104).toInt32 = (104 : Int32) := by decide
theorem cb_105 : (Int8.ofInt 105).toInt32 = (105 : Int32) := by decide
theorem cb_107 : (Int8.ofInt 107).toInt32 = (107 : Int32) := by decide
theorem cb_108 : (Int8.ofInt 108).toInt32 = (108 : Int32) := by decide
theorem cb_109 : (Int8.ofInt 109).toInt32 = (109 : Int32) := by decide
theorem cb_110 : (Int8.ofInt 110).toInt32 = (110 : Int32) := by decide
theorem cb_111 : (Int8.ofInt 111).toInt32 = (111 : Int32) := by decide
theorem cb_112 : (Int8.ofInt 112).toInt32 = (112 : Int32) := by decide
theorem cb_113 : (Int8.ofInt 113).toInt32 = (113 : Int32) := by decide
theorem cb_114 : (Int8.ofInt 114).toInt32 = (114 : Int32) := by decide
theorem cb_115 : (Int8.ofInt 115).toInt32 = (115 : Int32) := by decide
theorem cb_116 : (Int8.ofInt 116).toInt32 = (116 : Int32) := by decide
theorem cb_117 : (Int8.ofInt 117).toInt32 = (117 : Int32) := by decide
theorem cb_118 : (Int8.ofInt 118).toInt32 = (118 : Int32) := by decide
theorem cb_119 : (Int8.ofInt 119).toInt32 = (119 : Int32) := by decide
theorem cb_122 : (Int8.ofInt 122).toInt32 = (122 : Int32) := by decide
theorem ci_m8 : Int32.ofInt (-8) = (-8 : Int32) := by decide
theorem ci_m5 : Int32.ofInt (-5) = (-5 : Int32) := by decide
theorem ci_m1 : Int32.ofInt (-1) = (-1 : Int32) := by decide
theorem ci_0 : Int32.ofInt 0 = (0 : Int32) := by decide
theorem ci_1 : Int32.ofInt 1 = (1 : Int32) := by decide
theorem ci_2 : Int32.ofInt 2 = (2 : Int32) := by decide
theorem ci_3 : Int32.ofInt 3 = (3 : Int32) := by decide
theorem ci_4 : Int32.ofInt 4 = (4 : Int32) := by decide
theorem ci_5 : Int32.ofInt 5 = (5 : Int32) := by decide
theorem ci_7 : Int32.ofInt 7 = (7 : Int32) := by decide
theorem cl_0 : Int64.ofNat ((0 : Fin 2) : Nat) = (0 : Int64) := by decide
theorem cs_m1440 : (Int16.ofInt (-1440)).toInt32 = (-1440 : Int32) := by decide
theorem cs_200 : (Int16.ofInt 200).toInt32 = (200 : Int32) := by decide
theorem cs_255 : (Int16.ofInt 255).toInt32 = (255 : Int32) := by decide
theorem cs_343 : (Int16.ofInt 343).toInt32 = (343 : Int32) := by decide
theorem cs_400 : (Int16.ofInt 400).toInt32 = (400 : Int32) := by decide
theorem cs_600 : (Int16.ofInt 600).toInt32 = (600 : Int32) := by decide
theorem cs_1440 : (Int16.ofInt 1440).toInt32 = (1440 : Int32) := by decide
theorem cs_4095 : (Int16.ofInt 4095).toInt32 = (4095 : Int32) := by decide
theorem cs_9999 : (Int16.ofInt 9999).toInt32 = (9999 : Int32) := by decide
theorem cs_10000 : (Int16.ofInt 10000).toInt32 = (10000 : Int32) := by decide
theorem cs_10001 : (Int16.ofInt 10001).toInt32 = (10001 : Int32) := by decide
theorem cs_12345 : (Int16.ofInt 12345).toInt32 = (12345 : Int32) := by decide
theorem cs_20000 : (Int16.ofInt 20000).toInt32 = (20000 : Int32) := by decide
theorem cs_20003 : (Int16.ofInt 20003).toInt32 = (20003 : Int32) := by decide
theorem cs_32767 : (Int16.ofInt 32767).toInt32 = (32767 : Int32) := by decide
theorem inB_X0 : ∀ w ∈ u_ws RX0 TX0 13, w ∈ bg := by decide +kernel
theorem inB_X1 : ∀ w ∈ u_ws RX1 TX1 6, w ∈ bg := by decide +kernel
theorem inB_X2 : ∀ w ∈ u_ws RX2 TX2 15, w ∈ bg := by decide +kernel
theorem inB_X3 : ∀ w ∈ u_ws RX3 TX3 7, w ∈ bg := by decide +kernel
theorem inB_X4 : ∀ w ∈ u_ws RX4 TX4 8, w ∈ bg := by decide +kernel
theorem inB_X5 : ∀ w ∈ u_ws RX5 TX5 5, w ∈ bg := by decide +kernel
theorem inB_X6 : ∀ w ∈ u_ws RX6 TX6 2, w ∈ bg := by decide +kernel
theorem inB_X7 : ∀ w ∈ u_ws RX7 TX7 5, w ∈ bg := by decide +kernel
theorem inB_X8 : ∀ w ∈ u_ws RX8 TX8 3, w ∈ bg := by decide +kernel
theorem inB_X9 : ∀ w ∈ u_ws RX9 TX9 8, w ∈ bg := by decide +kernel
theorem inB_X10 : ∀ w ∈ u_ws RX10 TX10 6, w ∈ bg := by decide +kernel
theorem inB_X11 : ∀ w ∈ u_ws RX11 TX11 16, w ∈ bg := by decide +kernel
theorem inB_X12 : ∀ w ∈ u_ws RX12 TX12 60, w ∈ bg := by decide +kernel
section FR
variable {p : Program} {l : Launch} {e : Env} {R : Room} {s : State} {m : MethodId} {args : Array Value} {below : List Frame} {meth : Method} {c : Code} {Q : State → Prop} {D : va_G} {ad : Nat → Nat} {cA : Nat → ClassId} {A : Nat → Prop} {cc : ByteArray} {nL kc ks : Nat} {B : jBT}
variable {pc : Nat} {lv : List (Nat × Value)} {st : List Value} {S : Nat → Int32} {V : Nat → Nat → Int32} {L : Nat → Int64}
theorem fg_X0_15_TC_49 (C : jC p s m args c D TC ad cA A cc nL RX0 B) (hd : decode cc pc = .ok (.getfield 15, 3)) (kk : jW p l e R s m args below meth c Q D TC ad cA A nL kc ks (pc + 3) lv (.ref (ad 51) :: st) S V L) : jW p l e R s m args below meth c Q D TC ad cA A nL kc ks pc lv (.ref (ad 49) :: st) S V L := j_get (k := 4) C tc_49 rfl rfl (by decide) inB_X0 wd416 hd kk
theorem fg_X0_18_TC_49 (C : jC p s m args c D TC ad cA A cc nL RX0 B) (hd : decode cc pc = .ok (.getfield 18, 3)) (kk : jW p l e R s m args below meth c Q D TC ad cA A nL kc ks (pc + 3) lv (.ref (ad 52) :: st) S V L) : jW p l e R s m args below meth c Q D TC ad cA A nL kc ks pc lv (.ref (ad 49) :: st) S V L := j_get (k := 5) C tc_49 rfl rfl (by decide) inB_X0 wd417 hd kk
theorem fg_X0_21_TC_49 (C : jC p s m args c D TC ad cA A cc nL RX0 B) (hd : decode cc pc = .ok (.getfield 21, 3)) (kk : jW p l e R s m args below meth c Q D TC ad cA A nL kc ks (pc + 3) lv (.ref (ad 53) :: st) S V L) : jW p l e R s m args below meth c Q D TC ad cA A nL kc ks pc lv (.ref (ad 49) :: st) S V L := j_get (k := 6) C tc_49 rfl rfl (by decide) inB_X0 wd418 hd kk
theorem fg_X0_24_TC_49 (C : jC p s m args c D TC ad cA A cc nL RX0 B) (hd : decode cc pc = .ok (.getfield 24, 3)) (kk : jW p l e R s m args below meth c Q D TC ad cA A nL kc ks (pc + 3) lv (.ref (ad 54) :: st) S V L) : jW p l e R s m args below meth c Q D TC ad cA A nL kc ks pc lv (.ref (ad 49) :: st) S V L := j_get (k := 7) C tc_49 rfl rfl (by decide) inB_X0 wd419 hd kk
theorem fg_X0_27_TC_49 (C : jC p s m args c D TC ad cA A cc nL RX0 B) (hd : decode cc pc = .ok (.getfield 27, 3)) (kk : jW p l e R s m args below meth c Q D TC ad cA A nL kc ks (pc + 3) lv (.ref (ad 55) :: st) S V L) : jW p l e R s m args below meth c Q D TC ad cA A nL kc ks pc lv (.ref (ad 49) :: st) S V L := j_get (k := 8) C tc_49 rfl rfl (by decide) inB_X0 wd420 hd kk
theorem fg_X0_30_TC_49 (C : jC p s m args c D TC ad cA A cc nL RX0 B) (hd : decode cc pc = .ok (.getfield 30, 3)) (kk : jW p l e R s m args below meth c Q D TC ad cA A nL kc ks (pc + 3) lv (.ref (ad 56) :: st) S V L) : jW p l e R s m args below meth c Q D TC ad cA A nL kc ks pc lv (.ref (ad 49) :: st) S V L := j_get (k := 9) C tc_49 rfl rfl (by decide) inB_X0 wd421 hd kk
theorem fg_X0_33_TC_49 (C : jC p s m args c D TC ad cA A cc nL RX0 B) (hd : decode cc pc = .ok (.getfield 33, 3)) (kk : jW p l e R s m args below meth c Q D TC ad cA A nL kc ks (pc + 3) lv (.ref (ad 57) :: st) S V L) : jW p l e R s m args below meth c Q D TC ad cA A nL kc ks pc lv (.ref (ad 49) :: st) S V L := j_get (k := 12) C tc_49 rfl rfl (by decide) inB_X0 wd425 hd kk
theorem fg_X0_36_TC_49 (C : jC p s m args c D TC ad cA A cc nL RX0 B) (hd : decode cc pc = .ok (.getfield 36, 3)) (kk : jW p l e R s m args below meth c Q D TC ad cA A nL kc ks (pc + 3) lv (.ref (ad 3) :: st) S V L) : jW p l e R s m args below meth c Q D TC ad cA A nL kc ks pc lv (.ref (ad 49) :: st) S V L := j_get (k := 0) C tc_49 rfl rfl (by decide) inB_X0 wd412 hd kk
theorem fg_X0_40_TC_49 (C : jC p s m args c D TC ad cA A cc nL RX0 B) (hd : decode cc pc = .ok (.getfield 40, 3)) (kk : jW p l e R s m args below meth c Q D TC ad cA A nL kc ks (pc + 3) lv (.ref (ad 27) :: st) S V L) : jW p l e R s m args below meth c Q D TC ad cA A nL kc ks pc lv (.ref (ad 49) :: st) S V L := j_get (k := 1) C tc_49 rfl rfl (by decide) inB_X0 wd413 hd kk
theorem fg_X0_52_TC_49 (C : jC p s m args c D TC ad cA A cc nL RX0 B) (hd : decode cc pc = .ok (.getfield 52, 3)) (kk : jW p l e R s m args below meth c Q D TC ad cA A nL kc ks (pc + 3) lv (.int (S 4903) :: st) S V L) : jW p l e R s m args below meth c Q D TC ad cA A nL kc ks pc lv (.ref (ad 49) :: st) S V L := j_get (k := 3) C tc_49 rfl rfl (by decide) inB_X0 wd415 hd kk
theorem fg_X0_61_TC_49 (C : jC p s m args c D TC ad cA A cc nL RX0 B) (hd : decode cc pc = .ok (.getfield 61, 3)) (kk : jW p l e R s m args below meth c Q D TC ad cA A nL kc ks (pc + 3) lv (.int (S 4910) :: st) S V L) : jW p l e R s m args below meth c Q D TC ad cA A nL kc ks pc lv (.ref (ad 49) :: st) S V L := j_get (k := 10) C tc_49 rfl rfl (by decide) inB_X0 wd422 hd kk
theorem fg_X0_76_TC_3 (C : jC p s m args c D TC ad cA A cc nL RX0 B) (hd : decode cc pc = .ok (.getfield 76, 3)) (kk : jW p l e R s m args below meth c Q D TC ad cA A nL kc ks (pc + 3) lv (.ref (ad 4) :: st) S V L) : jW p l e R s m args below meth c Q D TC ad cA A nL kc ks pc lv (.ref (ad 3) :: st) S V L := j_get (k := 7) C tc_3 rfl rfl (by decide) inB_X2 wd171 hd kk
theorem fg_X0_83_TC_3 (C : jC p s m args c D TC ad cA A cc nL RX0 B) (hd : decode cc pc = .ok (.getfield 83, 3)) (kk : jW p l e R s m args below meth c Q D TC ad cA A nL kc ks (pc + 3) lv (.ref (ad 6) :: st) S V L) : jW p l e R s m args below meth c Q D TC ad cA A nL kc ks pc lv (.ref (ad 3) :: st) S V L := j_get (k := 9) C tc_3 rfl rfl (by decide) inB_X2 wd179 hd kk
theorem fg_X0_9_TC_49 (C : jC p s m args c D TC ad cA A cc nL RX0 B) (hd : decode cc pc = .ok (.getfield 9, 3)) (kk : jW p l e R s m args below meth c Q D TC ad cA A nL kc ks (pc + 3) lv (.ref (ad 50) :: st) S V L) : jW p l e R s m args below meth c Q D TC ad cA A nL kc ks pc lv (.ref (ad 49) :: st) S V L := j_get (k := 2) C tc_49 rfl rfl (by decide) inB_X0 wd414 hd kk
theorem fg_X1_15_TC_58 (C : jC p s m args c D TC ad cA A cc nL RX1 B) (hd : decode cc pc = .ok (.getfield 15, 3)) (kk : jW p l e R s m args below meth c Q D TC ad cA A nL kc ks (pc + 3) lv (.int (S 5801) :: st) S V L) : jW p l e R s m args below meth c Q D TC ad cA A nL kc ks pc lv (.ref (ad 58) :: st) S V L := j_get (k := 1) C tc_58 rfl rfl (by decide) inB_X1 wd461 hd kk
theorem fg_X1_19_TC_58 (C : jC p s m args c D TC ad cA A cc nL RX1 B) (hd : decode cc pc = .ok (.getfield 19, 3)) (kk : jW p l e R s m args below meth c Q D TC ad cA A nL kc ks (pc + 3) lv (.int (S 5802) :: st) S V L) : jW p l e R s m args below meth c Q D TC ad cA A nL kc ks pc lv (.ref (ad 58) :: st) S V L := j_get (k := 2) C tc_58 rfl rfl (by decide) inB_X1 wd462 hd kk
theorem fg_X1_22_TC_58 (C : jC p s m args c D TC ad cA A cc nL RX1 B) (hd : decode cc pc = .ok (.getfield 22, 3)) (kk : jW p l e R s m args below meth c Q D TC ad cA A nL kc ks (pc + 3) lv (.int (S 5803) :: st) S V L) : jW p l e R s m args below meth c Q D TC ad cA A nL kc ks pc lv (.ref (ad 58) :: st) S V L := j_get (k := 3) C tc_58 rfl rfl (by decide) inB_X1 wd464 hd kk
theorem fg_X1_25_TC_58 (C : jC p s m args c D TC ad cA A cc nL RX1 B) (hd : decode cc pc = .ok (.getfield 25, 3)) (kk : jW p l e R s m args below meth c Q D TC ad cA A nL kc ks (pc + 3) lv (.int (S 5804) :: st) S V L) : jW p l e R s m args below meth c Q D TC ad cA A nL kc ks pc lv (.ref (ad 58) :: st) S V L := j_get (k := 4) C tc_58 rfl rfl (by decide) inB_X1 wd466 hd kk
theorem fg_X1_31_TC_3 (C : jC p s m args c D TC ad cA A cc nL RX1 B) (hd : decode cc pc = .ok (.getfield 31, 3)) (kk : jW p l e R s m args below meth c Q D TC ad cA A nL kc ks (pc + 3) lv (.int (S 304) :: st) S V L) : jW p l e R s m args below meth c Q D TC ad cA A nL kc ks pc lv (.ref (ad 3) :: st) S V L := j_get (k := 4) C tc_3 rfl rfl (by decide) inB_X2 wd158 hd kk
theorem fg_X1_9_TC_58 (C : jC p s m args c D TC ad cA A cc nL RX1 B) (hd : decode cc pc = .ok (.getfield 9, 3)) (kk : jW p l e R s m args below meth c Q D TC ad cA A nL kc ks (pc + 3) lv (.ref (ad 3) :: st) S V L) : jW p l e R s m args below meth c Q D TC ad cA A nL kc ks pc lv (.ref (ad 58) :: st) S V L := j_get (k := 0) C tc_58 rfl rfl (by decide) inB_X1 wd460 hd kk
theorem fg_X2_15_TC_12 (C : jC p s m args c D TC ad cA A cc nL RX2 B) (hd : decode cc pc = .ok (.getfield 15, 3)) (kk : jW p l e R s m args below meth c Q D TC ad cA A nL kc ks (pc + 3) lv (.ref (ad 14) :: st) S V L) : jW p l e R s m args below meth c Q D TC ad cA A nL kc ks pc lv (.ref (ad 12) :: st) S V L := j_get (k := 8) C tc_12 rfl rfl (by decide) inB_X2 wd175 hd kk
theorem fg_X2_15_TC_3 (C : jC p s m args c D TC ad cA A cc nL RX2 B) (hd : decode cc pc = .ok (.getfield 15, 3)) (kk : jW p l e R s m args below meth c Q D TC ad cA A nL kc ks (pc + 3) lv (.ref (ad 5) :: st) S V L) : jW p l e R s m args below meth c Q D TC ad cA A nL kc ks pc lv (.ref (ad 3) :: st) S V L := j_get (k := 8) C tc_3 rfl rfl (by decide) inB_X2 wd175 hd kk
theorem fg_X2_18_TC_12 (C : jC p s m args c D TC ad cA A cc nL RX2 B) (hd : decode cc pc = .ok (.getfield 18, 3)) (kk : jW p l e R s m args below meth c Q D TC ad cA A nL kc ks (pc + 3) lv (.ref (ad 15) :: st) S V L) : jW p l e R s m args below meth c Q D TC ad cA A nL kc ks pc lv (.ref (ad 12) :: st) S V L := j_get (k := 9) C tc_12 rfl rfl (by decide) inB_X2 wd178 hd kk
theorem fg_X2_18_TC_3 (C : jC p s m args c D TC ad cA A cc nL RX2 B) (hd : decode cc pc = .ok (.getfield 18, 3)) (kk : jW p l e R s m args below meth c Q D TC ad cA A nL kc ks (pc + 3) lv (.ref (ad 6) :: st) S V L) : jW p l e R s m args below meth c Q D TC ad cA A nL kc ks pc lv (.ref (ad 3) :: st) S V L := j_get (k := 9) C tc_3 rfl rfl (by decide) inB_X2 wd178 hd kk
theorem fg_X2_21_TC_12 (C : jC p s m args c D TC ad cA A cc nL RX2 B) (hd : decode cc pc = .ok (.getfield 21, 3)) (kk : jW p l e R s m args below meth c Q D TC ad cA A nL kc ks (pc + 3) lv (.ref (ad 16) :: st) S V L) : jW p l e R s m args below meth c Q D TC ad cA A nL kc ks pc lv (.ref (ad 12) :: st) S V L := j_get (k := 10) C tc_12 rfl rfl (by decide) inB_X2 wd183 hd kk
theorem fg_X2_21_TC_3 (C : jC p s m args c D TC ad cA A cc nL RX2 B) (hd : decode cc pc = .ok (.getfield 21, 3)) (kk : jW p l e R s m args below meth c Q D TC ad cA A nL kc ks (pc + 3) lv (.ref (ad 7) :: st) S V L) : jW p l e R s m args below meth c Q D TC ad cA A nL kc ks pc lv (.ref (ad 3) :: st) S V L := j_get (k := 10) C tc_3 rfl rfl (by decide) inB_X2 wd183 hd kk
theorem fg_X2_24_TC_12 (C : jC p s m args c D TC ad cA A cc nL RX2 B) (hd : decode cc pc = .ok (.getfield 24, 3)) (kk : jW p l e R s m args below meth c Q D TC ad cA A nL kc ks (pc + 3) lv (.ref (ad 17) :: st) S V L) : jW p l e R s m args below meth c Q D TC ad cA A nL kc ks pc lv (.ref (ad 12) :: st) S V L := j_get (k := 11) C tc_12 rfl rfl (by decide) inB_X2 wd187 hd kk
theorem fg_X2_24_TC_3 (C : jC p s m args c D TC ad cA A cc nL RX2 B) (hd : decode cc pc = .ok (.getfield 24, 3)) (kk : jW p l e R s m args below meth c Q D TC ad cA A nL kc ks (pc + 3) lv (.ref (ad 8) :: st) S V L) : jW p l e R s m args below meth c Q D TC ad cA A nL kc ks pc lv (.ref (ad 3) :: st) S V L := j_get (k := 11) C tc_3 rfl rfl (by decide) inB_X2 wd187 hd kk
theorem fg_X2_27_TC_12 (C : jC p s m args c D TC ad cA A cc nL RX2 B) (hd : decode cc pc = .ok (.getfield 27, 3)) (kk : jW p l e R s m args below meth c Q D TC ad cA A nL kc ks (pc + 3) lv (.ref (ad 18) :: st) S V L) : jW p l e R s m args below meth c Q D TC ad cA A nL kc ks pc lv (.ref (ad 12) :: st) S V L := j_get (k := 12) C tc_12 rfl rfl (by decide) inB_X2 wd190 hd kk
theorem fg_X2_27_TC_3 (C : jC p s m args c D TC ad cA A cc nL RX2 B) (hd : decode cc pc = .ok (.getfield 27, 3)) (kk : jW p l e R s m args below meth c Q D TC ad cA A nL kc ks (pc + 3) lv (.ref (ad 9) :: st) S V L) : jW p l e R s m args below meth c Q D TC ad cA A nL kc ks pc lv (.ref (ad 3) :: st) S V L := j_get (k := 12) C tc_3 rfl rfl (by decide) inB_X2 wd190 hd kk
theorem fg_X2_30_TC_12 (C : jC p s m args c D TC ad cA A cc nL RX2 B) (hd : decode cc pc = .ok (.getfield 30, 3)) (kk : jW p l e R s m args below meth c Q D TC ad cA A nL kc ks (pc + 3) lv (.ref (ad 19) :: st) S V L) : jW p l e R s m args below meth c Q D TC ad cA A nL kc ks pc lv (.ref (ad 12) :: st) S V L := j_get (k := 14) C tc_12 rfl rfl (by decide) inB_X2 wd194 hd kk
theorem fg_X2_30_TC_3 (C : jC p s m args c D TC ad cA A cc nL RX2 B) (hd : decode cc pc = .ok (.getfield 30, 3)) (kk : jW p l e R s m args below meth c Q D TC ad cA A nL kc ks (pc + 3) lv (.ref (ad 10) :: st) S V L) : jW p l e R s m args below meth c Q D TC ad cA A nL kc ks pc lv (.ref (ad 3) :: st) S V L := j_get (k := 14) C tc_3 rfl rfl (by decide) inB_X2 wd194 hd kk
theorem fg_X2_33_TC_12 (C : jC p s m args c D TC ad cA A cc nL RX2 B) (hd : decode cc pc = .ok (.getfield 33, 3)) (kk : jW p l e R s m args below meth c Q D TC ad cA A nL kc ks (pc + 3) lv (.int (S 1200) :: st) S V L) : jW p l e R s m args below meth c Q D TC ad cA A nL kc ks pc lv (.ref (ad 12) :: st) S V L := j_get (k := 0) C tc_12 rfl rfl (by decide) inB_X2 wd144 hd kk
theorem fg_X2_33_TC_3 (C : jC p s m args c D TC ad cA A cc nL RX2 B) (hd : decode cc pc = .ok (.getfield 33, 3)) (kk : jW p l e R s m args below meth c Q D TC ad cA A nL kc ks (pc + 3) lv (.int (S 300) :: st) S V L) : jW p l e R s m args below meth c Q D TC ad cA A nL kc ks pc lv (.ref (ad 3) :: st) S V L := j_get (k := 0) C tc_3 rfl rfl (by decide) inB_X2 wd144 hd kk
theorem fg_X2_37_TC_12 (C : jC p s m args c D TC ad cA A cc nL RX2 B) (hd : decode cc pc = .ok (.getfield 37, 3)) (kk : jW p l e R s m args below meth c Q D TC ad cA A nL kc ks (pc + 3) lv (.int (S 1202) :: st) S V L) : jW p l e R s m args below meth c Q D TC ad cA A nL kc ks pc lv (.ref (ad 12) :: st) S V L := j_get (k := 2) C tc_12 rfl rfl (by decide) inB_X2 wd150 hd kk
theorem fg_X2_37_TC_3 (C : jC p s m args c D TC ad cA A cc nL RX2 B) (hd : decode cc pc = .ok (.getfield 37, 3)) (kk : jW p l e R s m args below meth c Q D TC ad cA A nL kc ks (pc + 3) lv (.int (S 302) :: st) S V L) : jW p l e R s m args below meth c Q D TC ad cA A nL kc ks pc lv (.ref (ad 3) :: st) S V L := j_get (k := 2) C tc_3 rfl rfl (by decide) inB_X2 wd150 hd kk
theorem fg_X2_40_TC_12 (C : jC p s m args c D TC ad cA A cc nL RX2 B) (hd : decode cc pc = .ok (.getfield 40, 3)) (kk : jW p l e R s m args below meth c Q D TC ad cA A nL kc ks (pc + 3) lv (.int (S 1203) :: st) S V L) : jW p l e R s m args below meth c Q D TC ad cA A nL kc ks pc lv (.ref (ad 12) :: st) S V L := j_get (k := 3) C tc_12 rfl rfl (by decide) inB_X2 wd153 hd kk
theorem fg_X2_43_TC_12 (C : jC p s m args c D TC ad cA A cc nL RX2 B) (hd : decode cc pc = .ok (.getfield 43, 3)) (kk : jW p l e R s m args below meth c Q D TC ad cA A nL kc ks (pc + 3) lv (.int (S 1201) :: st) S V L) : jW p l e R s m args below meth c Q D TC ad cA A nL kc ks pc lv (.ref (ad 12) :: st) S V L := j_get (k := 1) C tc_12 rfl rfl (by decide) inB_X2 wd147 hd kk
theorem fg_X2_43_TC_3 (C : jC p s m args c D TC ad cA A cc nL RX2 B) (hd : decode cc pc = .ok (.getfield 43, 3)) (kk : jW p l e R s m args below meth c Q D TC ad cA A nL kc ks (pc + 3) lv (.int (S 301) :: st) S V L) : jW p l e R s m args below meth c Q D TC ad cA A nL kc ks pc lv (.ref (ad 3) :: st) S V L := j_get (k := 1) C tc_3 rfl rfl (by decide) inB_X2 wd147 hd kk
theorem fg_X2_46_TC_12 (C : jC p s m args c D TC ad cA A cc nL RX2 B) (hd : decode cc pc = .ok (.getfield 46, 3)) (kk : jW p l e R s m args below meth c Q D TC ad cA A nL kc ks (pc + 3) lv (.int (S 1204) :: st) S V L) : jW p l e R s m args below meth c Q D TC ad cA A nL kc ks pc lv (.ref (ad 12) :: st) S V L := j_get (k := 4) C tc_12 rfl rfl (by decide) inB_X2 wd157 hd kk
theorem fg_X2_46_TC_3 (C : jC p s m args c D TC ad cA A cc nL RX2 B) (hd : decode cc pc = .ok (.getfield 46, 3)) (kk : jW p l e R s m args below meth c Q D TC ad cA A nL kc ks (pc + 3) lv (.int (S 304) :: st) S V L) : jW p l e R s m args below meth c Q D TC ad cA A nL kc ks pc lv (.ref (ad 3) :: st) S V L := j_get (k := 4) C tc_3 rfl rfl (by decide) inB_X2 wd157 hd kk
theorem fg_X2_49_TC_12 (C : jC p s m args c D TC ad cA A cc nL RX2 B) (hd : decode cc pc = .ok (.getfield 49, 3)) (kk : jW p l e R s m args below meth c Q D TC ad cA A nL kc ks (pc + 3) lv (.int (S 1205) :: st) S V L) : jW p l e R s m args below meth c Q D TC ad cA A nL kc ks pc lv (.ref (ad 12) :: st) S V L := j_get (k := 5) C tc_12 rfl rfl (by decide) inB_X2 wd162 hd kk
theorem fg_X2_52_TC_12 (C : jC p s m args c D TC ad cA A cc nL RX2 B) (hd : decode cc pc = .ok (.getfield 52, 3)) (kk : jW p l e R s m args below meth c Q D TC ad cA A nL kc ks (pc + 3) lv (.int (S 1206) :: st) S V L) : jW p l e R s m args below meth c Q D TC ad cA A nL kc ks pc lv (.ref (ad 12) :: st) S V L := j_get (k := 6) C tc_12 rfl rfl (by decide) inB_X2 wd165 hd kk
theorem fg_X2_55_TC_12 (C : jC p s m args c D TC ad cA A cc nL RX2 B) (hd : decode cc pc = .ok (.getfield 55, 3)) (kk : jW p l e R s m args below meth c Q D TC ad cA A nL kc ks (pc + 3) lv (.int (S 1213) :: st) S V L) : jW p l e R s m args below meth c Q D TC ad cA A nL kc ks pc lv (.ref (ad 12) :: st) S V L := j_get (k := 13) C tc_12 rfl rfl (by decide) inB_X2 wd192 hd kk
theorem fg_X2_55_TC_3 (C : jC p s m args c D TC ad cA A cc nL RX2 B) (hd : decode cc pc = .ok (.getfield 55, 3)) (kk : jW p l e R s m args below meth c Q D TC ad cA A nL kc ks (pc + 3) lv (.int (S 313) :: st) S V L) : jW p l e R s m args below meth c Q D TC ad cA A nL kc ks pc lv (.ref (ad 3) :: st) S V L := j_get (k := 13) C tc_3 rfl rfl (by decide) inB_X2 wd192 hd kk
theorem fg_X2_9_TC_12 (C : jC p s m args c D TC ad cA A cc nL RX2 B) (hd : decode cc pc = .ok (.getfield 9, 3)) (kk : jW p l e R s m args below meth c Q D TC ad cA A nL kc ks (pc + 3) lv (.ref (ad 13) :: st) S V L) : jW p l e R s m args below meth c Q D TC ad cA A nL kc ks pc lv (.ref (ad 12) :: st) S V L := j_get (k := 7) C tc_12 rfl rfl (by decide) inB_X2 wd170 hd kk
theorem fg_X2_9_TC_3 (C : jC p s m args c D TC ad cA A cc nL RX2 B) (hd : decode cc pc = .ok (.getfield 9, 3)) (kk : jW p l e R s m args below meth c Q D TC ad cA A nL kc ks (pc + 3) lv (.ref (ad 4) :: st) S V L) : jW p l e R s m args below meth c Q D TC ad cA A nL kc ks pc lv (.ref (ad 3) :: st) S V L := j_get (k := 7) C tc_3 rfl rfl (by decide) inB_X2 wd170 hd kk
theorem fg_X3_105_TC_12 (C : jC p s m args c D TC ad cA A cc nL RX3 B) (hd : decode cc pc = .ok (.getfield 105, 3)) (kk : jW p l e R s m args below meth c Q D TC ad cA A nL kc ks (pc + 3) lv (.int (S 1204) :: st) S V L) : jW p l e R s m args below meth c Q D TC ad cA A nL kc ks pc lv (.ref (ad 12) :: st) S V L := j_get (k := 4) C tc_12 rfl rfl (by decide) inB_X2 wd160 hd kk
theorem fg_X3_108_TC_12 (C : jC p s m args c D TC ad cA A cc nL RX3 B) (hd : decode cc pc = .ok (.getfield 108, 3)) (kk : jW p l e R s m args below meth c Q D TC ad cA A nL kc ks (pc + 3) lv (.ref (ad 13) :: st) S V L) : jW p l e R s m args below meth c Q D TC ad cA A nL kc ks pc lv (.ref (ad 12) :: st) S V L := j_get (k := 7) C tc_12 rfl rfl (by decide) inB_X2 wd173 hd kk
theorem fg_X3_112_TC_12 (C : jC p s m args c D TC ad cA A cc nL RX3 B) (hd : decode cc pc = .ok (.getfield 112, 3)) (kk : jW p l e R s m args below meth c Q D TC ad cA A nL kc ks (pc + 3) lv (.ref (ad 14) :: st) S V L) : jW p l e R s m args below meth c Q D TC ad cA A nL kc ks pc lv (.ref (ad 12) :: st) S V L := j_get (k := 8) C tc_12 rfl rfl (by decide) inB_X2 wd177 hd kk
theorem fg_X3_115_TC_12 (C : jC p s m args c D TC ad cA A cc nL RX3 B) (hd : decode cc pc = .ok (.getfield 115, 3)) (kk : jW p l e R s m args below meth c Q D TC ad cA A nL kc ks (pc + 3) lv (.ref (ad 15) :: st) S V L) : jW p l e R s m args below meth c Q D TC ad cA A nL kc ks pc lv (.ref (ad 12) :: st) S V L := j_get (k := 9) C tc_12 rfl rfl (by decide) inB_X2 wd182 hd kk
theorem fg_X3_118_TC_12 (C : jC p s m args c D TC ad cA A cc nL RX3 B) (hd : decode cc pc = .ok (.getfield 118, 3)) (kk : jW p l e R s m args below meth c Q D TC ad cA A nL kc ks (pc + 3) lv (.ref (ad 16) :: st) S V L) : jW p l e R s m args below meth c Q D TC ad cA A nL kc ks pc lv (.ref (ad 12) :: st) S V L := j_get (k := 10) C tc_12 rfl rfl (by decide) inB_X2 wd185 hd kk
theorem fg_X3_12_TC_11 (C : jC p s m args c D TC ad cA A cc nL RX3 B) (hd : decode cc pc = .ok (.getfield 12, 3)) (kk : jW p l e R s m args below meth c Q D TC ad cA A nL kc ks (pc + 3) lv (.ref (ad 12) :: st) S V L) : jW p l e R s m args below meth c Q D TC ad cA A nL kc ks pc lv (.ref (ad 11) :: st) S V L := j_get (k := 0) C tc_11 rfl rfl (by decide) inB_X3 wd294 hd kk
theorem fg_X3_121_TC_12 (C : jC p s m args c D TC ad cA A cc nL RX3 B) (hd : decode cc pc = .ok (.getfield 121, 3)) (kk : jW p l e R s m args below meth c Q D TC ad cA A nL kc ks (pc + 3) lv (.ref (ad 17) :: st) S V L) : jW p l e R s m args below meth c Q D TC ad cA A nL kc ks pc lv (.ref (ad 12) :: st) S V L := j_get (k := 11) C tc_12 rfl rfl (by decide) inB_X2 wd189 hd kk
theorem fg_X3_124_TC_12 (C : jC p s m args c D TC ad cA A cc nL RX3 B) (hd : decode cc pc = .ok (.getfield 124, 3)) (kk : jW p l e R s m args below meth c Q D TC ad cA A nL kc ks (pc + 3) lv (.int (S 1205) :: st) S V L) : jW p l e R s m args below meth c Q D TC ad cA A nL kc ks pc lv (.ref (ad 12) :: st) S V L := j_get (k := 5) C tc_12 rfl rfl (by decide) inB_X2 wd164 hd kk
theorem fg_X3_135_TC_12 (C : jC p s m args c D TC ad cA A cc nL RX3 B) (hd : decode cc pc = .ok (.getfield 135, 3)) (kk : jW p l e R s m args below meth c Q D TC ad cA A nL kc ks (pc + 3) lv (.int (S 1206) :: st) S V L) : jW p l e R s m args below meth c Q D TC ad cA A nL kc ks pc lv (.ref (ad 12) :: st) S V L := j_get (k := 6) C tc_12 rfl rfl (by decide) inB_X2 wd168 hd kk
theorem fg_X3_141_TC_12 (C : jC p s m args c D TC ad cA A cc nL RX3 B) (hd : decode cc pc = .ok (.getfield 141, 3)) (kk : jW p l e R s m args below meth c Q D TC ad cA A nL kc ks (pc + 3) lv (.ref (ad 19) :: st) S V L) : jW p l e R s m args below meth c Q D TC ad cA A nL kc ks pc lv (.ref (ad 12) :: st) S V L := j_get (k := 14) C tc_12 rfl rfl (by decide) inB_X2 wd196 hd kk
theorem fg_X3_144_TC_12 (C : jC p s m args c D TC ad cA A cc nL RX3 B) (hd : decode cc pc = .ok (.getfield 144, 3)) (kk : jW p l e R s m args below meth c Q D TC ad cA A nL kc ks (pc + 3) lv (.int (S 1213) :: st) S V L) : jW p l e R s m args below meth c Q D TC ad cA A nL kc ks pc lv (.ref (ad 12) :: st) S V L := j_get (k := 13) C tc_12 rfl rfl (by decide) inB_X2 wd193 hd kk
theorem fg_X3_21_TC_11 (C : jC p s m args c D TC ad cA A cc nL RX3 B) (hd : decode cc pc = .ok (.getfield 21, 3)) (kk : jW p l e R s m args below meth c Q D TC ad cA A nL kc ks (pc + 3) lv (.ref (ad 20) :: st) S V L) : jW p l e R s m args below meth c Q D TC ad cA A nL kc ks pc lv (.ref (ad 11) :: st) S V L := j_get (k := 1) C tc_11 rfl rfl (by decide) inB_X3 wd296 hd kk
theorem fg_X3_30_TC_11 (C : jC p s m args c D TC ad cA A cc nL RX3 B) (hd : decode cc pc = .ok (.getfield 30, 3)) (kk : jW p l e R s m args below meth c Q D TC ad cA A nL kc ks (pc + 3) lv (.ref (ad 25) :: st) S V L) : jW p l e R s m args below meth c Q D TC ad cA A nL kc ks pc lv (.ref (ad 11) :: st) S V L := j_get (k := 2) C tc_11 rfl rfl (by decide) inB_X3 wd297 hd kk
theorem fg_X3_41_TC_11 (C : jC p s m args c D TC ad cA A cc nL RX3 B) (hd : decode cc pc = .ok (.getfield 41, 3)) (kk : jW p l e R s m args below meth c Q D TC ad cA A nL kc ks (pc + 3) lv (.int (S 1103) :: st) S V L) : jW p l e R s m args below meth c Q D TC ad cA A nL kc ks pc lv (.ref (ad 11) :: st) S V L := j_get (k := 3) C tc_11 rfl rfl (by decide) inB_X3 wd298 hd kk
theorem fg_X3_45_TC_11 (C : jC p s m args c D TC ad cA A cc nL RX3 B) (hd : decode cc pc = .ok (.getfield 45, 3)) (kk : jW p l e R s m args below meth c Q D TC ad cA A nL kc ks (pc + 3) lv (.int (S 1104) :: st) S V L) : jW p l e R s m args below meth c Q D TC ad cA A nL kc ks pc lv (.ref (ad 11) :: st) S V L := j_get (k := 4) C tc_11 rfl rfl (by decide) inB_X3 wd299 hd kk
theorem fg_X3_48_TC_11 (C : jC p s m args c D TC ad cA A cc nL RX3 B) (hd : decode cc pc = .ok (.getfield 48, 3)) (kk : jW p l e R s m args below meth c Q D TC ad cA A nL kc ks (pc + 3) lv (.int (S 1105) :: st) S V L) : jW p l e R s m args below meth c Q D TC ad cA A nL kc ks pc lv (.ref (ad 11) :: st) S V L := j_get (k := 5) C tc_11 rfl rfl (by decide) inB_X3 wd300 hd kk
theorem fg_X3_89_TC_11 (C : jC p s m args c D TC ad cA A cc nL RX3 B) (hd : decode cc pc = .ok (.getfield 89, 3)) (kk : jW p l e R s m args below meth c Q D TC ad cA A nL kc ks (pc + 3) lv (.int (S 1106) :: st) S V L) : jW p l e R s m args below meth c Q D TC ad cA A nL kc ks pc lv (.ref (ad 11) :: st) S V L := j_get (k := 6) C tc_11 rfl rfl (by decide) inB_X3 wd301 hd kk
theorem fg_X4_116_TC_3 (C : jC p s m args c D TC ad cA A cc nL RX4 B) (hd : decode cc pc = .ok (.getfield 116, 3)) (kk : jW p l e R s m args below meth c Q D TC ad cA A nL kc ks (pc + 3) lv (.ref (ad 7) :: st) S V L) : jW p l e R s m args below meth c Q D TC ad cA A nL kc ks pc lv (.ref (ad 3) :: st) S V L := j_get (k := 10) C tc_3 rfl rfl (by decide) inB_X2 wd186 hd kk
theorem fg_X4_122_TC_3 (C : jC p s m args c D TC ad cA A cc nL RX4 B) (hd : decode cc pc = .ok (.getfield 122, 3)) (kk : jW p l e R s m args below meth c Q D TC ad cA A nL kc ks (pc + 3) lv (.int (S 304) :: st) S V L) : jW p l e R s m args below meth c Q D TC ad cA A nL kc ks pc lv (.ref (ad 3) :: st) S V L := j_get (k := 4) C tc_3 rfl rfl (by decide) inB_X2 wd161 hd kk
theorem fg_X4_15_TC_30 (C : jC p s m args c D TC ad cA A cc nL RX4 B) (hd : decode cc pc = .ok (.getfield 15, 3)) (kk : jW p l e R s m args below meth c Q D TC ad cA A nL kc ks (pc + 3) lv (.ref (ad 32) :: st) S V L) : jW p l e R s m args below meth c Q D TC ad cA A nL kc ks pc lv (.ref (ad 30) :: st) S V L := j_get (k := 4) C tc_30 rfl rfl (by decide) inB_X4 wd347 hd kk
theorem fg_X4_15_TC_36 (C : jC p s m args c D TC ad cA A cc nL RX4 B) (hd : decode cc pc = .ok (.getfield 15, 3)) (kk : jW p l e R s m args below meth c Q D TC ad cA A nL kc ks (pc + 3) lv (.ref (ad 38) :: st) S V L) : jW p l e R s m args below meth c Q D TC ad cA A nL kc ks pc lv (.ref (ad 36) :: st) S V L := j_get (k := 4) C tc_36 rfl rfl (by decide) inB_X4 wd347 hd kk
theorem fg_X4_18_TC_30 (C : jC p s m args c D TC ad cA A cc nL RX4 B) (hd : decode cc pc = .ok (.getfield 18, 3)) (kk : jW p l e R s m args below meth c Q D TC ad cA A nL kc ks (pc + 3) lv (.ref (ad 33) :: st) S V L) : jW p l e R s m args below meth c Q D TC ad cA A nL kc ks pc lv (.ref (ad 30) :: st) S V L := j_get (k := 5) C tc_30 rfl rfl (by decide) inB_X4 wd348 hd kk
theorem fg_X4_18_TC_36 (C : jC p s m args c D TC ad cA A cc nL RX4 B) (hd : decode cc pc = .ok (.getfield 18, 3)) (kk : jW p l e R s m args below meth c Q D TC ad cA A nL kc ks (pc + 3) lv (.ref (ad 39) :: st) S V L) : jW p l e R s m args below meth c Q D TC ad cA A nL kc ks pc lv (.ref (ad 36) :: st) S V L := j_get (k := 5) C tc_36 rfl rfl (by decide) inB_X4 wd348 hd kk
theorem fg_X4_21_TC_30 (C : jC p s m args c D TC ad cA A cc nL RX4 B) (hd : decode cc pc = .ok (.getfield 21, 3)) (kk : jW p l e R s m args below meth c Q D TC ad cA A nL kc ks (pc + 3) lv (.ref (ad 34) :: st) S V L) : jW p l e R s m args below meth c Q D TC ad cA A nL kc ks pc lv (.ref (ad 30) :: st) S V L := j_get (k := 6) C tc_30 rfl rfl (by decide) inB_X4 wd349 hd kk
theorem fg_X4_21_TC_36 (C : jC p s m args c D TC ad cA A cc nL RX4 B) (hd : decode cc pc = .ok (.getfield 21, 3)) (kk : jW p l e R s m args below meth c Q D TC ad cA A nL kc ks (pc + 3) lv (.ref (ad 40) :: st) S V L) : jW p l e R s m args below meth c Q D TC ad cA A nL kc ks pc lv (.ref (ad 36) :: st) S V L := j_get (k := 6) C tc_36 rfl rfl (by decide) inB_X4 wd349 hd kk
theorem fg_X4_24_TC_30 (C : jC p s m args c D TC ad cA A cc nL RX4 B) (hd : decode cc pc = .ok (.getfield 24, 3)) (kk : jW p l e R s m args below meth c Q D TC ad cA A nL kc ks (pc + 3) lv (.ref (ad 35) :: st) S V L) : jW p l e R s m args below meth c Q D TC ad cA A nL kc ks pc lv (.ref (ad 30) :: st) S V L := j_get (k := 7) C tc_30 rfl rfl (by decide) inB_X4 wd350 hd kk
theorem fg_X4_24_TC_36 (C : jC p s m args c D TC ad cA A cc nL RX4 B) (hd : decode cc pc = .ok (.getfield 24, 3)) (kk : jW p l e R s m args below meth c Q D TC ad cA A nL kc ks (pc + 3) lv (.ref (ad 41) :: st) S V L) : jW p l e R s m args below meth c Q D TC ad cA A nL kc ks pc lv (.ref (ad 36) :: st) S V L := j_get (k := 7) C tc_36 rfl rfl (by decide) inB_X4 wd350 hd kk
theorem fg_X4_27_TC_30 (C : jC p s m args c D TC ad cA A cc nL RX4 B) (hd : decode cc pc = .ok (.getfield 27, 3)) (kk : jW p l e R s m args below meth c Q D TC ad cA A nL kc ks (pc + 3) lv (.ref (ad 3) :: st) S V L) : jW p l e R s m args below meth c Q D TC ad cA A nL kc ks pc lv (.ref (ad 30) :: st) S V L := j_get (k := 0) C tc_30 rfl rfl (by decide) inB_X4 wd342 hd kk
theorem fg_X4_31_TC_30 (C : jC p s m args c D TC ad cA A cc nL RX4 B) (hd : decode cc pc = .ok (.getfield 31, 3)) (kk : jW p l e R s m args below meth c Q D TC ad cA A nL kc ks (pc + 3) lv (.ref (ad 27) :: st) S V L) : jW p l e R s m args below meth c Q D TC ad cA A nL kc ks pc lv (.ref (ad 30) :: st) S V L := j_get (k := 1) C tc_30 rfl rfl (by decide) inB_X4 wd343 hd kk
theorem fg_X4_41_TC_30 (C : jC p s m args c D TC ad cA A cc nL RX4 B) (hd : decode cc pc = .ok (.getfield 41, 3)) (kk : jW p l e R s m args below meth c Q D TC ad cA A nL kc ks (pc + 3) lv (.int (S 3002) :: st) S V L) : jW p l e R s m args below meth c Q D TC ad cA A nL kc ks pc lv (.ref (ad 30) :: st) S V L := j_get (k := 2) C tc_30 rfl rfl (by decide) inB_X4 wd344 hd kk
theorem fg_X4_41_TC_36 (C : jC p s m args c D TC ad cA A cc nL RX4 B) (hd : decode cc pc = .ok (.getfield 41, 3)) (kk : jW p l e R s m args below meth c Q D TC ad cA A nL kc ks (pc + 3) lv (.int (S 3602) :: st) S V L) : jW p l e R s m args below meth c Q D TC ad cA A nL kc ks pc lv (.ref (ad 36) :: st) S V L := j_get (k := 2) C tc_36 rfl rfl (by decide) inB_X4 wd344 hd kk
theorem fg_X4_87_TC_3 (C : jC p s m args c D TC ad cA A cc nL RX4 B) (hd : decode cc pc = .ok (.getfield 87, 3)) (kk : jW p l e R s m args below meth c Q D TC ad cA A nL kc ks (pc + 3) lv (.int (S 306) :: st) S V L) : jW p l e R s m args below meth c Q D TC ad cA A nL kc ks pc lv (.ref (ad 3) :: st) S V L := j_get (k := 6) C tc_3 rfl rfl (by decide) inB_X2 wd169 hd kk
theorem fg_X4_9_TC_30 (C : jC p s m args c D TC ad cA A cc nL RX4 B) (hd : decode cc pc = .ok (.getfield 9, 3)) (kk : jW p l e R s m args below meth c Q D TC ad cA A nL kc ks (pc + 3) lv (.ref (ad 31) :: st) S V L) : jW p l e R s m args below meth c Q D TC ad cA A nL kc ks pc lv (.ref (ad 30) :: st) S V L := j_get (k := 3) C tc_30 rfl rfl (by decide) inB_X4 wd346 hd kk
theorem fg_X4_9_TC_36 (C : jC p s m args c D TC ad cA A cc nL RX4 B) (hd : decode cc pc = .ok (.getfield 9, 3)) (kk : jW p l e R s m args below meth c Q D TC ad cA A nL kc ks (pc + 3) lv (.ref (ad 37) :: st) S V L) : jW p l e R s m args below meth c Q D TC ad cA A nL kc ks pc lv (.ref (ad 36) :: st) S V L := j_get (k := 3) C tc_36 rfl rfl (by decide) inB_X4 wd346 hd kk
theorem fg_X5_15_TC_42 (C : jC p s m args c D TC ad cA A cc nL RX5 B) (hd : decode cc pc = .ok (.getfield 15, 3)) (kk : jW p l e R s m args below meth c Q D TC ad cA A nL kc ks (pc + 3) lv (.ref (ad 44) :: st) S V L) : jW p l e R s m args below meth c Q D TC ad cA A nL kc ks pc lv (.ref (ad 42) :: st) S V L := j_get (k := 2) C tc_42 rfl rfl (by decide) inB_X5 wd377 hd kk
theorem fg_X5_15_TC_45 (C : jC p s m args c D TC ad cA A cc nL RX5 B) (hd : decode cc pc = .ok (.getfield 15, 3)) (kk : jW p l e R s m args below meth c Q D TC ad cA A nL kc ks (pc + 3) lv (.ref (ad 47) :: st) S V L) : jW p l e R s m args below meth c Q D TC ad cA A nL kc ks pc lv (.ref (ad 45) :: st) S V L := j_get (k := 2) C tc_45 rfl rfl (by decide) inB_X5 wd377 hd kk
theorem fg_X5_18_TC_42 (C : jC p s m args c D TC ad cA A cc nL RX5 B) (hd : decode cc pc = .ok (.getfield 18, 3)) (kk : jW p l e R s m args below meth c Q D TC ad cA A nL kc ks (pc + 3) lv (.int (S 4200) :: st) S V L) : jW p l e R s m args below meth c Q D TC ad cA A nL kc ks pc lv (.ref (ad 42) :: st) S V L := j_get (k := 0) C tc_42 rfl rfl (by decide) inB_X5 wd374 hd kk
theorem fg_X5_18_TC_45 (C : jC p s m args c D TC ad cA A cc nL RX5 B) (hd : decode cc pc = .ok (.getfield 18, 3)) (kk : jW p l e R s m args below meth c Q D TC ad cA A nL kc ks (pc + 3) lv (.int (S 4500) :: st) S V L) : jW p l e R s m args below meth c Q D TC ad cA A nL kc ks pc lv (.ref (ad 45) :: st) S V L := j_get (k := 0) C tc_45 rfl rfl (by decide) inB_X5 wd374 hd kk
theorem fg_X5_32_TC_42 (C : jC p s m args c D TC ad cA A cc nL RX5 B) (hd : decode cc pc = .ok (.getfield 32, 3)) (kk : jW p l e R s m args below meth c Q D TC ad cA A nL kc ks (pc + 3) lv (.int (S 4203) :: st) S V L) : jW p l e R s m args below meth c Q D TC ad cA A nL kc ks pc lv (.ref (ad 42) :: st) S V L := j_get (k := 3) C tc_42 rfl rfl (by decide) inB_X5 wd378 hd kk
theorem fg_X5_9_TC_42 (C : jC p s m args c D TC ad cA A cc nL RX5 B) (hd : decode cc pc = .ok (.getfield 9, 3)) (kk : jW p l e R s m args below meth c Q D TC ad cA A nL kc ks (pc + 3) lv (.ref (ad 43) :: st) S V L) : jW p l e R s m args below meth c Q D TC ad cA A nL kc ks pc lv (.ref (ad 42) :: st) S V L := j_get (k := 1) C tc_42 rfl rfl (by decide) inB_X5 wd376 hd kk
theorem fg_X5_9_TC_45 (C : jC p s m args c D TC ad cA A cc nL RX5 B) (hd : decode cc pc = .ok (.getfield 9, 3)) (kk : jW p l e R s m args below meth c Q D TC ad cA A nL kc ks (pc + 3) lv (.ref (ad 46) :: st) S V L) : jW p l e R s m args below meth c Q D TC ad cA A nL kc ks pc lv (.ref (ad 45) :: st) S V L := j_get (k := 1) C tc_45 rfl rfl (by decide) inB_X5 wd376 hd kk
theorem fg_X6_15_TC_48 (C : jC p s m args c D TC ad cA A cc nL RX6 B) (hd : decode cc pc = .ok (.getfield 15, 3)) (kk : jW p l e R s m args below meth c Q D TC ad cA A nL kc ks (pc + 3) lv (.ref (ad 30) :: st) S V L) : jW p l e R s m args below meth c Q D TC ad cA A nL kc ks pc lv (.ref (ad 48) :: st) S V L := j_get (k := 1) C tc_48 rfl rfl (by decide) inB_X6 wd400 hd kk
theorem fg_X6_53_TC_3 (C : jC p s m args c D TC ad cA A cc nL RX6 B) (hd : decode cc pc = .ok (.getfield 53, 3)) (kk : jW p l e R s m args below meth c Q D TC ad cA A nL kc ks (pc + 3) lv (.int (S 303) :: st) S V L) : jW p l e R s m args below meth c Q D TC ad cA A nL kc ks pc lv (.ref (ad 3) :: st) S V L := j_get (k := 3) C tc_3 rfl rfl (by decide) inB_X2 wd154 hd kk
theorem fg_X6_66_TC_3 (C : jC p s m args c D TC ad cA A cc nL RX6 B) (hd : decode cc pc = .ok (.getfield 66, 3)) (kk : jW p l e R s m args below meth c Q D TC ad cA A nL kc ks (pc + 3) lv (.ref (ad 6) :: st) S V L) : jW p l e R s m args below meth c Q D TC ad cA A nL kc ks pc lv (.ref (ad 3) :: st) S V L := j_get (k := 9) C tc_3 rfl rfl (by decide) inB_X2 wd181 hd kk
theorem fg_X6_73_TC_3 (C : jC p s m args c D TC ad cA A cc nL RX6 B) (hd : decode cc pc = .ok (.getfield 73, 3)) (kk : jW p l e R s m args below meth c Q D TC ad cA A nL kc ks (pc + 3) lv (.ref (ad 4) :: st) S V L) : jW p l e R s m args below meth c Q D TC ad cA A nL kc ks pc lv (.ref (ad 3) :: st) S V L := j_get (k := 7) C tc_3 rfl rfl (by decide) inB_X2 wd174 hd kk
theorem fg_X6_9_TC_48 (C : jC p s m args c D TC ad cA A cc nL RX6 B) (hd : decode cc pc = .ok (.getfield 9, 3)) (kk : jW p l e R s m args below meth c Q D TC ad cA A nL kc ks (pc + 3) lv (.ref (ad 3) :: st) S V L) : jW p l e R s m args below meth c Q D TC ad cA A nL kc ks pc lv (.ref (ad 48) :: st) S V L := j_get (k := 0) C tc_48 rfl rfl (by decide) inB_X6 wd399 hd kk
theorem fg_X7_15_TC_59 (C : jC p s m args c D TC ad cA A cc nL RX7 B) (hd : decode cc pc = .ok (.getfield 15, 3)) (kk : jW p l e R s m args below meth c Q D TC ad cA A nL kc ks (pc + 3) lv (.ref (ad 61) :: st) S V L) : jW p l e R s m args below meth c Q D TC ad cA A nL kc ks pc lv (.ref (ad 59) :: st) S V L := j_get (k := 2) C tc_59 rfl rfl (by decide) inB_X7 wd491 hd kk
theorem fg_X7_18_TC_59 (C : jC p s m args c D TC ad cA A cc nL RX7 B) (hd : decode cc pc = .ok (.getfield 18, 3)) (kk : jW p l e R s m args below meth c Q D TC ad cA A nL kc ks (pc + 3) lv (.ref (ad 62) :: st) S V L) : jW p l e R s m args below meth c Q D TC ad cA A nL kc ks pc lv (.ref (ad 59) :: st) S V L := j_get (k := 4) C tc_59 rfl rfl (by decide) inB_X7 wd494 hd kk
theorem fg_X7_21_TC_59 (C : jC p s m args c D TC ad cA A cc nL RX7 B) (hd : decode cc pc = .ok (.getfield 21, 3)) (kk : jW p l e R s m args below meth c Q D TC ad cA A nL kc ks (pc + 3) lv (.ref (ad 30) :: st) S V L) : jW p l e R s m args below meth c Q D TC ad cA A nL kc ks pc lv (.ref (ad 59) :: st) S V L := j_get (k := 0) C tc_59 rfl rfl (by decide) inB_X7 wd489 hd kk
theorem fg_X7_9_TC_59 (C : jC p s m args c D TC ad cA A cc nL RX7 B) (hd : decode cc pc = .ok (.getfield 9, 3)) (kk : jW p l e R s m args below meth c Q D TC ad cA A nL kc ks (pc + 3) lv (.ref (ad 60) :: st) S V L) : jW p l e R s m args below meth c Q D TC ad cA A nL kc ks pc lv (.ref (ad 59) :: st) S V L := j_get (k := 1) C tc_59 rfl rfl (by decide) inB_X7 wd490 hd kk
theorem fg_X8_13_TC_27 (C : jC p s m args c D TC ad cA A cc nL RX8 B) (hd : decode cc pc = .ok (.getfield 13, 3)) (kk : jW p l e R s m args below meth c Q D TC ad cA A nL kc ks (pc + 3) lv (.ref (ad 29) :: st) S V L) : jW p l e R s m args below meth c Q D TC ad cA A nL kc ks pc lv (.ref (ad 27) :: st) S V L := j_get (k := 2) C tc_27 rfl rfl (by decide) inB_X8 wd325 hd kk
theorem fg_X8_16_TC_27 (C : jC p s m args c D TC ad cA A cc nL RX8 B) (hd : decode cc pc = .ok (.getfield 16, 3)) (kk : jW p l e R s m args below meth c Q D TC ad cA A nL kc ks (pc + 3) lv (.ref (ad 3) :: st) S V L) : jW p l e R s m args below meth c Q D TC ad cA A nL kc ks pc lv (.ref (ad 27) :: st) S V L := j_get (k := 0) C tc_27 rfl rfl (by decide) inB_X8 wd323 hd kk
theorem fg_X8_26_TC_3 (C : jC p s m args c D TC ad cA A cc nL RX8 B) (hd : decode cc pc = .ok (.getfield 26, 3)) (kk : jW p l e R s m args below meth c Q D TC ad cA A nL kc ks (pc + 3) lv (.int (S 306) :: st) S V L) : jW p l e R s m args below meth c Q D TC ad cA A nL kc ks pc lv (.ref (ad 3) :: st) S V L := j_get (k := 6) C tc_3 rfl rfl (by decide) inB_X2 wd166 hd kk
theorem fg_X8_30_TC_3 (C : jC p s m args c D TC ad cA A cc nL RX8 B) (hd : decode cc pc = .ok (.getfield 30, 3)) (kk : jW p l e R s m args below meth c Q D TC ad cA A nL kc ks (pc + 3) lv (.ref (ad 10) :: st) S V L) : jW p l e R s m args below meth c Q D TC ad cA A nL kc ks pc lv (.ref (ad 3) :: st) S V L := j_get (k := 14) C tc_3 rfl rfl (by decide) inB_X2 wd195 hd kk
theorem fg_X8_37_TC_3 (C : jC p s m args c D TC ad cA A cc nL RX8 B) (hd : decode cc pc = .ok (.getfield 37, 3)) (kk : jW p l e R s m args below meth c Q D TC ad cA A nL kc ks (pc + 3) lv (.ref (ad 9) :: st) S V L) : jW p l e R s m args below meth c Q D TC ad cA A nL kc ks pc lv (.ref (ad 3) :: st) S V L := j_get (k := 12) C tc_3 rfl rfl (by decide) inB_X2 wd191 hd kk
theorem fg_X8_7_TC_27 (C : jC p s m args c D TC ad cA A cc nL RX8 B) (hd : decode cc pc = .ok (.getfield 7, 3)) (kk : jW p l e R s m args below meth c Q D TC ad cA A nL kc ks (pc + 3) lv (.ref (ad 28) :: st) S V L) : jW p l e R s m args below meth c Q D TC ad cA A nL kc ks pc lv (.ref (ad 27) :: st) S V L := j_get (k := 1) C tc_27 rfl rfl (by decide) inB_X8 wd324 hd kk
theorem fg_X9_11_TC_25 (C : jC p s m args c D TC ad cA A cc nL RX9 B) (hd : decode cc pc = .ok (.getfield 11, 3)) (kk : jW p l e R s m args below meth c Q D TC ad cA A nL kc ks (pc + 3) lv (.ref (ad 26) :: st) S V L) : jW p l e R s m args below meth c Q D TC ad cA A nL kc ks pc lv (.ref (ad 25) :: st) S V L := j_get (k := 2) C tc_25 rfl rfl (by decide) inB_X9 wd271 hd kk
theorem fg_X9_15_TC_25 (C : jC p s m args c D TC ad cA A cc nL RX9 B) (hd : decode cc pc = .ok (.getfield 15, 3)) (kk : jW p l e R s m args below meth c Q D TC ad cA A nL kc ks (pc + 3) lv (.ref (ad 20) :: st) S V L) : jW p l e R s m args below meth c Q D TC ad cA A nL kc ks pc lv (.ref (ad 25) :: st) S V L := j_get (k := 0) C tc_25 rfl rfl (by decide) inB_X9 wd269 hd kk
theorem fg_X9_19_TC_25 (C : jC p s m args c D TC ad cA A cc nL RX9 B) (hd : decode cc pc = .ok (.getfield 19, 3)) (kk : jW p l e R s m args below meth c Q D TC ad cA A nL kc ks (pc + 3) lv (.ref (ad 12) :: st) S V L) : jW p l e R s m args below meth c Q D TC ad cA A nL kc ks pc lv (.ref (ad 25) :: st) S V L := j_get (k := 1) C tc_25 rfl rfl (by decide) inB_X9 wd270 hd kk
theorem fg_X9_23_TC_25 (C : jC p s m args c D TC ad cA A cc nL RX9 B) (hd : decode cc pc = .ok (.getfield 23, 3)) (kk : jW p l e R s m args below meth c Q D TC ad cA A nL kc ks (pc + 3) lv (.int (S 2503) :: st) S V L) : jW p l e R s m args below meth c Q D TC ad cA A nL kc ks pc lv (.ref (ad 25) :: st) S V L := j_get (k := 3) C tc_25 rfl rfl (by decide) inB_X9 wd272 hd kk
theorem fg_X9_27_TC_25 (C : jC p s m args c D TC ad cA A cc nL RX9 B) (hd : decode cc pc = .ok (.getfield 27, 3)) (kk : jW p l e R s m args below meth c Q D TC ad cA A nL kc ks (pc + 3) lv (.int (S 2504) :: st) S V L) : jW p l e R s m args below meth c Q D TC ad cA A nL kc ks pc lv (.ref (ad 25) :: st) S V L := j_get (k := 4) C tc_25 rfl rfl (by decide) inB_X9 wd273 hd kk
theorem fg_X9_34_TC_25 (C : jC p s m args c D TC ad cA A cc nL RX9 B) (hd : decode cc pc = .ok (.getfield 34, 3)) (kk : jW p l e R s m args below meth c Q D TC ad cA A nL kc ks (pc + 3) lv (.int (S 2505) :: st) S V L) : jW p l e R s m args below meth c Q D TC ad cA A nL kc ks pc lv (.ref (ad 25) :: st) S V L := j_get (k := 5) C tc_25 rfl rfl (by decide) inB_X9 wd274 hd kk
theorem fg_X9_57_TC_25 (C : jC p s m args c D TC ad cA A cc nL RX9 B) (hd : decode cc pc = .ok (.getfield 57, 3)) (kk : jW p l e R s m args below meth c Q D TC ad cA A nL kc ks (pc + 3) lv (.int (S 2506) :: st) S V L) : jW p l e R s m args below meth c Q D TC ad cA A nL kc ks pc lv (.ref (ad 25) :: st) S V L := j_get (k := 6) C tc_25 rfl rfl (by decide) inB_X9 wd275 hd kk
theorem fg_X9_60_TC_25 (C : jC p s m args c D TC ad cA A cc nL RX9 B) (hd : decode cc pc = .ok (.getfield 60, 3)) (kk : jW p l e R s m args below meth c Q D TC ad cA A nL kc ks (pc + 3) lv (.int (S 2507) :: st) S V L) : jW p l e R s m args below meth c Q D TC ad cA A nL kc ks pc lv (.ref (ad 25) :: st) S V L := j_get (k := 7) C tc_25 rfl rfl (by decide) inB_X9 wd276 hd kk
theorem fg_X10_15_TC_20 (C : jC p s m args c D TC ad cA A cc nL RX10 B) (hd : decode cc pc = .ok (.getfield 15, 3)) (kk : jW p l e R s m args below meth c Q D TC ad cA A nL kc ks (pc + 3) lv (.ref (ad 22) :: st) S V L) : jW p l e R s m args below meth c Q D TC ad cA A nL kc ks pc lv (.ref (ad 20) :: st) S V L := j_get (k := 2) C tc_20 rfl rfl (by decide) inB_X10 wd246 hd kk
theorem fg_X10_19_TC_20 (C : jC p s m args c D TC ad cA A cc nL RX10 B) (hd : decode cc pc = .ok (.getfield 19, 3)) (kk : jW p l e R s m args below meth c Q D TC ad cA A nL kc ks (pc + 3) lv (.ref (ad 23) :: st) S V L) : jW p l e R s m args below meth c Q D TC ad cA A nL kc ks pc lv (.ref (ad 20) :: st) S V L := j_get (k := 3) C tc_20 rfl rfl (by decide) inB_X10 wd247 hd kk
theorem fg_X10_22_TC_20 (C : jC p s m args c D TC ad cA A cc nL RX10 B) (hd : decode cc pc = .ok (.getfield 22, 3)) (kk : jW p l e R s m args below meth c Q D TC ad cA A nL kc ks (pc + 3) lv (.ref (ad 24) :: st) S V L) : jW p l e R s m args below meth c Q D TC ad cA A nL kc ks pc lv (.ref (ad 20) :: st) S V L := j_get (k := 4) C tc_20 rfl rfl (by decide) inB_X10 wd248 hd kk
theorem fg_X10_34_TC_20 (C : jC p s m args c D TC ad cA A cc nL RX10 B) (hd : decode cc pc = .ok (.getfield 34, 3)) (kk : jW p l e R s m args below meth c Q D TC ad cA A nL kc ks (pc + 3) lv (.int (S 2001) :: st) S V L) : jW p l e R s m args below meth c Q D TC ad cA A nL kc ks pc lv (.ref (ad 20) :: st) S V L := j_get (k := 1) C tc_20 rfl rfl (by decide) inB_X10 wd245 hd kk
theorem fg_X10_44_TC_20 (C : jC p s m args c D TC ad cA A cc nL RX10 B) (hd : decode cc pc = .ok (.getfield 44, 3)) (kk : jW p l e R s m args below meth c Q D TC ad cA A nL kc ks (pc + 3) lv (.int (S 2005) :: st) S V L) : jW p l e R s m args below meth c Q D TC ad cA A nL kc ks pc lv (.ref (ad 20) :: st) S V L := j_get (k := 5) C tc_20 rfl rfl (by decide) inB_X10 wd249 hd kk
theorem fg_X10_9_TC_20 (C : jC p s m args c D TC ad cA A cc nL RX10 B) (hd : decode cc pc = .ok (.getfield 9, 3)) (kk : jW p l e R s m args below meth c Q D TC ad cA A nL kc ks (pc + 3) lv (.ref (ad 21) :: st) S V L) : jW p l e R s m args below meth c Q D TC ad cA A nL kc ks pc lv (.ref (ad 20) :: st) S V L := j_get (k := 0) C tc_20 rfl rfl (by decide) inB_X10 wd244 hd kk
theorem fg_X11_13_TC_0 (C : jC p s m args c D TC ad cA A cc nL RX11 B) (hd : decode cc pc = .ok (.getfield 13, 3)) (kk : jW p l e R s m args below meth c Q D TC ad cA A nL kc ks (pc + 3) lv (.int (S 2) :: st) S V L) : jW p l e R s m args below meth c Q D TC ad cA A nL kc ks pc lv (.ref (ad 0) :: st) S V L := j_get (k := 2) C tc_0 rfl rfl (by decide) inB_X11 wd509 hd kk
theorem fg_X11_134_TC_0 (C : jC p s m args c D TC ad cA A cc nL RX11 B) (hd : decode cc pc = .ok (.getfield 134, 3)) (kk : jW p l e R s m args below meth c Q D TC ad cA A nL kc ks (pc + 3) lv (.int (S 11) :: st) S V L) : jW p l e R s m args below meth c Q D TC ad cA A nL kc ks pc lv (.ref (ad 0) :: st) S V L := j_get (k := 11) C tc_0 rfl rfl (by decide) inB_X11 wd518 hd kk
theorem fg_X11_162_TC_42 (C : jC p s m args c D TC ad cA A cc nL RX11 B) (hd : decode cc pc = .ok (.getfield 162, 3)) (kk : jW p l e R s m args below meth c Q D TC ad cA A nL kc ks (pc + 3) lv (.int (S 4200) :: st) S V L) : jW p l e R s m args below meth c Q D TC ad cA A nL kc ks pc lv (.ref (ad 42) :: st) S V L := j_get (k := 0) C tc_42 rfl rfl (by decide) inB_X5 wd375 hd kk
theorem fg_X11_17_TC_0 (C : jC p s m args c D TC ad cA A cc nL RX11 B) (hd : decode cc pc = .ok (.getfield 17, 3)) (kk : jW p l e R s m args below meth c Q D TC ad cA A nL kc ks (pc + 3) lv (.ref (ad 2) :: st) S V L) : jW p l e R s m args below meth c Q D TC ad cA A nL kc ks pc lv (.ref (ad 0) :: st) S V L := j_get (k := 3) C tc_0 rfl rfl (by decide) inB_X11 wd510 hd kk
theorem fg_X11_49_TC_0 (C : jC p s m args c D TC ad cA A cc nL RX11 B) (hd : decode cc pc = .ok (.getfield 49, 3)) (kk : jW p l e R s m args below meth c Q D TC ad cA A nL kc ks (pc + 3) lv (.ref (ad 30) :: st) S V L) : jW p l e R s m args below meth c Q D TC ad cA A nL kc ks pc lv (.ref (ad 0) :: st) S V L := j_get (k := 7) C tc_0 rfl rfl (by decide) inB_X11 wd514 hd kk
theorem fg_X11_53_TC_0 (C : jC p s m args c D TC ad cA A cc nL RX11 B) (hd : decode cc pc = .ok (.getfield 53, 3)) (kk : jW p l e R s m args below meth c Q D TC ad cA A nL kc ks (pc + 3) lv (.ref (ad 36) :: st) S V L) : jW p l e R s m args below meth c Q D TC ad cA A nL kc ks pc lv (.ref (ad 0) :: st) S V L := j_get (k := 8) C tc_0 rfl rfl (by decide) inB_X11 wd515 hd kk
theorem fg_X11_59_TC_0 (C : jC p s m args c D TC ad cA A cc nL RX11 B) (hd : decode cc pc = .ok (.getfield 59, 3)) (kk : jW p l e R s m args below meth c Q D TC ad cA A nL kc ks (pc + 3) lv (.ref (ad 42) :: st) S V L) : jW p l e R s m args below meth c Q D TC ad cA A nL kc ks pc lv (.ref (ad 0) :: st) S V L := j_get (k := 9) C tc_0 rfl rfl (by decide) inB_X11 wd516 hd kk
theorem fg_X11_63_TC_0 (C : jC p s m args c D TC ad cA A cc nL RX11 B) (hd : decode cc pc = .ok (.getfield 63, 3)) (kk : jW p l e R s m args below meth c Q D TC ad cA A nL kc ks (pc + 3) lv (.ref (ad 45) :: st) S V L) : jW p l e R s m args below meth c Q D TC ad cA A nL kc ks pc lv (.ref (ad 0) :: st) S V L := j_get (k := 10) C tc_0 rfl rfl (by decide) inB_X11 wd517 hd kk
theorem fg_X11_9_TC_0 (C : jC p s m args c D TC ad cA A cc nL RX11 B) (hd : decode cc pc = .ok (.getfield 9, 3)) (kk : jW p l e R s m args below meth c Q D TC ad cA A nL kc ks (pc + 3) lv (.ref (ad 1) :: st) S V L) : jW p l e R s m args below meth c Q D TC ad cA A nL kc ks pc lv (.ref (ad 0) :: st) S V L := j_get (k := 0) C tc_0 rfl rfl (by decide) inB_X11 wd507 hd kk
theorem fg_X11_98_TC_0 (C : jC p s m args c D TC ad cA A cc nL RX11 B) (hd : decode cc pc = .ok (.getfield 98, 3)) (kk : jW p l e R s m args below meth c Q D TC ad cA A nL kc ks (pc + 3) lv (.int (S 1) :: st) S V L) : jW p l e R s m args below meth c Q D TC ad cA A nL kc ks pc lv (.ref (ad 0) :: st) S V L := j_get (k := 1) C tc_0 rfl rfl (by decide) inB_X11 wd508 hd kk
theorem fg_X12_103_TR_0 (C : jC p s m args c D TR ad cA A cc nL RX12 B) (hd : decode cc pc = .ok (.getfield 103, 3)) (kk : jW p l e R s m args below meth c Q D TR ad cA A nL kc ks (pc + 3) lv (.int (S 17) :: st) S V L) : jW p l e R s m args below meth c Q D TR ad cA A nL kc ks pc lv (.ref (ad 0) :: st) S V L := j_get (k := 17) C tr_0 rfl rfl (by decide) inB_X12 wd1455 hd kk
theorem fg_X12_106_TR_0 (C : jC p s m args c D TR ad cA A cc nL RX12 B) (hd : decode cc pc = .ok (.getfield 106, 3)) (kk : jW p l e R s m args below meth c Q D TR ad cA A nL kc ks (pc + 3) lv (.int (S 18) :: st) S V L) : jW p l e R s m args below meth c Q D TR ad cA A nL kc ks pc lv (.ref (ad 0) :: st) S V L := j_get (k := 18) C tr_0 rfl rfl (by decide) inB_X12 wd1456 hd kk
theorem fg_X12_113_TR_0 (C : jC p s m args c D TR ad cA A cc nL RX12 B) (hd : decode cc pc = .ok (.getfield 113, 3)) (kk : jW p l e R s m args below meth c Q D TR ad cA A nL kc ks (pc + 3) lv (.int (S 20) :: st) S V L) : jW p l e R s m args below meth c Q D TR ad cA A nL kc ks pc lv (.ref (ad 0) :: st) S V L := j_get (k := 20) C tr_0 rfl rfl (by decide) inB_X12 wd1458 hd kk
theorem fg_X12_116_TR_0 (C : jC p s m args c D TR ad cA A cc nL RX12 B) (hd : decode cc pc = .ok (.getfield 116, 3)) (kk : jW p l e R s m args below meth c Q D TR ad cA A nL kc ks (pc + 3) lv (.long (L 24) :: st) S V L) : jW p l e R s m args below meth c Q D TR ad cA A nL kc ks pc lv (.ref (ad 0) :: st) S V L := j_get (k := 24) C tr_0 rfl rfl (by decide) inB_X12 wd1462 hd kk
theorem fg_X12_120_TR_0 (C : jC p s m args c D TR ad cA A cc nL RX12 B) (hd : decode cc pc = .ok (.getfield 120, 3)) (kk : jW p l e R s m args below meth c Q D TR ad cA A nL kc ks (pc + 3) lv (.int (S 22) :: st) S V L) : jW p l e R s m args below meth c Q D TR ad cA A nL kc ks pc lv (.ref (ad 0) :: st) S V L := j_get (k := 22) C tr_0 rfl rfl (by decide) inB_X12 wd1460 hd kk
theorem fg_X12_123_TR_0 (C : jC p s m args c D TR ad cA A cc nL RX12 B) (hd : decode cc pc = .ok (.getfield 123, 3)) (kk : jW p l e R s m args below meth c Q D TR ad cA A nL kc ks (pc + 3) lv (.int (S 23) :: st) S V L) : jW p l e R s m args below meth c Q D TR ad cA A nL kc ks pc lv (.ref (ad 0) :: st) S V L := j_get (k := 23) C tr_0 rfl rfl (by decide) inB_X12 wd1461 hd kk
theorem fg_X12_126_TR_0 (C : jC p s m args c D TR ad cA A cc nL RX12 B) (hd : decode cc pc = .ok (.getfield 126, 3)) (kk : jW p l e R s m args below meth c Q D TR ad cA A nL kc ks (pc + 3) lv (.int (S 19) :: st) S V L) : jW p l e R s m args below meth c Q D TR ad cA A nL kc ks pc lv (.ref (ad 0) :: st) S V L := j_get (k := 19) C tr_0 rfl rfl (by decide) inB_X12 wd1457 hd kk
theorem fg_X12_13_TR_0 (C : jC p s m args c D TR ad cA A cc nL RX12 B) (hd : decode cc pc = .ok (.getfield 13, 3)) (kk : jW p l e R s m args below meth c Q D TR ad cA A nL kc ks (pc + 3) lv (.int (S 3) :: st) S V L) : jW p l e R s m args below meth c Q D TR ad cA A nL kc ks pc lv (.ref (ad 0) :: st) S V L := j_get (k := 3) C tr_0 rfl rfl (by decide) inB_X12 wd1441 hd kk
theorem fg_X12_136_TR_0 (C : jC p s m args c D TR ad cA A cc nL RX12 B) (hd : decode cc pc = .ok (.getfield 136, 3)) (kk : jW p l e R s m args below meth c Q D TR ad cA A nL kc ks (pc + 3) lv (.int (S 21) :: st) S V L) : jW p l e R s m args below meth c Q D TR ad cA A nL kc ks pc lv (.ref (ad 0) :: st) S V L := j_get (k := 21) C tr_0 rfl rfl (by decide) inB_X12 wd1459 hd kk
theorem fg_X12_149_TR_0 (C : jC p s m args c D TR ad cA A cc nL RX12 B) (hd : decode cc pc = .ok (.getfield 149, 3)) (kk : jW p l e R s m args below meth c Q D TR ad cA A nL kc ks (pc + 3) lv (.int (S 14) :: st) S V L) : jW p l e R s m args below meth c Q D TR ad cA A nL kc ks pc lv (.ref (ad 0) :: st) S V L := j_get (k := 14) C tr_0 rfl rfl (by decide) inB_X12 wd1452 hd kk
theorem fg_X12_16_TR_0 (C : jC p s m args c D TR ad cA A cc nL RX12 B) (hd : decode cc pc = .ok (.getfield 16, 3)) (kk : jW p l e R s m args below meth c Q D TR ad cA A nL kc ks (pc + 3) lv (.int (S 4) :: st) S V L) : jW p l e R s m args below meth c Q D TR ad cA A nL kc ks pc lv (.ref (ad 0) :: st) S V L := j_get (k := 4) C tr_0 rfl rfl (by decide) inB_X12 wd1442 hd kk
theorem fg_X12_162_TR_0 (C : jC p s m args c D TR ad cA A cc nL RX12 B) (hd : decode cc pc = .ok (.getfield 162, 3)) (kk : jW p l e R s m args below meth c Q D TR ad cA A nL kc ks (pc + 3) lv (.int (S 33) :: st) S V L) : jW p l e R s m args below meth c Q D TR ad cA A nL kc ks pc lv (.ref (ad 0) :: st) S V L := j_get (k := 33) C tr_0 rfl rfl (by decide) inB_X12 wd1471 hd kk
theorem fg_X12_165_TR_0 (C : jC p s m args c D TR ad cA A cc nL RX12 B) (hd : decode cc pc = .ok (.getfield 165, 3)) (kk : jW p l e R s m args below meth c Q D TR ad cA A nL kc ks (pc + 3) lv (.int (S 34) :: st) S V L) : jW p l e R s m args below meth c Q D TR ad cA A nL kc ks pc lv (.ref (ad 0) :: st) S V L := j_get (k := 34) C tr_0 rfl rfl (by decide) inB_X12 wd1472 hd kk
theorem fg_X12_181_TR_0 (C : jC p s m args c D TR ad cA A cc nL RX12 B) (hd : decode cc pc = .ok (.getfield 181, 3)) (kk : jW p l e R s m args below meth c Q D TR ad cA A nL kc ks (pc + 3) lv (.int (S 35) :: st) S V L) : jW p l e R s m args below meth c Q D TR ad cA A nL kc ks pc lv (.ref (ad 0) :: st) S V L := j_get (k := 35) C tr_0 rfl rfl (by decide) inB_X12 wd1473 hd kk
theorem fg_X12_19_TR_0 (C : jC p s m args c D TR ad cA A cc nL RX12 B) (hd : decode cc pc = .ok (.getfield 19, 3)) (kk : jW p l e R s m args below meth c Q D TR ad cA A nL kc ks (pc + 3) lv (.ref (ad 1) :: st) S V L) : jW p l e R s m args below meth c Q D TR ad cA A nL kc ks pc lv (.ref (ad 0) :: st) S V L := j_get (k := 8) C tr_0 rfl rfl (by decide) inB_X12 wd1446 hd kk
theorem fg_X12_209_TR_0 (C : jC p s m args c D TR ad cA A cc nL RX12 B) (hd : decode cc pc = .ok (.getfield 209, 3)) (kk : jW p l e R s m args below meth c Q D TR ad cA A nL kc ks (pc + 3) lv (.int (S 32) :: st) S V L) : jW p l e R s m args below meth c Q D TR ad cA A nL kc ks pc lv (.ref (ad 0) :: st) S V L := j_get (k := 32) C tr_0 rfl rfl (by decide) inB_X12 wd1470 hd kk
theorem fg_X12_212_TR_0 (C : jC p s m args c D TR ad cA A cc nL RX12 B) (hd : decode cc pc = .ok (.getfield 212, 3)) (kk : jW p l e R s m args below meth c Q D TR ad cA A nL kc ks (pc + 3) lv (.int (S 29) :: st) S V L) : jW p l e R s m args below meth c Q D TR ad cA A nL kc ks pc lv (.ref (ad 0) :: st) S V L := j_get (k := 29) C tr_0 rfl rfl (by decide) inB_X12 wd1467 hd kk
theorem fg_X12_222_TR_0 (C : jC p s m args c D TR ad cA A cc nL RX12 B) (hd : decode cc pc = .ok (.getfield 222, 3)) (kk : jW p l e R s m args below meth c Q D TR ad cA A nL kc ks (pc + 3) lv (.int (S 30) :: st) S V L) : jW p l e R s m args below meth c Q D TR ad cA A nL kc ks pc lv (.ref (ad 0) :: st) S V L := j_get (k := 30) C tr_0 rfl rfl (by decide) inB_X12 wd1468 hd kk
theorem fg_X12_23_TR_0 (C : jC p s m args c D TR ad cA A cc nL RX12 B) (hd : decode cc pc = .ok (.getfield 23, 3)) (kk : jW p l e R s m args below meth c Q D TR ad cA A nL kc ks (pc + 3) lv (.ref (ad 2) :: st) S V L) : jW p l e R s m args below meth c Q D TR ad cA A nL kc ks pc lv (.ref (ad 0) :: st) S V L := j_get (k := 9) C tr_0 rfl rfl (by decide) inB_X12 wd1447 hd kk
theorem fg_X12_231_TR_0 (C : jC p s m args c D TR ad cA A cc nL RX12 B) (hd : decode cc pc = .ok (.getfield 231, 3)) (kk : jW p l e R s m args below meth c Q D TR ad cA A nL kc ks (pc + 3) lv (.int (S 25) :: st) S V L) : jW p l e R s m args below meth c Q D TR ad cA A nL kc ks pc lv (.ref (ad 0) :: st) S V L := j_get (k := 25) C tr_0 rfl rfl (by decide) inB_X12 wd1463 hd kk
theorem fg_X12_234_TR_0 (C : jC p s m args c D TR ad cA A cc nL RX12 B) (hd : decode cc pc = .ok (.getfield 234, 3)) (kk : jW p l e R s m args below meth c Q D TR ad cA A nL kc ks (pc + 3) lv (.int (S 26) :: st) S V L) : jW p l e R s m args below meth c Q D TR ad cA A nL kc ks pc lv (.ref (ad 0) :: st) S V L := j_get (k := 26) C tr_0 rfl rfl (by decide) inB_X12 wd1464 hd kk
theorem fg_X12_237_TR_0 (C : jC p s m args c D TR ad cA A cc nL RX12 B) (hd : decode cc pc = .ok (.getfield 237, 3)) (kk : jW p l e R s m args below meth c Q D TR ad cA A nL kc ks (pc + 3) lv (.int (S 27) :: st) S V L) : jW p l e R s m args below meth c Q D TR ad cA A nL kc ks pc lv (.ref (ad 0) :: st) S V L := j_get (k := 27) C tr_0 rfl rfl (by decide) inB_X12 wd1465 hd kk
theorem fg_X12_240_TR_0 (C : jC p s m args c D TR ad cA A cc nL RX12 B) (hd : decode cc pc = .ok (.getfield 240, 3)) (kk : jW p l e R s m args below meth c Q D TR ad cA A nL kc ks (pc + 3) lv (.int (S 28) :: st) S V L) : jW p l e R s m args below meth c Q D TR ad cA A nL kc ks pc lv (.ref (ad 0) :: st) S V L := j_get (k := 28) C tr_0 rfl rfl (by decide) inB_X12 wd1466 hd kk
theorem fg_X12_249_TR_0 (C : jC p s m args c D TR ad cA A cc nL RX12 B) (hd : decode cc pc = .ok (.getfield 249, 3)) (kk : jW p l e R s m args below meth c Q D TR ad cA A nL kc ks (pc + 3) lv (.int (S 31) :: st) S V L) : jW p l e R s m args below meth c Q D TR ad cA A nL kc ks pc lv (.ref (ad 0) :: st) S V L := j_get (k := 31) C tr_0 rfl rfl (by decide) inB_X12 wd1469 hd kk
theorem fg_X12_26_TR_0 (C : jC p s m args c D TR ad cA A cc nL RX12 B) (hd : decode cc pc = .ok (.getfield 26, 3)) (kk : jW p l e R s m args below meth c Q D TR ad cA A nL kc ks (pc + 3) lv (.ref (ad 3) :: st) S V L) : jW p l e R s m args below meth c Q D TR ad cA A nL kc ks pc lv (.ref (ad 0) :: st) S V L := j_get (k := 10) C tr_0 rfl rfl (by decide) inB_X12 wd1448 hd kk
theorem fg_X12_262_TR_0 (C : jC p s m args c D TR ad cA A cc nL RX12 B) (hd : decode cc pc = .ok (.getfield 262, 3)) (kk : jW p l e R s m args below meth c Q D TR ad cA A nL kc ks (pc + 3) lv (.int (S 2) :: st) S V L) : jW p l e R s m args below meth c Q D TR ad cA A nL kc ks pc lv (.ref (ad 0) :: st) S V L := j_get (k := 2) C tr_0 rfl rfl (by decide) inB_X12 wd1440 hd kk
theorem fg_X12_265_TR_0 (C : jC p s m args c D TR ad cA A cc nL RX12 B) (hd : decode cc pc = .ok (.getfield 265, 3)) (kk : jW p l e R s m args below meth c Q D TR ad cA A nL kc ks (pc + 3) lv (.int (S 5) :: st) S V L) : jW p l e R s m args below meth c Q D TR ad cA A nL kc ks pc lv (.ref (ad 0) :: st) S V L := j_get (k := 5) C tr_0 rfl rfl (by decide) inB_X12 wd1443 hd kk
theorem fg_X12_268_TR_0 (C : jC p s m args c D TR ad cA A cc nL RX12 B) (hd : decode cc pc = .ok (.getfield 268, 3)) (kk : jW p l e R s m args below meth c Q D TR ad cA A nL kc ks (pc + 3) lv (.int (S 6) :: st) S V L) : jW p l e R s m args below meth c Q D TR ad cA A nL kc ks pc lv (.ref (ad 0) :: st) S V L := j_get (k := 6) C tr_0 rfl rfl (by decide) inB_X12 wd1444 hd kk
theorem fg_X12_271_TR_0 (C : jC p s m args c D TR ad cA A cc nL RX12 B) (hd : decode cc pc = .ok (.getfield 271, 3)) (kk : jW p l e R s m args below meth c Q D TR ad cA A nL kc ks (pc + 3) lv (.int (S 7) :: st) S V L) : jW p l e R s m args below meth c Q D TR ad cA A nL kc ks pc lv (.ref (ad 0) :: st) S V L := j_get (k := 7) C tr_0 rfl rfl (by decide) inB_X12 wd1445 hd kk
theorem fg_X12_278_TR_0 (C : jC p s m args c D TR ad cA A cc nL RX12 B) (hd : decode cc pc = .ok (.getfield 278, 3)) (kk : jW p l e R s m args below meth c Q D TR ad cA A nL kc ks (pc + 3) lv (.int (S 42) :: st) S V L) : jW p l e R s m args below meth c Q D TR ad cA A nL kc ks pc lv (.ref (ad 0) :: st) S V L := j_get (k := 42) C tr_0 rfl rfl (by decide) inB_X12 wd1480 hd kk
theorem fg_X12_281_TR_0 (C : jC p s m args c D TR ad cA A cc nL RX12 B) (hd : decode cc pc = .ok (.getfield 281, 3)) (kk : jW p l e R s m args below meth c Q D TR ad cA A nL kc ks (pc + 3) lv (.int (S 53) :: st) S V L) : jW p l e R s m args below meth c Q D TR ad cA A nL kc ks pc lv (.ref (ad 0) :: st) S V L := j_get (k := 53) C tr_0 rfl rfl (by decide) inB_X12 wd1491 hd kk
theorem fg_X12_284_TR_0 (C : jC p s m args c D TR ad cA A cc nL RX12 B) (hd : decode cc pc = .ok (.getfield 284, 3)) (kk : jW p l e R s m args below meth c Q D TR ad cA A nL kc ks (pc + 3) lv (.int (S 49) :: st) S V L) : jW p l e R s m args below meth c Q D TR ad cA A nL kc ks pc lv (.ref (ad 0) :: st) S V L := j_get (k := 49) C tr_0 rfl rfl (by decide) inB_X12 wd1487 hd kk
theorem fg_X12_288_TR_0 (C : jC p s m args c D TR ad cA A cc nL RX12 B) (hd : decode cc pc = .ok (.getfield 288, 3)) (kk : jW p l e R s m args below meth c Q D TR ad cA A nL kc ks (pc + 3) lv (.int (S 52) :: st) S V L) : jW p l e R s m args below meth c Q D TR ad cA A nL kc ks pc lv (.ref (ad 0) :: st) S V L := j_get (k := 52) C tr_0 rfl rfl (by decide) inB_X12 wd1490 hd kk
theorem fg_X12_29_TR_0 (C : jC p s m args c D TR ad cA A cc nL RX12 B) (hd : decode cc pc = .ok (.getfield 29, 3)) (kk : jW p l e R s m args below meth c Q D TR ad cA A nL kc ks (pc + 3) lv (.ref (ad 4) :: st) S V L) : jW p l e R s m args below meth c Q D TR ad cA A nL kc ks pc lv (.ref (ad 0) :: st) S V L := j_get (k := 11) C tr_0 rfl rfl (by decide) inB_X12 wd1449 hd kk
theorem fg_X12_291_TR_0 (C : jC p s m args c D TR ad cA A cc nL RX12 B) (hd : decode cc pc = .ok (.getfield 291, 3)) (kk : jW p l e R s m args below meth c Q D TR ad cA A nL kc ks (pc + 3) lv (.int (S 55) :: st) S V L) : jW p l e R s m args below meth c Q D TR ad cA A nL kc ks pc lv (.ref (ad 0) :: st) S V L := j_get (k := 55) C tr_0 rfl rfl (by decide) inB_X12 wd1493 hd kk
theorem fg_X12_32_TR_0 (C : jC p s m args c D TR ad cA A cc nL RX12 B) (hd : decode cc pc = .ok (.getfield 32, 3)) (kk : jW p l e R s m args below meth c Q D TR ad cA A nL kc ks (pc + 3) lv (.ref (ad 5) :: st) S V L) : jW p l e R s m args below meth c Q D TR ad cA A nL kc ks pc lv (.ref (ad 0) :: st) S V L := j_get (k := 12) C tr_0 rfl rfl (by decide) inB_X12 wd1450 hd kk
theorem fg_X12_35_TR_0 (C : jC p s m args c D TR ad cA A cc nL RX12 B) (hd : decode cc pc = .ok (.getfield 35, 3)) (kk : jW p l e R s m args below meth c Q D TR ad cA A nL kc ks (pc + 3) lv (.int (S 15) :: st) S V L) : jW p l e R s m args below meth c Q D TR ad cA A nL kc ks pc lv (.ref (ad 0) :: st) S V L := j_get (k := 15) C tr_0 rfl rfl (by decide) inB_X12 wd1453 hd kk
theorem fg_X12_38_TR_0 (C : jC p s m args c D TR ad cA A cc nL RX12 B) (hd : decode cc pc = .ok (.getfield 38, 3)) (kk : jW p l e R s m args below meth c Q D TR ad cA A nL kc ks (pc + 3) lv (.ref (ad 6) :: st) S V L) : jW p l e R s m args below meth c Q D TR ad cA A nL kc ks pc lv (.ref (ad 0) :: st) S V L := j_get (k := 16) C tr_0 rfl rfl (by decide) inB_X12 wd1454 hd kk
theorem fg_X12_393_TR_0 (C : jC p s m args c D TR ad cA A cc nL RX12 B) (hd : decode cc pc = .ok (.getfield 393, 3)) (kk : jW p l e R s m args below meth c Q D TR ad cA A nL kc ks (pc + 3) lv (.int (S 56) :: st) S V L) : jW p l e R s m args below meth c Q D TR ad cA A nL kc ks pc lv (.ref (ad 0) :: st) S V L := j_get (k := 56) C tr_0 rfl rfl (by decide) inB_X12 wd1494 hd kk
theorem fg_X12_396_TR_0 (C : jC p s m args c D TR ad cA A cc nL RX12 B) (hd : decode cc pc = .ok (.getfield 396, 3)) (kk : jW p l e R s m args below meth c Q D TR ad cA A nL kc ks (pc + 3) lv (.int (S 57) :: st) S V L) : jW p l e R s m args below meth c Q D TR ad cA A nL kc ks pc lv (.ref (ad 0) :: st) S V L := j_get (k := 57) C tr_0 rfl rfl (by decide) inB_X12 wd1495 hd kk
theorem fg_X12_41_TR_0 (C : jC p s m args c D TR ad cA A cc nL RX12 B) (hd : decode cc pc = .ok (.getfield 41, 3)) (kk : jW p l e R s m args below meth c Q D TR ad cA A nL kc ks (pc + 3) lv (.ref (ad 7) :: st) S V L) : jW p l e R s m args below meth c Q D TR ad cA A nL kc ks pc lv (.ref (ad 0) :: st) S V L := j_get (k := 36) C tr_0 rfl rfl (by decide) inB_X12 wd1474 hd kk
theorem fg_X12_44_TR_0 (C : jC p s m args c D TR ad cA A cc nL RX12 B) (hd : decode cc pc = .ok (.getfield 44, 3)) (kk : jW p l e R s m args below meth c Q D TR ad cA A nL kc ks (pc + 3) lv (.ref (ad 8) :: st) S V L) : jW p l e R s m args below meth c Q D TR ad cA A nL kc ks pc lv (.ref (ad 0) :: st) S V L := j_get (k := 37) C tr_0 rfl rfl (by decide) inB_X12 wd1475 hd kk
theorem fg_X12_47_TR_0 (C : jC p s m args c D TR ad cA A cc nL RX12 B) (hd : decode cc pc = .ok (.getfield 47, 3)) (kk : jW p l e R s m args below meth c Q D TR ad cA A nL kc ks (pc + 3) lv (.ref (ad 9) :: st) S V L) : jW p l e R s m args below meth c Q D TR ad cA A nL kc ks pc lv (.ref (ad 0) :: st) S V L := j_get (k := 38) C tr_0 rfl rfl (by decide) inB_X12 wd1476 hd kk
theorem fg_X12_50_TR_0 (C : jC p s m args c D TR ad cA A cc nL RX12 B) (hd : decode cc pc = .ok (.getfield 50, 3)) (kk : jW p l e R s m args below meth c Q D TR ad cA A nL kc ks (pc + 3) lv (.ref (ad 10) :: st) S V L) : jW p l e R s m args below meth c Q D TR ad cA A nL kc ks pc lv (.ref (ad 0) :: st) S V L := j_get (k := 39) C tr_0 rfl rfl (by decide) inB_X12 wd1477 hd kk
theorem fg_X12_53_TR_0 (C : jC p s m args c D TR ad cA A cc nL RX12 B) (hd : decode cc pc = .ok (.getfield 53, 3)) (kk : jW p l e R s m args below meth c Q D TR ad cA A nL kc ks (pc + 3) lv (.ref (ad 11) :: st) S V L) : jW p l e R s m args below meth c Q D TR ad cA A nL kc ks pc lv (.ref (ad 0) :: st) S V L := j_get (k := 40) C tr_0 rfl rfl (by decide) inB_X12 wd1478 hd kk
theorem fg_X12_56_TR_0 (C : jC p s m args c D TR ad cA A cc nL RX12 B) (hd : decode cc pc = .ok (.getfield 56, 3)) (kk : jW p l e R s m args below meth c Q D TR ad cA A nL kc ks (pc + 3) lv (.ref (ad 12) :: st) S V L) : jW p l e R s m args below meth c Q D TR ad cA A nL kc ks pc lv (.ref (ad 0) :: st) S V L := j_get (k := 41) C tr_0 rfl rfl (by decide) inB_X12 wd1479 hd kk
theorem fg_X12_60_TR_0 (C : jC p s m args c D TR ad cA A cc nL RX12 B) (hd : decode cc pc = .ok (.getfield 60, 3)) (kk : jW p l e R s m args below meth c Q D TR ad cA A nL kc ks (pc + 3) lv (.ref (ad 13) :: st) S V L) : jW p l e R s m args below meth c Q D TR ad cA A nL kc ks pc lv (.ref (ad 0) :: st) S V L := j_get (k := 43) C tr_0 rfl rfl (by decide) inB_X12 wd1481 hd kk
theorem fg_X12_63_TR_0 (C : jC p s m args c D TR ad cA A cc nL RX12 B) (hd : decode cc pc = .ok (.getfield 63, 3)) (kk : jW p l e R s m args below meth c Q D TR ad cA A nL kc ks (pc + 3) lv (.ref (ad 14) :: st) S V L) : jW p l e R s m args below meth c Q D TR ad cA A nL kc ks pc lv (.ref (ad 0) :: st) S V L := j_get (k := 44) C tr_0 rfl rfl (by decide) inB_X12 wd1482 hd kk
theorem fg_X12_66_TR_0 (C : jC p s m args c D TR ad cA A cc nL RX12 B) (hd : decode cc pc = .ok (.getfield 66, 3)) (kk : jW p l e R s m args below meth c Q D TR ad cA A nL kc ks (pc + 3) lv (.ref (ad 15) :: st) S V L) : jW p l e R s m args below meth c Q D TR ad cA A nL kc ks pc lv (.ref (ad 0) :: st) S V L := j_get (k := 45) C tr_0 rfl rfl (by decide) inB_X12 wd1483 hd kk
theorem fg_X12_69_TR_0 (C : jC p s m args c D TR ad cA A cc nL RX12 B) (hd : decode cc pc = .ok (.getfield 69, 3)) (kk : jW p l e R s m args below meth c Q D TR ad cA A nL kc ks (pc + 3) lv (.ref (ad 16) :: st) S V L) : jW p l e R s m args below meth c Q D TR ad cA A nL kc ks pc lv (.ref (ad 0) :: st) S V L := j_get (k := 46) C tr_0 rfl rfl (by decide) inB_X12 wd1484 hd kk
theorem fg_X12_7_TR_0 (C : jC p s m args c D TR ad cA A cc nL RX12 B) (hd : decode cc pc = .ok (.getfield 7, 3)) (kk : jW p l e R s m args below meth c Q D TR ad cA A nL kc ks (pc + 3) lv (.int (S 1) :: st) S V L) : jW p l e R s m args below meth c Q D TR ad cA A nL kc ks pc lv (.ref (ad 0) :: st) S V L := j_get (k := 1) C tr_0 rfl rfl (by decide) inB_X12 wd1439 hd kk
theorem fg_X12_72_TR_0 (C : jC p s m args c D TR ad cA A cc nL RX12 B) (hd : decode cc pc = .ok (.getfield 72, 3)) (kk : jW p l e R s m args below meth c Q D TR ad cA A nL kc ks (pc + 3) lv (.ref (ad 17) :: st) S V L) : jW p l e R s m args below meth c Q D TR ad cA A nL kc ks pc lv (.ref (ad 0) :: st) S V L := j_get (k := 47) C tr_0 rfl rfl (by decide) inB_X12 wd1485 hd kk
theorem fg_X12_75_TR_0 (C : jC p s m args c D TR ad cA A cc nL RX12 B) (hd : decode cc pc = .ok (.getfield 75, 3)) (kk : jW p l e R s m args below meth c Q D TR ad cA A nL kc ks (pc + 3) lv (.ref (ad 18) :: st) S V L) : jW p l e R s m args below meth c Q D TR ad cA A nL kc ks pc lv (.ref (ad 0) :: st) S V L := j_get (k := 48) C tr_0 rfl rfl (by decide) inB_X12 wd1486 hd kk
theorem fg_X12_78_TR_0 (C : jC p s m args c D TR ad cA A cc nL RX12 B) (hd : decode cc pc = .ok (.getfield 78, 3)) (kk : jW p l e R s m args below meth c Q D TR ad cA A nL kc ks (pc + 3) lv (.ref (ad 19) :: st) S V L) : jW p l e R s m args below meth c Q D TR ad cA A nL kc ks pc lv (.ref (ad 0) :: st) S V L := j_get (k := 50) C tr_0 rfl rfl (by decide) inB_X12 wd1488 hd kk
theorem fg_X12_81_TR_0 (C : jC p s m args c D TR ad cA A cc nL RX12 B) (hd : decode cc pc = .ok (.getfield 81, 3)) (kk : jW p l e R s m args below meth c Q D TR ad cA A nL kc ks (pc + 3) lv (.ref (ad 20) :: st) S V L) : jW p l e R s m args below meth c Q D TR ad cA A nL kc ks pc lv (.ref (ad 0) :: st) S V L := j_get (k := 51) C tr_0 rfl rfl (by decide) inB_X12 wd1489 hd kk
theorem fg_X12_84_TR_0 (C : jC p s m args c D TR ad cA A cc nL RX12 B) (hd : decode cc pc = .ok (.getfield 84, 3)) (kk : jW p l e R s m args below meth c Q D TR ad cA A nL kc ks (pc + 3) lv (.ref (ad 21) :: st) S V L) : jW p l e R s m args below meth c Q D TR ad cA A nL kc ks pc lv (.ref (ad 0) :: st) S V L := j_get (k := 54) C tr_0 rfl rfl (by decide) inB_X12 wd1492 hd kk
theorem fg_X12_87_TR_0 (C : jC p s m args c D TR ad cA A cc nL RX12 B) (hd : decode cc pc = .ok (.getfield 87, 3)) (kk : jW p l e R s m args below meth c Q D TR ad cA A nL kc ks (pc + 3) lv (.ref (ad 22) :: st) S V L) : jW p l e R s m args below meth c Q D TR ad cA A nL kc ks pc lv (.ref (ad 0) :: st) S V L := j_get (k := 58) C tr_0 rfl rfl (by decide) inB_X12 wd1496 hd kk
theorem fg_X12_90_TR_0 (C : jC p s m args c D TR ad cA A cc nL RX12 B) (hd : decode cc pc = .ok (.getfield 90, 3)) (kk : jW p l e R s m args below meth c Q D TR ad cA A nL kc ks (pc + 3) lv (.ref (ad 23) :: st) S V L) : jW p l e R s m args below meth c Q D TR ad cA A nL kc ks pc lv (.ref (ad 0) :: st) S V L := j_get (k := 59) C tr_0 rfl rfl (by decide) inB_X12 wd1497 hd kk
theorem fg_X12_93_TR_0 (C : jC p s m args c D TR ad cA A cc nL RX12 B) (hd : decode cc pc = .ok (.getfield 93, 3)) (kk : jW p l e R s m args below meth c Q D TR ad cA A nL kc ks (pc + 3) lv (.int (S 0) :: st) S V L) : jW p l e R s m args below meth c Q D TR ad cA A nL kc ks pc lv (.ref (ad 0) :: st) S V L := j_get (k := 0) C tr_0 rfl rfl (by decide) inB_X12 wd1438 hd kk
theorem fg_X12_96_TR_0 (C : jC p s m args c D TR ad cA A cc nL RX12 B) (hd : decode cc pc = .ok (.getfield 96, 3)) (kk : jW p l e R s m args below meth c Q D TR ad cA A nL kc ks (pc + 3) lv (.int (S 13) :: st) S V L) : jW p l e R s m args below meth c Q D TR ad cA A nL kc ks pc lv (.ref (ad 0) :: st) S V L := j_get (k := 13) C tr_0 rfl rfl (by decide) inB_X12 wd1451 hd kk
theorem fp_X0_44_TC_49 (C : jC p s m args c D TC ad cA A cc nL RX0 B) {x : Int32} (hn : narrow .boolean (.int x) = .int x) (hf : fits .boolean (.int x) = true) (hd : decode cc pc = .ok (.putfield 44, 3)) (kk : jW p l e R s m args below meth c Q D TC ad cA A nL kc ks (pc + 3) lv st (va_up S 4911 x) V L) : jW p l e R s m args below meth c Q D TC ad cA A nL kc ks pc lv (.int x :: .ref (ad 49) :: st) S V L := j_put (k := 11) (ty := .boolean) C tc_49 rfl rfl (by decide) inB_X0 wd423 tyX0_ok nmX0 rfl (by decide +kernel) hn hf hd kk
theorem fp_X0_52_TC_49 (C : jC p s m args c D TC ad cA A cc nL RX0 B) {x : Int32} (hd : decode cc pc = .ok (.putfield 52, 3)) (kk : jW p l e R s m args below meth c Q D TC ad cA A nL kc ks (pc + 3) lv st (va_up S 4903 x) V L) : jW p l e R s m args below meth c Q D TC ad cA A nL kc ks pc lv (.int x :: .ref (ad 49) :: st) S V L := j_put (k := 3) (ty := .int) C tc_49 rfl rfl (by decide) inB_X0 wd415 tyX0_ok nmX0 rfl (by decide +kernel) rfl rfl hd kk
theorem fp_X0_61_TC_49 (C : jC p s m args c D TC ad cA A cc nL RX0 B) {x : Int32} (hd : decode cc pc = .ok (.putfield 61, 3)) (kk : jW p l e R s m args below meth c Q D TC ad cA A nL kc ks (pc + 3) lv st (va_up S 4910 x) V L) : jW p l e R s m args below meth c Q D TC ad cA A nL kc ks pc lv (.int x :: .ref (ad 49) :: st) S V L := j_put (k := 10) (ty := .int) C tc_49 rfl rfl (by decide) inB_X0 wd422 tyX0_ok nmX0 rfl (by decide +kernel) rfl rfl hd kk
theorem fp_X1_15_TC_58 (C : jC p s m args c D TC ad cA A cc nL RX1 B) {x : Int32} (hd : decode cc pc = .ok (.putfield 15, 3)) (kk : jW p l e R s m args below meth c Q D TC ad cA A nL kc ks (pc + 3) lv st (va_up S 5801 x) V L) : jW p l e R s m args below meth c Q D TC ad cA A nL kc ks pc lv (.int x :: .ref (ad 58) :: st) S V L := j_put (k := 1) (ty := .int) C tc_58 rfl rfl (by decide) inB_X1 wd461 tyX1_ok nmX1 rfl (by decide +kernel) rfl rfl hd kk
theorem fp_X1_19_TC_58 (C : jC p s m args c D TC ad cA A cc nL RX1 B) {x : Int32} (hd : decode cc pc = .ok (.putfield 19, 3)) (kk : jW p l e R s m args below meth c Q D TC ad cA A nL kc ks (pc + 3) lv st (va_up S 5802 x) V L) : jW p l e R s m args below meth c Q D TC ad cA A nL kc ks pc lv (.int x :: .ref (ad 58) :: st) S V L := j_put (k := 2) (ty := .int) C tc_58 rfl rfl (by decide) inB_X1 wd462 tyX1_ok nmX1 rfl (by decide +kernel) rfl rfl hd kk
theorem fp_X1_22_TC_58 (C : jC p s m args c D TC ad cA A cc nL RX1 B) {x : Int32} (hd : decode cc pc = .ok (.putfield 22, 3)) (kk : jW p l e R s m args below meth c Q D TC ad cA A nL kc ks (pc + 3) lv st (va_up S 5803 x) V L) : jW p l e R s m args below meth c Q D TC ad cA A nL kc ks pc lv (.int x :: .ref (ad 58) :: st) S V L := j_put (k := 3) (ty := .int) C tc_58 rfl rfl (by decide) inB_X1 wd464 tyX1_ok nmX1 rfl (by decide +kernel) rfl rfl hd kk
theorem fp_X1_25_TC_58 (C : jC p s m args c D TC ad cA A cc nL RX1 B) {x : Int32} (hd : decode cc pc = .ok (.putfield 25, 3)) (kk : jW p l e R s m args below meth c Q D TC ad cA A nL kc ks (pc + 3) lv st (va_up S 5804 x) V L) : jW p l e R s m args below meth c Q D TC ad cA A nL kc ks pc lv (.int x :: .ref (ad 58) :: st) S V L := j_put (k := 4) (ty := .int) C tc_58 rfl rfl (by decide) inB_X1 wd466 tyX1_ok nmX1 rfl (by decide +kernel) rfl rfl hd kk
theorem fp_X1_28_TC_58 (C : jC p s m args c D TC ad cA A cc nL RX1 B) {x : Int32} (hd : decode cc pc = .ok (.putfield 28, 3)) (kk : jW p l e R s m args below meth c Q D TC ad cA A nL kc ks (pc + 3) lv st (va_up S 5805 x) V L) : jW p l e R s m args below meth c Q D TC ad cA A nL kc ks pc lv (.int x :: .ref (ad 58) :: st) S V L := j_put (k := 5) (ty := .int) C tc_58 rfl rfl (by decide) inB_X1 wd468 tyX1_ok nmX1 rfl (by decide +kernel) rfl rfl hd kk
theorem fp_X2_33_TC_12 (C : jC p s m args c D TC ad cA A cc nL RX2 B) {x : Int32} (hd : decode cc pc = .ok (.putfield 33, 3)) (kk : jW p l e R s m args below meth c Q D TC ad cA A nL kc ks (pc + 3) lv st (va_up S 1200 x) V L) : jW p l e R s m args below meth c Q D TC ad cA A nL kc ks pc lv (.int x :: .ref (ad 12) :: st) S V L := j_put (k := 0) (ty := .int) C tc_12 rfl rfl (by decide) inB_X2 wd144 tyX2_ok nmX2 rfl (by decide +kernel) rfl rfl hd kk
theorem fp_X2_33_TC_3 (C : jC p s m args c D TC ad cA A cc nL RX2 B) {x : Int32} (hd : decode cc pc = .ok (.putfield 33, 3)) (kk : jW p l e R s m args below meth c Q D TC ad cA A nL kc ks (pc + 3) lv st (va_up S 300 x) V L) : jW p l e R s m args below meth c Q D TC ad cA A nL kc ks pc lv (.int x :: .ref (ad 3) :: st) S V L := j_put (k := 0) (ty := .int) C tc_3 rfl rfl (by decide) inB_X2 wd144 tyX2_ok nmX2 rfl (by decide +kernel) rfl rfl hd kk
theorem fp_X2_37_TC_12 (C : jC p s m args c D TC ad cA A cc nL RX2 B) {x : Int32} (hd : decode cc pc = .ok (.putfield 37, 3)) (kk : jW p l e R s m args below meth c Q D TC ad cA A nL kc ks (pc + 3) lv st (va_up S 1202 x) V L) : jW p l e R s m args below meth c Q D TC ad cA A nL kc ks pc lv (.int x :: .ref (ad 12) :: st) S V L := j_put (k := 2) (ty := .int) C tc_12 rfl rfl (by decide) inB_X2 wd150 tyX2_ok nmX2 rfl (by decide +kernel) rfl rfl hd kk
theorem fp_X2_37_TC_3 (C : jC p s m args c D TC ad cA A cc nL RX2 B) {x : Int32} (hd : decode cc pc = .ok (.putfield 37, 3)) (kk : jW p l e R s m args below meth c Q D TC ad cA A nL kc ks (pc + 3) lv st (va_up S 302 x) V L) : jW p l e R s m args below meth c Q D TC ad cA A nL kc ks pc lv (.int x :: .ref (ad 3) :: st) S V L := j_put (k := 2) (ty := .int) C tc_3 rfl rfl (by decide) inB_X2 wd150 tyX2_ok nmX2 rfl (by decide +kernel) rfl rfl hd kk
theorem fp_X2_40_TC_12 (C : jC p s m args c D TC ad cA A cc nL RX2 B) {x : Int32} (hd : decode cc pc = .ok (.putfield 40, 3)) (kk : jW p l e R s m args below meth c Q D TC ad cA A nL kc ks (pc + 3) lv st (va_up S 1203 x) V L) : jW p l e R s m args below meth c Q D TC ad cA A nL kc ks pc lv (.int x :: .ref (ad 12) :: st) S V L := j_put (k := 3) (ty := .int) C tc_12 rfl rfl (by decide) inB_X2 wd153 tyX2_ok nmX2 rfl (by decide +kernel) rfl rfl hd kk
theorem fp_X2_40_TC_3 (C : jC p s m args c D TC ad cA A cc nL RX2 B) {x : Int32} (hd : decode cc pc = .ok (.putfield 40, 3)) (kk : jW p l e R s m args below meth c Q D TC ad cA A nL kc ks (pc + 3) lv st (va_up S 303 x) V L) : jW p l e R s m args below meth c Q D TC ad cA A nL kc ks pc lv (.int x :: .ref (ad 3) :: st) S V L := j_put (k := 3) (ty := .int) C tc_3 rfl rfl (by decide) inB_X2 wd153 tyX2_ok nmX2 rfl (by decide +kernel) rfl rfl hd kk
theorem fp_X2_43_TC_12 (C : jC p s m args c D TC ad cA A cc nL RX2 B) {x : Int32} (hd : decode cc pc = .ok (.putfield 43, 3)) (kk : jW p l e R s m args below meth c Q D TC ad cA A nL kc ks (pc + 3) lv st (va_up S 1201 x) V L) : jW p l e R s m args below meth c Q D TC ad cA A nL kc ks pc lv (.int x :: .ref (ad 12) :: st) S V L := j_put (k := 1) (ty := .int) C tc_12 rfl rfl (by decide) inB_X2 wd147 tyX2_ok nmX2 rfl (by decide +kernel) rfl rfl hd kk
theorem fp_X2_43_TC_3 (C : jC p s m args c D TC ad cA A cc nL RX2 B) {x : Int32} (hd : decode cc pc = .ok (.putfield 43, 3)) (kk : jW p l e R s m args below meth c Q D TC ad cA A nL kc ks (pc + 3) lv st (va_up S 301 x) V L) : jW p l e R s m args below meth c Q D TC ad cA A nL kc ks pc lv (.int x :: .ref (ad 3) :: st) S V L := j_put (k := 1) (ty := .int) C tc_3 rfl rfl (by decide) inB_X2 wd147 tyX2_ok nmX2 rfl (by decide +kernel) rfl rfl hd kk
theorem fp_X2_46_TC_12 (C : jC p s m args c D TC ad cA A cc nL RX2 B) {x : Int32} (hd : decode cc pc = .ok (.putfield 46, 3)) (kk : jW p l e R s m args below meth c Q D TC ad cA A nL kc ks (pc + 3) lv st (va_up S 1204 x) V L) : jW p l e R s m args below meth c Q D TC ad cA A nL kc ks pc lv (.int x :: .ref (ad 12) :: st) S V L := j_put (k := 4) (ty := .int) C tc_12 rfl rfl (by decide) inB_X2 wd157 tyX2_ok nmX2 rfl (by decide +kernel) rfl rfl hd kk
theorem fp_X2_46_TC_3 (C : jC p s m args c D TC ad cA A cc nL RX2 B) {x : Int32} (hd : decode cc pc = .ok (.putfield 46, 3)) (kk : jW p l e R s m args below meth c Q D TC ad cA A nL kc ks (pc + 3) lv st (va_up S 304 x) V L) : jW p l e R s m args below meth c Q D TC ad cA A nL kc ks pc lv (.int x :: .ref (ad 3) :: st) S V L := j_put (k := 4) (ty := .int) C tc_3 rfl rfl (by decide) inB_X2 wd157 tyX2_ok nmX2 rfl (by decide +kernel) rfl rfl hd kk
theorem fp_X2_49_TC_12 (C : jC p s m args c D TC ad cA A cc nL RX2 B) {x : Int32} (hd : decode cc pc = .ok (.putfield 49, 3)) (kk : jW p l e R s m args below meth c Q D TC ad cA A nL kc ks (pc + 3) lv st (va_up S 1205 x) V L) : jW p l e R s m args below meth c Q D TC ad cA A nL kc ks pc lv (.int x :: .ref (ad 12) :: st) S V L := j_put (k := 5) (ty := .int) C tc_12 rfl rfl (by decide) inB_X2 wd162 tyX2_ok nmX2 rfl (by decide +kernel) rfl rfl hd kk
theorem fp_X2_49_TC_3 (C : jC p s m args c D TC ad cA A cc nL RX2 B) {x : Int32} (hd : decode cc pc = .ok (.putfield 49, 3)) (kk : jW p l e R s m args below meth c Q D TC ad cA A nL kc ks (pc + 3) lv st (va_up S 305 x) V L) : jW p l e R s m args below meth c Q D TC ad cA A nL kc ks pc lv (.int x :: .ref (ad 3) :: st) S V L := j_put (k := 5) (ty := .int) C tc_3 rfl rfl (by decide) inB_X2 wd162 tyX2_ok nmX2 rfl (by decide +kernel) rfl rfl hd kk
theorem fp_X2_52_TC_12 (C : jC p s m args c D TC ad cA A cc nL RX2 B) {x : Int32} (hd : decode cc pc = .ok (.putfield 52, 3)) (kk : jW p l e R s m args below meth c Q D TC ad cA A nL kc ks (pc + 3) lv st (va_up S 1206 x) V L) : jW p l e R s m args below meth c Q D TC ad cA A nL kc ks pc lv (.int x :: .ref (ad 12) :: st) S V L := j_put (k := 6) (ty := .int) C tc_12 rfl rfl (by decide) inB_X2 wd165 tyX2_ok nmX2 rfl (by decide +kernel) rfl rfl hd kk
theorem fp_X2_52_TC_3 (C : jC p s m args c D TC ad cA A cc nL RX2 B) {x : Int32} (hd : decode cc pc = .ok (.putfield 52, 3)) (kk : jW p l e R s m args below meth c Q D TC ad cA A nL kc ks (pc + 3) lv st (va_up S 306 x) V L) : jW p l e R s m args below meth c Q D TC ad cA A nL kc ks pc lv (.int x :: .ref (ad 3) :: st) S V L := j_put (k := 6) (ty := .int) C tc_3 rfl rfl (by decide) inB_X2 wd165 tyX2_ok nmX2 rfl (by decide +kernel) rfl rfl hd kk
theorem fp_X2_55_TC_12 (C : jC p s m args c D TC ad cA A cc nL RX2 B) {x : Int32} (hd : decode cc pc = .ok (.putfield 55, 3)) (kk : jW p l e R s m args below meth c Q D TC ad cA A nL kc ks (pc + 3) lv st (va_up S 1213 x) V L) : jW p l e R s m args below meth c Q D TC ad cA A nL kc ks pc lv (.int x :: .ref (ad 12) :: st) S V L := j_put (k := 13) (ty := .int) C tc_12 rfl rfl (by decide) inB_X2 wd192 tyX2_ok nmX2 rfl (by decide +kernel) rfl rfl hd kk
theorem fp_X2_55_TC_3 (C : jC p s m args c D TC ad cA A cc nL RX2 B) {x : Int32} (hd : decode cc pc = .ok (.putfield 55, 3)) (kk : jW p l e R s m args below meth c Q D TC ad cA A nL kc ks (pc + 3) lv st (va_up S 313 x) V L) : jW p l e R s m args below meth c Q D TC ad cA A nL kc ks pc lv (.int x :: .ref (ad 3) :: st) S V L := j_put (k := 13) (ty := .int) C tc_3 rfl rfl (by decide) inB_X2 wd192 tyX2_ok nmX2 rfl (by decide +kernel) rfl rfl hd kk
theorem fp_X3_102_TC_12 (C : jC p s m args c D TC ad cA A cc nL RX3 B) {x : Int32} (hd : decode cc pc = .ok (.putfield 102, 3)) (kk : jW p l e R s m args below meth c Q D TC ad cA A nL kc ks (pc + 3) lv st (va_up S 1203 x) V L) : jW p l e R s m args below meth c Q D TC ad cA A nL kc ks pc lv (.int x :: .ref (ad 12) :: st) S V L := j_put (k := 3) (ty := .int) C tc_12 rfl rfl (by decide) inB_X2 wd156 tyX2_ok nmX2 rfl (by decide +kernel) rfl rfl hd kk
theorem fp_X3_105_TC_12 (C : jC p s m args c D TC ad cA A cc nL RX3 B) {x : Int32} (hd : decode cc pc = .ok (.putfield 105, 3)) (kk : jW p l e R s m args below meth c Q D TC ad cA A nL kc ks (pc + 3) lv st (va_up S 1204 x) V L) : jW p l e R s m args below meth c Q D TC ad cA A nL kc ks pc lv (.int x :: .ref (ad 12) :: st) S V L := j_put (k := 4) (ty := .int) C tc_12 rfl rfl (by decide) inB_X2 wd160 tyX2_ok nmX2 rfl (by decide +kernel) rfl rfl hd kk
theorem fp_X3_124_TC_12 (C : jC p s m args c D TC ad cA A cc nL RX3 B) {x : Int32} (hd : decode cc pc = .ok (.putfield 124, 3)) (kk : jW p l e R s m args below meth c Q D TC ad cA A nL kc ks (pc + 3) lv st (va_up S 1205 x) V L) : jW p l e R s m args below meth c Q D TC ad cA A nL kc ks pc lv (.int x :: .ref (ad 12) :: st) S V L := j_put (k := 5) (ty := .int) C tc_12 rfl rfl (by decide) inB_X2 wd164 tyX2_ok nmX2 rfl (by decide +kernel) rfl rfl hd kk
theorem fp_X3_135_TC_12 (C : jC p s m args c D TC ad cA A cc nL RX3 B) {x : Int32} (hd : decode cc pc = .ok (.putfield 135, 3)) (kk : jW p l e R s m args below meth c Q D TC ad cA A nL kc ks (pc + 3) lv st (va_up S 1206 x) V L) : jW p l e R s m args below meth c Q D TC ad cA A nL kc ks pc lv (.int x :: .ref (ad 12) :: st) S V L := j_put (k := 6) (ty := .int) C tc_12 rfl rfl (by decide) inB_X2 wd168 tyX2_ok nmX2 rfl (by decide +kernel) rfl rfl hd kk
theorem fp_X3_41_TC_11 (C : jC p s m args c D TC ad cA A cc nL RX3 B) {x : Int32} (hn : narrow .boolean (.int x) = .int x) (hf : fits .boolean (.int x) = true) (hd : decode cc pc = .ok (.putfield 41, 3)) (kk : jW p l e R s m args below meth c Q D TC ad cA A nL kc ks (pc + 3) lv st (va_up S 1103 x) V L) : jW p l e R s m args below meth c Q D TC ad cA A nL kc ks pc lv (.int x :: .ref (ad 11) :: st) S V L := j_put (k := 3) (ty := .boolean) C tc_11 rfl rfl (by decide) inB_X3 wd298 tyX3_ok nmX3 rfl (by decide +kernel) hn hf hd kk
theorem fp_X3_45_TC_11 (C : jC p s m args c D TC ad cA A cc nL RX3 B) {x : Int32} (hn : narrow .boolean (.int x) = .int x) (hf : fits .boolean (.int x) = true) (hd : decode cc pc = .ok (.putfield 45, 3)) (kk : jW p l e R s m args below meth c Q D TC ad cA A nL kc ks (pc + 3) lv st (va_up S 1104 x) V L) : jW p l e R s m args below meth c Q D TC ad cA A nL kc ks pc lv (.int x :: .ref (ad 11) :: st) S V L := j_put (k := 4) (ty := .boolean) C tc_11 rfl rfl (by decide) inB_X3 wd299 tyX3_ok nmX3 rfl (by decide +kernel) hn hf hd kk
theorem fp_X3_48_TC_11 (C : jC p s m args c D TC ad cA A cc nL RX3 B) {x : Int32} (hn : narrow .boolean (.int x) = .int x) (hf : fits .boolean (.int x) = true) (hd : decode cc pc = .ok (.putfield 48, 3)) (kk : jW p l e R s m args below meth c Q D TC ad cA A nL kc ks (pc + 3) lv st (va_up S 1105 x) V L) : jW p l e R s m args below meth c Q D TC ad cA A nL kc ks pc lv (.int x :: .ref (ad 11) :: st) S V L := j_put (k := 5) (ty := .boolean) C tc_11 rfl rfl (by decide) inB_X3 wd300 tyX3_ok nmX3 rfl (by decide +kernel) hn hf hd kk
theorem fp_X3_89_TC_11 (C : jC p s m args c D TC ad cA A cc nL RX3 B) {x : Int32} (hd : decode cc pc = .ok (.putfield 89, 3)) (kk : jW p l e R s m args below meth c Q D TC ad cA A nL kc ks (pc + 3) lv st (va_up S 1106 x) V L) : jW p l e R s m args below meth c Q D TC ad cA A nL kc ks pc lv (.int x :: .ref (ad 11) :: st) S V L := j_put (k := 6) (ty := .int) C tc_11 rfl rfl (by decide) inB_X3 wd301 tyX3_ok nmX3 rfl (by decide +kernel) rfl rfl hd kk
theorem fp_X3_93_TC_12 (C : jC p s m args c D TC ad cA A cc nL RX3 B) {x : Int32} (hd : decode cc pc = .ok (.putfield 93, 3)) (kk : jW p l e R s m args below meth c Q D TC ad cA A nL kc ks (pc + 3) lv st (va_up S 1200 x) V L) : jW p l e R s m args below meth c Q D TC ad cA A nL kc ks pc lv (.int x :: .ref (ad 12) :: st) S V L := j_put (k := 0) (ty := .int) C tc_12 rfl rfl (by decide) inB_X2 wd145 tyX2_ok nmX2 rfl (by decide +kernel) rfl rfl hd kk
theorem fp_X3_96_TC_12 (C : jC p s m args c D TC ad cA A cc nL RX3 B) {x : Int32} (hd : decode cc pc = .ok (.putfield 96, 3)) (kk : jW p l e R s m args below meth c Q D TC ad cA A nL kc ks (pc + 3) lv st (va_up S 1201 x) V L) : jW p l e R s m args below meth c Q D TC ad cA A nL kc ks pc lv (.int x :: .ref (ad 12) :: st) S V L := j_put (k := 1) (ty := .int) C tc_12 rfl rfl (by decide) inB_X2 wd149 tyX2_ok nmX2 rfl (by decide +kernel) rfl rfl hd kk
theorem fp_X3_99_TC_12 (C : jC p s m args c D TC ad cA A cc nL RX3 B) {x : Int32} (hd : decode cc pc = .ok (.putfield 99, 3)) (kk : jW p l e R s m args below meth c Q D TC ad cA A nL kc ks (pc + 3) lv st (va_up S 1202 x) V L) : jW p l e R s m args below meth c Q D TC ad cA A nL kc ks pc lv (.int x :: .ref (ad 12) :: st) S V L := j_put (k := 2) (ty := .int) C tc_12 rfl rfl (by decide) inB_X2 wd152 tyX2_ok nmX2 rfl (by decide +kernel) rfl rfl hd kk
theorem fp_X4_41_TC_30 (C : jC p s m args c D TC ad cA A cc nL RX4 B) {x : Int32} (hd : decode cc pc = .ok (.putfield 41, 3)) (kk : jW p l e R s m args below meth c Q D TC ad cA A nL kc ks (pc + 3) lv st (va_up S 3002 x) V L) : jW p l e R s m args below meth c Q D TC ad cA A nL kc ks pc lv (.int x :: .ref (ad 30) :: st) S V L := j_put (k := 2) (ty := .int) C tc_30 rfl rfl (by decide) inB_X4 wd344 tyX4_ok nmX4 rfl (by decide +kernel) rfl rfl hd kk
theorem fp_X4_41_TC_36 (C : jC p s m args c D TC ad cA A cc nL RX4 B) {x : Int32} (hd : decode cc pc = .ok (.putfield 41, 3)) (kk : jW p l e R s m args below meth c Q D TC ad cA A nL kc ks (pc + 3) lv st (va_up S 3602 x) V L) : jW p l e R s m args below meth c Q D TC ad cA A nL kc ks pc lv (.int x :: .ref (ad 36) :: st) S V L := j_put (k := 2) (ty := .int) C tc_36 rfl rfl (by decide) inB_X4 wd344 tyX4_ok nmX4 rfl (by decide +kernel) rfl rfl hd kk
theorem fp_X5_18_TC_42 (C : jC p s m args c D TC ad cA A cc nL RX5 B) {x : Int32} (hd : decode cc pc = .ok (.putfield 18, 3)) (kk : jW p l e R s m args below meth c Q D TC ad cA A nL kc ks (pc + 3) lv st (va_up S 4200 x) V L) : jW p l e R s m args below meth c Q D TC ad cA A nL kc ks pc lv (.int x :: .ref (ad 42) :: st) S V L := j_put (k := 0) (ty := .int) C tc_42 rfl rfl (by decide) inB_X5 wd374 tyX5_ok nmX5 rfl (by decide +kernel) rfl rfl hd kk
theorem fp_X5_18_TC_45 (C : jC p s m args c D TC ad cA A cc nL RX5 B) {x : Int32} (hd : decode cc pc = .ok (.putfield 18, 3)) (kk : jW p l e R s m args below meth c Q D TC ad cA A nL kc ks (pc + 3) lv st (va_up S 4500 x) V L) : jW p l e R s m args below meth c Q D TC ad cA A nL kc ks pc lv (.int x :: .ref (ad 45) :: st) S V L := j_put (k := 0) (ty := .int) C tc_45 rfl rfl (by decide) inB_X5 wd374 tyX5_ok nmX5 rfl (by decide +kernel) rfl rfl hd kk
theorem fp_X5_32_TC_42 (C : jC p s m args c D TC ad cA A cc nL RX5 B) {x : Int32} (hd : decode cc pc = .ok (.putfield 32, 3)) (kk : jW p l e R s m args below meth c Q D TC ad cA A nL kc ks (pc + 3) lv st (va_up S 4203 x) V L) : jW p l e R s m args below meth c Q D TC ad cA A nL kc ks pc lv (.int x :: .ref (ad 42) :: st) S V L := j_put (k := 3) (ty := .int) C tc_42 rfl rfl (by decide) inB_X5 wd378 tyX5_ok nmX5 rfl (by decide +kernel) rfl rfl hd kk
theorem fp_X5_35_TC_42 (C : jC p s m args c D TC ad cA A cc nL RX5 B) {x : Int32} (hd : decode cc pc = .ok (.putfield 35, 3)) (kk : jW p l e R s m args below meth c Q D TC ad cA A nL kc ks (pc + 3) lv st (va_up S 4204 x) V L) : jW p l e R s m args below meth c Q D TC ad cA A nL kc ks pc lv (.int x :: .ref (ad 42) :: st) S V L := j_put (k := 4) (ty := .int) C tc_42 rfl rfl (by decide) inB_X5 wd380 tyX5_ok nmX5 rfl (by decide +kernel) rfl rfl hd kk
theorem fp_X7_25_TC_59 (C : jC p s m args c D TC ad cA A cc nL RX7 B) {x : Int32} (hn : narrow .boolean (.int x) = .int x) (hf : fits .boolean (.int x) = true) (hd : decode cc pc = .ok (.putfield 25, 3)) (kk : jW p l e R s m args below meth c Q D TC ad cA A nL kc ks (pc + 3) lv st (va_up S 5903 x) V L) : jW p l e R s m args below meth c Q D TC ad cA A nL kc ks pc lv (.int x :: .ref (ad 59) :: st) S V L := j_put (k := 3) (ty := .boolean) C tc_59 rfl rfl (by decide) inB_X7 wd492 tyX7_ok nmX7 rfl (by decide +kernel) hn hf hd kk
theorem fp_X9_23_TC_25 (C : jC p s m args c D TC ad cA A cc nL RX9 B) {x : Int32} (hd : decode cc pc = .ok (.putfield 23, 3)) (kk : jW p l e R s m args below meth c Q D TC ad cA A nL kc ks (pc + 3) lv st (va_up S 2503 x) V L) : jW p l e R s m args below meth c Q D TC ad cA A nL kc ks pc lv (.int x :: .ref (ad 25) :: st) S V L := j_put (k := 3) (ty := .int) C tc_25 rfl rfl (by decide) inB_X9 wd272 tyX9_ok nmX9 rfl (by decide +kernel) rfl rfl hd kk
theorem fp_X9_27_TC_25 (C : jC p s m args c D TC ad cA A cc nL RX9 B) {x : Int32} (hd : decode cc pc = .ok (.putfield 27, 3)) (kk : jW p l e R s m args below meth c Q D TC ad cA A nL kc ks (pc + 3) lv st (va_up S 2504 x) V L) : jW p l e R s m args below meth c Q D TC ad cA A nL kc ks pc lv (.int x :: .ref (ad 25) :: st) S V L := j_put (k := 4) (ty := .int) C tc_25 rfl rfl (by decide) inB_X9 wd273 tyX9_ok nmX9 rfl (by decide +kernel) rfl rfl hd kk
theorem fp_X9_34_TC_25 (C : jC p s m args c D TC ad cA A cc nL RX9 B) {x : Int32} (hn : narrow .boolean (.int x) = .int x) (hf : fits .boolean (.int x) = true) (hd : decode cc pc = .ok (.putfield 34, 3)) (kk : jW p l e R s m args below meth c Q D TC ad cA A nL kc ks (pc + 3) lv st (va_up S 2505 x) V L) : jW p l e R s m args below meth c Q D TC ad cA A nL kc ks pc lv (.int x :: .ref (ad 25) :: st) S V L := j_put (k := 5) (ty := .boolean) C tc_25 rfl rfl (by decide) inB_X9 wd274 tyX9_ok nmX9 rfl (by decide +kernel) hn hf hd kk
theorem fp_X9_57_TC_25 (C : jC p s m args c D TC ad cA A cc nL RX9 B) {x : Int32} (hn : narrow .boolean (.int x) = .int x) (hf : fits .boolean (.int x) = true) (hd : decode cc pc = .ok (.putfield 57, 3)) (kk : jW p l e R s m args below meth c Q D TC ad cA A nL kc ks (pc + 3) lv st (va_up S 2506 x) V L) : jW p l e R s m args below meth c Q D TC ad cA A nL kc ks pc lv (.int x :: .ref (ad 25) :: st) S V L := j_put (k := 6) (ty := .boolean) C tc_25 rfl rfl (by decide) inB_X9 wd275 tyX9_ok nmX9 rfl (by decide +kernel) hn hf hd kk
theorem fp_X9_60_TC_25 (C : jC p s m args c D TC ad cA A cc nL RX9 B) {x : Int32} (hd : decode cc pc = .ok (.putfield 60, 3)) (kk : jW p l e R s m args below meth c Q D TC ad cA A nL kc ks (pc + 3) lv st (va_up S 2507 x) V L) : jW p l e R s m args below meth c Q D TC ad cA A nL kc ks pc lv (.int x :: .ref (ad 25) :: st) S V L := j_put (k := 7) (ty := .int) C tc_25 rfl rfl (by decide) inB_X9 wd276 tyX9_ok nmX9 rfl (by decide +kernel) rfl rfl hd kk
theorem fp_X10_34_TC_20 (C : jC p s m args c D TC ad cA A cc nL RX10 B) {x : Int32} (hd : decode cc pc = .ok (.putfield 34, 3)) (kk : jW p l e R s m args below meth c Q D TC ad cA A nL kc ks (pc + 3) lv st (va_up S 2001 x) V L) : jW p l e R s m args below meth c Q D TC ad cA A nL kc ks pc lv (.int x :: .ref (ad 20) :: st) S V L := j_put (k := 1) (ty := .int) C tc_20 rfl rfl (by decide) inB_X10 wd245 tyX10_ok nmX10 rfl (by decide +kernel) rfl rfl hd kk
theorem fp_X10_44_TC_20 (C : jC p s m args c D TC ad cA A cc nL RX10 B) {x : Int32} (hd : decode cc pc = .ok (.putfield 44, 3)) (kk : jW p l e R s m args below meth c Q D TC ad cA A nL kc ks (pc + 3) lv st (va_up S 2005 x) V L) : jW p l e R s m args below meth c Q D TC ad cA A nL kc ks pc lv (.int x :: .ref (ad 20) :: st) S V L := j_put (k := 5) (ty := .int) C tc_20 rfl rfl (by decide) inB_X10 wd249 tyX10_ok nmX10 rfl (by decide +kernel) rfl rfl hd kk
theorem fp_X11_134_TC_0 (C : jC p s m args c D TC ad cA A cc nL RX11 B) {x : Int32} (hn : narrow .boolean (.int x) = .int x) (hf : fits .boolean (.int x) = true) (hd : decode cc pc = .ok (.putfield 134, 3)) (kk : jW p l e R s m args below meth c Q D TC ad cA A nL kc ks (pc + 3) lv st (va_up S 11 x) V L) : jW p l e R s m args below meth c Q D TC ad cA A nL kc ks pc lv (.int x :: .ref (ad 0) :: st) S V L := j_put (k := 11) (ty := .boolean) C tc_0 rfl rfl (by decide) inB_X11 wd518 tyX11_ok nmX11 rfl (by decide +kernel) hn hf hd kk
theorem fp_X11_98_TC_0 (C : jC p s m args c D TC ad cA A cc nL RX11 B) {x : Int32} (hd : decode cc pc = .ok (.putfield 98, 3)) (kk : jW p l e R s m args below meth c Q D TC ad cA A nL kc ks (pc + 3) lv st (va_up S 1 x) V L) : jW p l e R s m args below meth c Q D TC ad cA A nL kc ks pc lv (.int x :: .ref (ad 0) :: st) S V L := j_put (k := 1) (ty := .int) C tc_0 rfl rfl (by decide) inB_X11 wd508 tyX11_ok nmX11 rfl (by decide +kernel) rfl rfl hd kk
theorem fp_X12_103_TR_0 (C : jC p s m args c D TR ad cA A cc nL RX12 B) {x : Int32} (hd : decode cc pc = .ok (.putfield 103, 3)) (kk : jW p l e R s m args below meth c Q D TR ad cA A nL kc ks (pc + 3) lv st (va_up S 17 x) V L) : jW p l e R s m args below meth c Q D TR ad cA A nL kc ks pc lv (.int x :: .ref (ad 0) :: st) S V L := j_put (k := 17) (ty := .int) C tr_0 rfl rfl (by decide) inB_X12 wd1455 tyX12_ok nmX12 rfl (by decide +kernel) rfl rfl hd kk
theorem fp_X12_106_TR_0 (C : jC p s m args c D TR ad cA A cc nL RX12 B) {x : Int32} (hd : decode cc pc = .ok (.putfield 106, 3)) (kk : jW p l e R s m args below meth c Q D TR ad cA A nL kc ks (pc + 3) lv st (va_up S 18 x) V L) : jW p l e R s m args below meth c Q D TR ad cA A nL kc ks pc lv (.int x :: .ref (ad 0) :: st) S V L := j_put (k := 18) (ty := .int) C tr_0 rfl rfl (by decide) inB_X12 wd1456 tyX12_ok nmX12 rfl (by decide +kernel) rfl rfl hd kk
theorem fp_X12_113_TR_0 (C : jC p s m args c D TR ad cA A cc nL RX12 B) {x : Int32} (hd : decode cc pc = .ok (.putfield 113, 3)) (kk : jW p l e R s m args below meth c Q D TR ad cA A nL kc ks (pc + 3) lv st (va_up S 20 x) V L) : jW p l e R s m args below meth c Q D TR ad cA A nL kc ks pc lv (.int x :: .ref (ad 0) :: st) S V L := j_put (k := 20) (ty := .int) C tr_0 rfl rfl (by decide) inB_X12 wd1458 tyX12_ok nmX12 rfl (by decide +kernel) rfl rfl hd kk
theorem fp_X12_116_TR_0 (C : jC p s m args c D TR ad cA A cc nL RX12 B) {x : Int64} (hd : decode cc pc = .ok (.putfield 116, 3)) (kk : jW p l e R s m args below meth c Q D TR ad cA A nL kc ks (pc + 3) lv st S V (va_up L 24 x)) : jW p l e R s m args below meth c Q D TR ad cA A nL kc ks pc lv (.long x :: .ref (ad 0) :: st) S V L := j_putl (k := 24) (ty := .long) C tr_0 rfl rfl (by decide) inB_X12 wd1462 tyX12_ok nmX12 rfl (by decide +kernel) rfl rfl hd kk
theorem fp_X12_120_TR_0 (C : jC p s m args c D TR ad cA A cc nL RX12 B) {x : Int32} (hd : decode cc pc = .ok (.putfield 120, 3)) (kk : jW p l e R s m args below meth c Q D TR ad cA A nL kc ks (pc + 3) lv st (va_up S 22 x) V L) : jW p l e R s m args below meth c Q D TR ad cA A nL kc ks pc lv (.int x :: .ref (ad 0) :: st) S V L := j_put (k := 22) (ty := .int) C tr_0 rfl rfl (by decide) inB_X12 wd1460 tyX12_ok nmX12 rfl (by decide +kernel) rfl rfl hd kk
theorem fp_X12_123_TR_0 (C : jC p s m args c D TR ad cA A cc nL RX12 B) {x : Int32} (hd : decode cc pc = .ok (.putfield 123, 3)) (kk : jW p l e R s m args below meth c Q D TR ad cA A nL kc ks (pc + 3) lv st (va_up S 23 x) V L) : jW p l e R s m args below meth c Q D TR ad cA A nL kc ks pc lv (.int x :: .ref (ad 0) :: st) S V L := j_put (k := 23) (ty := .int) C tr_0 rfl rfl (by decide) inB_X12 wd1461 tyX12_ok nmX12 rfl (by decide +kernel) rfl rfl hd kk
theorem fp_X12_126_TR_0 (C : jC p s m args c D TR ad cA A cc nL RX12 B) {x : Int32} (hd : decode cc pc = .ok (.putfield 126, 3)) (kk : jW p l e R s m args below meth c Q D TR ad cA A nL kc ks (pc + 3) lv st (va_up S 19 x) V L) : jW p l e R s m args below meth c Q D TR ad cA A nL kc ks pc lv (.int x :: .ref (ad 0) :: st) S V L := j_put (k := 19) (ty := .int) C tr_0 rfl rfl (by decide) inB_X12 wd1457 tyX12_ok nmX12 rfl (by decide +kernel) rfl rfl hd kk
theorem fp_X12_13_TR_0 (C : jC p s m args c D TR ad cA A cc nL RX12 B) {x : Int32} (hd : decode cc pc = .ok (.putfield 13, 3)) (kk : jW p l e R s m args below meth c Q D TR ad cA A nL kc ks (pc + 3) lv st (va_up S 3 x) V L) : jW p l e R s m args below meth c Q D TR ad cA A nL kc ks pc lv (.int x :: .ref (ad 0) :: st) S V L := j_put (k := 3) (ty := .int) C tr_0 rfl rfl (by decide) inB_X12 wd1441 tyX12_ok nmX12 rfl (by decide +kernel) rfl rfl hd kk
theorem fp_X12_136_TR_0 (C : jC p s m args c D TR ad cA A cc nL RX12 B) {x : Int32} (hd : decode cc pc = .ok (.putfield 136, 3)) (kk : jW p l e R s m args below meth c Q D TR ad cA A nL kc ks (pc + 3) lv st (va_up S 21 x) V L) : jW p l e R s m args below meth c Q D TR ad cA A nL kc ks pc lv (.int x :: .ref (ad 0) :: st) S V L := j_put (k := 21) (ty := .int) C tr_0 rfl rfl (by decide) inB_X12 wd1459 tyX12_ok nmX12 rfl (by decide +kernel) rfl rfl hd kk
theorem fp_X12_149_TR_0 (C : jC p s m args c D TR ad cA A cc nL RX12 B) {x : Int32} (hd : decode cc pc = .ok (.putfield 149, 3)) (kk : jW p l e R s m args below meth c Q D TR ad cA A nL kc ks (pc + 3) lv st (va_up S 14 x) V L) : jW p l e R s m args below meth c Q D TR ad cA A nL kc ks pc lv (.int x :: .ref (ad 0) :: st) S V L := j_put (k := 14) (ty := .int) C tr_0 rfl rfl (by decide) inB_X12 wd1452 tyX12_ok nmX12 rfl (by decide +kernel) rfl rfl hd kk
theorem fp_X12_16_TR_0 (C : jC p s m args c D TR ad cA A cc nL RX12 B) {x : Int32} (hd : decode cc pc = .ok (.putfield 16, 3)) (kk : jW p l e R s m args below meth c Q D TR ad cA A nL kc ks (pc + 3) lv st (va_up S 4 x) V L) : jW p l e R s m args below meth c Q D TR ad cA A nL kc ks pc lv (.int x :: .ref (ad 0) :: st) S V L := j_put (k := 4) (ty := .int) C tr_0 rfl rfl (by decide) inB_X12 wd1442 tyX12_ok nmX12 rfl (by decide +kernel) rfl rfl hd kk
theorem fp_X12_162_TR_0 (C : jC p s m args c D TR ad cA A cc nL RX12 B) {x : Int32} (hd : decode cc pc = .ok (.putfield 162, 3)) (kk : jW p l e R s m args below meth c Q D TR ad cA A nL kc ks (pc + 3) lv st (va_up S 33 x) V L) : jW p l e R s m args below meth c Q D TR ad cA A nL kc ks pc lv (.int x :: .ref (ad 0) :: st) S V L := j_put (k := 33) (ty := .int) C tr_0 rfl rfl (by decide) inB_X12 wd1471 tyX12_ok nmX12 rfl (by decide +kernel) rfl rfl hd kk
theorem fp_X12_165_TR_0 (C : jC p s m args c D TR ad cA A cc nL RX12 B) {x : Int32} (hd : decode cc pc = .ok (.putfield 165, 3)) (kk : jW p l e R s m args below meth c Q D TR ad cA A nL kc ks (pc + 3) lv st (va_up S 34 x) V L) : jW p l e R s m args below meth c Q D TR ad cA A nL kc ks pc lv (.int x :: .ref (ad 0) :: st) S V L := j_put (k := 34) (ty := .int) C tr_0 rfl rfl (by decide) inB_X12 wd1472 tyX12_ok nmX12 rfl (by decide +kernel) rfl rfl hd kk
theorem fp_X12_181_TR_0 (C : jC p s m args c D TR ad cA A cc nL RX12 B) {x : Int32} (hd : decode cc pc = .ok (.putfield 181, 3)) (kk : jW p l e R s m args below meth c Q D TR ad cA A nL kc ks (pc + 3) lv st (va_up S 35 x) V L) : jW p l e R s m args below meth c Q D TR ad cA A nL kc ks pc lv (.int x :: .ref (ad 0) :: st) S V L := j_put (k := 35) (ty := .int) C tr_0 rfl rfl (by decide) inB_X12 wd1473 tyX12_ok nmX12 rfl (by decide +kernel) rfl rfl hd kk
theorem fp_X12_209_TR_0 (C : jC p s m args c D TR ad cA A cc nL RX12 B) {x : Int32} (hd : decode cc pc = .ok (.putfield 209, 3)) (kk : jW p l e R s m args below meth c Q D TR ad cA A nL kc ks (pc + 3) lv st (va_up S 32 x) V L) : jW p l e R s m args below meth c Q D TR ad cA A nL kc ks pc lv (.int x :: .ref (ad 0) :: st) S V L := j_put (k := 32) (ty := .int) C tr_0 rfl rfl (by decide) inB_X12 wd1470 tyX12_ok nmX12 rfl (by decide +kernel) rfl rfl hd kk
theorem fp_X12_212_TR_0 (C : jC p s m args c D TR ad cA A cc nL RX12 B) {x : Int32} (hd : decode cc pc = .ok (.putfield 212, 3)) (kk : jW p l e R s m args below meth c Q D TR ad cA A nL kc ks (pc + 3) lv st (va_up S 29 x) V L) : jW p l e R s m args below meth c Q D TR ad cA A nL kc ks pc lv (.int x :: .ref (ad 0) :: st) S V L := j_put (k := 29) (ty := .int) C tr_0 rfl rfl (by decide) inB_X12 wd1467 tyX12_ok nmX12 rfl (by decide +kernel) rfl rfl hd kk
theorem fp_X12_222_TR_0 (C : jC p s m args c D TR ad cA A cc nL RX12 B) {x : Int32} (hd : decode cc pc = .ok (.putfield 222, 3)) (kk : jW p l e R s m args below meth c Q D TR ad cA A nL kc ks (pc + 3) lv st (va_up S 30 x) V L) : jW p l e R s m args below meth c Q D TR ad cA A nL kc ks pc lv (.int x :: .ref (ad 0) :: st) S V L := j_put (k := 30) (ty := .int) C tr_0 rfl rfl (by decide) inB_X12 wd1468 tyX12_ok nmX12 rfl (by decide +kernel) rfl rfl hd kk
theorem fp_X12_231_TR_0 (C : jC p s m args c D TR ad cA A cc nL RX12 B) {x : Int32} (hd : decode cc pc = .ok (.putfield 231, 3)) (kk : jW p l e R s m args below meth c Q D TR ad cA A nL kc ks (pc + 3) lv st (va_up S 25 x) V L) : jW p l e R s m args below meth c Q D TR ad cA A nL kc ks pc lv (.int x :: .ref (ad 0) :: st) S V L := j_put (k := 25) (ty := .int) C tr_0 rfl rfl (by decide) inB_X12 wd1463 tyX12_ok nmX12 rfl (by decide +kernel) rfl rfl hd kk
theorem fp_X12_234_TR_0 (C : jC p s m args c D TR ad cA A cc nL RX12 B) {x : Int32} (hd : decode cc pc = .ok (.putfield 234, 3)) (kk : jW p l e R s m args below meth c Q D TR ad cA A nL kc ks (pc + 3) lv st (va_up S 26 x) V L) : jW p l e R s m args below meth c Q D TR ad cA A nL kc ks pc lv (.int x :: .ref (ad 0) :: st) S V L := j_put (k := 26) (ty := .int) C tr_0 rfl rfl (by decide) inB_X12 wd1464 tyX12_ok nmX12 rfl (by decide +kernel) rfl rfl hd kk
theorem fp_X12_237_TR_0 (C : jC p s m args c D TR ad cA A cc nL RX12 B) {x : Int32} (hd : decode cc pc = .ok (.putfield 237, 3)) (kk : jW p l e R s m args below meth c Q D TR ad cA A nL kc ks (pc + 3) lv st (va_up S 27 x) V L) : jW p l e R s m args below meth c Q D TR ad cA A nL kc ks pc lv (.int x :: .ref (ad 0) :: st) S V L := j_put (k := 27) (ty := .int) C tr_0 rfl rfl (by decide) inB_X12 wd1465 tyX12_ok nmX12 rfl (by decide +kernel) rfl rfl hd kk
theorem fp_X12_240_TR_0 (C : jC p s m args c D TR ad cA A cc nL RX12 B) {x : Int32} (hd : decode cc pc = .ok (.putfield 240, 3)) (kk : jW p l e R s m args below meth c Q D TR ad cA A nL kc ks (pc + 3) lv st (va_up S 28 x) V L) : jW p l e R s m args below meth c Q D TR ad cA A nL kc ks pc lv (.int x :: .ref (ad 0) :: st) S V L := j_put (k := 28) (ty := .int) C tr_0 rfl rfl (by decide) inB_X12 wd1466 tyX12_ok nmX12 rfl (by decide +kernel) rfl rfl hd kk
theorem fp_X12_249_TR_0 (C : jC p s m args c D TR ad cA A cc nL RX12 B) {x : Int32} (hd : decode cc pc = .ok (.putfield 249, 3)) (kk : jW p l e R s m args below meth c Q D TR ad cA A nL kc ks (pc + 3) lv st (va_up S 31 x) V L) : jW p l e R s m args below meth c Q D TR ad cA A nL kc ks pc lv (.int x :: .ref (ad 0) :: st) S V L := j_put (k := 31) (ty := .int) C tr_0 rfl rfl (by decide) inB_X12 wd1469 tyX12_ok nmX12 rfl (by decide +kernel) rfl rfl hd kk
theorem fp_X12_262_TR_0 (C : jC p s m args c D TR ad cA A cc nL RX12 B) {x : Int32} (hd : decode cc pc = .ok (.putfield 262, 3)) (kk : jW p l e R s m args below meth c Q D TR ad cA A nL kc ks (pc + 3) lv st (va_up S 2 x) V L) : jW p l e R s m args below meth c Q D TR ad cA A nL kc ks pc lv (.int x :: .ref (ad 0) :: st) S V L := j_put (k := 2) (ty := .int) C tr_0 rfl rfl (by decide) inB_X12 wd1440 tyX12_ok nmX12 rfl (by decide +kernel) rfl rfl hd kk
theorem fp_X12_265_TR_0 (C : jC p s m args c D TR ad cA A cc nL RX12 B) {x : Int32} (hd : decode cc pc = .ok (.putfield 265, 3)) (kk : jW p l e R s m args below meth c Q D TR ad cA A nL kc ks (pc + 3) lv st (va_up S 5 x) V L) : jW p l e R s m args below meth c Q D TR ad cA A nL kc ks pc lv (.int x :: .ref (ad 0) :: st) S V L := j_put (k := 5) (ty := .int) C tr_0 rfl rfl (by decide) inB_X12 wd1443 tyX12_ok nmX12 rfl (by decide +kernel) rfl rfl hd kk
theorem fp_X12_268_TR_0 (C : jC p s m args c D TR ad cA A cc nL RX12 B) {x : Int32} (hd : decode cc pc = .ok (.putfield 268, 3)) (kk : jW p l e R s m args below meth c Q D TR ad cA A nL kc ks (pc + 3) lv st (va_up S 6 x) V L) : jW p l e R s m args below meth c Q D TR ad cA A nL kc ks pc lv (.int x :: .ref (ad 0) :: st) S V L := j_put (k := 6) (ty := .int) C tr_0 rfl rfl (by decide) inB_X12 wd1444 tyX12_ok nmX12 rfl (by decide +kernel) rfl rfl hd kk
theorem fp_X12_271_TR_0 (C : jC p s m args c D TR ad cA A cc nL RX12 B) {x : Int32} (hd : decode cc pc = .ok (.putfield 271, 3)) (kk : jW p l e R s m args below meth c Q D TR ad cA A nL kc ks (pc + 3) lv st (va_up S 7 x) V L) : jW p l e R s m args below meth c Q D TR ad cA A nL kc ks pc lv (.int x :: .ref (ad 0) :: st) S V L := j_put (k := 7) (ty := .int) C tr_0 rfl rfl (by decide) inB_X12 wd1445 tyX12_ok nmX12 rfl (by decide +kernel) rfl rfl hd kk
theorem fp_X12_278_TR_0 (C : jC p s m args c D TR ad cA A cc nL RX12 B) {x : Int32} (hd : decode cc pc = .ok (.putfield 278, 3)) (kk : jW p l e R s m args below meth c Q D TR ad cA A nL kc ks (pc + 3) lv st (va_up S 42 x) V L) : jW p l e R s m args below meth c Q D TR ad cA A nL kc ks pc lv (.int x :: .ref (ad 0) :: st) S V L := j_put (k := 42) (ty := .int) C tr_0 rfl rfl (by decide) inB_X12 wd1480 tyX12_ok nmX12 rfl (by decide +kernel) rfl rfl hd kk
theorem fp_X12_281_TR_0 (C : jC p s m args c D TR ad cA A cc nL RX12 B) {x : Int32} (hd : decode cc pc = .ok (.putfield 281, 3)) (kk : jW p l e R s m args below meth c Q D TR ad cA A nL kc ks (pc + 3) lv st (va_up S 53 x) V L) : jW p l e R s m args below meth c Q D TR ad cA A nL kc ks pc lv (.int x :: .ref (ad 0) :: st) S V L := j_put (k := 53) (ty := .int) C tr_0 rfl rfl (by decide) inB_X12 wd1491 tyX12_ok nmX12 rfl (by decide +kernel) rfl rfl hd kk
theorem fp_X12_284_TR_0 (C : jC p s m args c D TR ad cA A cc nL RX12 B) {x : Int32} (hn : narrow .boolean (.int x) = .int x) (hf : fits .boolean (.int x) = true) (hd : decode cc pc = .ok (.putfield 284, 3)) (kk : jW p l e R s m args below meth c Q D TR ad cA A nL kc ks (pc + 3) lv st (va_up S 49 x) V L) : jW p l e R s m args below meth c Q D TR ad cA A nL kc ks pc lv (.int x :: .ref (ad 0) :: st) S V L := j_put (k := 49) (ty := .boolean) C tr_0 rfl rfl (by decide) inB_X12 wd1487 tyX12_ok nmX12 rfl (by decide +kernel) hn hf hd kk
theorem fp_X12_288_TR_0 (C : jC p s m args c D TR ad cA A cc nL RX12 B) {x : Int32} (hn : narrow .boolean (.int x) = .int x) (hf : fits .boolean (.int x) = true) (hd : decode cc pc = .ok (.putfield 288, 3)) (kk : jW p l e R s m args below meth c Q D TR ad cA A nL kc ks (pc + 3) lv st (va_up S 52 x) V L) : jW p l e R s m args below meth c Q D TR ad cA A nL kc ks pc lv (.int x :: .ref (ad 0) :: st) S V L := j_put (k := 52) (ty := .boolean) C tr_0 rfl rfl (by decide) inB_X12 wd1490 tyX12_ok nmX12 rfl (by decide +kernel) hn hf hd kk
theorem fp_X12_291_TR_0 (C : jC p s m args c D TR ad cA A cc nL RX12 B) {x : Int32} (hn : narrow .boolean (.int x) = .int x) (hf : fits .boolean (.int x) = true) (hd : decode cc pc = .ok (.putfield 291, 3)) (kk : jW p l e R s m args below meth c Q D TR ad cA A nL kc ks (pc + 3) lv st (va_up S 55 x) V L) : jW p l e R s m args below meth c Q D TR ad cA A nL kc ks pc lv (.int x :: .ref (ad 0) :: st) S V L := j_put (k := 55) (ty := .boolean) C tr_0 rfl rfl (by decide) inB_X12 wd1493 tyX12_ok nmX12 rfl (by decide +kernel) hn hf hd kk
theorem fp_X12_35_TR_0 (C : jC p s m args c D TR ad cA A cc nL RX12 B) {x : Int32} (hd : decode cc pc = .ok (.putfield 35, 3)) (kk : jW p l e R s m args below meth c Q D TR ad cA A nL kc ks (pc + 3) lv st (va_up S 15 x) V L) : jW p l e R s m args below meth c Q D TR ad cA A nL kc ks pc lv (.int x :: .ref (ad 0) :: st) S V L := j_put (k := 15) (ty := .int) C tr_0 rfl rfl (by decide) inB_X12 wd1453 tyX12_ok nmX12 rfl (by decide +kernel) rfl rfl hd kk
theorem fp_X12_393_TR_0 (C : jC p s m args c D TR ad cA A cc nL RX12 B) {x : Int32} (hd : decode cc pc = .ok (.putfield 393, 3)) (kk : jW p l e R s m args below meth c Q D TR ad cA A nL kc ks (pc + 3) lv st (va_up S 56 x) V L) : jW p l e R s m args below meth c Q D TR ad cA A nL kc ks pc lv (.int x :: .ref (ad 0) :: st) S V L := j_put (k := 56) (ty := .int) C tr_0 rfl rfl (by decide) inB_X12 wd1494 tyX12_ok nmX12 rfl (by decide +kernel) rfl rfl hd kk
theorem fp_X12_396_TR_0 (C : jC p s m args c D TR ad cA A cc nL RX12 B) {x : Int32} (hd : decode cc pc = .ok (.putfield 396, 3)) (kk : jW p l e R s m args below meth c Q D TR ad cA A nL kc ks (pc + 3) lv st (va_up S 57 x) V L) : jW p l e R s m args below meth c Q D TR ad cA A nL kc ks pc lv (.int x :: .ref (ad 0) :: st) S V L := j_put (k := 57) (ty := .int) C tr_0 rfl rfl (by decide) inB_X12 wd1495 tyX12_ok nmX12 rfl (by decide +kernel) rfl rfl hd kk
theorem fp_X12_7_TR_0 (C : jC p s m args c D TR ad cA A cc nL RX12 B) {x : Int32} (hd : decode cc pc = .ok (.putfield 7, 3)) (kk : jW p l e R s m args below meth c Q D TR ad cA A nL kc ks (pc + 3) lv st (va_up S 1 x) V L) : jW p l e R s m args below meth c Q D TR ad cA A nL kc ks pc lv (.int x :: .ref (ad 0) :: st) S V L := j_put (k := 1) (ty := .int) C tr_0 rfl rfl (by decide) inB_X12 wd1439 tyX12_ok nmX12 rfl (by decide +kernel) rfl rfl hd kk
theorem fp_X12_93_TR_0 (C : jC p s m args c D TR ad cA A cc nL RX12 B) {x : Int32} (hd : decode cc pc = .ok (.putfield 93, 3)) (kk : jW p l e R s m args below meth c Q D TR ad cA A nL kc ks (pc + 3) lv st (va_up S 0 x) V L) : jW p l e R s m args below meth c Q D TR ad cA A nL kc ks pc lv (.int x :: .ref (ad 0) :: st) S V L := j_put (k := 0) (ty := .int) C tr_0 rfl rfl (by decide) inB_X12 wd1438 tyX12_ok nmX12 rfl (by decide +kernel) rfl rfl hd kk
theorem fp_X12_96_TR_0 (C : jC p s m args c D TR ad cA A cc nL RX12 B) {x : Int32} (hd : decode cc pc = .ok (.putfield 96, 3)) (kk : jW p l e R s m args below meth c Q D TR ad cA A nL kc ks (pc + 3) lv st (va_up S 13 x) V L) : jW p l e R s m args below meth c Q D TR ad cA A nL kc ks pc lv (.int x :: .ref (ad 0) :: st) S V L := j_put (k := 13) (ty := .int) C tr_0 rfl rfl (by decide) inB_X12 wd1451 tyX12_ok nmX12 rfl (by decide +kernel) rfl rfl hd kk
end FR
theorem mw_J0_charAt_5068e : jmw yJ0_charAt_5068e cJ0_charAt_5068e 2 (some .char) 1 := ⟨wd807, wd123, by decide +kernel⟩
theorem mw_J0_checkIndex_df160 : jmw yJ0_checkIndex_df160 cJ0_checkIndex_df160 2 none 2 := ⟨wd817, wd123, by decide +kernel⟩
theorem mw_J0_coder_7d493 : jmw yJ0_coder_7d493 cJ0_coder_7d493 1 (some .byte) 0 := ⟨wd801, wd123, by decide +kernel⟩
theorem mw_J0_indexOf_0f7a4 : jmw yJ0_indexOf_0f7a4 cJ0_indexOf_0f7a4 2 (some .int) 1 := ⟨wd854, wd123, by decide +kernel⟩
theorem mw_J0_indexOf_7cf53 : jmw yJ0_indexOf_7cf53 cJ0_indexOf_7cf53 3 (some .int) 2 := ⟨wd858, wd123, by decide +kernel⟩
theorem mw_J0_isLatin1_aae02 : jmw yJ0_isLatin1_aae02 cJ0_isLatin1_aae02 1 (some .boolean) 0 := ⟨wd811, wd123, by decide +kernel⟩
theorem mw_J0_length_8abf5 : jmw yJ0_length_8abf5 cJ0_length_8abf5 1 (some .int) 0 := ⟨wd797, wd123, by decide +kernel⟩
theorem mw_J1_canEncode_9a6ad : jmw yJ1_canEncode_9a6ad cJ1_canEncode_9a6ad 1 (some .boolean) 1 := ⟨wd865, wd124, by decide +kernel⟩
theorem mw_J1_charAt_3b067 : jmw yJ1_charAt_3b067 cJ1_charAt_3b067 2 (some .char) 2 := ⟨wd814, wd124, by decide +kernel⟩
theorem mw_J1_indexOfChar_4cfef : jmw yJ1_indexOfChar_4cfef cJ1_indexOfChar_4cfef 6 (some .int) 4 := ⟨wd870, wd124, by decide +kernel⟩
theorem mw_J1_indexOf_4cfef : jmw yJ1_indexOf_4cfef cJ1_indexOf_4cfef 4 (some .int) 4 := ⟨wd862, wd124, by decide +kernel⟩
theorem mw_J3_checkIndex_8e157 : jmw yJ3_checkIndex_8e157 cJ3_checkIndex_8e157 3 (some .int) 3 := ⟨wd822, wd125, by decide +kernel⟩
theorem mw_J6_bitCount_0f7a4 : jmw yJ6_bitCount_0f7a4 cJ6_bitCount_0f7a4 1 (some .int) 1 := ⟨wd1093, wd129, by decide +kernel⟩
theorem mw_J7_fill_53178 : jmw yJ7_fill_53178 cJ7_fill_53178 4 none 2 := ⟨wd341, wd110, by decide +kernel⟩
theorem mw_J9_abs_0f7a4 : jmw yJ9_abs_0f7a4 cJ9_abs_0f7a4 1 (some .int) 1 := ⟨wd1226, wd121, by decide +kernel⟩
theorem mw_J9_floorMod_7cf53 : jmw yJ9_floorMod_7cf53 cJ9_floorMod_7cf53 3 (some .int) 2 := ⟨wd1378, wd121, by decide +kernel⟩
theorem mw_J9_max_7cf53 : jmw yJ9_max_7cf53 cJ9_max_7cf53 2 (some .int) 2 := ⟨wd771, wd121, by decide +kernel⟩
theorem mw_J9_min_7cf53 : jmw yJ9_min_7cf53 cJ9_min_7cf53 2 (some .int) 2 := ⟨wd768, wd121, by decide +kernel⟩
theorem mw_X0_adds : jmw yX0_adds cX0_adds 6 (some .int) 2 := ⟨wd1235, wd113, by decide +kernel⟩
theorem mw_X0_fits : jmw yX0_fits cX0_fits 8 (some .boolean) 2 := ⟨wd1231, wd113, by decide +kernel⟩
theorem mw_X0_fromOf : jmw yX0_fromOf cX0_fromOf 1 (some .int) 1 := ⟨wd1202, wd113, by decide +kernel⟩
theorem mw_X0_gather : jmw yX0_gather cX0_gather 5 none 1 := ⟨wd1193, wd113, by decide +kernel⟩
theorem mw_X0_goodHours : jmw yX0_goodHours cX0_goodHours 10 (some .int) 5 := ⟨wd1210, wd113, by decide +kernel⟩
theorem mw_X0_halfOf : jmw yX0_halfOf cX0_halfOf 1 (some .int) 1 := ⟨wd1205, wd113, by decide +kernel⟩
theorem mw_X0_keepIfRulesHold : jmw yX0_keepIfRulesHold cX0_keepIfRulesHold 6 none 1 := ⟨wd1223, wd113, by decide +kernel⟩
theorem mw_X0_keep : jmw yX0_keep cX0_keep 2 none 0 := ⟨wd1240, wd113, by decide +kernel⟩
theorem mw_X0_measure : jmw yX0_measure cX0_measure 8 none 2 := ⟨wd1199, wd113, by decide +kernel⟩
theorem mw_X0_placeFrom : jmw yX0_placeFrom cX0_placeFrom 4 none 2 := ⟨wd1219, wd113, by decide +kernel⟩
theorem mw_X10_advance : jmw yX10_advance cX10_advance 1 none 0 := ⟨wd925, wd106, by decide +kernel⟩
theorem mw_X10_begin : jmw yX10_begin cX10_begin 6 none 2 := ⟨wd765, wd106, by decide +kernel⟩
theorem mw_X10_endOfToken : jmw yX10_endOfToken cX10_endOfToken 3 (some .int) 1 := ⟨wd776, wd106, by decide +kernel⟩
theorem mw_X10_isDigit : jmw yX10_isDigit cX10_isDigit 2 (some .boolean) 1 := ⟨wd784, wd106, by decide +kernel⟩
theorem mw_X10_isLetter : jmw yX10_isLetter cX10_isLetter 2 (some .boolean) 1 := ⟨wd780, wd106, by decide +kernel⟩
theorem mw_X10_isWordAt : jmw yX10_isWordAt cX10_isWordAt 5 (some .boolean) 3 := ⟨wd845, wd106, by decide +kernel⟩
theorem mw_X10_isWord : jmw yX10_isWord cX10_isWord 1 (some .boolean) 0 := ⟨wd976, wd106, by decide +kernel⟩
theorem mw_X10_kindOfWord : jmw yX10_kindOfWord cX10_kindOfWord 6 (some .int) 2 := ⟨wd792, wd106, by decide +kernel⟩
theorem mw_X10_kind : jmw yX10_kind cX10_kind 1 (some .int) 0 := ⟨wd913, wd106, by decide +kernel⟩
theorem mw_X10_numberOf : jmw yX10_numberOf cX10_numberOf 5 (some .int) 2 := ⟨wd849, wd106, by decide +kernel⟩
theorem mw_X10_number : jmw yX10_number cX10_number 1 (some .int) 0 := ⟨wd933, wd106, by decide +kernel⟩
theorem mw_X10_place : jmw yX10_place cX10_place 1 (some .int) 0 := ⟨wd1028, wd106, by decide +kernel⟩
theorem mw_X10_putToken : jmw yX10_putToken cX10_putToken 4 none 2 := ⟨wd788, wd106, by decide +kernel⟩
theorem mw_X11_hourBits : jmw yX11_hourBits cX11_hourBits 2 (some .int) 2 := ⟨wd586, wd103, by decide +kernel⟩
theorem mw_X11_putBytes : jmw yX11_putBytes cX11_putBytes 3 none 1 := ⟨wd563, wd103, by decide +kernel⟩
theorem mw_X12_allIn : jmw yX12_allIn cX12_allIn 6 (some .int) 3 := ⟨wd1779, wd116, by decide +kernel⟩
theorem mw_X12_amongHere : jmw yX12_amongHere cX12_amongHere 2 (some .boolean) 1 := ⟨wd1700, wd116, by decide +kernel⟩
theorem mw_X12_begins : jmw yX12_begins cX12_begins 3 (some .boolean) 1 := ⟨wd1676, wd116, by decide +kernel⟩
theorem mw_X12_bits : jmw yX12_bits cX12_bits 3 (some .int) 1 := ⟨wd1798, wd116, by decide +kernel⟩
theorem mw_X12_byteAt : jmw yX12_byteAt cX12_byteAt 2 (some .int) 1 := ⟨wd1647, wd116, by decide +kernel⟩
theorem mw_X12_closes : jmw yX12_closes cX12_closes 1 none 0 := ⟨wd1746, wd116, by decide +kernel⟩
theorem mw_X12_copies : jmw yX12_copies cX12_copies 4 none 2 := ⟨wd1750, wd116, by decide +kernel⟩
theorem mw_X12_deeper : jmw yX12_deeper cX12_deeper 1 none 0 := ⟨wd1708, wd116, by decide +kernel⟩
theorem mw_X12_drops : jmw yX12_drops cX12_drops 2 none 1 := ⟨wd1732, wd116, by decide +kernel⟩
theorem mw_X12_expression : jmw yX12_expression cX12_expression 3 none 0 := ⟨wd1704, wd116, by decide +kernel⟩
theorem mw_X12_goes : jmw yX12_goes cX12_goes 2 none 0 := ⟨wd1643, wd116, by decide +kernel⟩
theorem mw_X12_holds : jmw yX12_holds cX12_holds 6 (some .boolean) 2 := ⟨wd1783, wd116, by decide +kernel⟩
theorem mw_X12_hoursOfOffer : jmw yX12_hoursOfOffer cX12_hoursOfOffer 5 (some .int) 1 := ⟨wd1935, wd116, by decide +kernel⟩
theorem mw_X12_hoursOf : jmw yX12_hoursOf cX12_hoursOf 5 (some .int) 2 := ⟨wd1821, wd116, by decide +kernel⟩
theorem mw_X12_inOf : jmw yX12_inOf cX12_inOf 5 (some .int) 4 := ⟨wd1776, wd116, by decide +kernel⟩
theorem mw_X12_isCase : jmw yX12_isCase cX12_isCase 5 (some .boolean) 1 := ⟨wd1888, wd116, by decide +kernel⟩
theorem mw_X12_isDay : jmw yX12_isDay cX12_isDay 3 (some .boolean) 2 := ⟨wd1837, wd116, by decide +kernel⟩
theorem mw_X12_isDigit : jmw yX12_isDigit cX12_isDigit 1 (some .boolean) 1 := ⟨wd1653, wd116, by decide +kernel⟩
theorem mw_X12_isGood : jmw yX12_isGood cX12_isGood 1 (some .boolean) 0 := ⟨wd1657, wd116, by decide +kernel⟩
theorem mw_X12_isHour : jmw yX12_isHour cX12_isHour 2 (some .boolean) 1 := ⟨wd1829, wd116, by decide +kernel⟩
theorem mw_X12_isLaid : jmw yX12_isLaid cX12_isLaid 7 (some .boolean) 1 := ⟨wd1873, wd116, by decide +kernel⟩
theorem mw_X12_isLetter : jmw yX12_isLetter cX12_isLetter 1 (some .boolean) 1 := ⟨wd1650, wd116, by decide +kernel⟩
theorem mw_X12_isOpened : jmw yX12_isOpened cX12_isOpened 2 (some .boolean) 0 := ⟨wd1742, wd116, by decide +kernel⟩
theorem mw_X12_isOpen : jmw yX12_isOpen cX12_isOpen 1 (some .boolean) 1 := ⟨wd1735, wd116, by decide +kernel⟩
theorem mw_X12_isSign : jmw yX12_isSign cX12_isSign 2 (some .boolean) 1 := ⟨wd1712, wd116, by decide +kernel⟩
theorem mw_X12_isTaken : jmw yX12_isTaken cX12_isTaken 4 (some .boolean) 2 := ⟨wd1907, wd116, by decide +kernel⟩
theorem mw_X12_isTenant : jmw yX12_isTenant cX12_isTenant 2 (some .boolean) 1 := ⟨wd1817, wd116, by decide +kernel⟩
theorem mw_X12_knownWord : jmw yX12_knownWord cX12_knownWord 2 (some .int) 0 := ⟨wd1665, wd116, by decide +kernel⟩
theorem mw_X12_lays : jmw yX12_lays cX12_lays 3 none 1 := ⟨wd1631, wd116, by decide +kernel⟩
theorem mw_X12_lets : jmw yX12_lets cX12_lets 3 (some .boolean) 2 := ⟨wd1773, wd116, by decide +kernel⟩
theorem mw_X12_letters : jmw yX12_letters cX12_letters 1 (some .long) 1 := ⟨wd1668, wd116, by decide +kernel⟩
theorem mw_X12_line : jmw yX12_line cX12_line 2 none 0 := ⟨wd1661, wd116, by decide +kernel⟩
theorem mw_X12_need : jmw yX12_need cX12_need 2 none 1 := ⟨wd1692, wd116, by decide +kernel⟩
theorem mw_X12_number : jmw yX12_number cX12_number 4 (some .int) 2 := ⟨wd1684, wd116, by decide +kernel⟩
theorem mw_X12_oilOn : jmw yX12_oilOn cX12_oilOn 3 (some .int) 1 := ⟨wd1849, wd116, by decide +kernel⟩
theorem mw_X12_operand : jmw yX12_operand cX12_operand 5 none 1 := ⟨wd1716, wd116, by decide +kernel⟩
theorem mw_X12_part : jmw yX12_part cX12_part 2 none 0 := ⟨wd1724, wd116, by decide +kernel⟩
theorem mw_X12_puts : jmw yX12_puts cX12_puts 2 none 1 := ⟨wd1728, wd116, by decide +kernel⟩
theorem mw_X12_readsQuarrel : jmw yX12_readsQuarrel cX12_readsQuarrel 2 none 0 := ⟨wd1696, wd116, by decide +kernel⟩
theorem mw_X12_readsTenant : jmw yX12_readsTenant cX12_readsTenant 3 none 0 := ⟨wd1688, wd116, by decide +kernel⟩
theorem mw_X12_reckons : jmw yX12_reckons cX12_reckons 9 (some .int) 5 := ⟨wd1787, wd116, by decide +kernel⟩
theorem mw_X12_rentOf : jmw yX12_rentOf cX12_rentOf 2 (some .int) 1 := ⟨wd1919, wd116, by decide +kernel⟩
theorem mw_X12_right : jmw yX12_right cX12_right 3 (some .boolean) 2 := ⟨wd1639, wd116, by decide +kernel⟩
theorem mw_X12_setOf : jmw yX12_setOf cX12_setOf 4 (some .int) 1 := ⟨wd1891, wd116, by decide +kernel⟩
theorem mw_X12_size : jmw yX12_size cX12_size 1 (some .int) 1 := ⟨wd1876, wd116, by decide +kernel⟩
theorem mw_X12_slowDay : jmw yX12_slowDay cX12_slowDay 2 (some .int) 1 := ⟨wd1865, wd116, by decide +kernel⟩
theorem mw_X12_slowOf : jmw yX12_slowOf cX12_slowOf 8 (some .int) 5 := ⟨wd1857, wd116, by decide +kernel⟩
theorem mw_X12_spelled : jmw yX12_spelled cX12_spelled 10 (some .long) 8 := ⟨wd1671, wd116, by decide +kernel⟩
theorem mw_X12_strength : jmw yX12_strength cX12_strength 1 (some .int) 1 := ⟨wd1738, wd116, by decide +kernel⟩
theorem mw_X12_swingBy : jmw yX12_swingBy cX12_swingBy 6 (some .int) 2 := ⟨wd1845, wd116, by decide +kernel⟩
theorem mw_X12_swingOf : jmw yX12_swingOf cX12_swingOf 5 (some .int) 4 := ⟨wd1841, wd116, by decide +kernel⟩
theorem mw_X12_trouble : jmw yX12_trouble cX12_trouble 9 (some .int) 4 := ⟨wd1769, wd116, by decide +kernel⟩
theorem mw_X12_valueOf : jmw yX12_valueOf cX12_valueOf 7 (some .int) 5 := ⟨wd1791, wd116, by decide +kernel⟩
theorem mw_X12_visitOf : jmw yX12_visitOf cX12_visitOf 5 (some .int) 3 := ⟨wd1903, wd116, by decide +kernel⟩
theorem mw_X12_visitsBy : jmw yX12_visitsBy cX12_visitsBy 7 (some .boolean) 3 := ⟨wd1899, wd116, by decide +kernel⟩
theorem mw_X12_waitsFor : jmw yX12_waitsFor cX12_waitsFor 2 none 1 := ⟨wd1720, wd116, by decide +kernel⟩
theorem mw_X12_weightOf : jmw yX12_weightOf cX12_weightOf 2 (some .int) 1 := ⟨wd1795, wd116, by decide +kernel⟩
theorem mw_X12_within : jmw yX12_within cX12_within 3 (some .boolean) 3 := ⟨wd1761, wd116, by decide +kernel⟩
theorem mw_X12_works : jmw yX12_works cX12_works 3 (some .int) 3 := ⟨wd1801, wd116, by decide +kernel⟩
theorem mw_X12_wrong : jmw yX12_wrong cX12_wrong 2 none 1 := ⟨wd1680, wd116, by decide +kernel⟩
theorem mw_X1_bitOf : jmw yX1_bitOf cX1_bitOf 1 (some .int) 1 := ⟨wd1279, wd114, by decide +kernel⟩
theorem mw_X1_gatherWithHalves : jmw yX1_gatherWithHalves cX1_gatherWithHalves 4 none 2 := ⟨wd1270, wd114, by decide +kernel⟩
theorem mw_X1_gatherWithLeft : jmw yX1_gatherWithLeft cX1_gatherWithLeft 3 none 1 := ⟨wd1266, wd114, by decide +kernel⟩
theorem mw_X1_lookAt : jmw yX1_lookAt cX1_lookAt 5 none 3 := ⟨wd1274, wd114, by decide +kernel⟩
theorem mw_X2_addCode : jmw yX2_addCode cX2_addCode 2 none 1 := ⟨wd985, wd104, by decide +kernel⟩
theorem mw_X2_breathLets : jmw yX2_breathLets cX2_breathLets 3 (some .boolean) 2 := ⟨wd583, wd104, by decide +kernel⟩
theorem mw_X2_clear : jmw yX2_clear cX2_clear 1 none 0 := ⟨wd909, wd104, by decide +kernel⟩
theorem mw_X2_dayOfLessOil : jmw yX2_dayOfLessOil cX2_dayOfLessOil 2 (some .int) 1 := ⟨wd1395, wd104, by decide +kernel⟩
theorem mw_X2_hasTenant : jmw yX2_hasTenant cX2_hasTenant 2 (some .boolean) 1 := ⟨wd579, wd104, by decide +kernel⟩
theorem mw_X2_oilLeft : jmw yX2_oilLeft cX2_oilLeft 3 (some .int) 1 := ⟨wd1130, wd104, by decide +kernel⟩
theorem mw_X2_quarrelsOf : jmw yX2_quarrelsOf cX2_quarrelsOf 3 (some .int) 2 := ⟨wd622, wd104, by decide +kernel⟩
theorem mw_X2_swingOf : jmw yX2_swingOf cX2_swingOf 7 (some .int) 4 := ⟨wd1144, wd104, by decide +kernel⟩
theorem mw_X2_weightOf : jmw yX2_weightOf cX2_weightOf 2 (some .int) 1 := ⟨wd618, wd104, by decide +kernel⟩
theorem mw_X3_readBase : jmw yX3_readBase cX3_readBase 2 (some .int) 0 := ⟨wd921, wd105, by decide +kernel⟩
theorem mw_X3_readEndOfLine : jmw yX3_readEndOfLine cX3_readEndOfLine 1 (some .int) 0 := ⟨wd1020, wd105, by decide +kernel⟩
theorem mw_X3_readLine : jmw yX3_readLine cX3_readLine 1 (some .int) 0 := ⟨wd917, wd105, by decide +kernel⟩
theorem mw_X3_readNumber : jmw yX3_readNumber cX3_readNumber 3 (some .int) 2 := ⟨wd929, wd105, by decide +kernel⟩
theorem mw_X3_readOil : jmw yX3_readOil cX3_readOil 2 (some .int) 0 := ⟨wd937, wd105, by decide +kernel⟩
theorem mw_X3_readQuarrel : jmw yX3_readQuarrel cX3_readQuarrel 4 (some .int) 0 := ⟨wd949, wd105, by decide +kernel⟩
theorem mw_X3_readRule : jmw yX3_readRule cX3_readRule 2 (some .int) 0 := ⟨wd959, wd105, by decide +kernel⟩
theorem mw_X3_readStop : jmw yX3_readStop cX3_readStop 2 (some .int) 0 := ⟨wd941, wd105, by decide +kernel⟩
theorem mw_X3_readTenant : jmw yX3_readTenant cX3_readTenant 3 (some .int) 0 := ⟨wd945, wd105, by decide +kernel⟩
theorem mw_X3_tenantFault : jmw yX3_tenantFault cX3_tenantFault 1 (some .int) 0 := ⟨wd953, wd105, by decide +kernel⟩
theorem mw_X4_copyFrom : jmw yX4_copyFrom cX4_copyFrom 2 none 1 := ⟨wd671, wd109, by decide +kernel⟩
theorem mw_X4_fillCells : jmw yX4_fillCells cX4_fillCells 3 none 1 := ⟨wd606, wd109, by decide +kernel⟩
theorem mw_X4_grant : jmw yX4_grant cX4_grant 5 none 4 := ⟨wd642, wd109, by decide +kernel⟩
theorem mw_X4_hoursInHalves : jmw yX4_hoursInHalves cX4_hoursInHalves 2 (some .int) 1 := ⟨wd1090, wd109, by decide +kernel⟩
theorem mw_X4_hoursInPauses : jmw yX4_hoursInPauses cX4_hoursInPauses 4 (some .int) 1 := ⟨wd1100, wd109, by decide +kernel⟩
theorem mw_X4_hoursOf : jmw yX4_hoursOf cX4_hoursOf 4 (some .int) 1 := ⟨wd594, wd109, by decide +kernel⟩
theorem mw_X4_letHours : jmw yX4_letHours cX4_letHours 4 (some .int) 1 := ⟨wd590, wd109, by decide +kernel⟩
theorem mw_X4_moveIn : jmw yX4_moveIn cX4_moveIn 5 none 4 := ⟨wd602, wd109, by decide +kernel⟩
theorem mw_X4_moveOut : jmw yX4_moveOut cX4_moveOut 1 none 0 := ⟨wd638, wd109, by decide +kernel⟩
theorem mw_X4_rentOf : jmw yX4_rentOf cX4_rentOf 3 (some .int) 1 := ⟨wd1329, wd109, by decide +kernel⟩
theorem mw_X4_rulesHoldIn : jmw yX4_rulesHoldIn cX4_rulesHoldIn 9 (some .boolean) 2 := ⟨wd610, wd109, by decide +kernel⟩
theorem mw_X4_rulesWouldHold : jmw yX4_rulesWouldHold cX4_rulesWouldHold 7 (some .boolean) 4 := ⟨wd598, wd109, by decide +kernel⟩
theorem mw_X4_takeBack : jmw yX4_takeBack cX4_takeBack 1 (some .int) 0 := ⟨wd654, wd109, by decide +kernel⟩
theorem mw_X4_troubleOf : jmw yX4_troubleOf cX4_troubleOf 7 (some .int) 4 := ⟨wd575, wd109, by decide +kernel⟩
theorem mw_X4_who : jmw yX4_who cX4_who 4 (some .int) 2 := ⟨wd614, wd109, by decide +kernel⟩
theorem mw_X5_add : jmw yX5_add cX5_add 4 (some .int) 3 := ⟨wd662, wd111, by decide +kernel⟩
theorem mw_X5_coinsOf : jmw yX5_coinsOf cX5_coinsOf 6 (some .int) 2 := ⟨wd1363, wd111, by decide +kernel⟩
theorem mw_X5_copyFrom : jmw yX5_copyFrom cX5_copyFrom 2 none 1 := ⟨wd678, wd111, by decide +kernel⟩
theorem mw_X6_daysToADay : jmw yX6_daysToADay cX6_daysToADay 2 (some .int) 2 := ⟨wd1399, wd112, by decide +kernel⟩
theorem mw_X6_fartherOfBoth : jmw yX6_fartherOfBoth cX6_fartherOfBoth 7 (some .int) 4 := ⟨wd1416, wd112, by decide +kernel⟩
theorem mw_X6_present : jmw yX6_present cX6_present 5 (some .int) 3 := ⟨wd1139, wd112, by decide +kernel⟩
theorem mw_X6_slownessOfDay : jmw yX6_slownessOfDay cX6_slownessOfDay 2 (some .int) 1 := ⟨wd1170, wd112, by decide +kernel⟩
theorem mw_X6_slowness : jmw yX6_slowness cX6_slowness 7 (some .int) 4 := ⟨wd1158, wd112, by decide +kernel⟩
theorem mw_X6_swingIn : jmw yX6_swingIn cX6_swingIn 4 (some .int) 3 := ⟨wd1135, wd112, by decide +kernel⟩
theorem mw_X7_canVisit : jmw yX7_canVisit cX7_canVisit 4 (some .boolean) 2 := ⟨wd1300, wd115, by decide +kernel⟩
theorem mw_X7_choose : jmw yX7_choose cX7_choose 6 none 2 := ⟨wd1305, wd115, by decide +kernel⟩
theorem mw_X7_firstHour : jmw yX7_firstHour cX7_firstHour 5 (some .int) 3 := ⟨wd1309, wd115, by decide +kernel⟩
theorem mw_X7_gatherHours : jmw yX7_gatherHours cX7_gatherHours 5 none 0 := ⟨wd1294, wd115, by decide +kernel⟩
theorem mw_X8_holdOf : jmw yX8_holdOf cX8_holdOf 9 (some .boolean) 6 := ⟨wd626, wd108, by decide +kernel⟩
theorem mw_X8_joined : jmw yX8_joined cX8_joined 3 (some .int) 3 := ⟨wd634, wd108, by decide +kernel⟩
theorem mw_X8_valueOf : jmw yX8_valueOf cX8_valueOf 6 (some .int) 2 := ⟨wd631, wd108, by decide +kernel⟩
theorem mw_X9_operatorTold : jmw yX9_operatorTold cX9_operatorTold 1 (some .int) 0 := ⟨wd1016, wd107, by decide +kernel⟩
theorem mw_X9_push : jmw yX9_push cX9_push 2 none 1 := ⟨wd994, wd107, by decide +kernel⟩
theorem mw_X9_readClose : jmw yX9_readClose cX9_readClose 1 (some .int) 0 := ⟨wd1008, wd107, by decide +kernel⟩
theorem mw_X9_readConstant : jmw yX9_readConstant cX9_readConstant 1 (some .int) 0 := ⟨wd980, wd107, by decide +kernel⟩
theorem mw_X9_readNot : jmw yX9_readNot cX9_readNot 1 (some .int) 0 := ⟨wd990, wd107, by decide +kernel⟩
theorem mw_X9_readOperator : jmw yX9_readOperator cX9_readOperator 2 (some .int) 0 := ⟨wd1012, wd107, by decide +kernel⟩
theorem mw_X9_readPart : jmw yX9_readPart cX9_readPart 2 (some .int) 0 := ⟨wd971, wd107, by decide +kernel⟩
theorem mw_X9_readValue : jmw yX9_readValue cX9_readValue 1 (some .int) 0 := ⟨wd998, wd107, by decide +kernel⟩
theorem mw_X9_read : jmw yX9_read cX9_read 3 (some .int) 0 := ⟨wd963, wd107, by decide +kernel⟩
theorem mw_X9_wantPart : jmw yX9_wantPart cX9_wantPart 2 none 1 := ⟨wd967, wd107, by decide +kernel⟩
theorem mw_X9_writeBinding : jmw yX9_writeBinding cX9_writeBinding 2 none 1 := ⟨wd1002, wd107, by decide +kernel⟩
