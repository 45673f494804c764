/-! ===== words of the tables, by their places ===== -/
def bg : List Cond := lw_tbl.filter goodWord
theorem bg_in {w : Cond} (h : w ∈ lw_tbl) (g : goodWord w = true) : w ∈ bg := List.mem_filter.mpr ⟨h, g⟩
theorem bg_good : ∀ w ∈ bg, (w.onTables && w.keeps) = true ∨ ∃ ty, w = .arrayClass ty := fun w h => good_of_word (List.mem_filter.mp h).2
theorem bg_gi {x : Cond} {ws : List Cond} (h : ∀ w ∈ ws, w ∈ bg) : GoodIn (x :: bg) ws := fun w hw => ⟨List.mem_cons_of_mem _ (h w hw), bg_good w (h w hw)⟩
theorem bg_g0 {ws : List Cond} (h : ∀ w ∈ ws, w ∈ bg) : GoodIn bg ws := fun w hw => ⟨h w hw, bg_good w (h w hw)⟩
theorem wd0 : Cond.selects "ClockLodgers" (yX11_putBytes : MethodName) (yX11_putBytes : MethodName) ∈ bg := bg_in (List.mem_of_getElem? (i := 0) (by decide +kernel)) rfl
theorem wd1 : Cond.selects "ClockLodgers$Leases" (yX4_letHours : MethodName) (yX4_letHours : MethodName) ∈ bg := bg_in (List.mem_of_getElem? (i := 1) (by decide +kernel)) rfl
theorem wd2 : Cond.selects "ClockLodgers$Leases" (yX4_rulesWouldHold : MethodName) (yX4_rulesWouldHold : MethodName) ∈ bg := bg_in (List.mem_of_getElem? (i := 2) (by decide +kernel)) rfl
theorem wd3 : Cond.selects "ClockLodgers$Leases" (yX4_moveIn : MethodName) (yX4_moveIn : MethodName) ∈ bg := bg_in (List.mem_of_getElem? (i := 3) (by decide +kernel)) rfl
theorem wd4 : Cond.selects "ClockLodgers$Leases" (yX4_fillCells : MethodName) (yX4_fillCells : MethodName) ∈ bg := bg_in (List.mem_of_getElem? (i := 4) (by decide +kernel)) rfl
theorem wd5 : Cond.selects "ClockLodgers$Leases" (yX4_rulesHoldIn : MethodName) (yX4_rulesHoldIn : MethodName) ∈ bg := bg_in (List.mem_of_getElem? (i := 5) (by decide +kernel)) rfl
theorem wd6 : Cond.selects "ClockLodgers$RuleJudge" (yX8_valueOf : MethodName) (yX8_valueOf : MethodName) ∈ bg := bg_in (List.mem_of_getElem? (i := 6) (by decide +kernel)) rfl
theorem wd7 : Cond.selects "ClockLodgers$Leases" (yX4_moveOut : MethodName) (yX4_moveOut : MethodName) ∈ bg := bg_in (List.mem_of_getElem? (i := 7) (by decide +kernel)) rfl
theorem wd8 : Cond.selects "java/lang/Throwable" (⟨"java/lang/Throwable", "fillInStackTrace", "(I)Ljava/lang/Throwable;"⟩ : MethodName) (⟨"java/lang/Throwable", "fillInStackTrace", "(I)Ljava/lang/Throwable;"⟩ : MethodName) ∈ bg := bg_in (List.mem_of_getElem? (i := 8) (by decide +kernel)) rfl
theorem wd9 : Cond.selects "ClockLodgers$Tokens" (yX10_endOfToken : MethodName) (yX10_endOfToken : MethodName) ∈ bg := bg_in (List.mem_of_getElem? (i := 9) (by decide +kernel)) rfl
theorem wd10 : Cond.selects "ClockLodgers$Tokens" (yX10_isLetter : MethodName) (yX10_isLetter : MethodName) ∈ bg := bg_in (List.mem_of_getElem? (i := 10) (by decide +kernel)) rfl
theorem wd11 : Cond.selects "ClockLodgers$Tokens" (yX10_isDigit : MethodName) (yX10_isDigit : MethodName) ∈ bg := bg_in (List.mem_of_getElem? (i := 11) (by decide +kernel)) rfl
theorem wd12 : Cond.selects "ClockLodgers$Tokens" (yX10_putToken : MethodName) (yX10_putToken : MethodName) ∈ bg := bg_in (List.mem_of_getElem? (i := 12) (by decide +kernel)) rfl
theorem wd13 : Cond.selects "ClockLodgers$Tokens" (yX10_kindOfWord : MethodName) (yX10_kindOfWord : MethodName) ∈ bg := bg_in (List.mem_of_getElem? (i := 13) (by decide +kernel)) rfl
theorem wd14 : Cond.selects "ClockLodgers$Tokens" (yX10_isWordAt : MethodName) (yX10_isWordAt : MethodName) ∈ bg := bg_in (List.mem_of_getElem? (i := 14) (by decide +kernel)) rfl
theorem wd15 : Cond.selects "ClockLodgers$Tokens" (yX10_numberOf : MethodName) (yX10_numberOf : MethodName) ∈ bg := bg_in (List.mem_of_getElem? (i := 15) (by decide +kernel)) rfl
theorem wd16 : Cond.selects "ClockLodgers$HouseReader" (yX3_readLine : MethodName) (yX3_readLine : MethodName) ∈ bg := bg_in (List.mem_of_getElem? (i := 16) (by decide +kernel)) rfl
theorem wd17 : Cond.selects "ClockLodgers$HouseReader" (yX3_readBase : MethodName) (yX3_readBase : MethodName) ∈ bg := bg_in (List.mem_of_getElem? (i := 17) (by decide +kernel)) rfl
theorem wd18 : Cond.selects "ClockLodgers$HouseReader" (yX3_readNumber : MethodName) (yX3_readNumber : MethodName) ∈ bg := bg_in (List.mem_of_getElem? (i := 18) (by decide +kernel)) rfl
theorem wd19 : Cond.selects "ClockLodgers$HouseReader" (yX3_readOil : MethodName) (yX3_readOil : MethodName) ∈ bg := bg_in (List.mem_of_getElem? (i := 19) (by decide +kernel)) rfl
theorem wd20 : Cond.selects "ClockLodgers$HouseReader" (yX3_readStop : MethodName) (yX3_readStop : MethodName) ∈ bg := bg_in (List.mem_of_getElem? (i := 20) (by decide +kernel)) rfl
theorem wd21 : Cond.selects "ClockLodgers$HouseReader" (yX3_readTenant : MethodName) (yX3_readTenant : MethodName) ∈ bg := bg_in (List.mem_of_getElem? (i := 21) (by decide +kernel)) rfl
theorem wd22 : Cond.selects "ClockLodgers$HouseReader" (yX3_readQuarrel : MethodName) (yX3_readQuarrel : MethodName) ∈ bg := bg_in (List.mem_of_getElem? (i := 22) (by decide +kernel)) rfl
theorem wd23 : Cond.selects "ClockLodgers$HouseReader" (yX3_tenantFault : MethodName) (yX3_tenantFault : MethodName) ∈ bg := bg_in (List.mem_of_getElem? (i := 23) (by decide +kernel)) rfl
theorem wd24 : Cond.selects "ClockLodgers$HouseReader" (yX3_readRule : MethodName) (yX3_readRule : MethodName) ∈ bg := bg_in (List.mem_of_getElem? (i := 24) (by decide +kernel)) rfl
theorem wd25 : Cond.selects "ClockLodgers$RuleReader" (yX9_wantPart : MethodName) (yX9_wantPart : MethodName) ∈ bg := bg_in (List.mem_of_getElem? (i := 25) (by decide +kernel)) rfl
theorem wd26 : Cond.selects "ClockLodgers$RuleReader" (yX9_readPart : MethodName) (yX9_readPart : MethodName) ∈ bg := bg_in (List.mem_of_getElem? (i := 26) (by decide +kernel)) rfl
theorem wd27 : Cond.selects "ClockLodgers$RuleReader" (yX9_readConstant : MethodName) (yX9_readConstant : MethodName) ∈ bg := bg_in (List.mem_of_getElem? (i := 27) (by decide +kernel)) rfl
theorem wd28 : Cond.selects "ClockLodgers$RuleReader" (yX9_readNot : MethodName) (yX9_readNot : MethodName) ∈ bg := bg_in (List.mem_of_getElem? (i := 28) (by decide +kernel)) rfl
theorem wd29 : Cond.selects "ClockLodgers$RuleReader" (yX9_push : MethodName) (yX9_push : MethodName) ∈ bg := bg_in (List.mem_of_getElem? (i := 29) (by decide +kernel)) rfl
theorem wd30 : Cond.selects "ClockLodgers$RuleReader" (yX9_readValue : MethodName) (yX9_readValue : MethodName) ∈ bg := bg_in (List.mem_of_getElem? (i := 30) (by decide +kernel)) rfl
theorem wd31 : Cond.selects "ClockLodgers$RuleReader" (yX9_writeBinding : MethodName) (yX9_writeBinding : MethodName) ∈ bg := bg_in (List.mem_of_getElem? (i := 31) (by decide +kernel)) rfl
theorem wd32 : Cond.selects "ClockLodgers$RuleReader" (yX9_readClose : MethodName) (yX9_readClose : MethodName) ∈ bg := bg_in (List.mem_of_getElem? (i := 32) (by decide +kernel)) rfl
theorem wd33 : Cond.selects "ClockLodgers$RuleReader" (yX9_readOperator : MethodName) (yX9_readOperator : MethodName) ∈ bg := bg_in (List.mem_of_getElem? (i := 33) (by decide +kernel)) rfl
theorem wd34 : Cond.selects "ClockLodgers$RuleReader" (yX9_operatorTold : MethodName) (yX9_operatorTold : MethodName) ∈ bg := bg_in (List.mem_of_getElem? (i := 34) (by decide +kernel)) rfl
theorem wd35 : Cond.selects "ClockLodgers$HouseReader" (yX3_readEndOfLine : MethodName) (yX3_readEndOfLine : MethodName) ∈ bg := bg_in (List.mem_of_getElem? (i := 35) (by decide +kernel)) rfl
theorem wd36 : Cond.selects "ClockLodgers" (yX11_needTenant : MethodName) (yX11_needTenant : MethodName) ∈ bg := bg_in (List.mem_of_getElem? (i := 36) (by decide +kernel)) rfl
theorem wd37 : Cond.selects "ClockLodgers$Pendulum" (yX6_present : MethodName) (yX6_present : MethodName) ∈ bg := bg_in (List.mem_of_getElem? (i := 37) (by decide +kernel)) rfl
theorem wd38 : Cond.selects "ClockLodgers" (yX11_needTenantBits : MethodName) (yX11_needTenantBits : MethodName) ∈ bg := bg_in (List.mem_of_getElem? (i := 38) (by decide +kernel)) rfl
theorem wd39 : Cond.selects "ClockLodgers$Anew" (yX0_gather : MethodName) (yX0_gather : MethodName) ∈ bg := bg_in (List.mem_of_getElem? (i := 39) (by decide +kernel)) rfl
theorem wd40 : Cond.selects "ClockLodgers$Anew" (yX0_measure : MethodName) (yX0_measure : MethodName) ∈ bg := bg_in (List.mem_of_getElem? (i := 40) (by decide +kernel)) rfl
theorem wd41 : Cond.selects "ClockLodgers$Anew" (yX0_goodHours : MethodName) (yX0_goodHours : MethodName) ∈ bg := bg_in (List.mem_of_getElem? (i := 41) (by decide +kernel)) rfl
theorem wd42 : Cond.selects "ClockLodgers$Anew" (yX0_placeFrom : MethodName) (yX0_placeFrom : MethodName) ∈ bg := bg_in (List.mem_of_getElem? (i := 42) (by decide +kernel)) rfl
theorem wd43 : Cond.selects "ClockLodgers$Anew" (yX0_keepIfRulesHold : MethodName) (yX0_keepIfRulesHold : MethodName) ∈ bg := bg_in (List.mem_of_getElem? (i := 43) (by decide +kernel)) rfl
theorem wd44 : Cond.selects "ClockLodgers$Anew" (yX0_fits : MethodName) (yX0_fits : MethodName) ∈ bg := bg_in (List.mem_of_getElem? (i := 44) (by decide +kernel)) rfl
theorem wd45 : Cond.selects "ClockLodgers$Anew" (yX0_adds : MethodName) (yX0_adds : MethodName) ∈ bg := bg_in (List.mem_of_getElem? (i := 45) (by decide +kernel)) rfl
theorem wd46 : Cond.selects "ClockLodgers$Anew" (yX0_keep : MethodName) (yX0_keep : MethodName) ∈ bg := bg_in (List.mem_of_getElem? (i := 46) (by decide +kernel)) rfl
theorem wd47 : Cond.selects "ClockLodgers$CuckooCases" (yX1_gatherWithLeft : MethodName) (yX1_gatherWithLeft : MethodName) ∈ bg := bg_in (List.mem_of_getElem? (i := 47) (by decide +kernel)) rfl
theorem wd48 : Cond.selects "ClockLodgers$CuckooCases" (yX1_gatherWithHalves : MethodName) (yX1_gatherWithHalves : MethodName) ∈ bg := bg_in (List.mem_of_getElem? (i := 48) (by decide +kernel)) rfl
theorem wd49 : Cond.selects "ClockLodgers$CuckooCases" (yX1_lookAt : MethodName) (yX1_lookAt : MethodName) ∈ bg := bg_in (List.mem_of_getElem? (i := 49) (by decide +kernel)) rfl
theorem wd50 : Cond.selects "ClockLodgers$Rounds" (yX7_gatherHours : MethodName) (yX7_gatherHours : MethodName) ∈ bg := bg_in (List.mem_of_getElem? (i := 50) (by decide +kernel)) rfl
theorem wd51 : Cond.selects "ClockLodgers$Rounds" (yX7_canVisit : MethodName) (yX7_canVisit : MethodName) ∈ bg := bg_in (List.mem_of_getElem? (i := 51) (by decide +kernel)) rfl
theorem wd52 : Cond.selects "ClockLodgers$Rounds" (yX7_choose : MethodName) (yX7_choose : MethodName) ∈ bg := bg_in (List.mem_of_getElem? (i := 52) (by decide +kernel)) rfl
theorem wd53 : Cond.selects "ClockLodgers$Rounds" (yX7_firstHour : MethodName) (yX7_firstHour : MethodName) ∈ bg := bg_in (List.mem_of_getElem? (i := 53) (by decide +kernel)) rfl
theorem wd54 : Cond.selects "ClockLodgers$Offers" (yX5_coinsOf : MethodName) (yX5_coinsOf : MethodName) ∈ bg := bg_in (List.mem_of_getElem? (i := 54) (by decide +kernel)) rfl
theorem wd55 : Cond.selects "ClockLodgersModel" (yX12_lays : MethodName) (yX12_lays : MethodName) ∈ bg := bg_in (List.mem_of_getElem? (i := 55) (by decide +kernel)) rfl
theorem wd56 : Cond.selects "ClockLodgersModel" (yX12_right : MethodName) (yX12_right : MethodName) ∈ bg := bg_in (List.mem_of_getElem? (i := 56) (by decide +kernel)) rfl
theorem wd57 : Cond.selects "ClockLodgersModel" (yX12_goes : MethodName) (yX12_goes : MethodName) ∈ bg := bg_in (List.mem_of_getElem? (i := 57) (by decide +kernel)) rfl
theorem wd58 : Cond.selects "ClockLodgersModel" (yX12_byteAt : MethodName) (yX12_byteAt : MethodName) ∈ bg := bg_in (List.mem_of_getElem? (i := 58) (by decide +kernel)) rfl
theorem wd59 : Cond.selects "ClockLodgersModel" (yX12_isGood : MethodName) (yX12_isGood : MethodName) ∈ bg := bg_in (List.mem_of_getElem? (i := 59) (by decide +kernel)) rfl
theorem wd60 : Cond.selects "ClockLodgersModel" (yX12_line : MethodName) (yX12_line : MethodName) ∈ bg := bg_in (List.mem_of_getElem? (i := 60) (by decide +kernel)) rfl
theorem wd61 : Cond.selects "ClockLodgersModel" (yX12_knownWord : MethodName) (yX12_knownWord : MethodName) ∈ bg := bg_in (List.mem_of_getElem? (i := 61) (by decide +kernel)) rfl
theorem wd62 : Cond.selects "ClockLodgersModel" (yX12_begins : MethodName) (yX12_begins : MethodName) ∈ bg := bg_in (List.mem_of_getElem? (i := 62) (by decide +kernel)) rfl
theorem wd63 : Cond.selects "ClockLodgersModel" (yX12_wrong : MethodName) (yX12_wrong : MethodName) ∈ bg := bg_in (List.mem_of_getElem? (i := 63) (by decide +kernel)) rfl
theorem wd64 : Cond.selects "ClockLodgersModel" (yX12_number : MethodName) (yX12_number : MethodName) ∈ bg := bg_in (List.mem_of_getElem? (i := 64) (by decide +kernel)) rfl
theorem wd65 : Cond.selects "ClockLodgersModel" (yX12_readsTenant : MethodName) (yX12_readsTenant : MethodName) ∈ bg := bg_in (List.mem_of_getElem? (i := 65) (by decide +kernel)) rfl
theorem wd66 : Cond.selects "ClockLodgersModel" (yX12_need : MethodName) (yX12_need : MethodName) ∈ bg := bg_in (List.mem_of_getElem? (i := 66) (by decide +kernel)) rfl
theorem wd67 : Cond.selects "ClockLodgersModel" (yX12_readsQuarrel : MethodName) (yX12_readsQuarrel : MethodName) ∈ bg := bg_in (List.mem_of_getElem? (i := 67) (by decide +kernel)) rfl
theorem wd68 : Cond.selects "ClockLodgersModel" (yX12_amongHere : MethodName) (yX12_amongHere : MethodName) ∈ bg := bg_in (List.mem_of_getElem? (i := 68) (by decide +kernel)) rfl
theorem wd69 : Cond.selects "ClockLodgersModel" (yX12_expression : MethodName) (yX12_expression : MethodName) ∈ bg := bg_in (List.mem_of_getElem? (i := 69) (by decide +kernel)) rfl
theorem wd70 : Cond.selects "ClockLodgersModel" (yX12_deeper : MethodName) (yX12_deeper : MethodName) ∈ bg := bg_in (List.mem_of_getElem? (i := 70) (by decide +kernel)) rfl
theorem wd71 : Cond.selects "ClockLodgersModel" (yX12_isSign : MethodName) (yX12_isSign : MethodName) ∈ bg := bg_in (List.mem_of_getElem? (i := 71) (by decide +kernel)) rfl
theorem wd72 : Cond.selects "ClockLodgersModel" (yX12_operand : MethodName) (yX12_operand : MethodName) ∈ bg := bg_in (List.mem_of_getElem? (i := 72) (by decide +kernel)) rfl
theorem wd73 : Cond.selects "ClockLodgersModel" (yX12_waitsFor : MethodName) (yX12_waitsFor : MethodName) ∈ bg := bg_in (List.mem_of_getElem? (i := 73) (by decide +kernel)) rfl
theorem wd74 : Cond.selects "ClockLodgersModel" (yX12_part : MethodName) (yX12_part : MethodName) ∈ bg := bg_in (List.mem_of_getElem? (i := 74) (by decide +kernel)) rfl
theorem wd75 : Cond.selects "ClockLodgersModel" (yX12_puts : MethodName) (yX12_puts : MethodName) ∈ bg := bg_in (List.mem_of_getElem? (i := 75) (by decide +kernel)) rfl
theorem wd76 : Cond.selects "ClockLodgersModel" (yX12_drops : MethodName) (yX12_drops : MethodName) ∈ bg := bg_in (List.mem_of_getElem? (i := 76) (by decide +kernel)) rfl
theorem wd77 : Cond.selects "ClockLodgersModel" (yX12_isOpened : MethodName) (yX12_isOpened : MethodName) ∈ bg := bg_in (List.mem_of_getElem? (i := 77) (by decide +kernel)) rfl
theorem wd78 : Cond.selects "ClockLodgersModel" (yX12_closes : MethodName) (yX12_closes : MethodName) ∈ bg := bg_in (List.mem_of_getElem? (i := 78) (by decide +kernel)) rfl
theorem wd79 : Cond.selects "ClockLodgersModel" (yX12_copies : MethodName) (yX12_copies : MethodName) ∈ bg := bg_in (List.mem_of_getElem? (i := 79) (by decide +kernel)) rfl
theorem wd80 : Cond.selects "ClockLodgersModel" (yX12_trouble : MethodName) (yX12_trouble : MethodName) ∈ bg := bg_in (List.mem_of_getElem? (i := 80) (by decide +kernel)) rfl
theorem wd81 : Cond.selects "ClockLodgersModel" (yX12_lets : MethodName) (yX12_lets : MethodName) ∈ bg := bg_in (List.mem_of_getElem? (i := 81) (by decide +kernel)) rfl
theorem wd82 : Cond.selects "ClockLodgersModel" (yX12_holds : MethodName) (yX12_holds : MethodName) ∈ bg := bg_in (List.mem_of_getElem? (i := 82) (by decide +kernel)) rfl
theorem wd83 : Cond.selects "ClockLodgersModel" (yX12_reckons : MethodName) (yX12_reckons : MethodName) ∈ bg := bg_in (List.mem_of_getElem? (i := 83) (by decide +kernel)) rfl
theorem wd84 : Cond.selects "ClockLodgersModel" (yX12_valueOf : MethodName) (yX12_valueOf : MethodName) ∈ bg := bg_in (List.mem_of_getElem? (i := 84) (by decide +kernel)) rfl
theorem wd85 : Cond.selects "ClockLodgersModel" (yX12_weightOf : MethodName) (yX12_weightOf : MethodName) ∈ bg := bg_in (List.mem_of_getElem? (i := 85) (by decide +kernel)) rfl
theorem wd86 : Cond.selects "ClockLodgersModel" (yX12_isTenant : MethodName) (yX12_isTenant : MethodName) ∈ bg := bg_in (List.mem_of_getElem? (i := 86) (by decide +kernel)) rfl
theorem wd87 : Cond.selects "ClockLodgersModel" (yX12_hoursOf : MethodName) (yX12_hoursOf : MethodName) ∈ bg := bg_in (List.mem_of_getElem? (i := 87) (by decide +kernel)) rfl
theorem wd88 : Cond.selects "ClockLodgersModel" (yX12_isHour : MethodName) (yX12_isHour : MethodName) ∈ bg := bg_in (List.mem_of_getElem? (i := 88) (by decide +kernel)) rfl
theorem wd89 : Cond.selects "ClockLodgersModel" (yX12_isDay : MethodName) (yX12_isDay : MethodName) ∈ bg := bg_in (List.mem_of_getElem? (i := 89) (by decide +kernel)) rfl
theorem wd90 : Cond.selects "ClockLodgersModel" (yX12_swingOf : MethodName) (yX12_swingOf : MethodName) ∈ bg := bg_in (List.mem_of_getElem? (i := 90) (by decide +kernel)) rfl
theorem wd91 : Cond.selects "ClockLodgersModel" (yX12_swingBy : MethodName) (yX12_swingBy : MethodName) ∈ bg := bg_in (List.mem_of_getElem? (i := 91) (by decide +kernel)) rfl
theorem wd92 : Cond.selects "ClockLodgersModel" (yX12_oilOn : MethodName) (yX12_oilOn : MethodName) ∈ bg := bg_in (List.mem_of_getElem? (i := 92) (by decide +kernel)) rfl
theorem wd93 : Cond.selects "ClockLodgersModel" (yX12_slowOf : MethodName) (yX12_slowOf : MethodName) ∈ bg := bg_in (List.mem_of_getElem? (i := 93) (by decide +kernel)) rfl
theorem wd94 : Cond.selects "ClockLodgersModel" (yX12_slowDay : MethodName) (yX12_slowDay : MethodName) ∈ bg := bg_in (List.mem_of_getElem? (i := 94) (by decide +kernel)) rfl
theorem wd95 : Cond.selects "ClockLodgersModel" (yX12_isLaid : MethodName) (yX12_isLaid : MethodName) ∈ bg := bg_in (List.mem_of_getElem? (i := 95) (by decide +kernel)) rfl
theorem wd96 : Cond.selects "ClockLodgersModel" (yX12_isCase : MethodName) (yX12_isCase : MethodName) ∈ bg := bg_in (List.mem_of_getElem? (i := 96) (by decide +kernel)) rfl
theorem wd97 : Cond.selects "ClockLodgersModel" (yX12_visitsBy : MethodName) (yX12_visitsBy : MethodName) ∈ bg := bg_in (List.mem_of_getElem? (i := 97) (by decide +kernel)) rfl
theorem wd98 : Cond.selects "ClockLodgersModel" (yX12_visitOf : MethodName) (yX12_visitOf : MethodName) ∈ bg := bg_in (List.mem_of_getElem? (i := 98) (by decide +kernel)) rfl
theorem wd99 : Cond.selects "ClockLodgersModel" (yX12_isTaken : MethodName) (yX12_isTaken : MethodName) ∈ bg := bg_in (List.mem_of_getElem? (i := 99) (by decide +kernel)) rfl
theorem wd100 : Cond.selects "ClockLodgersModel" (yX12_rentOf : MethodName) (yX12_rentOf : MethodName) ∈ bg := bg_in (List.mem_of_getElem? (i := 100) (by decide +kernel)) rfl
theorem wd101 : Cond.selects "ClockLodgersModel" (yX12_hoursOfOffer : MethodName) (yX12_hoursOfOffer : MethodName) ∈ bg := bg_in (List.mem_of_getElem? (i := 101) (by decide +kernel)) rfl
theorem wd102 : Cond.initialized "ClockLodgersLaw" ∈ bg := bg_in (List.mem_of_getElem? (i := 102) (by decide +kernel)) rfl
theorem wd103 : Cond.initialized "ClockLodgers" ∈ bg := bg_in (List.mem_of_getElem? (i := 103) (by decide +kernel)) rfl
theorem wd104 : Cond.initialized "ClockLodgers$House" ∈ bg := bg_in (List.mem_of_getElem? (i := 104) (by decide +kernel)) rfl
theorem wd105 : Cond.initialized "ClockLodgers$HouseReader" ∈ bg := bg_in (List.mem_of_getElem? (i := 105) (by decide +kernel)) rfl
theorem wd106 : Cond.initialized "ClockLodgers$Tokens" ∈ bg := bg_in (List.mem_of_getElem? (i := 106) (by decide +kernel)) rfl
theorem wd107 : Cond.initialized "ClockLodgers$RuleReader" ∈ bg := bg_in (List.mem_of_getElem? (i := 107) (by decide +kernel)) rfl
theorem wd108 : Cond.initialized "ClockLodgers$RuleJudge" ∈ bg := bg_in (List.mem_of_getElem? (i := 108) (by decide +kernel)) rfl
theorem wd109 : Cond.initialized "ClockLodgers$Leases" ∈ bg := bg_in (List.mem_of_getElem? (i := 109) (by decide +kernel)) rfl
theorem wd110 : Cond.initialized "java/util/Arrays" ∈ bg := bg_in (List.mem_of_getElem? (i := 110) (by decide +kernel)) rfl
theorem wd111 : Cond.initialized "ClockLodgers$Offers" ∈ bg := bg_in (List.mem_of_getElem? (i := 111) (by decide +kernel)) rfl
theorem wd112 : Cond.initialized "ClockLodgers$Pendulum" ∈ bg := bg_in (List.mem_of_getElem? (i := 112) (by decide +kernel)) rfl
theorem wd113 : Cond.initialized "ClockLodgers$Anew" ∈ bg := bg_in (List.mem_of_getElem? (i := 113) (by decide +kernel)) rfl
theorem wd114 : Cond.initialized "ClockLodgers$CuckooCases" ∈ bg := bg_in (List.mem_of_getElem? (i := 114) (by decide +kernel)) rfl
theorem wd115 : Cond.initialized "ClockLodgers$Rounds" ∈ bg := bg_in (List.mem_of_getElem? (i := 115) (by decide +kernel)) rfl
theorem wd116 : Cond.initialized "ClockLodgersModel" ∈ bg := bg_in (List.mem_of_getElem? (i := 116) (by decide +kernel)) rfl
theorem wd117 : Cond.initialized "java/lang/Throwable" ∈ bg := bg_in (List.mem_of_getElem? (i := 117) (by decide +kernel)) rfl
theorem wd118 : Cond.initialized "java/lang/Exception" ∈ bg := bg_in (List.mem_of_getElem? (i := 118) (by decide +kernel)) rfl
theorem wd119 : Cond.initialized "java/lang/RuntimeException" ∈ bg := bg_in (List.mem_of_getElem? (i := 119) (by decide +kernel)) rfl
theorem wd120 : Cond.initialized "java/lang/IllegalArgumentException" ∈ bg := bg_in (List.mem_of_getElem? (i := 120) (by decide +kernel)) rfl
theorem wd121 : Cond.initialized "java/lang/Math" ∈ bg := bg_in (List.mem_of_getElem? (i := 121) (by decide +kernel)) rfl
theorem wd122 : Cond.initialized "java/lang/System" ∈ bg := bg_in (List.mem_of_getElem? (i := 122) (by decide +kernel)) rfl
theorem wd123 : Cond.initialized "java/lang/String" ∈ bg := bg_in (List.mem_of_getElem? (i := 123) (by decide +kernel)) rfl
theorem wd124 : Cond.initialized "java/lang/StringLatin1" ∈ bg := bg_in (List.mem_of_getElem? (i := 124) (by decide +kernel)) rfl
theorem wd125 : Cond.initialized "jdk/internal/util/Preconditions" ∈ bg := bg_in (List.mem_of_getElem? (i := 125) (by decide +kernel)) rfl
theorem wd126 : Cond.initialized "java/lang/StringUTF16" ∈ bg := bg_in (List.mem_of_getElem? (i := 126) (by decide +kernel)) rfl
theorem wd127 : Cond.initialized "java/lang/Character" ∈ bg := bg_in (List.mem_of_getElem? (i := 127) (by decide +kernel)) rfl
theorem wd128 : Cond.initialized "java/util/NoSuchElementException" ∈ bg := bg_in (List.mem_of_getElem? (i := 128) (by decide +kernel)) rfl
theorem wd129 : Cond.initialized "java/lang/Integer" ∈ bg := bg_in (List.mem_of_getElem? (i := 129) (by decide +kernel)) rfl
theorem wd132 : Cond.methodLink "ClockLodgersLaw" 74 (yX11_init : MethodName) ∈ bg := bg_in (List.mem_of_getElem? (i := 132) (by decide +kernel)) rfl
theorem wd133 : Cond.instanceMethod (yX11_init : MethodName) ∈ bg := bg_in (List.mem_of_getElem? (i := 133) (by decide +kernel)) rfl
set_option maxRecDepth 1000000 in
theorem wd134 : Cond.code (yX11_init : MethodName) cX11_init 1 none ∈ bg := bg_in (List.mem_of_getElem? (i := 134) rfl) rfl
theorem wd135 : Cond.methodLink "ClockLodgers" 1 (⟨"java/lang/Object", "<init>", "()V"⟩ : MethodName) ∈ bg := bg_in (List.mem_of_getElem? (i := 135) (by decide +kernel)) rfl
theorem wd136 : Cond.instanceMethod (⟨"java/lang/Object", "<init>", "()V"⟩ : MethodName) ∈ bg := bg_in (List.mem_of_getElem? (i := 136) (by decide +kernel)) rfl
set_option maxRecDepth 1000000 in
theorem wd137 : Cond.code (⟨"java/lang/Object", "<init>", "()V"⟩ : MethodName) object_method_1_code 1 none ∈ bg := bg_in (List.mem_of_getElem? (i := 137) rfl) rfl
theorem wd140 : Cond.methodLink "ClockLodgers" 23 (yX2_init : MethodName) ∈ bg := bg_in (List.mem_of_getElem? (i := 140) (by decide +kernel)) rfl
theorem wd141 : Cond.instanceMethod (yX2_init : MethodName) ∈ bg := bg_in (List.mem_of_getElem? (i := 141) (by decide +kernel)) rfl
set_option maxRecDepth 1000000 in
theorem wd142 : Cond.code (yX2_init : MethodName) cX2_init 1 none ∈ bg := bg_in (List.mem_of_getElem? (i := 142) rfl) rfl
theorem wd143 : Cond.methodLink "ClockLodgers$House" 3 (⟨"java/lang/Object", "<init>", "()V"⟩ : MethodName) ∈ bg := bg_in (List.mem_of_getElem? (i := 143) (by decide +kernel)) rfl
theorem wd144 : Cond.fieldLink "ClockLodgers$House" 33 "ClockLodgers$House" "base" "I" ∈ bg := bg_in (List.mem_of_getElem? (i := 144) (by decide +kernel)) rfl
theorem wd145 : Cond.fieldLink "ClockLodgers$HouseReader" 93 "ClockLodgers$House" "base" "I" ∈ bg := bg_in (List.mem_of_getElem? (i := 145) (by decide +kernel)) rfl
theorem wd146 : Cond.fieldLink "ClockLodgers" 138 "ClockLodgers$House" "base" "I" ∈ bg := bg_in (List.mem_of_getElem? (i := 146) (by decide +kernel)) rfl
theorem wd147 : Cond.fieldLink "ClockLodgers$House" 43 "ClockLodgers$House" "oil" "I" ∈ bg := bg_in (List.mem_of_getElem? (i := 147) (by decide +kernel)) rfl
theorem wd148 : Cond.fieldLink "ClockLodgers" 141 "ClockLodgers$House" "oil" "I" ∈ bg := bg_in (List.mem_of_getElem? (i := 148) (by decide +kernel)) rfl
theorem wd149 : Cond.fieldLink "ClockLodgers$HouseReader" 96 "ClockLodgers$House" "oil" "I" ∈ bg := bg_in (List.mem_of_getElem? (i := 149) (by decide +kernel)) rfl
theorem wd150 : Cond.fieldLink "ClockLodgers$House" 37 "ClockLodgers$House" "oilDays" "I" ∈ bg := bg_in (List.mem_of_getElem? (i := 150) (by decide +kernel)) rfl
theorem wd151 : Cond.fieldLink "ClockLodgers" 144 "ClockLodgers$House" "oilDays" "I" ∈ bg := bg_in (List.mem_of_getElem? (i := 151) (by decide +kernel)) rfl
theorem wd152 : Cond.fieldLink "ClockLodgers$HouseReader" 99 "ClockLodgers$House" "oilDays" "I" ∈ bg := bg_in (List.mem_of_getElem? (i := 152) (by decide +kernel)) rfl
theorem wd153 : Cond.fieldLink "ClockLodgers$House" 40 "ClockLodgers$House" "stop" "I" ∈ bg := bg_in (List.mem_of_getElem? (i := 153) (by decide +kernel)) rfl
theorem wd154 : Cond.fieldLink "ClockLodgers$Pendulum" 53 "ClockLodgers$House" "stop" "I" ∈ bg := bg_in (List.mem_of_getElem? (i := 154) (by decide +kernel)) rfl
theorem wd155 : Cond.fieldLink "ClockLodgers" 147 "ClockLodgers$House" "stop" "I" ∈ bg := bg_in (List.mem_of_getElem? (i := 155) (by decide +kernel)) rfl
theorem wd156 : Cond.fieldLink "ClockLodgers$HouseReader" 102 "ClockLodgers$House" "stop" "I" ∈ bg := bg_in (List.mem_of_getElem? (i := 156) (by decide +kernel)) rfl
theorem wd157 : Cond.fieldLink "ClockLodgers$House" 46 "ClockLodgers$House" "tenants" "I" ∈ bg := bg_in (List.mem_of_getElem? (i := 157) (by decide +kernel)) rfl
theorem wd158 : Cond.fieldLink "ClockLodgers$CuckooCases" 31 "ClockLodgers$House" "tenants" "I" ∈ bg := bg_in (List.mem_of_getElem? (i := 158) (by decide +kernel)) rfl
theorem wd159 : Cond.fieldLink "ClockLodgers" 150 "ClockLodgers$House" "tenants" "I" ∈ bg := bg_in (List.mem_of_getElem? (i := 159) (by decide +kernel)) rfl
theorem wd160 : Cond.fieldLink "ClockLodgers$HouseReader" 105 "ClockLodgers$House" "tenants" "I" ∈ bg := bg_in (List.mem_of_getElem? (i := 160) (by decide +kernel)) rfl
theorem wd161 : Cond.fieldLink "ClockLodgers$Leases" 122 "ClockLodgers$House" "tenants" "I" ∈ bg := bg_in (List.mem_of_getElem? (i := 161) (by decide +kernel)) rfl
theorem wd162 : Cond.fieldLink "ClockLodgers$House" 49 "ClockLodgers$House" "quarrels" "I" ∈ bg := bg_in (List.mem_of_getElem? (i := 162) (by decide +kernel)) rfl
theorem wd163 : Cond.fieldLink "ClockLodgers" 153 "ClockLodgers$House" "quarrels" "I" ∈ bg := bg_in (List.mem_of_getElem? (i := 163) (by decide +kernel)) rfl
theorem wd164 : Cond.fieldLink "ClockLodgers$HouseReader" 124 "ClockLodgers$House" "quarrels" "I" ∈ bg := bg_in (List.mem_of_getElem? (i := 164) (by decide +kernel)) rfl
theorem wd165 : Cond.fieldLink "ClockLodgers$House" 52 "ClockLodgers$House" "rules" "I" ∈ bg := bg_in (List.mem_of_getElem? (i := 165) (by decide +kernel)) rfl
theorem wd166 : Cond.fieldLink "ClockLodgers$RuleJudge" 26 "ClockLodgers$House" "rules" "I" ∈ bg := bg_in (List.mem_of_getElem? (i := 166) (by decide +kernel)) rfl
theorem wd167 : Cond.fieldLink "ClockLodgers" 156 "ClockLodgers$House" "rules" "I" ∈ bg := bg_in (List.mem_of_getElem? (i := 167) (by decide +kernel)) rfl
theorem wd168 : Cond.fieldLink "ClockLodgers$HouseReader" 135 "ClockLodgers$House" "rules" "I" ∈ bg := bg_in (List.mem_of_getElem? (i := 168) (by decide +kernel)) rfl
theorem wd169 : Cond.fieldLink "ClockLodgers$Leases" 87 "ClockLodgers$House" "rules" "I" ∈ bg := bg_in (List.mem_of_getElem? (i := 169) (by decide +kernel)) rfl
theorem wd170 : Cond.fieldLink "ClockLodgers$House" 9 "ClockLodgers$House" "weight" "[I" ∈ bg := bg_in (List.mem_of_getElem? (i := 170) (by decide +kernel)) rfl
theorem wd171 : Cond.fieldLink "ClockLodgers$Anew" 76 "ClockLodgers$House" "weight" "[I" ∈ bg := bg_in (List.mem_of_getElem? (i := 171) (by decide +kernel)) rfl
theorem wd172 : Cond.fieldLink "ClockLodgers" 171 "ClockLodgers$House" "weight" "[I" ∈ bg := bg_in (List.mem_of_getElem? (i := 172) (by decide +kernel)) rfl
theorem wd173 : Cond.fieldLink "ClockLodgers$HouseReader" 108 "ClockLodgers$House" "weight" "[I" ∈ bg := bg_in (List.mem_of_getElem? (i := 173) (by decide +kernel)) rfl
theorem wd174 : Cond.fieldLink "ClockLodgers$Pendulum" 73 "ClockLodgers$House" "weight" "[I" ∈ bg := bg_in (List.mem_of_getElem? (i := 174) (by decide +kernel)) rfl
theorem wd175 : Cond.fieldLink "ClockLodgers$House" 15 "ClockLodgers$House" "breath" "[I" ∈ bg := bg_in (List.mem_of_getElem? (i := 175) (by decide +kernel)) rfl
theorem wd176 : Cond.fieldLink "ClockLodgers" 174 "ClockLodgers$House" "breath" "[I" ∈ bg := bg_in (List.mem_of_getElem? (i := 176) (by decide +kernel)) rfl
theorem wd177 : Cond.fieldLink "ClockLodgers$HouseReader" 112 "ClockLodgers$House" "breath" "[I" ∈ bg := bg_in (List.mem_of_getElem? (i := 177) (by decide +kernel)) rfl
theorem wd178 : Cond.fieldLink "ClockLodgers$House" 18 "ClockLodgers$House" "stay" "[I" ∈ bg := bg_in (List.mem_of_getElem? (i := 178) (by decide +kernel)) rfl
theorem wd179 : Cond.fieldLink "ClockLodgers$Anew" 83 "ClockLodgers$House" "stay" "[I" ∈ bg := bg_in (List.mem_of_getElem? (i := 179) (by decide +kernel)) rfl
theorem wd180 : Cond.fieldLink "ClockLodgers" 177 "ClockLodgers$House" "stay" "[I" ∈ bg := bg_in (List.mem_of_getElem? (i := 180) (by decide +kernel)) rfl
theorem wd181 : Cond.fieldLink "ClockLodgers$Pendulum" 66 "ClockLodgers$House" "stay" "[I" ∈ bg := bg_in (List.mem_of_getElem? (i := 181) (by decide +kernel)) rfl
theorem wd182 : Cond.fieldLink "ClockLodgers$HouseReader" 115 "ClockLodgers$House" "stay" "[I" ∈ bg := bg_in (List.mem_of_getElem? (i := 182) (by decide +kernel)) rfl
theorem wd183 : Cond.fieldLink "ClockLodgers$House" 21 "ClockLodgers$House" "rentAnHour" "[I" ∈ bg := bg_in (List.mem_of_getElem? (i := 183) (by decide +kernel)) rfl
theorem wd184 : Cond.fieldLink "ClockLodgers" 180 "ClockLodgers$House" "rentAnHour" "[I" ∈ bg := bg_in (List.mem_of_getElem? (i := 184) (by decide +kernel)) rfl
theorem wd185 : Cond.fieldLink "ClockLodgers$HouseReader" 118 "ClockLodgers$House" "rentAnHour" "[I" ∈ bg := bg_in (List.mem_of_getElem? (i := 185) (by decide +kernel)) rfl
theorem wd186 : Cond.fieldLink "ClockLodgers$Leases" 116 "ClockLodgers$House" "rentAnHour" "[I" ∈ bg := bg_in (List.mem_of_getElem? (i := 186) (by decide +kernel)) rfl
theorem wd187 : Cond.fieldLink "ClockLodgers$House" 24 "ClockLodgers$House" "foes" "[I" ∈ bg := bg_in (List.mem_of_getElem? (i := 187) (by decide +kernel)) rfl
theorem wd188 : Cond.fieldLink "ClockLodgers" 190 "ClockLodgers$House" "foes" "[I" ∈ bg := bg_in (List.mem_of_getElem? (i := 188) (by decide +kernel)) rfl
theorem wd189 : Cond.fieldLink "ClockLodgers$HouseReader" 121 "ClockLodgers$House" "foes" "[I" ∈ bg := bg_in (List.mem_of_getElem? (i := 189) (by decide +kernel)) rfl
theorem wd190 : Cond.fieldLink "ClockLodgers$House" 27 "ClockLodgers$House" "code" "[I" ∈ bg := bg_in (List.mem_of_getElem? (i := 190) (by decide +kernel)) rfl
theorem wd191 : Cond.fieldLink "ClockLodgers$RuleJudge" 37 "ClockLodgers$House" "code" "[I" ∈ bg := bg_in (List.mem_of_getElem? (i := 191) (by decide +kernel)) rfl
theorem wd192 : Cond.fieldLink "ClockLodgers$House" 55 "ClockLodgers$House" "codeSize" "I" ∈ bg := bg_in (List.mem_of_getElem? (i := 192) (by decide +kernel)) rfl
theorem wd193 : Cond.fieldLink "ClockLodgers$HouseReader" 144 "ClockLodgers$House" "codeSize" "I" ∈ bg := bg_in (List.mem_of_getElem? (i := 193) (by decide +kernel)) rfl
theorem wd194 : Cond.fieldLink "ClockLodgers$House" 30 "ClockLodgers$House" "ruleEnd" "[I" ∈ bg := bg_in (List.mem_of_getElem? (i := 194) (by decide +kernel)) rfl
theorem wd195 : Cond.fieldLink "ClockLodgers$RuleJudge" 30 "ClockLodgers$House" "ruleEnd" "[I" ∈ bg := bg_in (List.mem_of_getElem? (i := 195) (by decide +kernel)) rfl
theorem wd196 : Cond.fieldLink "ClockLodgers$HouseReader" 141 "ClockLodgers$House" "ruleEnd" "[I" ∈ bg := bg_in (List.mem_of_getElem? (i := 196) (by decide +kernel)) rfl
theorem wd233 : Cond.instanceMethod (yX3_init : MethodName) ∈ bg := bg_in (List.mem_of_getElem? (i := 233) (by decide +kernel)) rfl
set_option maxRecDepth 1000000 in
theorem wd234 : Cond.code (yX3_init : MethodName) cX3_init 1 none ∈ bg := bg_in (List.mem_of_getElem? (i := 234) rfl) rfl
theorem wd235 : Cond.methodLink "ClockLodgers$HouseReader" 3 (⟨"java/lang/Object", "<init>", "()V"⟩ : MethodName) ∈ bg := bg_in (List.mem_of_getElem? (i := 235) (by decide +kernel)) rfl
theorem wd237 : Cond.methodLink "ClockLodgers$HouseReader" 11 (yX2_init : MethodName) ∈ bg := bg_in (List.mem_of_getElem? (i := 237) (by decide +kernel)) rfl
theorem wd241 : Cond.instanceMethod (yX10_init : MethodName) ∈ bg := bg_in (List.mem_of_getElem? (i := 241) (by decide +kernel)) rfl
set_option maxRecDepth 1000000 in
theorem wd242 : Cond.code (yX10_init : MethodName) cX10_init 1 none ∈ bg := bg_in (List.mem_of_getElem? (i := 242) rfl) rfl
theorem wd243 : Cond.methodLink "ClockLodgers$Tokens" 3 (⟨"java/lang/Object", "<init>", "()V"⟩ : MethodName) ∈ bg := bg_in (List.mem_of_getElem? (i := 243) (by decide +kernel)) rfl
theorem wd244 : Cond.fieldLink "ClockLodgers$Tokens" 9 "ClockLodgers$Tokens" "text" "[B" ∈ bg := bg_in (List.mem_of_getElem? (i := 244) (by decide +kernel)) rfl
theorem wd245 : Cond.fieldLink "ClockLodgers$Tokens" 34 "ClockLodgers$Tokens" "size" "I" ∈ bg := bg_in (List.mem_of_getElem? (i := 245) (by decide +kernel)) rfl
theorem wd246 : Cond.fieldLink "ClockLodgers$Tokens" 15 "ClockLodgers$Tokens" "kinds" "[I" ∈ bg := bg_in (List.mem_of_getElem? (i := 246) (by decide +kernel)) rfl
theorem wd247 : Cond.fieldLink "ClockLodgers$Tokens" 19 "ClockLodgers$Tokens" "starts" "[I" ∈ bg := bg_in (List.mem_of_getElem? (i := 247) (by decide +kernel)) rfl
theorem wd248 : Cond.fieldLink "ClockLodgers$Tokens" 22 "ClockLodgers$Tokens" "numbers" "[I" ∈ bg := bg_in (List.mem_of_getElem? (i := 248) (by decide +kernel)) rfl
theorem wd249 : Cond.fieldLink "ClockLodgers$Tokens" 44 "ClockLodgers$Tokens" "now" "I" ∈ bg := bg_in (List.mem_of_getElem? (i := 249) (by decide +kernel)) rfl
theorem wd265 : Cond.methodLink "ClockLodgers$HouseReader" 27 (yX9_init : MethodName) ∈ bg := bg_in (List.mem_of_getElem? (i := 265) (by decide +kernel)) rfl
theorem wd266 : Cond.instanceMethod (yX9_init : MethodName) ∈ bg := bg_in (List.mem_of_getElem? (i := 266) (by decide +kernel)) rfl
set_option maxRecDepth 1000000 in
theorem wd267 : Cond.code (yX9_init : MethodName) cX9_init 3 none ∈ bg := bg_in (List.mem_of_getElem? (i := 267) rfl) rfl
theorem wd268 : Cond.methodLink "ClockLodgers$RuleReader" 3 (⟨"java/lang/Object", "<init>", "()V"⟩ : MethodName) ∈ bg := bg_in (List.mem_of_getElem? (i := 268) (by decide +kernel)) rfl
theorem wd269 : Cond.fieldLink "ClockLodgers$RuleReader" 15 "ClockLodgers$RuleReader" "tokens" "LClockLodgers$Tokens;" ∈ bg := bg_in (List.mem_of_getElem? (i := 269) (by decide +kernel)) rfl
theorem wd270 : Cond.fieldLink "ClockLodgers$RuleReader" 19 "ClockLodgers$RuleReader" "draft" "LClockLodgers$House;" ∈ bg := bg_in (List.mem_of_getElem? (i := 270) (by decide +kernel)) rfl
theorem wd271 : Cond.fieldLink "ClockLodgers$RuleReader" 11 "ClockLodgers$RuleReader" "waiting" "[I" ∈ bg := bg_in (List.mem_of_getElem? (i := 271) (by decide +kernel)) rfl
theorem wd272 : Cond.fieldLink "ClockLodgers$RuleReader" 23 "ClockLodgers$RuleReader" "waits" "I" ∈ bg := bg_in (List.mem_of_getElem? (i := 272) (by decide +kernel)) rfl
theorem wd273 : Cond.fieldLink "ClockLodgers$RuleReader" 27 "ClockLodgers$RuleReader" "depth" "I" ∈ bg := bg_in (List.mem_of_getElem? (i := 273) (by decide +kernel)) rfl
theorem wd274 : Cond.fieldLink "ClockLodgers$RuleReader" 34 "ClockLodgers$RuleReader" "wantsPart" "Z" ∈ bg := bg_in (List.mem_of_getElem? (i := 274) (by decide +kernel)) rfl
theorem wd275 : Cond.fieldLink "ClockLodgers$RuleReader" 57 "ClockLodgers$RuleReader" "notMayStand" "Z" ∈ bg := bg_in (List.mem_of_getElem? (i := 275) (by decide +kernel)) rfl
theorem wd276 : Cond.fieldLink "ClockLodgers$RuleReader" 60 "ClockLodgers$RuleReader" "nots" "I" ∈ bg := bg_in (List.mem_of_getElem? (i := 276) (by decide +kernel)) rfl
theorem wd294 : Cond.fieldLink "ClockLodgers$HouseReader" 12 "ClockLodgers$HouseReader" "draft" "LClockLodgers$House;" ∈ bg := bg_in (List.mem_of_getElem? (i := 294) (by decide +kernel)) rfl
theorem wd295 : Cond.fieldLink "ClockLodgers" 120 "ClockLodgers$HouseReader" "draft" "LClockLodgers$House;" ∈ bg := bg_in (List.mem_of_getElem? (i := 295) (by decide +kernel)) rfl
theorem wd296 : Cond.fieldLink "ClockLodgers$HouseReader" 21 "ClockLodgers$HouseReader" "tokens" "LClockLodgers$Tokens;" ∈ bg := bg_in (List.mem_of_getElem? (i := 296) (by decide +kernel)) rfl
theorem wd297 : Cond.fieldLink "ClockLodgers$HouseReader" 30 "ClockLodgers$HouseReader" "ruleReader" "LClockLodgers$RuleReader;" ∈ bg := bg_in (List.mem_of_getElem? (i := 297) (by decide +kernel)) rfl
theorem wd298 : Cond.fieldLink "ClockLodgers$HouseReader" 41 "ClockLodgers$HouseReader" "baseTold" "Z" ∈ bg := bg_in (List.mem_of_getElem? (i := 298) (by decide +kernel)) rfl
theorem wd299 : Cond.fieldLink "ClockLodgers$HouseReader" 45 "ClockLodgers$HouseReader" "oilTold" "Z" ∈ bg := bg_in (List.mem_of_getElem? (i := 299) (by decide +kernel)) rfl
theorem wd300 : Cond.fieldLink "ClockLodgers$HouseReader" 48 "ClockLodgers$HouseReader" "stopTold" "Z" ∈ bg := bg_in (List.mem_of_getElem? (i := 300) (by decide +kernel)) rfl
theorem wd301 : Cond.fieldLink "ClockLodgers$HouseReader" 89 "ClockLodgers$HouseReader" "number" "I" ∈ bg := bg_in (List.mem_of_getElem? (i := 301) (by decide +kernel)) rfl
theorem wd319 : Cond.methodLink "ClockLodgers" 37 (yX8_init : MethodName) ∈ bg := bg_in (List.mem_of_getElem? (i := 319) (by decide +kernel)) rfl
theorem wd320 : Cond.instanceMethod (yX8_init : MethodName) ∈ bg := bg_in (List.mem_of_getElem? (i := 320) (by decide +kernel)) rfl
set_option maxRecDepth 1000000 in
theorem wd321 : Cond.code (yX8_init : MethodName) cX8_init 2 none ∈ bg := bg_in (List.mem_of_getElem? (i := 321) rfl) rfl
theorem wd322 : Cond.methodLink "ClockLodgers$RuleJudge" 1 (⟨"java/lang/Object", "<init>", "()V"⟩ : MethodName) ∈ bg := bg_in (List.mem_of_getElem? (i := 322) (by decide +kernel)) rfl
theorem wd323 : Cond.fieldLink "ClockLodgers$RuleJudge" 16 "ClockLodgers$RuleJudge" "dwelling" "LClockLodgers$House;" ∈ bg := bg_in (List.mem_of_getElem? (i := 323) (by decide +kernel)) rfl
theorem wd324 : Cond.fieldLink "ClockLodgers$RuleJudge" 7 "ClockLodgers$RuleJudge" "values" "[I" ∈ bg := bg_in (List.mem_of_getElem? (i := 324) (by decide +kernel)) rfl
theorem wd325 : Cond.fieldLink "ClockLodgers$RuleJudge" 13 "ClockLodgers$RuleJudge" "operands" "[I" ∈ bg := bg_in (List.mem_of_getElem? (i := 325) (by decide +kernel)) rfl
theorem wd335 : Cond.methodLink "ClockLodgers" 46 (yX4_init : MethodName) ∈ bg := bg_in (List.mem_of_getElem? (i := 335) (by decide +kernel)) rfl
theorem wd336 : Cond.instanceMethod (yX4_init : MethodName) ∈ bg := bg_in (List.mem_of_getElem? (i := 336) (by decide +kernel)) rfl
set_option maxRecDepth 1000000 in
theorem wd337 : Cond.code (yX4_init : MethodName) cX4_init 3 none ∈ bg := bg_in (List.mem_of_getElem? (i := 337) rfl) rfl
theorem wd338 : Cond.methodLink "ClockLodgers$Leases" 3 (⟨"java/lang/Object", "<init>", "()V"⟩ : MethodName) ∈ bg := bg_in (List.mem_of_getElem? (i := 338) (by decide +kernel)) rfl
theorem wd339 : Cond.methodLink "ClockLodgers$Leases" 35 (yJ7_fill_53178 : MethodName) ∈ bg := bg_in (List.mem_of_getElem? (i := 339) (by decide +kernel)) rfl
theorem wd340 : Cond.static (yJ7_fill_53178 : MethodName) ∈ bg := bg_in (List.mem_of_getElem? (i := 340) (by decide +kernel)) rfl
set_option maxRecDepth 1000000 in
theorem wd341 : Cond.code (yJ7_fill_53178 : MethodName) cJ7_fill_53178 4 none ∈ bg := bg_in (List.mem_of_getElem? (i := 341) rfl) rfl
theorem wd342 : Cond.fieldLink "ClockLodgers$Leases" 27 "ClockLodgers$Leases" "dwelling" "LClockLodgers$House;" ∈ bg := bg_in (List.mem_of_getElem? (i := 342) (by decide +kernel)) rfl
theorem wd343 : Cond.fieldLink "ClockLodgers$Leases" 31 "ClockLodgers$Leases" "ruleJudge" "LClockLodgers$RuleJudge;" ∈ bg := bg_in (List.mem_of_getElem? (i := 343) (by decide +kernel)) rfl
theorem wd344 : Cond.fieldLink "ClockLodgers$Leases" 41 "ClockLodgers$Leases" "size" "I" ∈ bg := bg_in (List.mem_of_getElem? (i := 344) (by decide +kernel)) rfl
theorem wd345 : Cond.fieldLink "ClockLodgers" 159 "ClockLodgers$Leases" "size" "I" ∈ bg := bg_in (List.mem_of_getElem? (i := 345) (by decide +kernel)) rfl
theorem wd346 : Cond.fieldLink "ClockLodgers$Leases" 9 "ClockLodgers$Leases" "tenant" "[I" ∈ bg := bg_in (List.mem_of_getElem? (i := 346) (by decide +kernel)) rfl
theorem wd347 : Cond.fieldLink "ClockLodgers$Leases" 15 "ClockLodgers$Leases" "half" "[I" ∈ bg := bg_in (List.mem_of_getElem? (i := 347) (by decide +kernel)) rfl
theorem wd348 : Cond.fieldLink "ClockLodgers$Leases" 18 "ClockLodgers$Leases" "from" "[I" ∈ bg := bg_in (List.mem_of_getElem? (i := 348) (by decide +kernel)) rfl
theorem wd349 : Cond.fieldLink "ClockLodgers$Leases" 21 "ClockLodgers$Leases" "to" "[I" ∈ bg := bg_in (List.mem_of_getElem? (i := 349) (by decide +kernel)) rfl
theorem wd350 : Cond.fieldLink "ClockLodgers$Leases" 24 "ClockLodgers$Leases" "cells" "[I" ∈ bg := bg_in (List.mem_of_getElem? (i := 350) (by decide +kernel)) rfl
theorem wd371 : Cond.instanceMethod (yX5_init : MethodName) ∈ bg := bg_in (List.mem_of_getElem? (i := 371) (by decide +kernel)) rfl
set_option maxRecDepth 1000000 in
theorem wd372 : Cond.code (yX5_init : MethodName) cX5_init 1 none ∈ bg := bg_in (List.mem_of_getElem? (i := 372) rfl) rfl
theorem wd373 : Cond.methodLink "ClockLodgers$Offers" 3 (⟨"java/lang/Object", "<init>", "()V"⟩ : MethodName) ∈ bg := bg_in (List.mem_of_getElem? (i := 373) (by decide +kernel)) rfl
theorem wd374 : Cond.fieldLink "ClockLodgers$Offers" 18 "ClockLodgers$Offers" "size" "I" ∈ bg := bg_in (List.mem_of_getElem? (i := 374) (by decide +kernel)) rfl
theorem wd375 : Cond.fieldLink "ClockLodgers" 162 "ClockLodgers$Offers" "size" "I" ∈ bg := bg_in (List.mem_of_getElem? (i := 375) (by decide +kernel)) rfl
theorem wd376 : Cond.fieldLink "ClockLodgers$Offers" 9 "ClockLodgers$Offers" "hours" "[I" ∈ bg := bg_in (List.mem_of_getElem? (i := 376) (by decide +kernel)) rfl
theorem wd377 : Cond.fieldLink "ClockLodgers$Offers" 15 "ClockLodgers$Offers" "coins" "[I" ∈ bg := bg_in (List.mem_of_getElem? (i := 377) (by decide +kernel)) rfl
theorem wd378 : Cond.fieldLink "ClockLodgers$Offers" 32 "ClockLodgers$Offers" "bestCoins" "I" ∈ bg := bg_in (List.mem_of_getElem? (i := 378) (by decide +kernel)) rfl
theorem wd379 : Cond.fieldLink "ClockLodgers" 297 "ClockLodgers$Offers" "bestCoins" "I" ∈ bg := bg_in (List.mem_of_getElem? (i := 379) (by decide +kernel)) rfl
theorem wd380 : Cond.fieldLink "ClockLodgers$Offers" 35 "ClockLodgers$Offers" "bestSet" "I" ∈ bg := bg_in (List.mem_of_getElem? (i := 380) (by decide +kernel)) rfl
theorem wd381 : Cond.fieldLink "ClockLodgers" 300 "ClockLodgers$Offers" "bestSet" "I" ∈ bg := bg_in (List.mem_of_getElem? (i := 381) (by decide +kernel)) rfl
theorem wd395 : Cond.methodLink "ClockLodgers" 68 (yX6_init : MethodName) ∈ bg := bg_in (List.mem_of_getElem? (i := 395) (by decide +kernel)) rfl
theorem wd396 : Cond.instanceMethod (yX6_init : MethodName) ∈ bg := bg_in (List.mem_of_getElem? (i := 396) (by decide +kernel)) rfl
set_option maxRecDepth 1000000 in
theorem wd397 : Cond.code (yX6_init : MethodName) cX6_init 3 none ∈ bg := bg_in (List.mem_of_getElem? (i := 397) rfl) rfl
theorem wd398 : Cond.methodLink "ClockLodgers$Pendulum" 3 (⟨"java/lang/Object", "<init>", "()V"⟩ : MethodName) ∈ bg := bg_in (List.mem_of_getElem? (i := 398) (by decide +kernel)) rfl
theorem wd399 : Cond.fieldLink "ClockLodgers$Pendulum" 9 "ClockLodgers$Pendulum" "dwelling" "LClockLodgers$House;" ∈ bg := bg_in (List.mem_of_getElem? (i := 399) (by decide +kernel)) rfl
theorem wd400 : Cond.fieldLink "ClockLodgers$Pendulum" 15 "ClockLodgers$Pendulum" "leases" "LClockLodgers$Leases;" ∈ bg := bg_in (List.mem_of_getElem? (i := 400) (by decide +kernel)) rfl
theorem wd408 : Cond.methodLink "ClockLodgers" 77 (yX0_init : MethodName) ∈ bg := bg_in (List.mem_of_getElem? (i := 408) (by decide +kernel)) rfl
theorem wd409 : Cond.instanceMethod (yX0_init : MethodName) ∈ bg := bg_in (List.mem_of_getElem? (i := 409) (by decide +kernel)) rfl
set_option maxRecDepth 1000000 in
theorem wd410 : Cond.code (yX0_init : MethodName) cX0_init 3 none ∈ bg := bg_in (List.mem_of_getElem? (i := 410) rfl) rfl
theorem wd411 : Cond.methodLink "ClockLodgers$Anew" 3 (⟨"java/lang/Object", "<init>", "()V"⟩ : MethodName) ∈ bg := bg_in (List.mem_of_getElem? (i := 411) (by decide +kernel)) rfl
theorem wd412 : Cond.fieldLink "ClockLodgers$Anew" 36 "ClockLodgers$Anew" "dwelling" "LClockLodgers$House;" ∈ bg := bg_in (List.mem_of_getElem? (i := 412) (by decide +kernel)) rfl
theorem wd413 : Cond.fieldLink "ClockLodgers$Anew" 40 "ClockLodgers$Anew" "ruleJudge" "LClockLodgers$RuleJudge;" ∈ bg := bg_in (List.mem_of_getElem? (i := 413) (by decide +kernel)) rfl
theorem wd414 : Cond.fieldLink "ClockLodgers$Anew" 9 "ClockLodgers$Anew" "who" "[I" ∈ bg := bg_in (List.mem_of_getElem? (i := 414) (by decide +kernel)) rfl
theorem wd415 : Cond.fieldLink "ClockLodgers$Anew" 52 "ClockLodgers$Anew" "size" "I" ∈ bg := bg_in (List.mem_of_getElem? (i := 415) (by decide +kernel)) rfl
theorem wd416 : Cond.fieldLink "ClockLodgers$Anew" 15 "ClockLodgers$Anew" "span" "[I" ∈ bg := bg_in (List.mem_of_getElem? (i := 416) (by decide +kernel)) rfl
theorem wd417 : Cond.fieldLink "ClockLodgers$Anew" 18 "ClockLodgers$Anew" "alone" "[I" ∈ bg := bg_in (List.mem_of_getElem? (i := 417) (by decide +kernel)) rfl
theorem wd418 : Cond.fieldLink "ClockLodgers$Anew" 21 "ClockLodgers$Anew" "beside" "[I" ∈ bg := bg_in (List.mem_of_getElem? (i := 418) (by decide +kernel)) rfl
theorem wd419 : Cond.fieldLink "ClockLodgers$Anew" 24 "ClockLodgers$Anew" "mostBehind" "[I" ∈ bg := bg_in (List.mem_of_getElem? (i := 419) (by decide +kernel)) rfl
theorem wd420 : Cond.fieldLink "ClockLodgers$Anew" 27 "ClockLodgers$Anew" "slot" "[I" ∈ bg := bg_in (List.mem_of_getElem? (i := 420) (by decide +kernel)) rfl
theorem wd421 : Cond.fieldLink "ClockLodgers$Anew" 30 "ClockLodgers$Anew" "bestSlot" "[I" ∈ bg := bg_in (List.mem_of_getElem? (i := 421) (by decide +kernel)) rfl
theorem wd422 : Cond.fieldLink "ClockLodgers$Anew" 61 "ClockLodgers$Anew" "best" "I" ∈ bg := bg_in (List.mem_of_getElem? (i := 422) (by decide +kernel)) rfl
theorem wd423 : Cond.fieldLink "ClockLodgers$Anew" 44 "ClockLodgers$Anew" "kept" "Z" ∈ bg := bg_in (List.mem_of_getElem? (i := 423) (by decide +kernel)) rfl
theorem wd424 : Cond.fieldLink "ClockLodgers" 246 "ClockLodgers$Anew" "kept" "Z" ∈ bg := bg_in (List.mem_of_getElem? (i := 424) (by decide +kernel)) rfl
theorem wd425 : Cond.fieldLink "ClockLodgers$Anew" 33 "ClockLodgers$Anew" "keptPlace" "[I" ∈ bg := bg_in (List.mem_of_getElem? (i := 425) (by decide +kernel)) rfl
theorem wd426 : Cond.fieldLink "ClockLodgers" 251 "ClockLodgers$Anew" "keptPlace" "[I" ∈ bg := bg_in (List.mem_of_getElem? (i := 426) (by decide +kernel)) rfl
theorem wd456 : Cond.methodLink "ClockLodgers" 84 (yX1_init : MethodName) ∈ bg := bg_in (List.mem_of_getElem? (i := 456) (by decide +kernel)) rfl
theorem wd457 : Cond.instanceMethod (yX1_init : MethodName) ∈ bg := bg_in (List.mem_of_getElem? (i := 457) (by decide +kernel)) rfl
set_option maxRecDepth 1000000 in
theorem wd458 : Cond.code (yX1_init : MethodName) cX1_init 2 none ∈ bg := bg_in (List.mem_of_getElem? (i := 458) rfl) rfl
theorem wd459 : Cond.methodLink "ClockLodgers$CuckooCases" 3 (⟨"java/lang/Object", "<init>", "()V"⟩ : MethodName) ∈ bg := bg_in (List.mem_of_getElem? (i := 459) (by decide +kernel)) rfl
theorem wd460 : Cond.fieldLink "ClockLodgers$CuckooCases" 9 "ClockLodgers$CuckooCases" "dwelling" "LClockLodgers$House;" ∈ bg := bg_in (List.mem_of_getElem? (i := 460) (by decide +kernel)) rfl
theorem wd461 : Cond.fieldLink "ClockLodgers$CuckooCases" 15 "ClockLodgers$CuckooCases" "swingHeard" "I" ∈ bg := bg_in (List.mem_of_getElem? (i := 461) (by decide +kernel)) rfl
theorem wd462 : Cond.fieldLink "ClockLodgers$CuckooCases" 19 "ClockLodgers$CuckooCases" "number" "I" ∈ bg := bg_in (List.mem_of_getElem? (i := 462) (by decide +kernel)) rfl
theorem wd463 : Cond.fieldLink "ClockLodgers" 259 "ClockLodgers$CuckooCases" "number" "I" ∈ bg := bg_in (List.mem_of_getElem? (i := 463) (by decide +kernel)) rfl
theorem wd464 : Cond.fieldLink "ClockLodgers$CuckooCases" 22 "ClockLodgers$CuckooCases" "inAll" "I" ∈ bg := bg_in (List.mem_of_getElem? (i := 464) (by decide +kernel)) rfl
theorem wd465 : Cond.fieldLink "ClockLodgers" 262 "ClockLodgers$CuckooCases" "inAll" "I" ∈ bg := bg_in (List.mem_of_getElem? (i := 465) (by decide +kernel)) rfl
theorem wd466 : Cond.fieldLink "ClockLodgers$CuckooCases" 25 "ClockLodgers$CuckooCases" "inSome" "I" ∈ bg := bg_in (List.mem_of_getElem? (i := 466) (by decide +kernel)) rfl
theorem wd467 : Cond.fieldLink "ClockLodgers" 265 "ClockLodgers$CuckooCases" "inSome" "I" ∈ bg := bg_in (List.mem_of_getElem? (i := 467) (by decide +kernel)) rfl
theorem wd468 : Cond.fieldLink "ClockLodgers$CuckooCases" 28 "ClockLodgers$CuckooCases" "first" "I" ∈ bg := bg_in (List.mem_of_getElem? (i := 468) (by decide +kernel)) rfl
theorem wd469 : Cond.fieldLink "ClockLodgers" 268 "ClockLodgers$CuckooCases" "first" "I" ∈ bg := bg_in (List.mem_of_getElem? (i := 469) (by decide +kernel)) rfl
theorem wd485 : Cond.methodLink "ClockLodgers" 91 (yX7_init : MethodName) ∈ bg := bg_in (List.mem_of_getElem? (i := 485) (by decide +kernel)) rfl
theorem wd486 : Cond.instanceMethod (yX7_init : MethodName) ∈ bg := bg_in (List.mem_of_getElem? (i := 486) (by decide +kernel)) rfl
set_option maxRecDepth 1000000 in
theorem wd487 : Cond.code (yX7_init : MethodName) cX7_init 2 none ∈ bg := bg_in (List.mem_of_getElem? (i := 487) rfl) rfl
theorem wd488 : Cond.methodLink "ClockLodgers$Rounds" 3 (⟨"java/lang/Object", "<init>", "()V"⟩ : MethodName) ∈ bg := bg_in (List.mem_of_getElem? (i := 488) (by decide +kernel)) rfl
theorem wd489 : Cond.fieldLink "ClockLodgers$Rounds" 21 "ClockLodgers$Rounds" "leases" "LClockLodgers$Leases;" ∈ bg := bg_in (List.mem_of_getElem? (i := 489) (by decide +kernel)) rfl
theorem wd490 : Cond.fieldLink "ClockLodgers$Rounds" 9 "ClockLodgers$Rounds" "hoursOfSome" "[I" ∈ bg := bg_in (List.mem_of_getElem? (i := 490) (by decide +kernel)) rfl
theorem wd491 : Cond.fieldLink "ClockLodgers$Rounds" 15 "ClockLodgers$Rounds" "hourFound" "[I" ∈ bg := bg_in (List.mem_of_getElem? (i := 491) (by decide +kernel)) rfl
theorem wd492 : Cond.fieldLink "ClockLodgers$Rounds" 25 "ClockLodgers$Rounds" "kept" "Z" ∈ bg := bg_in (List.mem_of_getElem? (i := 492) (by decide +kernel)) rfl
theorem wd493 : Cond.fieldLink "ClockLodgers" 272 "ClockLodgers$Rounds" "kept" "Z" ∈ bg := bg_in (List.mem_of_getElem? (i := 493) (by decide +kernel)) rfl
theorem wd494 : Cond.fieldLink "ClockLodgers$Rounds" 18 "ClockLodgers$Rounds" "keptHour" "[I" ∈ bg := bg_in (List.mem_of_getElem? (i := 494) (by decide +kernel)) rfl
theorem wd495 : Cond.fieldLink "ClockLodgers" 275 "ClockLodgers$Rounds" "keptHour" "[I" ∈ bg := bg_in (List.mem_of_getElem? (i := 495) (by decide +kernel)) rfl
theorem wd507 : Cond.fieldLink "ClockLodgers" 9 "ClockLodgers" "tape" "[B" ∈ bg := bg_in (List.mem_of_getElem? (i := 507) (by decide +kernel)) rfl
theorem wd508 : Cond.fieldLink "ClockLodgers" 98 "ClockLodgers" "tapeSize" "I" ∈ bg := bg_in (List.mem_of_getElem? (i := 508) (by decide +kernel)) rfl
theorem wd509 : Cond.fieldLink "ClockLodgers" 13 "ClockLodgers" "faultPlace" "I" ∈ bg := bg_in (List.mem_of_getElem? (i := 509) (by decide +kernel)) rfl
theorem wd510 : Cond.fieldLink "ClockLodgers" 17 "ClockLodgers" "refused" "[I" ∈ bg := bg_in (List.mem_of_getElem? (i := 510) (by decide +kernel)) rfl
theorem wd511 : Cond.fieldLink "ClockLodgers" 24 "ClockLodgers" "dwelling" "LClockLodgers$House;" ∈ bg := bg_in (List.mem_of_getElem? (i := 511) (by decide +kernel)) rfl
theorem wd512 : Cond.fieldLink "ClockLodgers" 31 "ClockLodgers" "reader" "LClockLodgers$HouseReader;" ∈ bg := bg_in (List.mem_of_getElem? (i := 512) (by decide +kernel)) rfl
theorem wd513 : Cond.fieldLink "ClockLodgers" 40 "ClockLodgers" "ruleJudge" "LClockLodgers$RuleJudge;" ∈ bg := bg_in (List.mem_of_getElem? (i := 513) (by decide +kernel)) rfl
theorem wd514 : Cond.fieldLink "ClockLodgers" 49 "ClockLodgers" "leases" "LClockLodgers$Leases;" ∈ bg := bg_in (List.mem_of_getElem? (i := 514) (by decide +kernel)) rfl
theorem wd515 : Cond.fieldLink "ClockLodgers" 53 "ClockLodgers" "leasesImage" "LClockLodgers$Leases;" ∈ bg := bg_in (List.mem_of_getElem? (i := 515) (by decide +kernel)) rfl
theorem wd516 : Cond.fieldLink "ClockLodgers" 59 "ClockLodgers" "offers" "LClockLodgers$Offers;" ∈ bg := bg_in (List.mem_of_getElem? (i := 516) (by decide +kernel)) rfl
theorem wd517 : Cond.fieldLink "ClockLodgers" 63 "ClockLodgers" "offersImage" "LClockLodgers$Offers;" ∈ bg := bg_in (List.mem_of_getElem? (i := 517) (by decide +kernel)) rfl
theorem wd518 : Cond.fieldLink "ClockLodgers" 134 "ClockLodgers" "hasImage" "Z" ∈ bg := bg_in (List.mem_of_getElem? (i := 518) (by decide +kernel)) rfl
theorem wd519 : Cond.fieldLink "ClockLodgers" 71 "ClockLodgers" "pendulum" "LClockLodgers$Pendulum;" ∈ bg := bg_in (List.mem_of_getElem? (i := 519) (by decide +kernel)) rfl
theorem wd520 : Cond.fieldLink "ClockLodgers" 78 "ClockLodgers" "anew" "LClockLodgers$Anew;" ∈ bg := bg_in (List.mem_of_getElem? (i := 520) (by decide +kernel)) rfl
theorem wd521 : Cond.fieldLink "ClockLodgers" 85 "ClockLodgers" "cases" "LClockLodgers$CuckooCases;" ∈ bg := bg_in (List.mem_of_getElem? (i := 521) (by decide +kernel)) rfl
theorem wd522 : Cond.fieldLink "ClockLodgers" 94 "ClockLodgers" "rounds" "LClockLodgers$Rounds;" ∈ bg := bg_in (List.mem_of_getElem? (i := 522) (by decide +kernel)) rfl
theorem wd556 : Cond.methodLink "ClockLodgersLaw" 78 (yX11_feed : MethodName) ∈ bg := bg_in (List.mem_of_getElem? (i := 556) (by decide +kernel)) rfl
theorem wd557 : Cond.instanceMethod (yX11_feed : MethodName) ∈ bg := bg_in (List.mem_of_getElem? (i := 557) (by decide +kernel)) rfl
theorem wd558 : Cond.selects "ClockLodgers" (yX11_feed : MethodName) (yX11_feed : MethodName) ∈ bg := bg_in (List.mem_of_getElem? (i := 558) (by decide +kernel)) rfl
set_option maxRecDepth 1000000 in
theorem wd559 : Cond.code (yX11_feed : MethodName) cX11_feed 6 (some .int) ∈ bg := bg_in (List.mem_of_getElem? (i := 559) rfl) rfl
theorem wd560 : Cond.methodLink "ClockLodgers" 101 (yX11_putBytes : MethodName) ∈ bg := bg_in (List.mem_of_getElem? (i := 560) (by decide +kernel)) rfl
theorem wd562 : Cond.instanceMethod (yX11_putBytes : MethodName) ∈ bg := bg_in (List.mem_of_getElem? (i := 562) (by decide +kernel)) rfl
set_option maxRecDepth 1000000 in
theorem wd563 : Cond.code (yX11_putBytes : MethodName) cX11_putBytes 3 none ∈ bg := bg_in (List.mem_of_getElem? (i := 563) rfl) rfl
theorem wd564 : Cond.methodLink "ClockLodgersLaw" 93 (yX11_fault : MethodName) ∈ bg := bg_in (List.mem_of_getElem? (i := 564) (by decide +kernel)) rfl
theorem wd565 : Cond.instanceMethod (yX11_fault : MethodName) ∈ bg := bg_in (List.mem_of_getElem? (i := 565) (by decide +kernel)) rfl
theorem wd566 : Cond.selects "ClockLodgers" (yX11_fault : MethodName) (yX11_fault : MethodName) ∈ bg := bg_in (List.mem_of_getElem? (i := 566) (by decide +kernel)) rfl
set_option maxRecDepth 1000000 in
theorem wd567 : Cond.code (yX11_fault : MethodName) cX11_fault 1 (some .int) ∈ bg := bg_in (List.mem_of_getElem? (i := 567) rfl) rfl
theorem wd568 : Cond.methodLink "ClockLodgersLaw" 104 (yX11_lease : MethodName) ∈ bg := bg_in (List.mem_of_getElem? (i := 568) (by decide +kernel)) rfl
theorem wd569 : Cond.instanceMethod (yX11_lease : MethodName) ∈ bg := bg_in (List.mem_of_getElem? (i := 569) (by decide +kernel)) rfl
theorem wd570 : Cond.selects "ClockLodgers" (yX11_lease : MethodName) (yX11_lease : MethodName) ∈ bg := bg_in (List.mem_of_getElem? (i := 570) (by decide +kernel)) rfl
set_option maxRecDepth 1000000 in
theorem wd571 : Cond.code (yX11_lease : MethodName) cX11_lease 6 (some .int) ∈ bg := bg_in (List.mem_of_getElem? (i := 571) rfl) rfl
theorem wd572 : Cond.methodLink "ClockLodgers" 195 (yX4_troubleOf : MethodName) ∈ bg := bg_in (List.mem_of_getElem? (i := 572) (by decide +kernel)) rfl
theorem wd573 : Cond.instanceMethod (yX4_troubleOf : MethodName) ∈ bg := bg_in (List.mem_of_getElem? (i := 573) (by decide +kernel)) rfl
theorem wd574 : Cond.selects "ClockLodgers$Leases" (yX4_troubleOf : MethodName) (yX4_troubleOf : MethodName) ∈ bg := bg_in (List.mem_of_getElem? (i := 574) (by decide +kernel)) rfl
set_option maxRecDepth 1000000 in
theorem wd575 : Cond.code (yX4_troubleOf : MethodName) cX4_troubleOf 7 (some .int) ∈ bg := bg_in (List.mem_of_getElem? (i := 575) rfl) rfl
theorem wd576 : Cond.methodLink "ClockLodgers$Leases" 51 (yX2_hasTenant : MethodName) ∈ bg := bg_in (List.mem_of_getElem? (i := 576) (by decide +kernel)) rfl
theorem wd577 : Cond.instanceMethod (yX2_hasTenant : MethodName) ∈ bg := bg_in (List.mem_of_getElem? (i := 577) (by decide +kernel)) rfl
theorem wd578 : Cond.selects "ClockLodgers$House" (yX2_hasTenant : MethodName) (yX2_hasTenant : MethodName) ∈ bg := bg_in (List.mem_of_getElem? (i := 578) (by decide +kernel)) rfl
set_option maxRecDepth 1000000 in
theorem wd579 : Cond.code (yX2_hasTenant : MethodName) cX2_hasTenant 2 (some .boolean) ∈ bg := bg_in (List.mem_of_getElem? (i := 579) rfl) rfl
theorem wd580 : Cond.methodLink "ClockLodgers$Leases" 57 (yX2_breathLets : MethodName) ∈ bg := bg_in (List.mem_of_getElem? (i := 580) (by decide +kernel)) rfl
theorem wd581 : Cond.instanceMethod (yX2_breathLets : MethodName) ∈ bg := bg_in (List.mem_of_getElem? (i := 581) (by decide +kernel)) rfl
theorem wd582 : Cond.selects "ClockLodgers$House" (yX2_breathLets : MethodName) (yX2_breathLets : MethodName) ∈ bg := bg_in (List.mem_of_getElem? (i := 582) (by decide +kernel)) rfl
set_option maxRecDepth 1000000 in
theorem wd583 : Cond.code (yX2_breathLets : MethodName) cX2_breathLets 3 (some .boolean) ∈ bg := bg_in (List.mem_of_getElem? (i := 583) rfl) rfl
theorem wd585 : Cond.static (yX11_hourBits : MethodName) ∈ bg := bg_in (List.mem_of_getElem? (i := 585) (by decide +kernel)) rfl
set_option maxRecDepth 1000000 in
theorem wd586 : Cond.code (yX11_hourBits : MethodName) cX11_hourBits 2 (some .int) ∈ bg := bg_in (List.mem_of_getElem? (i := 586) rfl) rfl
theorem wd587 : Cond.methodLink "ClockLodgers$Leases" 65 (yX4_letHours : MethodName) ∈ bg := bg_in (List.mem_of_getElem? (i := 587) (by decide +kernel)) rfl
theorem wd589 : Cond.instanceMethod (yX4_letHours : MethodName) ∈ bg := bg_in (List.mem_of_getElem? (i := 589) (by decide +kernel)) rfl
set_option maxRecDepth 1000000 in
theorem wd590 : Cond.code (yX4_letHours : MethodName) cX4_letHours 4 (some .int) ∈ bg := bg_in (List.mem_of_getElem? (i := 590) rfl) rfl
theorem wd591 : Cond.methodLink "ClockLodgers$Leases" 69 (yX4_hoursOf : MethodName) ∈ bg := bg_in (List.mem_of_getElem? (i := 591) (by decide +kernel)) rfl
theorem wd592 : Cond.instanceMethod (yX4_hoursOf : MethodName) ∈ bg := bg_in (List.mem_of_getElem? (i := 592) (by decide +kernel)) rfl
theorem wd593 : Cond.selects "ClockLodgers$Leases" (yX4_hoursOf : MethodName) (yX4_hoursOf : MethodName) ∈ bg := bg_in (List.mem_of_getElem? (i := 593) (by decide +kernel)) rfl
set_option maxRecDepth 1000000 in
theorem wd594 : Cond.code (yX4_hoursOf : MethodName) cX4_hoursOf 4 (some .int) ∈ bg := bg_in (List.mem_of_getElem? (i := 594) rfl) rfl
theorem wd595 : Cond.methodLink "ClockLodgers$Leases" 72 (yX4_rulesWouldHold : MethodName) ∈ bg := bg_in (List.mem_of_getElem? (i := 595) (by decide +kernel)) rfl
theorem wd597 : Cond.instanceMethod (yX4_rulesWouldHold : MethodName) ∈ bg := bg_in (List.mem_of_getElem? (i := 597) (by decide +kernel)) rfl
set_option maxRecDepth 1000000 in
theorem wd598 : Cond.code (yX4_rulesWouldHold : MethodName) cX4_rulesWouldHold 7 (some .boolean) ∈ bg := bg_in (List.mem_of_getElem? (i := 598) rfl) rfl
theorem wd599 : Cond.methodLink "ClockLodgers$Leases" 76 (yX4_moveIn : MethodName) ∈ bg := bg_in (List.mem_of_getElem? (i := 599) (by decide +kernel)) rfl
theorem wd601 : Cond.instanceMethod (yX4_moveIn : MethodName) ∈ bg := bg_in (List.mem_of_getElem? (i := 601) (by decide +kernel)) rfl
set_option maxRecDepth 1000000 in
theorem wd602 : Cond.code (yX4_moveIn : MethodName) cX4_moveIn 5 none ∈ bg := bg_in (List.mem_of_getElem? (i := 602) rfl) rfl
theorem wd603 : Cond.methodLink "ClockLodgers$Leases" 83 (yX4_fillCells : MethodName) ∈ bg := bg_in (List.mem_of_getElem? (i := 603) (by decide +kernel)) rfl
theorem wd605 : Cond.instanceMethod (yX4_fillCells : MethodName) ∈ bg := bg_in (List.mem_of_getElem? (i := 605) (by decide +kernel)) rfl
set_option maxRecDepth 1000000 in
theorem wd606 : Cond.code (yX4_fillCells : MethodName) cX4_fillCells 3 none ∈ bg := bg_in (List.mem_of_getElem? (i := 606) rfl) rfl
theorem wd607 : Cond.methodLink "ClockLodgers$Leases" 90 (yX4_rulesHoldIn : MethodName) ∈ bg := bg_in (List.mem_of_getElem? (i := 607) (by decide +kernel)) rfl
theorem wd609 : Cond.instanceMethod (yX4_rulesHoldIn : MethodName) ∈ bg := bg_in (List.mem_of_getElem? (i := 609) (by decide +kernel)) rfl
set_option maxRecDepth 1000000 in
theorem wd610 : Cond.code (yX4_rulesHoldIn : MethodName) cX4_rulesHoldIn 9 (some .boolean) ∈ bg := bg_in (List.mem_of_getElem? (i := 610) rfl) rfl
theorem wd611 : Cond.methodLink "ClockLodgers$Leases" 93 (yX4_who : MethodName) ∈ bg := bg_in (List.mem_of_getElem? (i := 611) (by decide +kernel)) rfl
theorem wd612 : Cond.instanceMethod (yX4_who : MethodName) ∈ bg := bg_in (List.mem_of_getElem? (i := 612) (by decide +kernel)) rfl
theorem wd613 : Cond.selects "ClockLodgers$Leases" (yX4_who : MethodName) (yX4_who : MethodName) ∈ bg := bg_in (List.mem_of_getElem? (i := 613) (by decide +kernel)) rfl
set_option maxRecDepth 1000000 in
theorem wd614 : Cond.code (yX4_who : MethodName) cX4_who 4 (some .int) ∈ bg := bg_in (List.mem_of_getElem? (i := 614) rfl) rfl
theorem wd615 : Cond.methodLink "ClockLodgers$Leases" 96 (yX2_weightOf : MethodName) ∈ bg := bg_in (List.mem_of_getElem? (i := 615) (by decide +kernel)) rfl
theorem wd616 : Cond.instanceMethod (yX2_weightOf : MethodName) ∈ bg := bg_in (List.mem_of_getElem? (i := 616) (by decide +kernel)) rfl
theorem wd617 : Cond.selects "ClockLodgers$House" (yX2_weightOf : MethodName) (yX2_weightOf : MethodName) ∈ bg := bg_in (List.mem_of_getElem? (i := 617) (by decide +kernel)) rfl
set_option maxRecDepth 1000000 in
theorem wd618 : Cond.code (yX2_weightOf : MethodName) cX2_weightOf 2 (some .int) ∈ bg := bg_in (List.mem_of_getElem? (i := 618) rfl) rfl
theorem wd619 : Cond.methodLink "ClockLodgers$Leases" 99 (yX2_quarrelsOf : MethodName) ∈ bg := bg_in (List.mem_of_getElem? (i := 619) (by decide +kernel)) rfl
theorem wd620 : Cond.instanceMethod (yX2_quarrelsOf : MethodName) ∈ bg := bg_in (List.mem_of_getElem? (i := 620) (by decide +kernel)) rfl
theorem wd621 : Cond.selects "ClockLodgers$House" (yX2_quarrelsOf : MethodName) (yX2_quarrelsOf : MethodName) ∈ bg := bg_in (List.mem_of_getElem? (i := 621) (by decide +kernel)) rfl
set_option maxRecDepth 1000000 in
theorem wd622 : Cond.code (yX2_quarrelsOf : MethodName) cX2_quarrelsOf 3 (some .int) ∈ bg := bg_in (List.mem_of_getElem? (i := 622) rfl) rfl
theorem wd623 : Cond.methodLink "ClockLodgers$Leases" 102 (yX8_holdOf : MethodName) ∈ bg := bg_in (List.mem_of_getElem? (i := 623) (by decide +kernel)) rfl
theorem wd624 : Cond.instanceMethod (yX8_holdOf : MethodName) ∈ bg := bg_in (List.mem_of_getElem? (i := 624) (by decide +kernel)) rfl
theorem wd625 : Cond.selects "ClockLodgers$RuleJudge" (yX8_holdOf : MethodName) (yX8_holdOf : MethodName) ∈ bg := bg_in (List.mem_of_getElem? (i := 625) (by decide +kernel)) rfl
set_option maxRecDepth 1000000 in
theorem wd626 : Cond.code (yX8_holdOf : MethodName) cX8_holdOf 9 (some .boolean) ∈ bg := bg_in (List.mem_of_getElem? (i := 626) rfl) rfl
theorem wd627 : Cond.methodLink "ClockLodgers$RuleJudge" 20 (yX2_weightOf : MethodName) ∈ bg := bg_in (List.mem_of_getElem? (i := 627) (by decide +kernel)) rfl
theorem wd628 : Cond.methodLink "ClockLodgers$RuleJudge" 33 (yX8_valueOf : MethodName) ∈ bg := bg_in (List.mem_of_getElem? (i := 628) (by decide +kernel)) rfl
theorem wd630 : Cond.instanceMethod (yX8_valueOf : MethodName) ∈ bg := bg_in (List.mem_of_getElem? (i := 630) (by decide +kernel)) rfl
set_option maxRecDepth 1000000 in
theorem wd631 : Cond.code (yX8_valueOf : MethodName) cX8_valueOf 6 (some .int) ∈ bg := bg_in (List.mem_of_getElem? (i := 631) rfl) rfl
theorem wd632 : Cond.methodLink "ClockLodgers$RuleJudge" 42 (yX8_joined : MethodName) ∈ bg := bg_in (List.mem_of_getElem? (i := 632) (by decide +kernel)) rfl
theorem wd633 : Cond.static (yX8_joined : MethodName) ∈ bg := bg_in (List.mem_of_getElem? (i := 633) (by decide +kernel)) rfl
set_option maxRecDepth 1000000 in
theorem wd634 : Cond.code (yX8_joined : MethodName) cX8_joined 3 (some .int) ∈ bg := bg_in (List.mem_of_getElem? (i := 634) rfl) rfl
theorem wd635 : Cond.methodLink "ClockLodgers$Leases" 80 (yX4_moveOut : MethodName) ∈ bg := bg_in (List.mem_of_getElem? (i := 635) (by decide +kernel)) rfl
theorem wd637 : Cond.instanceMethod (yX4_moveOut : MethodName) ∈ bg := bg_in (List.mem_of_getElem? (i := 637) (by decide +kernel)) rfl
set_option maxRecDepth 1000000 in
theorem wd638 : Cond.code (yX4_moveOut : MethodName) cX4_moveOut 1 none ∈ bg := bg_in (List.mem_of_getElem? (i := 638) rfl) rfl
theorem wd639 : Cond.methodLink "ClockLodgers" 199 (yX4_grant : MethodName) ∈ bg := bg_in (List.mem_of_getElem? (i := 639) (by decide +kernel)) rfl
theorem wd640 : Cond.instanceMethod (yX4_grant : MethodName) ∈ bg := bg_in (List.mem_of_getElem? (i := 640) (by decide +kernel)) rfl
theorem wd641 : Cond.selects "ClockLodgers$Leases" (yX4_grant : MethodName) (yX4_grant : MethodName) ∈ bg := bg_in (List.mem_of_getElem? (i := 641) (by decide +kernel)) rfl
set_option maxRecDepth 1000000 in
theorem wd642 : Cond.code (yX4_grant : MethodName) cX4_grant 5 none ∈ bg := bg_in (List.mem_of_getElem? (i := 642) rfl) rfl
theorem wd643 : Cond.methodLink "ClockLodgersLaw" 108 (yX11_judge : MethodName) ∈ bg := bg_in (List.mem_of_getElem? (i := 643) (by decide +kernel)) rfl
theorem wd644 : Cond.instanceMethod (yX11_judge : MethodName) ∈ bg := bg_in (List.mem_of_getElem? (i := 644) (by decide +kernel)) rfl
theorem wd645 : Cond.selects "ClockLodgers" (yX11_judge : MethodName) (yX11_judge : MethodName) ∈ bg := bg_in (List.mem_of_getElem? (i := 645) (by decide +kernel)) rfl
set_option maxRecDepth 1000000 in
theorem wd646 : Cond.code (yX11_judge : MethodName) cX11_judge 5 (some .int) ∈ bg := bg_in (List.mem_of_getElem? (i := 646) rfl) rfl
theorem wd647 : Cond.methodLink "ClockLodgersLaw" 112 (yX11_undo : MethodName) ∈ bg := bg_in (List.mem_of_getElem? (i := 647) (by decide +kernel)) rfl
theorem wd648 : Cond.instanceMethod (yX11_undo : MethodName) ∈ bg := bg_in (List.mem_of_getElem? (i := 648) (by decide +kernel)) rfl
theorem wd649 : Cond.selects "ClockLodgers" (yX11_undo : MethodName) (yX11_undo : MethodName) ∈ bg := bg_in (List.mem_of_getElem? (i := 649) (by decide +kernel)) rfl
set_option maxRecDepth 1000000 in
theorem wd650 : Cond.code (yX11_undo : MethodName) cX11_undo 1 (some .int) ∈ bg := bg_in (List.mem_of_getElem? (i := 650) rfl) rfl
theorem wd651 : Cond.methodLink "ClockLodgers" 203 (yX4_takeBack : MethodName) ∈ bg := bg_in (List.mem_of_getElem? (i := 651) (by decide +kernel)) rfl
theorem wd652 : Cond.instanceMethod (yX4_takeBack : MethodName) ∈ bg := bg_in (List.mem_of_getElem? (i := 652) (by decide +kernel)) rfl
theorem wd653 : Cond.selects "ClockLodgers$Leases" (yX4_takeBack : MethodName) (yX4_takeBack : MethodName) ∈ bg := bg_in (List.mem_of_getElem? (i := 653) (by decide +kernel)) rfl
set_option maxRecDepth 1000000 in
theorem wd654 : Cond.code (yX4_takeBack : MethodName) cX4_takeBack 1 (some .int) ∈ bg := bg_in (List.mem_of_getElem? (i := 654) rfl) rfl
theorem wd655 : Cond.methodLink "ClockLodgersLaw" 150 (yX11_offer : MethodName) ∈ bg := bg_in (List.mem_of_getElem? (i := 655) (by decide +kernel)) rfl
theorem wd656 : Cond.instanceMethod (yX11_offer : MethodName) ∈ bg := bg_in (List.mem_of_getElem? (i := 656) (by decide +kernel)) rfl
theorem wd657 : Cond.selects "ClockLodgers" (yX11_offer : MethodName) (yX11_offer : MethodName) ∈ bg := bg_in (List.mem_of_getElem? (i := 657) (by decide +kernel)) rfl
set_option maxRecDepth 1000000 in
theorem wd658 : Cond.code (yX11_offer : MethodName) cX11_offer 4 (some .int) ∈ bg := bg_in (List.mem_of_getElem? (i := 658) rfl) rfl
theorem wd659 : Cond.methodLink "ClockLodgers" 286 (yX5_add : MethodName) ∈ bg := bg_in (List.mem_of_getElem? (i := 659) (by decide +kernel)) rfl
theorem wd660 : Cond.instanceMethod (yX5_add : MethodName) ∈ bg := bg_in (List.mem_of_getElem? (i := 660) (by decide +kernel)) rfl
theorem wd661 : Cond.selects "ClockLodgers$Offers" (yX5_add : MethodName) (yX5_add : MethodName) ∈ bg := bg_in (List.mem_of_getElem? (i := 661) (by decide +kernel)) rfl
set_option maxRecDepth 1000000 in
theorem wd662 : Cond.code (yX5_add : MethodName) cX5_add 4 (some .int) ∈ bg := bg_in (List.mem_of_getElem? (i := 662) rfl) rfl
theorem wd664 : Cond.methodLink "ClockLodgersLaw" 170 (yX11_image : MethodName) ∈ bg := bg_in (List.mem_of_getElem? (i := 664) (by decide +kernel)) rfl
theorem wd665 : Cond.instanceMethod (yX11_image : MethodName) ∈ bg := bg_in (List.mem_of_getElem? (i := 665) (by decide +kernel)) rfl
theorem wd666 : Cond.selects "ClockLodgers" (yX11_image : MethodName) (yX11_image : MethodName) ∈ bg := bg_in (List.mem_of_getElem? (i := 666) (by decide +kernel)) rfl
set_option maxRecDepth 1000000 in
theorem wd667 : Cond.code (yX11_image : MethodName) cX11_image 1 none ∈ bg := bg_in (List.mem_of_getElem? (i := 667) rfl) rfl
theorem wd668 : Cond.methodLink "ClockLodgers" 324 (yX4_copyFrom : MethodName) ∈ bg := bg_in (List.mem_of_getElem? (i := 668) (by decide +kernel)) rfl
theorem wd669 : Cond.instanceMethod (yX4_copyFrom : MethodName) ∈ bg := bg_in (List.mem_of_getElem? (i := 669) (by decide +kernel)) rfl
theorem wd670 : Cond.selects "ClockLodgers$Leases" (yX4_copyFrom : MethodName) (yX4_copyFrom : MethodName) ∈ bg := bg_in (List.mem_of_getElem? (i := 670) (by decide +kernel)) rfl
set_option maxRecDepth 1000000 in
theorem wd671 : Cond.code (yX4_copyFrom : MethodName) cX4_copyFrom 2 none ∈ bg := bg_in (List.mem_of_getElem? (i := 671) rfl) rfl
theorem wd672 : Cond.methodLink "ClockLodgers$Leases" 45 (⟨"java/lang/System", "arraycopy", "(Ljava/lang/Object;ILjava/lang/Object;II)V"⟩ : MethodName) ∈ bg := bg_in (List.mem_of_getElem? (i := 672) (by decide +kernel)) rfl
theorem wd673 : Cond.static (⟨"java/lang/System", "arraycopy", "(Ljava/lang/Object;ILjava/lang/Object;II)V"⟩ : MethodName) ∈ bg := bg_in (List.mem_of_getElem? (i := 673) (by decide +kernel)) rfl
theorem wd674 : Cond.native (⟨"java/lang/System", "arraycopy", "(Ljava/lang/Object;ILjava/lang/Object;II)V"⟩ : MethodName) ∈ bg := bg_in (List.mem_of_getElem? (i := 674) (by decide +kernel)) rfl
theorem wd675 : Cond.methodLink "ClockLodgers" 326 (yX5_copyFrom : MethodName) ∈ bg := bg_in (List.mem_of_getElem? (i := 675) (by decide +kernel)) rfl
theorem wd676 : Cond.instanceMethod (yX5_copyFrom : MethodName) ∈ bg := bg_in (List.mem_of_getElem? (i := 676) (by decide +kernel)) rfl
theorem wd677 : Cond.selects "ClockLodgers$Offers" (yX5_copyFrom : MethodName) (yX5_copyFrom : MethodName) ∈ bg := bg_in (List.mem_of_getElem? (i := 677) (by decide +kernel)) rfl
set_option maxRecDepth 1000000 in
theorem wd678 : Cond.code (yX5_copyFrom : MethodName) cX5_copyFrom 2 none ∈ bg := bg_in (List.mem_of_getElem? (i := 678) rfl) rfl
theorem wd679 : Cond.methodLink "ClockLodgers$Offers" 22 (⟨"java/lang/System", "arraycopy", "(Ljava/lang/Object;ILjava/lang/Object;II)V"⟩ : MethodName) ∈ bg := bg_in (List.mem_of_getElem? (i := 679) (by decide +kernel)) rfl
theorem wd680 : Cond.methodLink "ClockLodgersLaw" 174 (yX11_restore : MethodName) ∈ bg := bg_in (List.mem_of_getElem? (i := 680) (by decide +kernel)) rfl
theorem wd681 : Cond.instanceMethod (yX11_restore : MethodName) ∈ bg := bg_in (List.mem_of_getElem? (i := 681) (by decide +kernel)) rfl
theorem wd682 : Cond.selects "ClockLodgers" (yX11_restore : MethodName) (yX11_restore : MethodName) ∈ bg := bg_in (List.mem_of_getElem? (i := 682) (by decide +kernel)) rfl
set_option maxRecDepth 1000000 in
theorem wd683 : Cond.code (yX11_restore : MethodName) cX11_restore 1 (some .boolean) ∈ bg := bg_in (List.mem_of_getElem? (i := 683) rfl) rfl
theorem wd684 : Cond.methodLink "ClockLodgersLaw" 83 (yL_house : MethodName) ∈ bg := bg_in (List.mem_of_getElem? (i := 684) (by decide +kernel)) rfl
theorem wd685 : Cond.static (yL_house : MethodName) ∈ bg := bg_in (List.mem_of_getElem? (i := 685) (by decide +kernel)) rfl
theorem wd688 : Cond.methodLink "ClockLodgersLaw" 7 (yX11_house : MethodName) ∈ bg := bg_in (List.mem_of_getElem? (i := 688) (by decide +kernel)) rfl
theorem wd689 : Cond.instanceMethod (yX11_house : MethodName) ∈ bg := bg_in (List.mem_of_getElem? (i := 689) (by decide +kernel)) rfl
theorem wd690 : Cond.selects "ClockLodgers" (yX11_house : MethodName) (yX11_house : MethodName) ∈ bg := bg_in (List.mem_of_getElem? (i := 690) (by decide +kernel)) rfl
set_option maxRecDepth 1000000 in
theorem wd691 : Cond.code (yX11_house : MethodName) cX11_house 3 (some .int) ∈ bg := bg_in (List.mem_of_getElem? (i := 691) rfl) rfl
theorem wd701 : Cond.selects "java/lang/IllegalArgumentException" (⟨"java/lang/Throwable", "fillInStackTrace", "(I)Ljava/lang/Throwable;"⟩ : MethodName) (⟨"java/lang/Throwable", "fillInStackTrace", "(I)Ljava/lang/Throwable;"⟩ : MethodName) ∈ bg := bg_in (List.mem_of_getElem? (i := 701) (by decide +kernel)) rfl
theorem wd702 : Cond.selects "java/lang/IllegalArgumentException" (⟨"java/lang/Throwable", "fillInStackTrace", "()Ljava/lang/Throwable;"⟩ : MethodName) (⟨"java/lang/Throwable", "fillInStackTrace", "()Ljava/lang/Throwable;"⟩ : MethodName) ∈ bg := bg_in (List.mem_of_getElem? (i := 702) (by decide +kernel)) rfl
theorem wd713 : Cond.fieldLink "java/lang/Throwable" 198 "java/lang/Throwable" "backtrace" "Ljava/lang/Object;" ∈ bg := bg_in (List.mem_of_getElem? (i := 713) (by decide +kernel)) rfl
theorem wd715 : Cond.instanceMethod (⟨"java/lang/Throwable", "<init>", "()V"⟩ : MethodName) ∈ bg := bg_in (List.mem_of_getElem? (i := 715) (by decide +kernel)) rfl
set_option maxRecDepth 1000000 in
theorem wd716 : Cond.code (⟨"java/lang/Throwable", "<init>", "()V"⟩ : MethodName) prog_28_method_1_code 1 none ∈ bg := bg_in (List.mem_of_getElem? (i := 716) rfl) rfl
theorem wd717 : Cond.methodLink "java/lang/Throwable" 1 (⟨"java/lang/Object", "<init>", "()V"⟩ : MethodName) ∈ bg := bg_in (List.mem_of_getElem? (i := 717) (by decide +kernel)) rfl
theorem wd718 : Cond.fieldLink "java/lang/Throwable" 13 "java/lang/Throwable" "UNASSIGNED_STACK" "[Ljava/lang/StackTraceElement;" ∈ bg := bg_in (List.mem_of_getElem? (i := 718) (by decide +kernel)) rfl
theorem wd720 : Cond.fieldLink "java/lang/Throwable" 20 "java/lang/Throwable" "SUPPRESSED_SENTINEL" "Ljava/util/List;" ∈ bg := bg_in (List.mem_of_getElem? (i := 720) (by decide +kernel)) rfl
theorem wd722 : Cond.methodLink "java/lang/Throwable" 27 (⟨"java/lang/Throwable", "fillInStackTrace", "()Ljava/lang/Throwable;"⟩ : MethodName) ∈ bg := bg_in (List.mem_of_getElem? (i := 722) (by decide +kernel)) rfl
theorem wd723 : Cond.instanceMethod (⟨"java/lang/Throwable", "fillInStackTrace", "()Ljava/lang/Throwable;"⟩ : MethodName) ∈ bg := bg_in (List.mem_of_getElem? (i := 723) (by decide +kernel)) rfl
theorem wd725 : Cond.selects "java/util/NoSuchElementException" (⟨"java/lang/Throwable", "fillInStackTrace", "()Ljava/lang/Throwable;"⟩ : MethodName) (⟨"java/lang/Throwable", "fillInStackTrace", "()Ljava/lang/Throwable;"⟩ : MethodName) ∈ bg := bg_in (List.mem_of_getElem? (i := 725) (by decide +kernel)) rfl
theorem wd727 : Cond.methodLink "java/lang/Throwable" 202 (⟨"java/lang/Throwable", "fillInStackTrace", "(I)Ljava/lang/Throwable;"⟩ : MethodName) ∈ bg := bg_in (List.mem_of_getElem? (i := 727) (by decide +kernel)) rfl
theorem wd729 : Cond.instanceMethod (⟨"java/lang/Throwable", "fillInStackTrace", "(I)Ljava/lang/Throwable;"⟩ : MethodName) ∈ bg := bg_in (List.mem_of_getElem? (i := 729) (by decide +kernel)) rfl
theorem wd731 : Cond.native (⟨"java/lang/Throwable", "fillInStackTrace", "(I)Ljava/lang/Throwable;"⟩ : MethodName) ∈ bg := bg_in (List.mem_of_getElem? (i := 731) (by decide +kernel)) rfl
theorem wd733 : Cond.methodLink "ClockLodgers" 109 (⟨"java/lang/IllegalArgumentException", "<init>", "(Ljava/lang/String;)V"⟩ : MethodName) ∈ bg := bg_in (List.mem_of_getElem? (i := 733) (by decide +kernel)) rfl
theorem wd734 : Cond.instanceMethod (⟨"java/lang/IllegalArgumentException", "<init>", "(Ljava/lang/String;)V"⟩ : MethodName) ∈ bg := bg_in (List.mem_of_getElem? (i := 734) (by decide +kernel)) rfl
set_option maxRecDepth 1000000 in
theorem wd735 : Cond.code (⟨"java/lang/IllegalArgumentException", "<init>", "(Ljava/lang/String;)V"⟩ : MethodName) prog_20_method_2_code 2 none ∈ bg := bg_in (List.mem_of_getElem? (i := 735) rfl) rfl
theorem wd736 : Cond.methodLink "java/lang/IllegalArgumentException" 7 (⟨"java/lang/RuntimeException", "<init>", "(Ljava/lang/String;)V"⟩ : MethodName) ∈ bg := bg_in (List.mem_of_getElem? (i := 736) (by decide +kernel)) rfl
theorem wd737 : Cond.instanceMethod (⟨"java/lang/RuntimeException", "<init>", "(Ljava/lang/String;)V"⟩ : MethodName) ∈ bg := bg_in (List.mem_of_getElem? (i := 737) (by decide +kernel)) rfl
set_option maxRecDepth 1000000 in
theorem wd738 : Cond.code (⟨"java/lang/RuntimeException", "<init>", "(Ljava/lang/String;)V"⟩ : MethodName) prog_23_method_2_code 2 none ∈ bg := bg_in (List.mem_of_getElem? (i := 738) rfl) rfl
theorem wd739 : Cond.methodLink "java/lang/RuntimeException" 7 (⟨"java/lang/Exception", "<init>", "(Ljava/lang/String;)V"⟩ : MethodName) ∈ bg := bg_in (List.mem_of_getElem? (i := 739) (by decide +kernel)) rfl
theorem wd740 : Cond.instanceMethod (⟨"java/lang/Exception", "<init>", "(Ljava/lang/String;)V"⟩ : MethodName) ∈ bg := bg_in (List.mem_of_getElem? (i := 740) (by decide +kernel)) rfl
set_option maxRecDepth 1000000 in
theorem wd741 : Cond.code (⟨"java/lang/Exception", "<init>", "(Ljava/lang/String;)V"⟩ : MethodName) prog_19_method_2_code 2 none ∈ bg := bg_in (List.mem_of_getElem? (i := 741) rfl) rfl
theorem wd742 : Cond.methodLink "java/lang/Exception" 7 (⟨"java/lang/Throwable", "<init>", "(Ljava/lang/String;)V"⟩ : MethodName) ∈ bg := bg_in (List.mem_of_getElem? (i := 742) (by decide +kernel)) rfl
theorem wd743 : Cond.instanceMethod (⟨"java/lang/Throwable", "<init>", "(Ljava/lang/String;)V"⟩ : MethodName) ∈ bg := bg_in (List.mem_of_getElem? (i := 743) (by decide +kernel)) rfl
set_option maxRecDepth 1000000 in
theorem wd744 : Cond.code (⟨"java/lang/Throwable", "<init>", "(Ljava/lang/String;)V"⟩ : MethodName) prog_28_method_2_code 2 none ∈ bg := bg_in (List.mem_of_getElem? (i := 744) rfl) rfl
theorem wd746 : Cond.fieldLink "java/lang/Throwable" 31 "java/lang/Throwable" "detailMessage" "Ljava/lang/String;" ∈ bg := bg_in (List.mem_of_getElem? (i := 746) (by decide +kernel)) rfl
theorem wd747 : Cond.fieldLink "java/lang/Throwable" 7 "java/lang/Throwable" "cause" "Ljava/lang/Throwable;" ∈ bg := bg_in (List.mem_of_getElem? (i := 747) (by decide +kernel)) rfl
theorem wd748 : Cond.fieldLink "java/lang/Throwable" 17 "java/lang/Throwable" "stackTrace" "[Ljava/lang/StackTraceElement;" ∈ bg := bg_in (List.mem_of_getElem? (i := 748) (by decide +kernel)) rfl
theorem wd749 : Cond.fieldLink "java/lang/Throwable" 24 "java/lang/Throwable" "suppressedExceptions" "Ljava/util/List;" ∈ bg := bg_in (List.mem_of_getElem? (i := 749) (by decide +kernel)) rfl
theorem wd758 : Cond.methodLink "ClockLodgers" 112 (yX3_read : MethodName) ∈ bg := bg_in (List.mem_of_getElem? (i := 758) (by decide +kernel)) rfl
theorem wd759 : Cond.instanceMethod (yX3_read : MethodName) ∈ bg := bg_in (List.mem_of_getElem? (i := 759) (by decide +kernel)) rfl
theorem wd760 : Cond.selects "ClockLodgers$HouseReader" (yX3_read : MethodName) (yX3_read : MethodName) ∈ bg := bg_in (List.mem_of_getElem? (i := 760) (by decide +kernel)) rfl
set_option maxRecDepth 1000000 in
theorem wd761 : Cond.code (yX3_read : MethodName) cX3_read 5 (some .int) ∈ bg := bg_in (List.mem_of_getElem? (i := 761) rfl) rfl
theorem wd762 : Cond.methodLink "ClockLodgers$HouseReader" 34 (yX10_begin : MethodName) ∈ bg := bg_in (List.mem_of_getElem? (i := 762) (by decide +kernel)) rfl
theorem wd763 : Cond.instanceMethod (yX10_begin : MethodName) ∈ bg := bg_in (List.mem_of_getElem? (i := 763) (by decide +kernel)) rfl
theorem wd764 : Cond.selects "ClockLodgers$Tokens" (yX10_begin : MethodName) (yX10_begin : MethodName) ∈ bg := bg_in (List.mem_of_getElem? (i := 764) (by decide +kernel)) rfl
set_option maxRecDepth 1000000 in
theorem wd765 : Cond.code (yX10_begin : MethodName) cX10_begin 6 none ∈ bg := bg_in (List.mem_of_getElem? (i := 765) rfl) rfl
theorem wd766 : Cond.methodLink "ClockLodgers$Tokens" 25 (yJ9_min_7cf53 : MethodName) ∈ bg := bg_in (List.mem_of_getElem? (i := 766) (by decide +kernel)) rfl
theorem wd767 : Cond.static (yJ9_min_7cf53 : MethodName) ∈ bg := bg_in (List.mem_of_getElem? (i := 767) (by decide +kernel)) rfl
set_option maxRecDepth 1000000 in
theorem wd768 : Cond.code (yJ9_min_7cf53 : MethodName) cJ9_min_7cf53 2 (some .int) ∈ bg := bg_in (List.mem_of_getElem? (i := 768) rfl) rfl
theorem wd769 : Cond.methodLink "ClockLodgers$Tokens" 31 (yJ9_max_7cf53 : MethodName) ∈ bg := bg_in (List.mem_of_getElem? (i := 769) (by decide +kernel)) rfl
theorem wd770 : Cond.static (yJ9_max_7cf53 : MethodName) ∈ bg := bg_in (List.mem_of_getElem? (i := 770) (by decide +kernel)) rfl
set_option maxRecDepth 1000000 in
theorem wd771 : Cond.code (yJ9_max_7cf53 : MethodName) cJ9_max_7cf53 2 (some .int) ∈ bg := bg_in (List.mem_of_getElem? (i := 771) rfl) rfl
theorem wd772 : Cond.methodLink "ClockLodgers$Tokens" 38 (⟨"java/lang/System", "arraycopy", "(Ljava/lang/Object;ILjava/lang/Object;II)V"⟩ : MethodName) ∈ bg := bg_in (List.mem_of_getElem? (i := 772) (by decide +kernel)) rfl
theorem wd773 : Cond.methodLink "ClockLodgers$Tokens" 47 (yX10_endOfToken : MethodName) ∈ bg := bg_in (List.mem_of_getElem? (i := 773) (by decide +kernel)) rfl
theorem wd775 : Cond.instanceMethod (yX10_endOfToken : MethodName) ∈ bg := bg_in (List.mem_of_getElem? (i := 775) (by decide +kernel)) rfl
set_option maxRecDepth 1000000 in
theorem wd776 : Cond.code (yX10_endOfToken : MethodName) cX10_endOfToken 3 (some .int) ∈ bg := bg_in (List.mem_of_getElem? (i := 776) rfl) rfl
theorem wd777 : Cond.methodLink "ClockLodgers$Tokens" 55 (yX10_isLetter : MethodName) ∈ bg := bg_in (List.mem_of_getElem? (i := 777) (by decide +kernel)) rfl
theorem wd779 : Cond.instanceMethod (yX10_isLetter : MethodName) ∈ bg := bg_in (List.mem_of_getElem? (i := 779) (by decide +kernel)) rfl
set_option maxRecDepth 1000000 in
theorem wd780 : Cond.code (yX10_isLetter : MethodName) cX10_isLetter 2 (some .boolean) ∈ bg := bg_in (List.mem_of_getElem? (i := 780) rfl) rfl
theorem wd781 : Cond.methodLink "ClockLodgers$Tokens" 59 (yX10_isDigit : MethodName) ∈ bg := bg_in (List.mem_of_getElem? (i := 781) (by decide +kernel)) rfl
theorem wd783 : Cond.instanceMethod (yX10_isDigit : MethodName) ∈ bg := bg_in (List.mem_of_getElem? (i := 783) (by decide +kernel)) rfl
set_option maxRecDepth 1000000 in
theorem wd784 : Cond.code (yX10_isDigit : MethodName) cX10_isDigit 2 (some .boolean) ∈ bg := bg_in (List.mem_of_getElem? (i := 784) rfl) rfl
theorem wd785 : Cond.methodLink "ClockLodgers$Tokens" 51 (yX10_putToken : MethodName) ∈ bg := bg_in (List.mem_of_getElem? (i := 785) (by decide +kernel)) rfl
theorem wd787 : Cond.instanceMethod (yX10_putToken : MethodName) ∈ bg := bg_in (List.mem_of_getElem? (i := 787) (by decide +kernel)) rfl
set_option maxRecDepth 1000000 in
theorem wd788 : Cond.code (yX10_putToken : MethodName) cX10_putToken 4 none ∈ bg := bg_in (List.mem_of_getElem? (i := 788) rfl) rfl
theorem wd789 : Cond.methodLink "ClockLodgers$Tokens" 62 (yX10_kindOfWord : MethodName) ∈ bg := bg_in (List.mem_of_getElem? (i := 789) (by decide +kernel)) rfl
theorem wd791 : Cond.instanceMethod (yX10_kindOfWord : MethodName) ∈ bg := bg_in (List.mem_of_getElem? (i := 791) (by decide +kernel)) rfl
set_option maxRecDepth 1000000 in
theorem wd792 : Cond.code (yX10_kindOfWord : MethodName) cX10_kindOfWord 6 (some .int) ∈ bg := bg_in (List.mem_of_getElem? (i := 792) rfl) rfl
theorem wd794 : Cond.methodLink "ClockLodgers$Tokens" 77 (yJ0_length_8abf5 : MethodName) ∈ bg := bg_in (List.mem_of_getElem? (i := 794) (by decide +kernel)) rfl
theorem wd795 : Cond.instanceMethod (yJ0_length_8abf5 : MethodName) ∈ bg := bg_in (List.mem_of_getElem? (i := 795) (by decide +kernel)) rfl
theorem wd796 : Cond.selects "java/lang/String" (yJ0_length_8abf5 : MethodName) (yJ0_length_8abf5 : MethodName) ∈ bg := bg_in (List.mem_of_getElem? (i := 796) (by decide +kernel)) rfl
set_option maxRecDepth 1000000 in
theorem wd797 : Cond.code (yJ0_length_8abf5 : MethodName) cJ0_length_8abf5 1 (some .int) ∈ bg := bg_in (List.mem_of_getElem? (i := 797) rfl) rfl
theorem wd798 : Cond.methodLink "java/lang/String" 335 (yJ0_coder_7d493 : MethodName) ∈ bg := bg_in (List.mem_of_getElem? (i := 798) (by decide +kernel)) rfl
theorem wd799 : Cond.instanceMethod (yJ0_coder_7d493 : MethodName) ∈ bg := bg_in (List.mem_of_getElem? (i := 799) (by decide +kernel)) rfl
theorem wd800 : Cond.selects "java/lang/String" (yJ0_coder_7d493 : MethodName) (yJ0_coder_7d493 : MethodName) ∈ bg := bg_in (List.mem_of_getElem? (i := 800) (by decide +kernel)) rfl
set_option maxRecDepth 1000000 in
theorem wd801 : Cond.code (yJ0_coder_7d493 : MethodName) cJ0_coder_7d493 1 (some .byte) ∈ bg := bg_in (List.mem_of_getElem? (i := 801) rfl) rfl
theorem wd802 : Cond.fieldLink "java/lang/String" 38 "java/lang/String" "COMPACT_STRINGS" "Z" ∈ bg := bg_in (List.mem_of_getElem? (i := 802) (by decide +kernel)) rfl
theorem wd804 : Cond.methodLink "ClockLodgers$Tokens" 81 (yJ0_charAt_5068e : MethodName) ∈ bg := bg_in (List.mem_of_getElem? (i := 804) (by decide +kernel)) rfl
theorem wd805 : Cond.instanceMethod (yJ0_charAt_5068e : MethodName) ∈ bg := bg_in (List.mem_of_getElem? (i := 805) (by decide +kernel)) rfl
theorem wd806 : Cond.selects "java/lang/String" (yJ0_charAt_5068e : MethodName) (yJ0_charAt_5068e : MethodName) ∈ bg := bg_in (List.mem_of_getElem? (i := 806) (by decide +kernel)) rfl
set_option maxRecDepth 1000000 in
theorem wd807 : Cond.code (yJ0_charAt_5068e : MethodName) cJ0_charAt_5068e 2 (some .char) ∈ bg := bg_in (List.mem_of_getElem? (i := 807) rfl) rfl
theorem wd808 : Cond.methodLink "java/lang/String" 492 (yJ0_isLatin1_aae02 : MethodName) ∈ bg := bg_in (List.mem_of_getElem? (i := 808) (by decide +kernel)) rfl
theorem wd809 : Cond.instanceMethod (yJ0_isLatin1_aae02 : MethodName) ∈ bg := bg_in (List.mem_of_getElem? (i := 809) (by decide +kernel)) rfl
theorem wd810 : Cond.selects "java/lang/String" (yJ0_isLatin1_aae02 : MethodName) (yJ0_isLatin1_aae02 : MethodName) ∈ bg := bg_in (List.mem_of_getElem? (i := 810) (by decide +kernel)) rfl
set_option maxRecDepth 1000000 in
theorem wd811 : Cond.code (yJ0_isLatin1_aae02 : MethodName) cJ0_isLatin1_aae02 1 (some .boolean) ∈ bg := bg_in (List.mem_of_getElem? (i := 811) rfl) rfl
theorem wd812 : Cond.methodLink "java/lang/String" 495 (yJ1_charAt_3b067 : MethodName) ∈ bg := bg_in (List.mem_of_getElem? (i := 812) (by decide +kernel)) rfl
theorem wd813 : Cond.static (yJ1_charAt_3b067 : MethodName) ∈ bg := bg_in (List.mem_of_getElem? (i := 813) (by decide +kernel)) rfl
set_option maxRecDepth 1000000 in
theorem wd814 : Cond.code (yJ1_charAt_3b067 : MethodName) cJ1_charAt_3b067 2 (some .char) ∈ bg := bg_in (List.mem_of_getElem? (i := 814) rfl) rfl
theorem wd815 : Cond.methodLink "java/lang/StringLatin1" 9 (yJ0_checkIndex_df160 : MethodName) ∈ bg := bg_in (List.mem_of_getElem? (i := 815) (by decide +kernel)) rfl
theorem wd816 : Cond.static (yJ0_checkIndex_df160 : MethodName) ∈ bg := bg_in (List.mem_of_getElem? (i := 816) (by decide +kernel)) rfl
set_option maxRecDepth 1000000 in
theorem wd817 : Cond.code (yJ0_checkIndex_df160 : MethodName) cJ0_checkIndex_df160 2 none ∈ bg := bg_in (List.mem_of_getElem? (i := 817) rfl) rfl
theorem wd818 : Cond.fieldLink "java/lang/String" 1053 "jdk/internal/util/Preconditions" "SIOOBE_FORMATTER" "Ljava/util/function/BiFunction;" ∈ bg := bg_in (List.mem_of_getElem? (i := 818) (by decide +kernel)) rfl
theorem wd820 : Cond.methodLink "java/lang/String" 1059 (yJ3_checkIndex_8e157 : MethodName) ∈ bg := bg_in (List.mem_of_getElem? (i := 820) (by decide +kernel)) rfl
theorem wd821 : Cond.static (yJ3_checkIndex_8e157 : MethodName) ∈ bg := bg_in (List.mem_of_getElem? (i := 821) (by decide +kernel)) rfl
set_option maxRecDepth 1000000 in
theorem wd822 : Cond.code (yJ3_checkIndex_8e157 : MethodName) cJ3_checkIndex_8e157 3 (some .int) ∈ bg := bg_in (List.mem_of_getElem? (i := 822) rfl) rfl
theorem wd823 : Cond.methodLink "java/lang/String" 498 (yJ2_charAt_3b067 : MethodName) ∈ bg := bg_in (List.mem_of_getElem? (i := 823) (by decide +kernel)) rfl
theorem wd824 : Cond.static (yJ2_charAt_3b067 : MethodName) ∈ bg := bg_in (List.mem_of_getElem? (i := 824) (by decide +kernel)) rfl
set_option maxRecDepth 1000000 in
theorem wd825 : Cond.code (yJ2_charAt_3b067 : MethodName) cJ2_charAt_3b067 2 (some .char) ∈ bg := bg_in (List.mem_of_getElem? (i := 825) rfl) rfl
theorem wd826 : Cond.methodLink "java/lang/StringUTF16" 67 (yJ2_checkIndex_2214a : MethodName) ∈ bg := bg_in (List.mem_of_getElem? (i := 826) (by decide +kernel)) rfl
theorem wd827 : Cond.static (yJ2_checkIndex_2214a : MethodName) ∈ bg := bg_in (List.mem_of_getElem? (i := 827) (by decide +kernel)) rfl
set_option maxRecDepth 1000000 in
theorem wd828 : Cond.code (yJ2_checkIndex_2214a : MethodName) cJ2_checkIndex_2214a 2 none ∈ bg := bg_in (List.mem_of_getElem? (i := 828) rfl) rfl
theorem wd829 : Cond.methodLink "java/lang/StringUTF16" 48 (yJ2_length_9d52b : MethodName) ∈ bg := bg_in (List.mem_of_getElem? (i := 829) (by decide +kernel)) rfl
theorem wd830 : Cond.static (yJ2_length_9d52b : MethodName) ∈ bg := bg_in (List.mem_of_getElem? (i := 830) (by decide +kernel)) rfl
set_option maxRecDepth 1000000 in
theorem wd831 : Cond.code (yJ2_length_9d52b : MethodName) cJ2_length_9d52b 1 (some .int) ∈ bg := bg_in (List.mem_of_getElem? (i := 831) rfl) rfl
theorem wd832 : Cond.methodLink "java/lang/StringUTF16" 414 (yJ0_checkIndex_df160 : MethodName) ∈ bg := bg_in (List.mem_of_getElem? (i := 832) (by decide +kernel)) rfl
theorem wd833 : Cond.methodLink "java/lang/StringUTF16" 71 (yJ2_getChar_3b067 : MethodName) ∈ bg := bg_in (List.mem_of_getElem? (i := 833) (by decide +kernel)) rfl
theorem wd834 : Cond.static (yJ2_getChar_3b067 : MethodName) ∈ bg := bg_in (List.mem_of_getElem? (i := 834) (by decide +kernel)) rfl
set_option maxRecDepth 1000000 in
theorem wd835 : Cond.code (yJ2_getChar_3b067 : MethodName) cJ2_getChar_3b067 2 (some .char) ∈ bg := bg_in (List.mem_of_getElem? (i := 835) rfl) rfl
theorem wd836 : Cond.fieldLink "java/lang/StringUTF16" 44 "java/lang/StringUTF16" "$assertionsDisabled" "Z" ∈ bg := bg_in (List.mem_of_getElem? (i := 836) (by decide +kernel)) rfl
theorem wd838 : Cond.fieldLink "java/lang/StringUTF16" 59 "java/lang/StringUTF16" "HI_BYTE_SHIFT" "I" ∈ bg := bg_in (List.mem_of_getElem? (i := 838) (by decide +kernel)) rfl
theorem wd840 : Cond.fieldLink "java/lang/StringUTF16" 63 "java/lang/StringUTF16" "LO_BYTE_SHIFT" "I" ∈ bg := bg_in (List.mem_of_getElem? (i := 840) (by decide +kernel)) rfl
theorem wd842 : Cond.methodLink "ClockLodgers$Tokens" 85 (yX10_isWordAt : MethodName) ∈ bg := bg_in (List.mem_of_getElem? (i := 842) (by decide +kernel)) rfl
theorem wd844 : Cond.instanceMethod (yX10_isWordAt : MethodName) ∈ bg := bg_in (List.mem_of_getElem? (i := 844) (by decide +kernel)) rfl
set_option maxRecDepth 1000000 in
theorem wd845 : Cond.code (yX10_isWordAt : MethodName) cX10_isWordAt 5 (some .boolean) ∈ bg := bg_in (List.mem_of_getElem? (i := 845) rfl) rfl
theorem wd846 : Cond.methodLink "ClockLodgers$Tokens" 65 (yX10_numberOf : MethodName) ∈ bg := bg_in (List.mem_of_getElem? (i := 846) (by decide +kernel)) rfl
theorem wd848 : Cond.instanceMethod (yX10_numberOf : MethodName) ∈ bg := bg_in (List.mem_of_getElem? (i := 848) (by decide +kernel)) rfl
set_option maxRecDepth 1000000 in
theorem wd849 : Cond.code (yX10_numberOf : MethodName) cX10_numberOf 5 (some .int) ∈ bg := bg_in (List.mem_of_getElem? (i := 849) rfl) rfl
theorem wd851 : Cond.methodLink "ClockLodgers$Tokens" 70 (yJ0_indexOf_0f7a4 : MethodName) ∈ bg := bg_in (List.mem_of_getElem? (i := 851) (by decide +kernel)) rfl
theorem wd852 : Cond.instanceMethod (yJ0_indexOf_0f7a4 : MethodName) ∈ bg := bg_in (List.mem_of_getElem? (i := 852) (by decide +kernel)) rfl
theorem wd853 : Cond.selects "java/lang/String" (yJ0_indexOf_0f7a4 : MethodName) (yJ0_indexOf_0f7a4 : MethodName) ∈ bg := bg_in (List.mem_of_getElem? (i := 853) (by decide +kernel)) rfl
set_option maxRecDepth 1000000 in
theorem wd854 : Cond.code (yJ0_indexOf_0f7a4 : MethodName) cJ0_indexOf_0f7a4 2 (some .int) ∈ bg := bg_in (List.mem_of_getElem? (i := 854) rfl) rfl
theorem wd855 : Cond.methodLink "java/lang/String" 633 (yJ0_indexOf_7cf53 : MethodName) ∈ bg := bg_in (List.mem_of_getElem? (i := 855) (by decide +kernel)) rfl
theorem wd856 : Cond.instanceMethod (yJ0_indexOf_7cf53 : MethodName) ∈ bg := bg_in (List.mem_of_getElem? (i := 856) (by decide +kernel)) rfl
theorem wd857 : Cond.selects "java/lang/String" (yJ0_indexOf_7cf53 : MethodName) (yJ0_indexOf_7cf53 : MethodName) ∈ bg := bg_in (List.mem_of_getElem? (i := 857) (by decide +kernel)) rfl
set_option maxRecDepth 1000000 in
theorem wd858 : Cond.code (yJ0_indexOf_7cf53 : MethodName) cJ0_indexOf_7cf53 3 (some .int) ∈ bg := bg_in (List.mem_of_getElem? (i := 858) rfl) rfl
theorem wd859 : Cond.methodLink "java/lang/String" 505 (yJ0_length_8abf5 : MethodName) ∈ bg := bg_in (List.mem_of_getElem? (i := 859) (by decide +kernel)) rfl
theorem wd860 : Cond.methodLink "java/lang/String" 637 (yJ1_indexOf_4cfef : MethodName) ∈ bg := bg_in (List.mem_of_getElem? (i := 860) (by decide +kernel)) rfl
theorem wd861 : Cond.static (yJ1_indexOf_4cfef : MethodName) ∈ bg := bg_in (List.mem_of_getElem? (i := 861) (by decide +kernel)) rfl
set_option maxRecDepth 1000000 in
theorem wd862 : Cond.code (yJ1_indexOf_4cfef : MethodName) cJ1_indexOf_4cfef 4 (some .int) ∈ bg := bg_in (List.mem_of_getElem? (i := 862) rfl) rfl
theorem wd863 : Cond.methodLink "java/lang/StringLatin1" 88 (yJ1_canEncode_9a6ad : MethodName) ∈ bg := bg_in (List.mem_of_getElem? (i := 863) (by decide +kernel)) rfl
theorem wd864 : Cond.static (yJ1_canEncode_9a6ad : MethodName) ∈ bg := bg_in (List.mem_of_getElem? (i := 864) (by decide +kernel)) rfl
set_option maxRecDepth 1000000 in
theorem wd865 : Cond.code (yJ1_canEncode_9a6ad : MethodName) cJ1_canEncode_9a6ad 1 (some .boolean) ∈ bg := bg_in (List.mem_of_getElem? (i := 865) rfl) rfl
theorem wd866 : Cond.methodLink "java/lang/StringLatin1" 92 (yJ9_max_7cf53 : MethodName) ∈ bg := bg_in (List.mem_of_getElem? (i := 866) (by decide +kernel)) rfl
theorem wd867 : Cond.methodLink "java/lang/StringLatin1" 38 (yJ9_min_7cf53 : MethodName) ∈ bg := bg_in (List.mem_of_getElem? (i := 867) (by decide +kernel)) rfl
theorem wd868 : Cond.methodLink "java/lang/StringLatin1" 95 (yJ1_indexOfChar_4cfef : MethodName) ∈ bg := bg_in (List.mem_of_getElem? (i := 868) (by decide +kernel)) rfl
theorem wd869 : Cond.static (yJ1_indexOfChar_4cfef : MethodName) ∈ bg := bg_in (List.mem_of_getElem? (i := 869) (by decide +kernel)) rfl
set_option maxRecDepth 1000000 in
theorem wd870 : Cond.code (yJ1_indexOfChar_4cfef : MethodName) cJ1_indexOfChar_4cfef 6 (some .int) ∈ bg := bg_in (List.mem_of_getElem? (i := 870) rfl) rfl
theorem wd871 : Cond.methodLink "java/lang/String" 640 (yJ2_indexOf_4cfef : MethodName) ∈ bg := bg_in (List.mem_of_getElem? (i := 871) (by decide +kernel)) rfl
theorem wd872 : Cond.static (yJ2_indexOf_4cfef : MethodName) ∈ bg := bg_in (List.mem_of_getElem? (i := 872) (by decide +kernel)) rfl
set_option maxRecDepth 1000000 in
theorem wd873 : Cond.code (yJ2_indexOf_4cfef : MethodName) cJ2_indexOf_4cfef 4 (some .int) ∈ bg := bg_in (List.mem_of_getElem? (i := 873) rfl) rfl
theorem wd874 : Cond.methodLink "java/lang/StringUTF16" 224 (yJ9_max_7cf53 : MethodName) ∈ bg := bg_in (List.mem_of_getElem? (i := 874) (by decide +kernel)) rfl
theorem wd875 : Cond.methodLink "java/lang/StringUTF16" 183 (yJ9_min_7cf53 : MethodName) ∈ bg := bg_in (List.mem_of_getElem? (i := 875) (by decide +kernel)) rfl
theorem wd876 : Cond.constant "java/lang/StringUTF16" 227 (65536 : Int32) ∈ bg := bg_in (List.mem_of_getElem? (i := 876) (by decide +kernel)) rfl
theorem wd877 : Cond.methodLink "java/lang/StringUTF16" 228 (yJ2_indexOfChar_4cfef : MethodName) ∈ bg := bg_in (List.mem_of_getElem? (i := 877) (by decide +kernel)) rfl
theorem wd878 : Cond.static (yJ2_indexOfChar_4cfef : MethodName) ∈ bg := bg_in (List.mem_of_getElem? (i := 878) (by decide +kernel)) rfl
set_option maxRecDepth 1000000 in
theorem wd879 : Cond.code (yJ2_indexOfChar_4cfef : MethodName) cJ2_indexOfChar_4cfef 4 (some .int) ∈ bg := bg_in (List.mem_of_getElem? (i := 879) rfl) rfl
theorem wd880 : Cond.methodLink "java/lang/StringUTF16" 96 (yJ2_checkBoundsBeginEnd_d044e : MethodName) ∈ bg := bg_in (List.mem_of_getElem? (i := 880) (by decide +kernel)) rfl
theorem wd881 : Cond.static (yJ2_checkBoundsBeginEnd_d044e : MethodName) ∈ bg := bg_in (List.mem_of_getElem? (i := 881) (by decide +kernel)) rfl
set_option maxRecDepth 1000000 in
theorem wd882 : Cond.code (yJ2_checkBoundsBeginEnd_d044e : MethodName) cJ2_checkBoundsBeginEnd_d044e 3 none ∈ bg := bg_in (List.mem_of_getElem? (i := 882) rfl) rfl
theorem wd883 : Cond.methodLink "java/lang/StringUTF16" 241 (yJ0_checkBoundsBeginEnd_23922 : MethodName) ∈ bg := bg_in (List.mem_of_getElem? (i := 883) (by decide +kernel)) rfl
theorem wd884 : Cond.static (yJ0_checkBoundsBeginEnd_23922 : MethodName) ∈ bg := bg_in (List.mem_of_getElem? (i := 884) (by decide +kernel)) rfl
set_option maxRecDepth 1000000 in
theorem wd885 : Cond.code (yJ0_checkBoundsBeginEnd_23922 : MethodName) cJ0_checkBoundsBeginEnd_23922 3 none ∈ bg := bg_in (List.mem_of_getElem? (i := 885) rfl) rfl
theorem wd886 : Cond.methodLink "java/lang/String" 1062 (yJ3_checkFromToIndex_8c36e : MethodName) ∈ bg := bg_in (List.mem_of_getElem? (i := 886) (by decide +kernel)) rfl
theorem wd887 : Cond.static (yJ3_checkFromToIndex_8c36e : MethodName) ∈ bg := bg_in (List.mem_of_getElem? (i := 887) (by decide +kernel)) rfl
set_option maxRecDepth 1000000 in
theorem wd888 : Cond.code (yJ3_checkFromToIndex_8c36e : MethodName) cJ3_checkFromToIndex_8c36e 4 (some .int) ∈ bg := bg_in (List.mem_of_getElem? (i := 888) rfl) rfl
theorem wd889 : Cond.methodLink "java/lang/StringUTF16" 244 (yJ2_indexOfCharUnsafe_4cfef : MethodName) ∈ bg := bg_in (List.mem_of_getElem? (i := 889) (by decide +kernel)) rfl
theorem wd890 : Cond.static (yJ2_indexOfCharUnsafe_4cfef : MethodName) ∈ bg := bg_in (List.mem_of_getElem? (i := 890) (by decide +kernel)) rfl
set_option maxRecDepth 1000000 in
theorem wd891 : Cond.code (yJ2_indexOfCharUnsafe_4cfef : MethodName) cJ2_indexOfCharUnsafe_4cfef 5 (some .int) ∈ bg := bg_in (List.mem_of_getElem? (i := 891) rfl) rfl
theorem wd892 : Cond.methodLink "java/lang/StringUTF16" 232 (yJ2_indexOfSupplementary_4cfef : MethodName) ∈ bg := bg_in (List.mem_of_getElem? (i := 892) (by decide +kernel)) rfl
theorem wd893 : Cond.static (yJ2_indexOfSupplementary_4cfef : MethodName) ∈ bg := bg_in (List.mem_of_getElem? (i := 893) (by decide +kernel)) rfl
set_option maxRecDepth 1000000 in
theorem wd894 : Cond.code (yJ2_indexOfSupplementary_4cfef : MethodName) cJ2_indexOfSupplementary_4cfef 7 (some .int) ∈ bg := bg_in (List.mem_of_getElem? (i := 894) rfl) rfl
theorem wd895 : Cond.methodLink "java/lang/StringUTF16" 164 (yJ11_isValidCodePoint_9a6ad : MethodName) ∈ bg := bg_in (List.mem_of_getElem? (i := 895) (by decide +kernel)) rfl
theorem wd896 : Cond.static (yJ11_isValidCodePoint_9a6ad : MethodName) ∈ bg := bg_in (List.mem_of_getElem? (i := 896) (by decide +kernel)) rfl
set_option maxRecDepth 1000000 in
theorem wd897 : Cond.code (yJ11_isValidCodePoint_9a6ad : MethodName) cJ11_isValidCodePoint_9a6ad 2 (some .boolean) ∈ bg := bg_in (List.mem_of_getElem? (i := 897) rfl) rfl
theorem wd898 : Cond.methodLink "java/lang/StringUTF16" 157 (yJ11_highSurrogate_5068e : MethodName) ∈ bg := bg_in (List.mem_of_getElem? (i := 898) (by decide +kernel)) rfl
theorem wd899 : Cond.static (yJ11_highSurrogate_5068e : MethodName) ∈ bg := bg_in (List.mem_of_getElem? (i := 899) (by decide +kernel)) rfl
set_option maxRecDepth 1000000 in
theorem wd900 : Cond.code (yJ11_highSurrogate_5068e : MethodName) cJ11_highSurrogate_5068e 1 (some .char) ∈ bg := bg_in (List.mem_of_getElem? (i := 900) rfl) rfl
theorem wd901 : Cond.constant "java/lang/Character" 110 (55232 : Int32) ∈ bg := bg_in (List.mem_of_getElem? (i := 901) (by decide +kernel)) rfl
theorem wd902 : Cond.methodLink "java/lang/StringUTF16" 161 (yJ11_lowSurrogate_5068e : MethodName) ∈ bg := bg_in (List.mem_of_getElem? (i := 902) (by decide +kernel)) rfl
theorem wd903 : Cond.static (yJ11_lowSurrogate_5068e : MethodName) ∈ bg := bg_in (List.mem_of_getElem? (i := 903) (by decide +kernel)) rfl
set_option maxRecDepth 1000000 in
theorem wd904 : Cond.code (yJ11_lowSurrogate_5068e : MethodName) cJ11_lowSurrogate_5068e 1 (some .char) ∈ bg := bg_in (List.mem_of_getElem? (i := 904) rfl) rfl
theorem wd905 : Cond.constant "java/lang/Character" 76 (56320 : Int32) ∈ bg := bg_in (List.mem_of_getElem? (i := 905) (by decide +kernel)) rfl
theorem wd906 : Cond.methodLink "ClockLodgers$HouseReader" 38 (yX2_clear : MethodName) ∈ bg := bg_in (List.mem_of_getElem? (i := 906) (by decide +kernel)) rfl
theorem wd907 : Cond.instanceMethod (yX2_clear : MethodName) ∈ bg := bg_in (List.mem_of_getElem? (i := 907) (by decide +kernel)) rfl
theorem wd908 : Cond.selects "ClockLodgers$House" (yX2_clear : MethodName) (yX2_clear : MethodName) ∈ bg := bg_in (List.mem_of_getElem? (i := 908) (by decide +kernel)) rfl
set_option maxRecDepth 1000000 in
theorem wd909 : Cond.code (yX2_clear : MethodName) cX2_clear 1 none ∈ bg := bg_in (List.mem_of_getElem? (i := 909) rfl) rfl
theorem wd910 : Cond.methodLink "ClockLodgers$HouseReader" 51 (yX10_kind : MethodName) ∈ bg := bg_in (List.mem_of_getElem? (i := 910) (by decide +kernel)) rfl
theorem wd911 : Cond.instanceMethod (yX10_kind : MethodName) ∈ bg := bg_in (List.mem_of_getElem? (i := 911) (by decide +kernel)) rfl
theorem wd912 : Cond.selects "ClockLodgers$Tokens" (yX10_kind : MethodName) (yX10_kind : MethodName) ∈ bg := bg_in (List.mem_of_getElem? (i := 912) (by decide +kernel)) rfl
set_option maxRecDepth 1000000 in
theorem wd913 : Cond.code (yX10_kind : MethodName) cX10_kind 1 (some .int) ∈ bg := bg_in (List.mem_of_getElem? (i := 913) rfl) rfl
theorem wd914 : Cond.methodLink "ClockLodgers$HouseReader" 55 (yX3_readLine : MethodName) ∈ bg := bg_in (List.mem_of_getElem? (i := 914) (by decide +kernel)) rfl
theorem wd916 : Cond.instanceMethod (yX3_readLine : MethodName) ∈ bg := bg_in (List.mem_of_getElem? (i := 916) (by decide +kernel)) rfl
set_option maxRecDepth 1000000 in
theorem wd917 : Cond.code (yX3_readLine : MethodName) cX3_readLine 1 (some .int) ∈ bg := bg_in (List.mem_of_getElem? (i := 917) rfl) rfl
theorem wd918 : Cond.methodLink "ClockLodgers$HouseReader" 67 (yX3_readBase : MethodName) ∈ bg := bg_in (List.mem_of_getElem? (i := 918) (by decide +kernel)) rfl
theorem wd920 : Cond.instanceMethod (yX3_readBase : MethodName) ∈ bg := bg_in (List.mem_of_getElem? (i := 920) (by decide +kernel)) rfl
set_option maxRecDepth 1000000 in
theorem wd921 : Cond.code (yX3_readBase : MethodName) cX3_readBase 2 (some .int) ∈ bg := bg_in (List.mem_of_getElem? (i := 921) rfl) rfl
theorem wd922 : Cond.methodLink "ClockLodgers$HouseReader" 64 (yX10_advance : MethodName) ∈ bg := bg_in (List.mem_of_getElem? (i := 922) (by decide +kernel)) rfl
theorem wd923 : Cond.instanceMethod (yX10_advance : MethodName) ∈ bg := bg_in (List.mem_of_getElem? (i := 923) (by decide +kernel)) rfl
theorem wd924 : Cond.selects "ClockLodgers$Tokens" (yX10_advance : MethodName) (yX10_advance : MethodName) ∈ bg := bg_in (List.mem_of_getElem? (i := 924) (by decide +kernel)) rfl
set_option maxRecDepth 1000000 in
theorem wd925 : Cond.code (yX10_advance : MethodName) cX10_advance 1 none ∈ bg := bg_in (List.mem_of_getElem? (i := 925) rfl) rfl
theorem wd926 : Cond.methodLink "ClockLodgers$HouseReader" 85 (yX3_readNumber : MethodName) ∈ bg := bg_in (List.mem_of_getElem? (i := 926) (by decide +kernel)) rfl
theorem wd928 : Cond.instanceMethod (yX3_readNumber : MethodName) ∈ bg := bg_in (List.mem_of_getElem? (i := 928) (by decide +kernel)) rfl
set_option maxRecDepth 1000000 in
theorem wd929 : Cond.code (yX3_readNumber : MethodName) cX3_readNumber 3 (some .int) ∈ bg := bg_in (List.mem_of_getElem? (i := 929) rfl) rfl
theorem wd930 : Cond.methodLink "ClockLodgers$HouseReader" 130 (yX10_number : MethodName) ∈ bg := bg_in (List.mem_of_getElem? (i := 930) (by decide +kernel)) rfl
theorem wd931 : Cond.instanceMethod (yX10_number : MethodName) ∈ bg := bg_in (List.mem_of_getElem? (i := 931) (by decide +kernel)) rfl
theorem wd932 : Cond.selects "ClockLodgers$Tokens" (yX10_number : MethodName) (yX10_number : MethodName) ∈ bg := bg_in (List.mem_of_getElem? (i := 932) (by decide +kernel)) rfl
set_option maxRecDepth 1000000 in
theorem wd933 : Cond.code (yX10_number : MethodName) cX10_number 1 (some .int) ∈ bg := bg_in (List.mem_of_getElem? (i := 933) rfl) rfl
theorem wd934 : Cond.methodLink "ClockLodgers$HouseReader" 70 (yX3_readOil : MethodName) ∈ bg := bg_in (List.mem_of_getElem? (i := 934) (by decide +kernel)) rfl
theorem wd936 : Cond.instanceMethod (yX3_readOil : MethodName) ∈ bg := bg_in (List.mem_of_getElem? (i := 936) (by decide +kernel)) rfl
set_option maxRecDepth 1000000 in
theorem wd937 : Cond.code (yX3_readOil : MethodName) cX3_readOil 2 (some .int) ∈ bg := bg_in (List.mem_of_getElem? (i := 937) rfl) rfl
theorem wd938 : Cond.methodLink "ClockLodgers$HouseReader" 73 (yX3_readStop : MethodName) ∈ bg := bg_in (List.mem_of_getElem? (i := 938) (by decide +kernel)) rfl
theorem wd940 : Cond.instanceMethod (yX3_readStop : MethodName) ∈ bg := bg_in (List.mem_of_getElem? (i := 940) (by decide +kernel)) rfl
set_option maxRecDepth 1000000 in
theorem wd941 : Cond.code (yX3_readStop : MethodName) cX3_readStop 2 (some .int) ∈ bg := bg_in (List.mem_of_getElem? (i := 941) rfl) rfl
theorem wd942 : Cond.methodLink "ClockLodgers$HouseReader" 76 (yX3_readTenant : MethodName) ∈ bg := bg_in (List.mem_of_getElem? (i := 942) (by decide +kernel)) rfl
theorem wd944 : Cond.instanceMethod (yX3_readTenant : MethodName) ∈ bg := bg_in (List.mem_of_getElem? (i := 944) (by decide +kernel)) rfl
set_option maxRecDepth 1000000 in
theorem wd945 : Cond.code (yX3_readTenant : MethodName) cX3_readTenant 3 (some .int) ∈ bg := bg_in (List.mem_of_getElem? (i := 945) rfl) rfl
theorem wd946 : Cond.methodLink "ClockLodgers$HouseReader" 79 (yX3_readQuarrel : MethodName) ∈ bg := bg_in (List.mem_of_getElem? (i := 946) (by decide +kernel)) rfl
theorem wd948 : Cond.instanceMethod (yX3_readQuarrel : MethodName) ∈ bg := bg_in (List.mem_of_getElem? (i := 948) (by decide +kernel)) rfl
set_option maxRecDepth 1000000 in
theorem wd949 : Cond.code (yX3_readQuarrel : MethodName) cX3_readQuarrel 4 (some .int) ∈ bg := bg_in (List.mem_of_getElem? (i := 949) rfl) rfl
theorem wd950 : Cond.methodLink "ClockLodgers$HouseReader" 127 (yX3_tenantFault : MethodName) ∈ bg := bg_in (List.mem_of_getElem? (i := 950) (by decide +kernel)) rfl
theorem wd952 : Cond.instanceMethod (yX3_tenantFault : MethodName) ∈ bg := bg_in (List.mem_of_getElem? (i := 952) (by decide +kernel)) rfl
set_option maxRecDepth 1000000 in
theorem wd953 : Cond.code (yX3_tenantFault : MethodName) cX3_tenantFault 1 (some .int) ∈ bg := bg_in (List.mem_of_getElem? (i := 953) rfl) rfl
theorem wd954 : Cond.methodLink "ClockLodgers$HouseReader" 147 (yX2_hasTenant : MethodName) ∈ bg := bg_in (List.mem_of_getElem? (i := 954) (by decide +kernel)) rfl
theorem wd955 : Cond.methodLink "ClockLodgers$HouseReader" 132 (yX2_quarrelsOf : MethodName) ∈ bg := bg_in (List.mem_of_getElem? (i := 955) (by decide +kernel)) rfl
theorem wd956 : Cond.methodLink "ClockLodgers$HouseReader" 82 (yX3_readRule : MethodName) ∈ bg := bg_in (List.mem_of_getElem? (i := 956) (by decide +kernel)) rfl
theorem wd958 : Cond.instanceMethod (yX3_readRule : MethodName) ∈ bg := bg_in (List.mem_of_getElem? (i := 958) (by decide +kernel)) rfl
set_option maxRecDepth 1000000 in
theorem wd959 : Cond.code (yX3_readRule : MethodName) cX3_readRule 2 (some .int) ∈ bg := bg_in (List.mem_of_getElem? (i := 959) rfl) rfl
theorem wd960 : Cond.methodLink "ClockLodgers$HouseReader" 138 (yX9_read : MethodName) ∈ bg := bg_in (List.mem_of_getElem? (i := 960) (by decide +kernel)) rfl
theorem wd961 : Cond.instanceMethod (yX9_read : MethodName) ∈ bg := bg_in (List.mem_of_getElem? (i := 961) (by decide +kernel)) rfl
theorem wd962 : Cond.selects "ClockLodgers$RuleReader" (yX9_read : MethodName) (yX9_read : MethodName) ∈ bg := bg_in (List.mem_of_getElem? (i := 962) (by decide +kernel)) rfl
set_option maxRecDepth 1000000 in
theorem wd963 : Cond.code (yX9_read : MethodName) cX9_read 3 (some .int) ∈ bg := bg_in (List.mem_of_getElem? (i := 963) rfl) rfl
theorem wd964 : Cond.methodLink "ClockLodgers$RuleReader" 30 (yX9_wantPart : MethodName) ∈ bg := bg_in (List.mem_of_getElem? (i := 964) (by decide +kernel)) rfl
theorem wd966 : Cond.instanceMethod (yX9_wantPart : MethodName) ∈ bg := bg_in (List.mem_of_getElem? (i := 966) (by decide +kernel)) rfl
set_option maxRecDepth 1000000 in
theorem wd967 : Cond.code (yX9_wantPart : MethodName) cX9_wantPart 2 none ∈ bg := bg_in (List.mem_of_getElem? (i := 967) rfl) rfl
theorem wd968 : Cond.methodLink "ClockLodgers$RuleReader" 38 (yX9_readPart : MethodName) ∈ bg := bg_in (List.mem_of_getElem? (i := 968) (by decide +kernel)) rfl
theorem wd970 : Cond.instanceMethod (yX9_readPart : MethodName) ∈ bg := bg_in (List.mem_of_getElem? (i := 970) (by decide +kernel)) rfl
set_option maxRecDepth 1000000 in
theorem wd971 : Cond.code (yX9_readPart : MethodName) cX9_readPart 2 (some .int) ∈ bg := bg_in (List.mem_of_getElem? (i := 971) rfl) rfl
theorem wd972 : Cond.methodLink "ClockLodgers$RuleReader" 42 (yX10_kind : MethodName) ∈ bg := bg_in (List.mem_of_getElem? (i := 972) (by decide +kernel)) rfl
theorem wd973 : Cond.methodLink "ClockLodgers$RuleReader" 63 (yX10_isWord : MethodName) ∈ bg := bg_in (List.mem_of_getElem? (i := 973) (by decide +kernel)) rfl
theorem wd974 : Cond.instanceMethod (yX10_isWord : MethodName) ∈ bg := bg_in (List.mem_of_getElem? (i := 974) (by decide +kernel)) rfl
theorem wd975 : Cond.selects "ClockLodgers$Tokens" (yX10_isWord : MethodName) (yX10_isWord : MethodName) ∈ bg := bg_in (List.mem_of_getElem? (i := 975) (by decide +kernel)) rfl
set_option maxRecDepth 1000000 in
theorem wd976 : Cond.code (yX10_isWord : MethodName) cX10_isWord 1 (some .boolean) ∈ bg := bg_in (List.mem_of_getElem? (i := 976) rfl) rfl
theorem wd977 : Cond.methodLink "ClockLodgers$RuleReader" 69 (yX9_readConstant : MethodName) ∈ bg := bg_in (List.mem_of_getElem? (i := 977) (by decide +kernel)) rfl
theorem wd979 : Cond.instanceMethod (yX9_readConstant : MethodName) ∈ bg := bg_in (List.mem_of_getElem? (i := 979) (by decide +kernel)) rfl
set_option maxRecDepth 1000000 in
theorem wd980 : Cond.code (yX9_readConstant : MethodName) cX9_readConstant 1 (some .int) ∈ bg := bg_in (List.mem_of_getElem? (i := 980) rfl) rfl
theorem wd981 : Cond.methodLink "ClockLodgers$RuleReader" 84 (yX10_number : MethodName) ∈ bg := bg_in (List.mem_of_getElem? (i := 981) (by decide +kernel)) rfl
theorem wd982 : Cond.methodLink "ClockLodgers$RuleReader" 87 (yX2_addCode : MethodName) ∈ bg := bg_in (List.mem_of_getElem? (i := 982) (by decide +kernel)) rfl
theorem wd983 : Cond.instanceMethod (yX2_addCode : MethodName) ∈ bg := bg_in (List.mem_of_getElem? (i := 983) (by decide +kernel)) rfl
theorem wd984 : Cond.selects "ClockLodgers$House" (yX2_addCode : MethodName) (yX2_addCode : MethodName) ∈ bg := bg_in (List.mem_of_getElem? (i := 984) (by decide +kernel)) rfl
set_option maxRecDepth 1000000 in
theorem wd985 : Cond.code (yX2_addCode : MethodName) cX2_addCode 2 none ∈ bg := bg_in (List.mem_of_getElem? (i := 985) rfl) rfl
theorem wd986 : Cond.methodLink "ClockLodgers$RuleReader" 81 (yX10_advance : MethodName) ∈ bg := bg_in (List.mem_of_getElem? (i := 986) (by decide +kernel)) rfl
theorem wd987 : Cond.methodLink "ClockLodgers$RuleReader" 72 (yX9_readNot : MethodName) ∈ bg := bg_in (List.mem_of_getElem? (i := 987) (by decide +kernel)) rfl
theorem wd989 : Cond.instanceMethod (yX9_readNot : MethodName) ∈ bg := bg_in (List.mem_of_getElem? (i := 989) (by decide +kernel)) rfl
set_option maxRecDepth 1000000 in
theorem wd990 : Cond.code (yX9_readNot : MethodName) cX9_readNot 1 (some .int) ∈ bg := bg_in (List.mem_of_getElem? (i := 990) rfl) rfl
theorem wd991 : Cond.methodLink "ClockLodgers$RuleReader" 78 (yX9_push : MethodName) ∈ bg := bg_in (List.mem_of_getElem? (i := 991) (by decide +kernel)) rfl
theorem wd993 : Cond.instanceMethod (yX9_push : MethodName) ∈ bg := bg_in (List.mem_of_getElem? (i := 993) (by decide +kernel)) rfl
set_option maxRecDepth 1000000 in
theorem wd994 : Cond.code (yX9_push : MethodName) cX9_push 2 none ∈ bg := bg_in (List.mem_of_getElem? (i := 994) rfl) rfl
theorem wd995 : Cond.methodLink "ClockLodgers$RuleReader" 75 (yX9_readValue : MethodName) ∈ bg := bg_in (List.mem_of_getElem? (i := 995) (by decide +kernel)) rfl
theorem wd997 : Cond.instanceMethod (yX9_readValue : MethodName) ∈ bg := bg_in (List.mem_of_getElem? (i := 997) (by decide +kernel)) rfl
set_option maxRecDepth 1000000 in
theorem wd998 : Cond.code (yX9_readValue : MethodName) cX9_readValue 1 (some .int) ∈ bg := bg_in (List.mem_of_getElem? (i := 998) rfl) rfl
theorem wd999 : Cond.methodLink "ClockLodgers$RuleReader" 47 (yX9_writeBinding : MethodName) ∈ bg := bg_in (List.mem_of_getElem? (i := 999) (by decide +kernel)) rfl
theorem wd1001 : Cond.instanceMethod (yX9_writeBinding : MethodName) ∈ bg := bg_in (List.mem_of_getElem? (i := 1001) (by decide +kernel)) rfl
set_option maxRecDepth 1000000 in
theorem wd1002 : Cond.code (yX9_writeBinding : MethodName) cX9_writeBinding 2 none ∈ bg := bg_in (List.mem_of_getElem? (i := 1002) rfl) rfl
theorem wd1003 : Cond.fieldLink "ClockLodgers$RuleReader" 95 "ClockLodgers$RuleReader" "BINDS" "[I" ∈ bg := bg_in (List.mem_of_getElem? (i := 1003) (by decide +kernel)) rfl
theorem wd1005 : Cond.methodLink "ClockLodgers$RuleReader" 51 (yX9_readClose : MethodName) ∈ bg := bg_in (List.mem_of_getElem? (i := 1005) (by decide +kernel)) rfl
theorem wd1007 : Cond.instanceMethod (yX9_readClose : MethodName) ∈ bg := bg_in (List.mem_of_getElem? (i := 1007) (by decide +kernel)) rfl
set_option maxRecDepth 1000000 in
theorem wd1008 : Cond.code (yX9_readClose : MethodName) cX9_readClose 1 (some .int) ∈ bg := bg_in (List.mem_of_getElem? (i := 1008) rfl) rfl
theorem wd1009 : Cond.methodLink "ClockLodgers$RuleReader" 54 (yX9_readOperator : MethodName) ∈ bg := bg_in (List.mem_of_getElem? (i := 1009) (by decide +kernel)) rfl
theorem wd1011 : Cond.instanceMethod (yX9_readOperator : MethodName) ∈ bg := bg_in (List.mem_of_getElem? (i := 1011) (by decide +kernel)) rfl
set_option maxRecDepth 1000000 in
theorem wd1012 : Cond.code (yX9_readOperator : MethodName) cX9_readOperator 2 (some .int) ∈ bg := bg_in (List.mem_of_getElem? (i := 1012) rfl) rfl
theorem wd1013 : Cond.methodLink "ClockLodgers$RuleReader" 92 (yX9_operatorTold : MethodName) ∈ bg := bg_in (List.mem_of_getElem? (i := 1013) (by decide +kernel)) rfl
theorem wd1015 : Cond.instanceMethod (yX9_operatorTold : MethodName) ∈ bg := bg_in (List.mem_of_getElem? (i := 1015) (by decide +kernel)) rfl
set_option maxRecDepth 1000000 in
theorem wd1016 : Cond.code (yX9_operatorTold : MethodName) cX9_operatorTold 1 (some .int) ∈ bg := bg_in (List.mem_of_getElem? (i := 1016) rfl) rfl
theorem wd1017 : Cond.methodLink "ClockLodgers$HouseReader" 58 (yX3_readEndOfLine : MethodName) ∈ bg := bg_in (List.mem_of_getElem? (i := 1017) (by decide +kernel)) rfl
theorem wd1019 : Cond.instanceMethod (yX3_readEndOfLine : MethodName) ∈ bg := bg_in (List.mem_of_getElem? (i := 1019) (by decide +kernel)) rfl
set_option maxRecDepth 1000000 in
theorem wd1020 : Cond.code (yX3_readEndOfLine : MethodName) cX3_readEndOfLine 1 (some .int) ∈ bg := bg_in (List.mem_of_getElem? (i := 1020) rfl) rfl
theorem wd1021 : Cond.methodLink "ClockLodgers" 116 (yX3_place : MethodName) ∈ bg := bg_in (List.mem_of_getElem? (i := 1021) (by decide +kernel)) rfl
theorem wd1022 : Cond.instanceMethod (yX3_place : MethodName) ∈ bg := bg_in (List.mem_of_getElem? (i := 1022) (by decide +kernel)) rfl
theorem wd1023 : Cond.selects "ClockLodgers$HouseReader" (yX3_place : MethodName) (yX3_place : MethodName) ∈ bg := bg_in (List.mem_of_getElem? (i := 1023) (by decide +kernel)) rfl
set_option maxRecDepth 1000000 in
theorem wd1024 : Cond.code (yX3_place : MethodName) cX3_place 1 (some .int) ∈ bg := bg_in (List.mem_of_getElem? (i := 1024) rfl) rfl
theorem wd1025 : Cond.methodLink "ClockLodgers$HouseReader" 61 (yX10_place : MethodName) ∈ bg := bg_in (List.mem_of_getElem? (i := 1025) (by decide +kernel)) rfl
theorem wd1026 : Cond.instanceMethod (yX10_place : MethodName) ∈ bg := bg_in (List.mem_of_getElem? (i := 1026) (by decide +kernel)) rfl
theorem wd1027 : Cond.selects "ClockLodgers$Tokens" (yX10_place : MethodName) (yX10_place : MethodName) ∈ bg := bg_in (List.mem_of_getElem? (i := 1027) (by decide +kernel)) rfl
set_option maxRecDepth 1000000 in
theorem wd1028 : Cond.code (yX10_place : MethodName) cX10_place 1 (some .int) ∈ bg := bg_in (List.mem_of_getElem? (i := 1028) rfl) rfl
theorem wd1029 : Cond.methodLink "ClockLodgers" 123 (yX2_copyFrom : MethodName) ∈ bg := bg_in (List.mem_of_getElem? (i := 1029) (by decide +kernel)) rfl
theorem wd1030 : Cond.instanceMethod (yX2_copyFrom : MethodName) ∈ bg := bg_in (List.mem_of_getElem? (i := 1030) (by decide +kernel)) rfl
theorem wd1031 : Cond.selects "ClockLodgers$House" (yX2_copyFrom : MethodName) (yX2_copyFrom : MethodName) ∈ bg := bg_in (List.mem_of_getElem? (i := 1031) (by decide +kernel)) rfl
set_option maxRecDepth 1000000 in
theorem wd1032 : Cond.code (yX2_copyFrom : MethodName) cX2_copyFrom 2 none ∈ bg := bg_in (List.mem_of_getElem? (i := 1032) rfl) rfl
theorem wd1033 : Cond.methodLink "ClockLodgers$House" 58 (⟨"java/lang/System", "arraycopy", "(Ljava/lang/Object;ILjava/lang/Object;II)V"⟩ : MethodName) ∈ bg := bg_in (List.mem_of_getElem? (i := 1033) (by decide +kernel)) rfl
theorem wd1034 : Cond.methodLink "ClockLodgers" 126 (yX4_clear : MethodName) ∈ bg := bg_in (List.mem_of_getElem? (i := 1034) (by decide +kernel)) rfl
theorem wd1035 : Cond.instanceMethod (yX4_clear : MethodName) ∈ bg := bg_in (List.mem_of_getElem? (i := 1035) (by decide +kernel)) rfl
theorem wd1036 : Cond.selects "ClockLodgers$Leases" (yX4_clear : MethodName) (yX4_clear : MethodName) ∈ bg := bg_in (List.mem_of_getElem? (i := 1036) (by decide +kernel)) rfl
set_option maxRecDepth 1000000 in
theorem wd1037 : Cond.code (yX4_clear : MethodName) cX4_clear 1 none ∈ bg := bg_in (List.mem_of_getElem? (i := 1037) rfl) rfl
theorem wd1038 : Cond.methodLink "ClockLodgers" 129 (yX5_clear : MethodName) ∈ bg := bg_in (List.mem_of_getElem? (i := 1038) (by decide +kernel)) rfl
theorem wd1039 : Cond.instanceMethod (yX5_clear : MethodName) ∈ bg := bg_in (List.mem_of_getElem? (i := 1039) (by decide +kernel)) rfl
theorem wd1040 : Cond.selects "ClockLodgers$Offers" (yX5_clear : MethodName) (yX5_clear : MethodName) ∈ bg := bg_in (List.mem_of_getElem? (i := 1040) (by decide +kernel)) rfl
set_option maxRecDepth 1000000 in
theorem wd1041 : Cond.code (yX5_clear : MethodName) cX5_clear 1 none ∈ bg := bg_in (List.mem_of_getElem? (i := 1041) rfl) rfl
theorem wd1042 : Cond.methodLink "ClockLodgers" 130 (yX0_forget : MethodName) ∈ bg := bg_in (List.mem_of_getElem? (i := 1042) (by decide +kernel)) rfl
theorem wd1043 : Cond.instanceMethod (yX0_forget : MethodName) ∈ bg := bg_in (List.mem_of_getElem? (i := 1043) (by decide +kernel)) rfl
theorem wd1044 : Cond.selects "ClockLodgers$Anew" (yX0_forget : MethodName) (yX0_forget : MethodName) ∈ bg := bg_in (List.mem_of_getElem? (i := 1044) (by decide +kernel)) rfl
set_option maxRecDepth 1000000 in
theorem wd1045 : Cond.code (yX0_forget : MethodName) cX0_forget 1 none ∈ bg := bg_in (List.mem_of_getElem? (i := 1045) rfl) rfl
theorem wd1046 : Cond.methodLink "ClockLodgers" 133 (yX7_forget : MethodName) ∈ bg := bg_in (List.mem_of_getElem? (i := 1046) (by decide +kernel)) rfl
theorem wd1047 : Cond.instanceMethod (yX7_forget : MethodName) ∈ bg := bg_in (List.mem_of_getElem? (i := 1047) (by decide +kernel)) rfl
theorem wd1048 : Cond.selects "ClockLodgers$Rounds" (yX7_forget : MethodName) (yX7_forget : MethodName) ∈ bg := bg_in (List.mem_of_getElem? (i := 1048) (by decide +kernel)) rfl
set_option maxRecDepth 1000000 in
theorem wd1049 : Cond.code (yX7_forget : MethodName) cX7_forget 1 none ∈ bg := bg_in (List.mem_of_getElem? (i := 1049) rfl) rfl
theorem wd1050 : Cond.methodLink "ClockLodgersLaw" 97 (yL_count : MethodName) ∈ bg := bg_in (List.mem_of_getElem? (i := 1050) (by decide +kernel)) rfl
theorem wd1051 : Cond.static (yL_count : MethodName) ∈ bg := bg_in (List.mem_of_getElem? (i := 1051) (by decide +kernel)) rfl
theorem wd1054 : Cond.methodLink "ClockLodgersLaw" 15 (yX11_count : MethodName) ∈ bg := bg_in (List.mem_of_getElem? (i := 1054) (by decide +kernel)) rfl
theorem wd1055 : Cond.instanceMethod (yX11_count : MethodName) ∈ bg := bg_in (List.mem_of_getElem? (i := 1055) (by decide +kernel)) rfl
theorem wd1056 : Cond.selects "ClockLodgers" (yX11_count : MethodName) (yX11_count : MethodName) ∈ bg := bg_in (List.mem_of_getElem? (i := 1056) (by decide +kernel)) rfl
set_option maxRecDepth 1000000 in
theorem wd1057 : Cond.code (yX11_count : MethodName) cX11_count 2 (some .int) ∈ bg := bg_in (List.mem_of_getElem? (i := 1057) rfl) rfl
theorem wd1061 : Cond.selects "java/util/NoSuchElementException" (⟨"java/lang/Throwable", "fillInStackTrace", "(I)Ljava/lang/Throwable;"⟩ : MethodName) (⟨"java/lang/Throwable", "fillInStackTrace", "(I)Ljava/lang/Throwable;"⟩ : MethodName) ∈ bg := bg_in (List.mem_of_getElem? (i := 1061) (by decide +kernel)) rfl
theorem wd1068 : Cond.methodLink "ClockLodgers" 167 (⟨"java/util/NoSuchElementException", "<init>", "(Ljava/lang/String;)V"⟩ : MethodName) ∈ bg := bg_in (List.mem_of_getElem? (i := 1068) (by decide +kernel)) rfl
theorem wd1069 : Cond.instanceMethod (⟨"java/util/NoSuchElementException", "<init>", "(Ljava/lang/String;)V"⟩ : MethodName) ∈ bg := bg_in (List.mem_of_getElem? (i := 1069) (by decide +kernel)) rfl
set_option maxRecDepth 1000000 in
theorem wd1070 : Cond.code (⟨"java/util/NoSuchElementException", "<init>", "(Ljava/lang/String;)V"⟩ : MethodName) prog_32_method_4_code 2 none ∈ bg := bg_in (List.mem_of_getElem? (i := 1070) rfl) rfl
theorem wd1071 : Cond.methodLink "java/util/NoSuchElementException" 13 (⟨"java/lang/RuntimeException", "<init>", "(Ljava/lang/String;)V"⟩ : MethodName) ∈ bg := bg_in (List.mem_of_getElem? (i := 1071) (by decide +kernel)) rfl
theorem wd1074 : Cond.methodLink "ClockLodgersLaw" 100 (yL_tenant : MethodName) ∈ bg := bg_in (List.mem_of_getElem? (i := 1074) (by decide +kernel)) rfl
theorem wd1075 : Cond.static (yL_tenant : MethodName) ∈ bg := bg_in (List.mem_of_getElem? (i := 1075) (by decide +kernel)) rfl
theorem wd1077 : Cond.methodLink "ClockLodgersLaw" 20 (yX11_tenant : MethodName) ∈ bg := bg_in (List.mem_of_getElem? (i := 1077) (by decide +kernel)) rfl
theorem wd1078 : Cond.instanceMethod (yX11_tenant : MethodName) ∈ bg := bg_in (List.mem_of_getElem? (i := 1078) (by decide +kernel)) rfl
theorem wd1079 : Cond.selects "ClockLodgers" (yX11_tenant : MethodName) (yX11_tenant : MethodName) ∈ bg := bg_in (List.mem_of_getElem? (i := 1079) (by decide +kernel)) rfl
set_option maxRecDepth 1000000 in
theorem wd1080 : Cond.code (yX11_tenant : MethodName) cX11_tenant 3 (some .int) ∈ bg := bg_in (List.mem_of_getElem? (i := 1080) rfl) rfl
theorem wd1081 : Cond.methodLink "ClockLodgers" 168 (yX11_needTenant : MethodName) ∈ bg := bg_in (List.mem_of_getElem? (i := 1081) (by decide +kernel)) rfl
theorem wd1083 : Cond.instanceMethod (yX11_needTenant : MethodName) ∈ bg := bg_in (List.mem_of_getElem? (i := 1083) (by decide +kernel)) rfl
set_option maxRecDepth 1000000 in
theorem wd1084 : Cond.code (yX11_needTenant : MethodName) cX11_needTenant 2 none ∈ bg := bg_in (List.mem_of_getElem? (i := 1084) rfl) rfl
theorem wd1085 : Cond.methodLink "ClockLodgers" 329 (yX2_hasTenant : MethodName) ∈ bg := bg_in (List.mem_of_getElem? (i := 1085) (by decide +kernel)) rfl
theorem wd1087 : Cond.methodLink "ClockLodgers" 183 (yX4_hoursInHalves : MethodName) ∈ bg := bg_in (List.mem_of_getElem? (i := 1087) (by decide +kernel)) rfl
theorem wd1088 : Cond.instanceMethod (yX4_hoursInHalves : MethodName) ∈ bg := bg_in (List.mem_of_getElem? (i := 1088) (by decide +kernel)) rfl
theorem wd1089 : Cond.selects "ClockLodgers$Leases" (yX4_hoursInHalves : MethodName) (yX4_hoursInHalves : MethodName) ∈ bg := bg_in (List.mem_of_getElem? (i := 1089) (by decide +kernel)) rfl
set_option maxRecDepth 1000000 in
theorem wd1090 : Cond.code (yX4_hoursInHalves : MethodName) cX4_hoursInHalves 2 (some .int) ∈ bg := bg_in (List.mem_of_getElem? (i := 1090) rfl) rfl
theorem wd1091 : Cond.methodLink "ClockLodgers$Leases" 108 (yJ6_bitCount_0f7a4 : MethodName) ∈ bg := bg_in (List.mem_of_getElem? (i := 1091) (by decide +kernel)) rfl
theorem wd1092 : Cond.static (yJ6_bitCount_0f7a4 : MethodName) ∈ bg := bg_in (List.mem_of_getElem? (i := 1092) (by decide +kernel)) rfl
set_option maxRecDepth 1000000 in
theorem wd1093 : Cond.code (yJ6_bitCount_0f7a4 : MethodName) cJ6_bitCount_0f7a4 1 (some .int) ∈ bg := bg_in (List.mem_of_getElem? (i := 1093) rfl) rfl
theorem wd1094 : Cond.constant "java/lang/Integer" 265 (1431655765 : Int32) ∈ bg := bg_in (List.mem_of_getElem? (i := 1094) (by decide +kernel)) rfl
theorem wd1095 : Cond.constant "java/lang/Integer" 266 (858993459 : Int32) ∈ bg := bg_in (List.mem_of_getElem? (i := 1095) (by decide +kernel)) rfl
theorem wd1096 : Cond.constant "java/lang/Integer" 267 (252645135 : Int32) ∈ bg := bg_in (List.mem_of_getElem? (i := 1096) (by decide +kernel)) rfl
theorem wd1097 : Cond.methodLink "ClockLodgers$Leases" 113 (yX4_hoursInPauses : MethodName) ∈ bg := bg_in (List.mem_of_getElem? (i := 1097) (by decide +kernel)) rfl
theorem wd1098 : Cond.instanceMethod (yX4_hoursInPauses : MethodName) ∈ bg := bg_in (List.mem_of_getElem? (i := 1098) (by decide +kernel)) rfl
theorem wd1099 : Cond.selects "ClockLodgers$Leases" (yX4_hoursInPauses : MethodName) (yX4_hoursInPauses : MethodName) ∈ bg := bg_in (List.mem_of_getElem? (i := 1099) (by decide +kernel)) rfl
set_option maxRecDepth 1000000 in
theorem wd1100 : Cond.code (yX4_hoursInPauses : MethodName) cX4_hoursInPauses 4 (some .int) ∈ bg := bg_in (List.mem_of_getElem? (i := 1100) rfl) rfl
theorem wd1101 : Cond.methodLink "ClockLodgers" 187 (yX4_hoursInPauses : MethodName) ∈ bg := bg_in (List.mem_of_getElem? (i := 1101) (by decide +kernel)) rfl
theorem wd1103 : Cond.methodLink "ClockLodgersLaw" 116 (yL_in : MethodName) ∈ bg := bg_in (List.mem_of_getElem? (i := 1103) (by decide +kernel)) rfl
theorem wd1104 : Cond.static (yL_in : MethodName) ∈ bg := bg_in (List.mem_of_getElem? (i := 1104) (by decide +kernel)) rfl
theorem wd1106 : Cond.methodLink "ClockLodgersLaw" 24 (yX11_in : MethodName) ∈ bg := bg_in (List.mem_of_getElem? (i := 1106) (by decide +kernel)) rfl
theorem wd1107 : Cond.instanceMethod (yX11_in : MethodName) ∈ bg := bg_in (List.mem_of_getElem? (i := 1107) (by decide +kernel)) rfl
theorem wd1108 : Cond.selects "ClockLodgers" (yX11_in : MethodName) (yX11_in : MethodName) ∈ bg := bg_in (List.mem_of_getElem? (i := 1108) (by decide +kernel)) rfl
set_option maxRecDepth 1000000 in
theorem wd1109 : Cond.code (yX11_in : MethodName) cX11_in 3 (some .int) ∈ bg := bg_in (List.mem_of_getElem? (i := 1109) rfl) rfl
theorem wd1111 : Cond.methodLink "ClockLodgers" 208 (yX11_needHour : MethodName) ∈ bg := bg_in (List.mem_of_getElem? (i := 1111) (by decide +kernel)) rfl
theorem wd1112 : Cond.static (yX11_needHour : MethodName) ∈ bg := bg_in (List.mem_of_getElem? (i := 1112) (by decide +kernel)) rfl
set_option maxRecDepth 1000000 in
theorem wd1113 : Cond.code (yX11_needHour : MethodName) cX11_needHour 1 none ∈ bg := bg_in (List.mem_of_getElem? (i := 1113) rfl) rfl
theorem wd1115 : Cond.methodLink "ClockLodgers" 211 (yX4_who : MethodName) ∈ bg := bg_in (List.mem_of_getElem? (i := 1115) (by decide +kernel)) rfl
theorem wd1116 : Cond.methodLink "ClockLodgersLaw" 119 (yL_swing : MethodName) ∈ bg := bg_in (List.mem_of_getElem? (i := 1116) (by decide +kernel)) rfl
theorem wd1117 : Cond.static (yL_swing : MethodName) ∈ bg := bg_in (List.mem_of_getElem? (i := 1117) (by decide +kernel)) rfl
theorem wd1119 : Cond.methodLink "ClockLodgersLaw" 27 (yX11_swing : MethodName) ∈ bg := bg_in (List.mem_of_getElem? (i := 1119) (by decide +kernel)) rfl
theorem wd1120 : Cond.instanceMethod (yX11_swing : MethodName) ∈ bg := bg_in (List.mem_of_getElem? (i := 1120) (by decide +kernel)) rfl
theorem wd1121 : Cond.selects "ClockLodgers" (yX11_swing : MethodName) (yX11_swing : MethodName) ∈ bg := bg_in (List.mem_of_getElem? (i := 1121) (by decide +kernel)) rfl
set_option maxRecDepth 1000000 in
theorem wd1122 : Cond.code (yX11_swing : MethodName) cX11_swing 3 (some .int) ∈ bg := bg_in (List.mem_of_getElem? (i := 1122) rfl) rfl
theorem wd1123 : Cond.methodLink "ClockLodgers" 215 (yX11_needDay : MethodName) ∈ bg := bg_in (List.mem_of_getElem? (i := 1123) (by decide +kernel)) rfl
theorem wd1124 : Cond.static (yX11_needDay : MethodName) ∈ bg := bg_in (List.mem_of_getElem? (i := 1124) (by decide +kernel)) rfl
set_option maxRecDepth 1000000 in
theorem wd1125 : Cond.code (yX11_needDay : MethodName) cX11_needDay 1 none ∈ bg := bg_in (List.mem_of_getElem? (i := 1125) rfl) rfl
theorem wd1127 : Cond.methodLink "ClockLodgers" 218 (yX2_oilLeft : MethodName) ∈ bg := bg_in (List.mem_of_getElem? (i := 1127) (by decide +kernel)) rfl
theorem wd1128 : Cond.instanceMethod (yX2_oilLeft : MethodName) ∈ bg := bg_in (List.mem_of_getElem? (i := 1128) (by decide +kernel)) rfl
theorem wd1129 : Cond.selects "ClockLodgers$House" (yX2_oilLeft : MethodName) (yX2_oilLeft : MethodName) ∈ bg := bg_in (List.mem_of_getElem? (i := 1129) (by decide +kernel)) rfl
set_option maxRecDepth 1000000 in
theorem wd1130 : Cond.code (yX2_oilLeft : MethodName) cX2_oilLeft 3 (some .int) ∈ bg := bg_in (List.mem_of_getElem? (i := 1130) rfl) rfl
theorem wd1131 : Cond.methodLink "ClockLodgers$House" 64 (yJ9_max_7cf53 : MethodName) ∈ bg := bg_in (List.mem_of_getElem? (i := 1131) (by decide +kernel)) rfl
theorem wd1132 : Cond.methodLink "ClockLodgers" 221 (yX6_swingIn : MethodName) ∈ bg := bg_in (List.mem_of_getElem? (i := 1132) (by decide +kernel)) rfl
theorem wd1133 : Cond.instanceMethod (yX6_swingIn : MethodName) ∈ bg := bg_in (List.mem_of_getElem? (i := 1133) (by decide +kernel)) rfl
theorem wd1134 : Cond.selects "ClockLodgers$Pendulum" (yX6_swingIn : MethodName) (yX6_swingIn : MethodName) ∈ bg := bg_in (List.mem_of_getElem? (i := 1134) (by decide +kernel)) rfl
set_option maxRecDepth 1000000 in
theorem wd1135 : Cond.code (yX6_swingIn : MethodName) cX6_swingIn 4 (some .int) ∈ bg := bg_in (List.mem_of_getElem? (i := 1135) rfl) rfl
theorem wd1136 : Cond.methodLink "ClockLodgers$Pendulum" 19 (yX6_present : MethodName) ∈ bg := bg_in (List.mem_of_getElem? (i := 1136) (by decide +kernel)) rfl
theorem wd1138 : Cond.instanceMethod (yX6_present : MethodName) ∈ bg := bg_in (List.mem_of_getElem? (i := 1138) (by decide +kernel)) rfl
set_option maxRecDepth 1000000 in
theorem wd1139 : Cond.code (yX6_present : MethodName) cX6_present 5 (some .int) ∈ bg := bg_in (List.mem_of_getElem? (i := 1139) rfl) rfl
theorem wd1140 : Cond.methodLink "ClockLodgers$Pendulum" 29 (yX4_who : MethodName) ∈ bg := bg_in (List.mem_of_getElem? (i := 1140) (by decide +kernel)) rfl
theorem wd1141 : Cond.methodLink "ClockLodgers$Pendulum" 23 (yX2_swingOf : MethodName) ∈ bg := bg_in (List.mem_of_getElem? (i := 1141) (by decide +kernel)) rfl
theorem wd1142 : Cond.instanceMethod (yX2_swingOf : MethodName) ∈ bg := bg_in (List.mem_of_getElem? (i := 1142) (by decide +kernel)) rfl
theorem wd1143 : Cond.selects "ClockLodgers$House" (yX2_swingOf : MethodName) (yX2_swingOf : MethodName) ∈ bg := bg_in (List.mem_of_getElem? (i := 1143) (by decide +kernel)) rfl
set_option maxRecDepth 1000000 in
theorem wd1144 : Cond.code (yX2_swingOf : MethodName) cX2_swingOf 7 (some .int) ∈ bg := bg_in (List.mem_of_getElem? (i := 1144) rfl) rfl
theorem wd1145 : Cond.methodLink "ClockLodgers$House" 74 (yX2_weightOf : MethodName) ∈ bg := bg_in (List.mem_of_getElem? (i := 1145) (by decide +kernel)) rfl
theorem wd1146 : Cond.methodLink "ClockLodgers$House" 77 (yX2_quarrelsOf : MethodName) ∈ bg := bg_in (List.mem_of_getElem? (i := 1146) (by decide +kernel)) rfl
theorem wd1147 : Cond.methodLink "ClockLodgersLaw" 122 (yL_slow : MethodName) ∈ bg := bg_in (List.mem_of_getElem? (i := 1147) (by decide +kernel)) rfl
theorem wd1148 : Cond.static (yL_slow : MethodName) ∈ bg := bg_in (List.mem_of_getElem? (i := 1148) (by decide +kernel)) rfl
theorem wd1150 : Cond.methodLink "ClockLodgersLaw" 30 (yX11_slow : MethodName) ∈ bg := bg_in (List.mem_of_getElem? (i := 1150) (by decide +kernel)) rfl
theorem wd1151 : Cond.instanceMethod (yX11_slow : MethodName) ∈ bg := bg_in (List.mem_of_getElem? (i := 1151) (by decide +kernel)) rfl
theorem wd1152 : Cond.selects "ClockLodgers" (yX11_slow : MethodName) (yX11_slow : MethodName) ∈ bg := bg_in (List.mem_of_getElem? (i := 1152) (by decide +kernel)) rfl
set_option maxRecDepth 1000000 in
theorem wd1153 : Cond.code (yX11_slow : MethodName) cX11_slow 4 (some .int) ∈ bg := bg_in (List.mem_of_getElem? (i := 1153) rfl) rfl
theorem wd1155 : Cond.methodLink "ClockLodgers" 227 (yX6_slowness : MethodName) ∈ bg := bg_in (List.mem_of_getElem? (i := 1155) (by decide +kernel)) rfl
theorem wd1156 : Cond.instanceMethod (yX6_slowness : MethodName) ∈ bg := bg_in (List.mem_of_getElem? (i := 1156) (by decide +kernel)) rfl
theorem wd1157 : Cond.selects "ClockLodgers$Pendulum" (yX6_slowness : MethodName) (yX6_slowness : MethodName) ∈ bg := bg_in (List.mem_of_getElem? (i := 1157) (by decide +kernel)) rfl
set_option maxRecDepth 1000000 in
theorem wd1158 : Cond.code (yX6_slowness : MethodName) cX6_slowness 7 (some .int) ∈ bg := bg_in (List.mem_of_getElem? (i := 1158) rfl) rfl
theorem wd1159 : Cond.methodLink "ClockLodgers$Pendulum" 35 (yX6_swingIn : MethodName) ∈ bg := bg_in (List.mem_of_getElem? (i := 1159) (by decide +kernel)) rfl
theorem wd1160 : Cond.methodLink "ClockLodgersLaw" 126 (yL_slowBy : MethodName) ∈ bg := bg_in (List.mem_of_getElem? (i := 1160) (by decide +kernel)) rfl
theorem wd1161 : Cond.static (yL_slowBy : MethodName) ∈ bg := bg_in (List.mem_of_getElem? (i := 1161) (by decide +kernel)) rfl
theorem wd1163 : Cond.methodLink "ClockLodgersLaw" 34 (yX11_slowBy : MethodName) ∈ bg := bg_in (List.mem_of_getElem? (i := 1163) (by decide +kernel)) rfl
theorem wd1164 : Cond.instanceMethod (yX11_slowBy : MethodName) ∈ bg := bg_in (List.mem_of_getElem? (i := 1164) (by decide +kernel)) rfl
theorem wd1165 : Cond.selects "ClockLodgers" (yX11_slowBy : MethodName) (yX11_slowBy : MethodName) ∈ bg := bg_in (List.mem_of_getElem? (i := 1165) (by decide +kernel)) rfl
set_option maxRecDepth 1000000 in
theorem wd1166 : Cond.code (yX11_slowBy : MethodName) cX11_slowBy 4 (some .int) ∈ bg := bg_in (List.mem_of_getElem? (i := 1166) rfl) rfl
theorem wd1167 : Cond.methodLink "ClockLodgers" 230 (yX6_slownessOfDay : MethodName) ∈ bg := bg_in (List.mem_of_getElem? (i := 1167) (by decide +kernel)) rfl
theorem wd1168 : Cond.instanceMethod (yX6_slownessOfDay : MethodName) ∈ bg := bg_in (List.mem_of_getElem? (i := 1168) (by decide +kernel)) rfl
theorem wd1169 : Cond.selects "ClockLodgers$Pendulum" (yX6_slownessOfDay : MethodName) (yX6_slownessOfDay : MethodName) ∈ bg := bg_in (List.mem_of_getElem? (i := 1169) (by decide +kernel)) rfl
set_option maxRecDepth 1000000 in
theorem wd1170 : Cond.code (yX6_slownessOfDay : MethodName) cX6_slownessOfDay 2 (some .int) ∈ bg := bg_in (List.mem_of_getElem? (i := 1170) rfl) rfl
theorem wd1171 : Cond.methodLink "ClockLodgers$Pendulum" 38 (yX6_slowness : MethodName) ∈ bg := bg_in (List.mem_of_getElem? (i := 1171) (by decide +kernel)) rfl
theorem wd1172 : Cond.methodLink "ClockLodgersLaw" 129 (yL_house4 : MethodName) ∈ bg := bg_in (List.mem_of_getElem? (i := 1172) (by decide +kernel)) rfl
theorem wd1173 : Cond.static (yL_house4 : MethodName) ∈ bg := bg_in (List.mem_of_getElem? (i := 1173) (by decide +kernel)) rfl
theorem wd1175 : Cond.methodLink "ClockLodgersLaw" 37 (yX11_house4 : MethodName) ∈ bg := bg_in (List.mem_of_getElem? (i := 1175) (by decide +kernel)) rfl
theorem wd1176 : Cond.instanceMethod (yX11_house4 : MethodName) ∈ bg := bg_in (List.mem_of_getElem? (i := 1176) (by decide +kernel)) rfl
theorem wd1177 : Cond.selects "ClockLodgers" (yX11_house4 : MethodName) (yX11_house4 : MethodName) ∈ bg := bg_in (List.mem_of_getElem? (i := 1177) (by decide +kernel)) rfl
set_option maxRecDepth 1000000 in
theorem wd1178 : Cond.code (yX11_house4 : MethodName) cX11_house4 3 (some .int) ∈ bg := bg_in (List.mem_of_getElem? (i := 1178) rfl) rfl
theorem wd1179 : Cond.methodLink "ClockLodgers" 233 (yX11_needTenantBits : MethodName) ∈ bg := bg_in (List.mem_of_getElem? (i := 1179) (by decide +kernel)) rfl
theorem wd1181 : Cond.instanceMethod (yX11_needTenantBits : MethodName) ∈ bg := bg_in (List.mem_of_getElem? (i := 1181) (by decide +kernel)) rfl
set_option maxRecDepth 1000000 in
theorem wd1182 : Cond.code (yX11_needTenantBits : MethodName) cX11_needTenantBits 2 none ∈ bg := bg_in (List.mem_of_getElem? (i := 1182) rfl) rfl
theorem wd1184 : Cond.methodLink "ClockLodgers" 236 (yJ6_bitCount_0f7a4 : MethodName) ∈ bg := bg_in (List.mem_of_getElem? (i := 1184) (by decide +kernel)) rfl
theorem wd1186 : Cond.methodLink "ClockLodgers" 243 (yX0_find : MethodName) ∈ bg := bg_in (List.mem_of_getElem? (i := 1186) (by decide +kernel)) rfl
theorem wd1187 : Cond.instanceMethod (yX0_find : MethodName) ∈ bg := bg_in (List.mem_of_getElem? (i := 1187) (by decide +kernel)) rfl
theorem wd1188 : Cond.selects "ClockLodgers$Anew" (yX0_find : MethodName) (yX0_find : MethodName) ∈ bg := bg_in (List.mem_of_getElem? (i := 1188) (by decide +kernel)) rfl
set_option maxRecDepth 1000000 in
theorem wd1189 : Cond.code (yX0_find : MethodName) cX0_find 5 (some .int) ∈ bg := bg_in (List.mem_of_getElem? (i := 1189) rfl) rfl
theorem wd1190 : Cond.methodLink "ClockLodgers$Anew" 48 (yX0_gather : MethodName) ∈ bg := bg_in (List.mem_of_getElem? (i := 1190) (by decide +kernel)) rfl
theorem wd1192 : Cond.instanceMethod (yX0_gather : MethodName) ∈ bg := bg_in (List.mem_of_getElem? (i := 1192) (by decide +kernel)) rfl
set_option maxRecDepth 1000000 in
theorem wd1193 : Cond.code (yX0_gather : MethodName) cX0_gather 5 none ∈ bg := bg_in (List.mem_of_getElem? (i := 1193) rfl) rfl
theorem wd1194 : Cond.methodLink "ClockLodgers$Anew" 79 (yX2_quarrelsOf : MethodName) ∈ bg := bg_in (List.mem_of_getElem? (i := 1194) (by decide +kernel)) rfl
theorem wd1195 : Cond.methodLink "ClockLodgers$Anew" 86 (yJ9_min_7cf53 : MethodName) ∈ bg := bg_in (List.mem_of_getElem? (i := 1195) (by decide +kernel)) rfl
theorem wd1196 : Cond.methodLink "ClockLodgers$Anew" 56 (yX0_measure : MethodName) ∈ bg := bg_in (List.mem_of_getElem? (i := 1196) (by decide +kernel)) rfl
theorem wd1198 : Cond.instanceMethod (yX0_measure : MethodName) ∈ bg := bg_in (List.mem_of_getElem? (i := 1198) (by decide +kernel)) rfl
set_option maxRecDepth 1000000 in
theorem wd1199 : Cond.code (yX0_measure : MethodName) cX0_measure 8 none ∈ bg := bg_in (List.mem_of_getElem? (i := 1199) rfl) rfl
theorem wd1200 : Cond.methodLink "ClockLodgers$Anew" 91 (yX0_fromOf : MethodName) ∈ bg := bg_in (List.mem_of_getElem? (i := 1200) (by decide +kernel)) rfl
theorem wd1201 : Cond.static (yX0_fromOf : MethodName) ∈ bg := bg_in (List.mem_of_getElem? (i := 1201) (by decide +kernel)) rfl
set_option maxRecDepth 1000000 in
theorem wd1202 : Cond.code (yX0_fromOf : MethodName) cX0_fromOf 1 (some .int) ∈ bg := bg_in (List.mem_of_getElem? (i := 1202) rfl) rfl
theorem wd1203 : Cond.methodLink "ClockLodgers$Anew" 95 (yX0_halfOf : MethodName) ∈ bg := bg_in (List.mem_of_getElem? (i := 1203) (by decide +kernel)) rfl
theorem wd1204 : Cond.static (yX0_halfOf : MethodName) ∈ bg := bg_in (List.mem_of_getElem? (i := 1204) (by decide +kernel)) rfl
set_option maxRecDepth 1000000 in
theorem wd1205 : Cond.code (yX0_halfOf : MethodName) cX0_halfOf 1 (some .int) ∈ bg := bg_in (List.mem_of_getElem? (i := 1205) rfl) rfl
theorem wd1206 : Cond.methodLink "ClockLodgers$Anew" 98 (yX2_breathLets : MethodName) ∈ bg := bg_in (List.mem_of_getElem? (i := 1206) (by decide +kernel)) rfl
theorem wd1207 : Cond.methodLink "ClockLodgers$Anew" 102 (yX0_goodHours : MethodName) ∈ bg := bg_in (List.mem_of_getElem? (i := 1207) (by decide +kernel)) rfl
theorem wd1209 : Cond.instanceMethod (yX0_goodHours : MethodName) ∈ bg := bg_in (List.mem_of_getElem? (i := 1209) (by decide +kernel)) rfl
set_option maxRecDepth 1000000 in
theorem wd1210 : Cond.code (yX0_goodHours : MethodName) cX0_goodHours 10 (some .int) ∈ bg := bg_in (List.mem_of_getElem? (i := 1210) rfl) rfl
theorem wd1211 : Cond.methodLink "ClockLodgers$Anew" 109 (yX2_weightOf : MethodName) ∈ bg := bg_in (List.mem_of_getElem? (i := 1211) (by decide +kernel)) rfl
theorem wd1212 : Cond.methodLink "ClockLodgers$Anew" 112 (yX8_holdOf : MethodName) ∈ bg := bg_in (List.mem_of_getElem? (i := 1212) (by decide +kernel)) rfl
theorem wd1214 : Cond.constant "ClockLodgers$Anew" 60 (1000000 : Int32) ∈ bg := bg_in (List.mem_of_getElem? (i := 1214) (by decide +kernel)) rfl
theorem wd1215 : Cond.methodLink "ClockLodgers$Anew" 64 (yX2_swingOf : MethodName) ∈ bg := bg_in (List.mem_of_getElem? (i := 1215) (by decide +kernel)) rfl
theorem wd1216 : Cond.methodLink "ClockLodgers$Anew" 70 (yX0_placeFrom : MethodName) ∈ bg := bg_in (List.mem_of_getElem? (i := 1216) (by decide +kernel)) rfl
theorem wd1218 : Cond.instanceMethod (yX0_placeFrom : MethodName) ∈ bg := bg_in (List.mem_of_getElem? (i := 1218) (by decide +kernel)) rfl
set_option maxRecDepth 1000000 in
theorem wd1219 : Cond.code (yX0_placeFrom : MethodName) cX0_placeFrom 4 none ∈ bg := bg_in (List.mem_of_getElem? (i := 1219) rfl) rfl
theorem wd1220 : Cond.methodLink "ClockLodgers$Anew" 118 (yX0_keepIfRulesHold : MethodName) ∈ bg := bg_in (List.mem_of_getElem? (i := 1220) (by decide +kernel)) rfl
theorem wd1222 : Cond.instanceMethod (yX0_keepIfRulesHold : MethodName) ∈ bg := bg_in (List.mem_of_getElem? (i := 1222) (by decide +kernel)) rfl
set_option maxRecDepth 1000000 in
theorem wd1223 : Cond.code (yX0_keepIfRulesHold : MethodName) cX0_keepIfRulesHold 6 none ∈ bg := bg_in (List.mem_of_getElem? (i := 1223) rfl) rfl
theorem wd1224 : Cond.methodLink "ClockLodgers$Anew" 132 (yJ9_abs_0f7a4 : MethodName) ∈ bg := bg_in (List.mem_of_getElem? (i := 1224) (by decide +kernel)) rfl
theorem wd1225 : Cond.static (yJ9_abs_0f7a4 : MethodName) ∈ bg := bg_in (List.mem_of_getElem? (i := 1225) (by decide +kernel)) rfl
set_option maxRecDepth 1000000 in
theorem wd1226 : Cond.code (yJ9_abs_0f7a4 : MethodName) cJ9_abs_0f7a4 1 (some .int) ∈ bg := bg_in (List.mem_of_getElem? (i := 1226) rfl) rfl
theorem wd1227 : Cond.methodLink "ClockLodgers$Anew" 135 (⟨"java/lang/System", "arraycopy", "(Ljava/lang/Object;ILjava/lang/Object;II)V"⟩ : MethodName) ∈ bg := bg_in (List.mem_of_getElem? (i := 1227) (by decide +kernel)) rfl
theorem wd1228 : Cond.methodLink "ClockLodgers$Anew" 121 (yX0_fits : MethodName) ∈ bg := bg_in (List.mem_of_getElem? (i := 1228) (by decide +kernel)) rfl
theorem wd1230 : Cond.instanceMethod (yX0_fits : MethodName) ∈ bg := bg_in (List.mem_of_getElem? (i := 1230) (by decide +kernel)) rfl
set_option maxRecDepth 1000000 in
theorem wd1231 : Cond.code (yX0_fits : MethodName) cX0_fits 8 (some .boolean) ∈ bg := bg_in (List.mem_of_getElem? (i := 1231) rfl) rfl
theorem wd1232 : Cond.methodLink "ClockLodgers$Anew" 124 (yX0_adds : MethodName) ∈ bg := bg_in (List.mem_of_getElem? (i := 1232) (by decide +kernel)) rfl
theorem wd1234 : Cond.instanceMethod (yX0_adds : MethodName) ∈ bg := bg_in (List.mem_of_getElem? (i := 1234) (by decide +kernel)) rfl
set_option maxRecDepth 1000000 in
theorem wd1235 : Cond.code (yX0_adds : MethodName) cX0_adds 6 (some .int) ∈ bg := bg_in (List.mem_of_getElem? (i := 1235) rfl) rfl
theorem wd1236 : Cond.methodLink "ClockLodgers$Anew" 127 (yJ6_bitCount_0f7a4 : MethodName) ∈ bg := bg_in (List.mem_of_getElem? (i := 1236) (by decide +kernel)) rfl
theorem wd1237 : Cond.methodLink "ClockLodgers$Anew" 73 (yX0_keep : MethodName) ∈ bg := bg_in (List.mem_of_getElem? (i := 1237) (by decide +kernel)) rfl
theorem wd1239 : Cond.instanceMethod (yX0_keep : MethodName) ∈ bg := bg_in (List.mem_of_getElem? (i := 1239) (by decide +kernel)) rfl
set_option maxRecDepth 1000000 in
theorem wd1240 : Cond.code (yX0_keep : MethodName) cX0_keep 2 none ∈ bg := bg_in (List.mem_of_getElem? (i := 1240) rfl) rfl
theorem wd1241 : Cond.methodLink "ClockLodgers$Anew" 141 (yJ7_fill_53178 : MethodName) ∈ bg := bg_in (List.mem_of_getElem? (i := 1241) (by decide +kernel)) rfl
theorem wd1242 : Cond.methodLink "ClockLodgersLaw" 132 (yL_housed : MethodName) ∈ bg := bg_in (List.mem_of_getElem? (i := 1242) (by decide +kernel)) rfl
theorem wd1243 : Cond.static (yL_housed : MethodName) ∈ bg := bg_in (List.mem_of_getElem? (i := 1243) (by decide +kernel)) rfl
theorem wd1245 : Cond.methodLink "ClockLodgersLaw" 40 (yX11_housed : MethodName) ∈ bg := bg_in (List.mem_of_getElem? (i := 1245) (by decide +kernel)) rfl
theorem wd1246 : Cond.instanceMethod (yX11_housed : MethodName) ∈ bg := bg_in (List.mem_of_getElem? (i := 1246) (by decide +kernel)) rfl
theorem wd1247 : Cond.selects "ClockLodgers" (yX11_housed : MethodName) (yX11_housed : MethodName) ∈ bg := bg_in (List.mem_of_getElem? (i := 1247) (by decide +kernel)) rfl
set_option maxRecDepth 1000000 in
theorem wd1248 : Cond.code (yX11_housed : MethodName) cX11_housed 2 (some .int) ∈ bg := bg_in (List.mem_of_getElem? (i := 1248) rfl) rfl
theorem wd1250 : Cond.methodLink "ClockLodgersLaw" 135 (yL_cuckoo : MethodName) ∈ bg := bg_in (List.mem_of_getElem? (i := 1250) (by decide +kernel)) rfl
theorem wd1251 : Cond.static (yL_cuckoo : MethodName) ∈ bg := bg_in (List.mem_of_getElem? (i := 1251) (by decide +kernel)) rfl
theorem wd1253 : Cond.methodLink "ClockLodgersLaw" 43 (yX11_cuckoo : MethodName) ∈ bg := bg_in (List.mem_of_getElem? (i := 1253) (by decide +kernel)) rfl
theorem wd1254 : Cond.instanceMethod (yX11_cuckoo : MethodName) ∈ bg := bg_in (List.mem_of_getElem? (i := 1254) (by decide +kernel)) rfl
theorem wd1255 : Cond.selects "ClockLodgers" (yX11_cuckoo : MethodName) (yX11_cuckoo : MethodName) ∈ bg := bg_in (List.mem_of_getElem? (i := 1255) (by decide +kernel)) rfl
set_option maxRecDepth 1000000 in
theorem wd1256 : Cond.code (yX11_cuckoo : MethodName) cX11_cuckoo 3 (some .int) ∈ bg := bg_in (List.mem_of_getElem? (i := 1256) rfl) rfl
theorem wd1258 : Cond.methodLink "ClockLodgers" 256 (yX1_gather : MethodName) ∈ bg := bg_in (List.mem_of_getElem? (i := 1258) (by decide +kernel)) rfl
theorem wd1259 : Cond.instanceMethod (yX1_gather : MethodName) ∈ bg := bg_in (List.mem_of_getElem? (i := 1259) (by decide +kernel)) rfl
theorem wd1260 : Cond.selects "ClockLodgers$CuckooCases" (yX1_gather : MethodName) (yX1_gather : MethodName) ∈ bg := bg_in (List.mem_of_getElem? (i := 1260) (by decide +kernel)) rfl
set_option maxRecDepth 1000000 in
theorem wd1261 : Cond.code (yX1_gather : MethodName) cX1_gather 3 none ∈ bg := bg_in (List.mem_of_getElem? (i := 1261) rfl) rfl
theorem wd1262 : Cond.methodLink "ClockLodgers$CuckooCases" 36 (yX2_breathLets : MethodName) ∈ bg := bg_in (List.mem_of_getElem? (i := 1262) (by decide +kernel)) rfl
theorem wd1263 : Cond.methodLink "ClockLodgers$CuckooCases" 40 (yX1_gatherWithLeft : MethodName) ∈ bg := bg_in (List.mem_of_getElem? (i := 1263) (by decide +kernel)) rfl
theorem wd1265 : Cond.instanceMethod (yX1_gatherWithLeft : MethodName) ∈ bg := bg_in (List.mem_of_getElem? (i := 1265) (by decide +kernel)) rfl
set_option maxRecDepth 1000000 in
theorem wd1266 : Cond.code (yX1_gatherWithLeft : MethodName) cX1_gatherWithLeft 3 none ∈ bg := bg_in (List.mem_of_getElem? (i := 1266) rfl) rfl
theorem wd1267 : Cond.methodLink "ClockLodgers$CuckooCases" 44 (yX1_gatherWithHalves : MethodName) ∈ bg := bg_in (List.mem_of_getElem? (i := 1267) (by decide +kernel)) rfl
theorem wd1269 : Cond.instanceMethod (yX1_gatherWithHalves : MethodName) ∈ bg := bg_in (List.mem_of_getElem? (i := 1269) (by decide +kernel)) rfl
set_option maxRecDepth 1000000 in
theorem wd1270 : Cond.code (yX1_gatherWithHalves : MethodName) cX1_gatherWithHalves 4 none ∈ bg := bg_in (List.mem_of_getElem? (i := 1270) rfl) rfl
theorem wd1271 : Cond.methodLink "ClockLodgers$CuckooCases" 48 (yX1_lookAt : MethodName) ∈ bg := bg_in (List.mem_of_getElem? (i := 1271) (by decide +kernel)) rfl
theorem wd1273 : Cond.instanceMethod (yX1_lookAt : MethodName) ∈ bg := bg_in (List.mem_of_getElem? (i := 1273) (by decide +kernel)) rfl
set_option maxRecDepth 1000000 in
theorem wd1274 : Cond.code (yX1_lookAt : MethodName) cX1_lookAt 5 none ∈ bg := bg_in (List.mem_of_getElem? (i := 1274) rfl) rfl
theorem wd1275 : Cond.methodLink "ClockLodgers$CuckooCases" 52 (yX2_oilLeft : MethodName) ∈ bg := bg_in (List.mem_of_getElem? (i := 1275) (by decide +kernel)) rfl
theorem wd1276 : Cond.methodLink "ClockLodgers$CuckooCases" 56 (yX2_swingOf : MethodName) ∈ bg := bg_in (List.mem_of_getElem? (i := 1276) (by decide +kernel)) rfl
theorem wd1277 : Cond.methodLink "ClockLodgers$CuckooCases" 60 (yX1_bitOf : MethodName) ∈ bg := bg_in (List.mem_of_getElem? (i := 1277) (by decide +kernel)) rfl
theorem wd1278 : Cond.static (yX1_bitOf : MethodName) ∈ bg := bg_in (List.mem_of_getElem? (i := 1278) (by decide +kernel)) rfl
set_option maxRecDepth 1000000 in
theorem wd1279 : Cond.code (yX1_bitOf : MethodName) cX1_bitOf 1 (some .int) ∈ bg := bg_in (List.mem_of_getElem? (i := 1279) rfl) rfl
theorem wd1280 : Cond.methodLink "ClockLodgersLaw" 138 (yL_visits : MethodName) ∈ bg := bg_in (List.mem_of_getElem? (i := 1280) (by decide +kernel)) rfl
theorem wd1281 : Cond.static (yL_visits : MethodName) ∈ bg := bg_in (List.mem_of_getElem? (i := 1281) (by decide +kernel)) rfl
theorem wd1283 : Cond.methodLink "ClockLodgersLaw" 46 (yX11_visits : MethodName) ∈ bg := bg_in (List.mem_of_getElem? (i := 1283) (by decide +kernel)) rfl
theorem wd1284 : Cond.instanceMethod (yX11_visits : MethodName) ∈ bg := bg_in (List.mem_of_getElem? (i := 1284) (by decide +kernel)) rfl
theorem wd1285 : Cond.selects "ClockLodgers" (yX11_visits : MethodName) (yX11_visits : MethodName) ∈ bg := bg_in (List.mem_of_getElem? (i := 1285) (by decide +kernel)) rfl
set_option maxRecDepth 1000000 in
theorem wd1286 : Cond.code (yX11_visits : MethodName) cX11_visits 3 (some .int) ∈ bg := bg_in (List.mem_of_getElem? (i := 1286) rfl) rfl
theorem wd1287 : Cond.methodLink "ClockLodgers" 271 (yX7_find : MethodName) ∈ bg := bg_in (List.mem_of_getElem? (i := 1287) (by decide +kernel)) rfl
theorem wd1288 : Cond.instanceMethod (yX7_find : MethodName) ∈ bg := bg_in (List.mem_of_getElem? (i := 1288) (by decide +kernel)) rfl
theorem wd1289 : Cond.selects "ClockLodgers$Rounds" (yX7_find : MethodName) (yX7_find : MethodName) ∈ bg := bg_in (List.mem_of_getElem? (i := 1289) (by decide +kernel)) rfl
set_option maxRecDepth 1000000 in
theorem wd1290 : Cond.code (yX7_find : MethodName) cX7_find 5 (some .int) ∈ bg := bg_in (List.mem_of_getElem? (i := 1290) rfl) rfl
theorem wd1291 : Cond.methodLink "ClockLodgers$Rounds" 29 (yX7_gatherHours : MethodName) ∈ bg := bg_in (List.mem_of_getElem? (i := 1291) (by decide +kernel)) rfl
theorem wd1293 : Cond.instanceMethod (yX7_gatherHours : MethodName) ∈ bg := bg_in (List.mem_of_getElem? (i := 1293) (by decide +kernel)) rfl
set_option maxRecDepth 1000000 in
theorem wd1294 : Cond.code (yX7_gatherHours : MethodName) cX7_gatherHours 5 none ∈ bg := bg_in (List.mem_of_getElem? (i := 1294) rfl) rfl
theorem wd1295 : Cond.methodLink "ClockLodgers$Rounds" 50 (yX4_hoursOf : MethodName) ∈ bg := bg_in (List.mem_of_getElem? (i := 1295) (by decide +kernel)) rfl
theorem wd1297 : Cond.methodLink "ClockLodgers$Rounds" 36 (yX7_canVisit : MethodName) ∈ bg := bg_in (List.mem_of_getElem? (i := 1297) (by decide +kernel)) rfl
theorem wd1299 : Cond.instanceMethod (yX7_canVisit : MethodName) ∈ bg := bg_in (List.mem_of_getElem? (i := 1299) (by decide +kernel)) rfl
set_option maxRecDepth 1000000 in
theorem wd1300 : Cond.code (yX7_canVisit : MethodName) cX7_canVisit 4 (some .boolean) ∈ bg := bg_in (List.mem_of_getElem? (i := 1300) rfl) rfl
theorem wd1301 : Cond.methodLink "ClockLodgers$Rounds" 56 (yJ6_bitCount_0f7a4 : MethodName) ∈ bg := bg_in (List.mem_of_getElem? (i := 1301) (by decide +kernel)) rfl
theorem wd1302 : Cond.methodLink "ClockLodgers$Rounds" 40 (yX7_choose : MethodName) ∈ bg := bg_in (List.mem_of_getElem? (i := 1302) (by decide +kernel)) rfl
theorem wd1304 : Cond.instanceMethod (yX7_choose : MethodName) ∈ bg := bg_in (List.mem_of_getElem? (i := 1304) (by decide +kernel)) rfl
set_option maxRecDepth 1000000 in
theorem wd1305 : Cond.code (yX7_choose : MethodName) cX7_choose 6 none ∈ bg := bg_in (List.mem_of_getElem? (i := 1305) rfl) rfl
theorem wd1306 : Cond.methodLink "ClockLodgers$Rounds" 61 (yX7_firstHour : MethodName) ∈ bg := bg_in (List.mem_of_getElem? (i := 1306) (by decide +kernel)) rfl
theorem wd1308 : Cond.instanceMethod (yX7_firstHour : MethodName) ∈ bg := bg_in (List.mem_of_getElem? (i := 1308) (by decide +kernel)) rfl
set_option maxRecDepth 1000000 in
theorem wd1309 : Cond.code (yX7_firstHour : MethodName) cX7_firstHour 5 (some .int) ∈ bg := bg_in (List.mem_of_getElem? (i := 1309) rfl) rfl
theorem wd1310 : Cond.methodLink "ClockLodgers$Rounds" 44 (⟨"java/lang/System", "arraycopy", "(Ljava/lang/Object;ILjava/lang/Object;II)V"⟩ : MethodName) ∈ bg := bg_in (List.mem_of_getElem? (i := 1310) (by decide +kernel)) rfl
theorem wd1311 : Cond.methodLink "ClockLodgersLaw" 141 (yL_visit : MethodName) ∈ bg := bg_in (List.mem_of_getElem? (i := 1311) (by decide +kernel)) rfl
theorem wd1312 : Cond.static (yL_visit : MethodName) ∈ bg := bg_in (List.mem_of_getElem? (i := 1312) (by decide +kernel)) rfl
theorem wd1314 : Cond.methodLink "ClockLodgersLaw" 49 (yX11_visit : MethodName) ∈ bg := bg_in (List.mem_of_getElem? (i := 1314) (by decide +kernel)) rfl
theorem wd1315 : Cond.instanceMethod (yX11_visit : MethodName) ∈ bg := bg_in (List.mem_of_getElem? (i := 1315) (by decide +kernel)) rfl
theorem wd1316 : Cond.selects "ClockLodgers" (yX11_visit : MethodName) (yX11_visit : MethodName) ∈ bg := bg_in (List.mem_of_getElem? (i := 1316) (by decide +kernel)) rfl
set_option maxRecDepth 1000000 in
theorem wd1317 : Cond.code (yX11_visit : MethodName) cX11_visit 2 (some .int) ∈ bg := bg_in (List.mem_of_getElem? (i := 1317) rfl) rfl
theorem wd1319 : Cond.methodLink "ClockLodgersLaw" 144 (yL_rent : MethodName) ∈ bg := bg_in (List.mem_of_getElem? (i := 1319) (by decide +kernel)) rfl
theorem wd1320 : Cond.static (yL_rent : MethodName) ∈ bg := bg_in (List.mem_of_getElem? (i := 1320) (by decide +kernel)) rfl
theorem wd1322 : Cond.methodLink "ClockLodgersLaw" 52 (yX11_rent : MethodName) ∈ bg := bg_in (List.mem_of_getElem? (i := 1322) (by decide +kernel)) rfl
theorem wd1323 : Cond.instanceMethod (yX11_rent : MethodName) ∈ bg := bg_in (List.mem_of_getElem? (i := 1323) (by decide +kernel)) rfl
theorem wd1324 : Cond.selects "ClockLodgers" (yX11_rent : MethodName) (yX11_rent : MethodName) ∈ bg := bg_in (List.mem_of_getElem? (i := 1324) (by decide +kernel)) rfl
set_option maxRecDepth 1000000 in
theorem wd1325 : Cond.code (yX11_rent : MethodName) cX11_rent 2 (some .int) ∈ bg := bg_in (List.mem_of_getElem? (i := 1325) rfl) rfl
theorem wd1326 : Cond.methodLink "ClockLodgers" 278 (yX4_rentOf : MethodName) ∈ bg := bg_in (List.mem_of_getElem? (i := 1326) (by decide +kernel)) rfl
theorem wd1327 : Cond.instanceMethod (yX4_rentOf : MethodName) ∈ bg := bg_in (List.mem_of_getElem? (i := 1327) (by decide +kernel)) rfl
theorem wd1328 : Cond.selects "ClockLodgers$Leases" (yX4_rentOf : MethodName) (yX4_rentOf : MethodName) ∈ bg := bg_in (List.mem_of_getElem? (i := 1328) (by decide +kernel)) rfl
set_option maxRecDepth 1000000 in
theorem wd1329 : Cond.code (yX4_rentOf : MethodName) cX4_rentOf 3 (some .int) ∈ bg := bg_in (List.mem_of_getElem? (i := 1329) rfl) rfl
theorem wd1330 : Cond.methodLink "ClockLodgers$Leases" 119 (yX4_hoursInHalves : MethodName) ∈ bg := bg_in (List.mem_of_getElem? (i := 1330) (by decide +kernel)) rfl
theorem wd1331 : Cond.methodLink "ClockLodgersLaw" 147 (yL_shared : MethodName) ∈ bg := bg_in (List.mem_of_getElem? (i := 1331) (by decide +kernel)) rfl
theorem wd1332 : Cond.static (yL_shared : MethodName) ∈ bg := bg_in (List.mem_of_getElem? (i := 1332) (by decide +kernel)) rfl
theorem wd1334 : Cond.methodLink "ClockLodgersLaw" 55 (yX11_shared : MethodName) ∈ bg := bg_in (List.mem_of_getElem? (i := 1334) (by decide +kernel)) rfl
theorem wd1335 : Cond.instanceMethod (yX11_shared : MethodName) ∈ bg := bg_in (List.mem_of_getElem? (i := 1335) (by decide +kernel)) rfl
theorem wd1336 : Cond.selects "ClockLodgers" (yX11_shared : MethodName) (yX11_shared : MethodName) ∈ bg := bg_in (List.mem_of_getElem? (i := 1336) (by decide +kernel)) rfl
set_option maxRecDepth 1000000 in
theorem wd1337 : Cond.code (yX11_shared : MethodName) cX11_shared 3 (some .int) ∈ bg := bg_in (List.mem_of_getElem? (i := 1337) rfl) rfl
theorem wd1339 : Cond.methodLink "ClockLodgers" 283 (yX4_shareOf : MethodName) ∈ bg := bg_in (List.mem_of_getElem? (i := 1339) (by decide +kernel)) rfl
theorem wd1340 : Cond.instanceMethod (yX4_shareOf : MethodName) ∈ bg := bg_in (List.mem_of_getElem? (i := 1340) (by decide +kernel)) rfl
theorem wd1341 : Cond.selects "ClockLodgers$Leases" (yX4_shareOf : MethodName) (yX4_shareOf : MethodName) ∈ bg := bg_in (List.mem_of_getElem? (i := 1341) (by decide +kernel)) rfl
set_option maxRecDepth 1000000 in
theorem wd1342 : Cond.code (yX4_shareOf : MethodName) cX4_shareOf 10 (some .int) ∈ bg := bg_in (List.mem_of_getElem? (i := 1342) rfl) rfl
theorem wd1343 : Cond.methodLink "ClockLodgers$Leases" 125 (yX4_rentOf : MethodName) ∈ bg := bg_in (List.mem_of_getElem? (i := 1343) (by decide +kernel)) rfl
theorem wd1344 : Cond.methodLink "ClockLodgersLaw" 154 (yL_sublet : MethodName) ∈ bg := bg_in (List.mem_of_getElem? (i := 1344) (by decide +kernel)) rfl
theorem wd1345 : Cond.static (yL_sublet : MethodName) ∈ bg := bg_in (List.mem_of_getElem? (i := 1345) (by decide +kernel)) rfl
theorem wd1347 : Cond.methodLink "ClockLodgersLaw" 58 (yX11_sublet : MethodName) ∈ bg := bg_in (List.mem_of_getElem? (i := 1347) (by decide +kernel)) rfl
theorem wd1348 : Cond.instanceMethod (yX11_sublet : MethodName) ∈ bg := bg_in (List.mem_of_getElem? (i := 1348) (by decide +kernel)) rfl
theorem wd1349 : Cond.selects "ClockLodgers" (yX11_sublet : MethodName) (yX11_sublet : MethodName) ∈ bg := bg_in (List.mem_of_getElem? (i := 1349) (by decide +kernel)) rfl
set_option maxRecDepth 1000000 in
theorem wd1350 : Cond.code (yX11_sublet : MethodName) cX11_sublet 2 (some .int) ∈ bg := bg_in (List.mem_of_getElem? (i := 1350) rfl) rfl
theorem wd1352 : Cond.methodLink "ClockLodgers" 291 (yX4_openPauses : MethodName) ∈ bg := bg_in (List.mem_of_getElem? (i := 1352) (by decide +kernel)) rfl
theorem wd1353 : Cond.instanceMethod (yX4_openPauses : MethodName) ∈ bg := bg_in (List.mem_of_getElem? (i := 1353) (by decide +kernel)) rfl
theorem wd1354 : Cond.selects "ClockLodgers$Leases" (yX4_openPauses : MethodName) (yX4_openPauses : MethodName) ∈ bg := bg_in (List.mem_of_getElem? (i := 1354) (by decide +kernel)) rfl
set_option maxRecDepth 1000000 in
theorem wd1355 : Cond.code (yX4_openPauses : MethodName) cX4_openPauses 1 (some .int) ∈ bg := bg_in (List.mem_of_getElem? (i := 1355) rfl) rfl
theorem wd1356 : Cond.methodLink "ClockLodgers" 294 (yX5_choose : MethodName) ∈ bg := bg_in (List.mem_of_getElem? (i := 1356) (by decide +kernel)) rfl
theorem wd1357 : Cond.instanceMethod (yX5_choose : MethodName) ∈ bg := bg_in (List.mem_of_getElem? (i := 1357) (by decide +kernel)) rfl
theorem wd1358 : Cond.selects "ClockLodgers$Offers" (yX5_choose : MethodName) (yX5_choose : MethodName) ∈ bg := bg_in (List.mem_of_getElem? (i := 1358) (by decide +kernel)) rfl
set_option maxRecDepth 1000000 in
theorem wd1359 : Cond.code (yX5_choose : MethodName) cX5_choose 4 none ∈ bg := bg_in (List.mem_of_getElem? (i := 1359) rfl) rfl
theorem wd1360 : Cond.methodLink "ClockLodgers$Offers" 38 (yX5_coinsOf : MethodName) ∈ bg := bg_in (List.mem_of_getElem? (i := 1360) (by decide +kernel)) rfl
theorem wd1362 : Cond.instanceMethod (yX5_coinsOf : MethodName) ∈ bg := bg_in (List.mem_of_getElem? (i := 1362) (by decide +kernel)) rfl
set_option maxRecDepth 1000000 in
theorem wd1363 : Cond.code (yX5_coinsOf : MethodName) cX5_coinsOf 6 (some .int) ∈ bg := bg_in (List.mem_of_getElem? (i := 1363) rfl) rfl
theorem wd1364 : Cond.methodLink "ClockLodgersLaw" 157 (yL_wedding : MethodName) ∈ bg := bg_in (List.mem_of_getElem? (i := 1364) (by decide +kernel)) rfl
theorem wd1365 : Cond.static (yL_wedding : MethodName) ∈ bg := bg_in (List.mem_of_getElem? (i := 1365) (by decide +kernel)) rfl
theorem wd1367 : Cond.methodLink "ClockLodgersLaw" 61 (yX11_wedding : MethodName) ∈ bg := bg_in (List.mem_of_getElem? (i := 1367) (by decide +kernel)) rfl
theorem wd1368 : Cond.instanceMethod (yX11_wedding : MethodName) ∈ bg := bg_in (List.mem_of_getElem? (i := 1368) (by decide +kernel)) rfl
theorem wd1369 : Cond.selects "ClockLodgers" (yX11_wedding : MethodName) (yX11_wedding : MethodName) ∈ bg := bg_in (List.mem_of_getElem? (i := 1369) (by decide +kernel)) rfl
set_option maxRecDepth 1000000 in
theorem wd1370 : Cond.code (yX11_wedding : MethodName) cX11_wedding 2 (some .int) ∈ bg := bg_in (List.mem_of_getElem? (i := 1370) rfl) rfl
theorem wd1371 : Cond.methodLink "ClockLodgers" 303 (yX6_firstWedding : MethodName) ∈ bg := bg_in (List.mem_of_getElem? (i := 1371) (by decide +kernel)) rfl
theorem wd1372 : Cond.instanceMethod (yX6_firstWedding : MethodName) ∈ bg := bg_in (List.mem_of_getElem? (i := 1372) (by decide +kernel)) rfl
theorem wd1373 : Cond.selects "ClockLodgers$Pendulum" (yX6_firstWedding : MethodName) (yX6_firstWedding : MethodName) ∈ bg := bg_in (List.mem_of_getElem? (i := 1373) (by decide +kernel)) rfl
set_option maxRecDepth 1000000 in
theorem wd1374 : Cond.code (yX6_firstWedding : MethodName) cX6_firstWedding 5 (some .int) ∈ bg := bg_in (List.mem_of_getElem? (i := 1374) rfl) rfl
theorem wd1375 : Cond.methodLink "ClockLodgers$Pendulum" 41 (yJ9_max_7cf53 : MethodName) ∈ bg := bg_in (List.mem_of_getElem? (i := 1375) (by decide +kernel)) rfl
theorem wd1376 : Cond.methodLink "ClockLodgers$Pendulum" 46 (yJ9_floorMod_7cf53 : MethodName) ∈ bg := bg_in (List.mem_of_getElem? (i := 1376) (by decide +kernel)) rfl
theorem wd1377 : Cond.static (yJ9_floorMod_7cf53 : MethodName) ∈ bg := bg_in (List.mem_of_getElem? (i := 1377) (by decide +kernel)) rfl
set_option maxRecDepth 1000000 in
theorem wd1378 : Cond.code (yJ9_floorMod_7cf53 : MethodName) cJ9_floorMod_7cf53 3 (some .int) ∈ bg := bg_in (List.mem_of_getElem? (i := 1378) rfl) rfl
theorem wd1379 : Cond.methodLink "ClockLodgers$Pendulum" 49 (yX2_oilLeft : MethodName) ∈ bg := bg_in (List.mem_of_getElem? (i := 1379) (by decide +kernel)) rfl
theorem wd1380 : Cond.methodLink "ClockLodgersLaw" 160 (yL_birthday : MethodName) ∈ bg := bg_in (List.mem_of_getElem? (i := 1380) (by decide +kernel)) rfl
theorem wd1381 : Cond.static (yL_birthday : MethodName) ∈ bg := bg_in (List.mem_of_getElem? (i := 1381) (by decide +kernel)) rfl
theorem wd1383 : Cond.methodLink "ClockLodgersLaw" 64 (yX11_birthday : MethodName) ∈ bg := bg_in (List.mem_of_getElem? (i := 1383) (by decide +kernel)) rfl
theorem wd1384 : Cond.instanceMethod (yX11_birthday : MethodName) ∈ bg := bg_in (List.mem_of_getElem? (i := 1384) (by decide +kernel)) rfl
theorem wd1385 : Cond.selects "ClockLodgers" (yX11_birthday : MethodName) (yX11_birthday : MethodName) ∈ bg := bg_in (List.mem_of_getElem? (i := 1385) (by decide +kernel)) rfl
set_option maxRecDepth 1000000 in
theorem wd1386 : Cond.code (yX11_birthday : MethodName) cX11_birthday 2 (some .int) ∈ bg := bg_in (List.mem_of_getElem? (i := 1386) rfl) rfl
theorem wd1387 : Cond.methodLink "ClockLodgers" 306 (yX6_daysToBirthday : MethodName) ∈ bg := bg_in (List.mem_of_getElem? (i := 1387) (by decide +kernel)) rfl
theorem wd1388 : Cond.instanceMethod (yX6_daysToBirthday : MethodName) ∈ bg := bg_in (List.mem_of_getElem? (i := 1388) (by decide +kernel)) rfl
theorem wd1389 : Cond.selects "ClockLodgers$Pendulum" (yX6_daysToBirthday : MethodName) (yX6_daysToBirthday : MethodName) ∈ bg := bg_in (List.mem_of_getElem? (i := 1389) (by decide +kernel)) rfl
set_option maxRecDepth 1000000 in
theorem wd1390 : Cond.code (yX6_daysToBirthday : MethodName) cX6_daysToBirthday 9 (some .int) ∈ bg := bg_in (List.mem_of_getElem? (i := 1390) rfl) rfl
theorem wd1391 : Cond.methodLink "ClockLodgers$Pendulum" 57 (yX6_slownessOfDay : MethodName) ∈ bg := bg_in (List.mem_of_getElem? (i := 1391) (by decide +kernel)) rfl
theorem wd1392 : Cond.methodLink "ClockLodgers$Pendulum" 60 (yX2_dayOfLessOil : MethodName) ∈ bg := bg_in (List.mem_of_getElem? (i := 1392) (by decide +kernel)) rfl
theorem wd1393 : Cond.instanceMethod (yX2_dayOfLessOil : MethodName) ∈ bg := bg_in (List.mem_of_getElem? (i := 1393) (by decide +kernel)) rfl
theorem wd1394 : Cond.selects "ClockLodgers$House" (yX2_dayOfLessOil : MethodName) (yX2_dayOfLessOil : MethodName) ∈ bg := bg_in (List.mem_of_getElem? (i := 1394) (by decide +kernel)) rfl
set_option maxRecDepth 1000000 in
theorem wd1395 : Cond.code (yX2_dayOfLessOil : MethodName) cX2_dayOfLessOil 2 (some .int) ∈ bg := bg_in (List.mem_of_getElem? (i := 1395) rfl) rfl
theorem wd1396 : Cond.methodLink "ClockLodgers$House" 70 (yX2_oilLeft : MethodName) ∈ bg := bg_in (List.mem_of_getElem? (i := 1396) (by decide +kernel)) rfl
theorem wd1397 : Cond.methodLink "ClockLodgers$Pendulum" 63 (yX6_daysToADay : MethodName) ∈ bg := bg_in (List.mem_of_getElem? (i := 1397) (by decide +kernel)) rfl
theorem wd1398 : Cond.static (yX6_daysToADay : MethodName) ∈ bg := bg_in (List.mem_of_getElem? (i := 1398) (by decide +kernel)) rfl
set_option maxRecDepth 1000000 in
theorem wd1399 : Cond.code (yX6_daysToADay : MethodName) cX6_daysToADay 2 (some .int) ∈ bg := bg_in (List.mem_of_getElem? (i := 1399) rfl) rfl
theorem wd1400 : Cond.methodLink "ClockLodgersLaw" 163 (yL_both : MethodName) ∈ bg := bg_in (List.mem_of_getElem? (i := 1400) (by decide +kernel)) rfl
theorem wd1401 : Cond.static (yL_both : MethodName) ∈ bg := bg_in (List.mem_of_getElem? (i := 1401) (by decide +kernel)) rfl
theorem wd1403 : Cond.methodLink "ClockLodgersLaw" 67 (yX11_both : MethodName) ∈ bg := bg_in (List.mem_of_getElem? (i := 1403) (by decide +kernel)) rfl
theorem wd1404 : Cond.instanceMethod (yX11_both : MethodName) ∈ bg := bg_in (List.mem_of_getElem? (i := 1404) (by decide +kernel)) rfl
theorem wd1405 : Cond.selects "ClockLodgers" (yX11_both : MethodName) (yX11_both : MethodName) ∈ bg := bg_in (List.mem_of_getElem? (i := 1405) (by decide +kernel)) rfl
set_option maxRecDepth 1000000 in
theorem wd1406 : Cond.code (yX11_both : MethodName) cX11_both 7 (some .int) ∈ bg := bg_in (List.mem_of_getElem? (i := 1406) rfl) rfl
theorem wd1409 : Cond.methodLink "ClockLodgers" 313 (yX6_hoursHere : MethodName) ∈ bg := bg_in (List.mem_of_getElem? (i := 1409) (by decide +kernel)) rfl
theorem wd1410 : Cond.instanceMethod (yX6_hoursHere : MethodName) ∈ bg := bg_in (List.mem_of_getElem? (i := 1410) (by decide +kernel)) rfl
theorem wd1411 : Cond.selects "ClockLodgers$Pendulum" (yX6_hoursHere : MethodName) (yX6_hoursHere : MethodName) ∈ bg := bg_in (List.mem_of_getElem? (i := 1411) (by decide +kernel)) rfl
set_option maxRecDepth 1000000 in
theorem wd1412 : Cond.code (yX6_hoursHere : MethodName) cX6_hoursHere 6 (some .int) ∈ bg := bg_in (List.mem_of_getElem? (i := 1412) rfl) rfl
theorem wd1413 : Cond.methodLink "ClockLodgers$Pendulum" 70 (yX6_fartherOfBoth : MethodName) ∈ bg := bg_in (List.mem_of_getElem? (i := 1413) (by decide +kernel)) rfl
theorem wd1414 : Cond.instanceMethod (yX6_fartherOfBoth : MethodName) ∈ bg := bg_in (List.mem_of_getElem? (i := 1414) (by decide +kernel)) rfl
theorem wd1415 : Cond.selects "ClockLodgers$Pendulum" (yX6_fartherOfBoth : MethodName) (yX6_fartherOfBoth : MethodName) ∈ bg := bg_in (List.mem_of_getElem? (i := 1415) (by decide +kernel)) rfl
set_option maxRecDepth 1000000 in
theorem wd1416 : Cond.code (yX6_fartherOfBoth : MethodName) cX6_fartherOfBoth 7 (some .int) ∈ bg := bg_in (List.mem_of_getElem? (i := 1416) rfl) rfl
theorem wd1417 : Cond.methodLink "ClockLodgers$Pendulum" 76 (yJ9_abs_0f7a4 : MethodName) ∈ bg := bg_in (List.mem_of_getElem? (i := 1417) (by decide +kernel)) rfl
theorem wd1418 : Cond.methodLink "ClockLodgers" 316 (yX6_fartherOfBoth : MethodName) ∈ bg := bg_in (List.mem_of_getElem? (i := 1418) (by decide +kernel)) rfl
theorem wd1419 : Cond.methodLink "ClockLodgersLaw" 167 (yL_wind : MethodName) ∈ bg := bg_in (List.mem_of_getElem? (i := 1419) (by decide +kernel)) rfl
theorem wd1420 : Cond.static (yL_wind : MethodName) ∈ bg := bg_in (List.mem_of_getElem? (i := 1420) (by decide +kernel)) rfl
theorem wd1422 : Cond.methodLink "ClockLodgersLaw" 71 (yX11_wind : MethodName) ∈ bg := bg_in (List.mem_of_getElem? (i := 1422) (by decide +kernel)) rfl
theorem wd1423 : Cond.instanceMethod (yX11_wind : MethodName) ∈ bg := bg_in (List.mem_of_getElem? (i := 1423) (by decide +kernel)) rfl
theorem wd1424 : Cond.selects "ClockLodgers" (yX11_wind : MethodName) (yX11_wind : MethodName) ∈ bg := bg_in (List.mem_of_getElem? (i := 1424) (by decide +kernel)) rfl
set_option maxRecDepth 1000000 in
theorem wd1425 : Cond.code (yX11_wind : MethodName) cX11_wind 4 (some .int) ∈ bg := bg_in (List.mem_of_getElem? (i := 1425) rfl) rfl
theorem wd1427 : Cond.methodLink "ClockLodgers" 321 (yX6_slowInWind : MethodName) ∈ bg := bg_in (List.mem_of_getElem? (i := 1427) (by decide +kernel)) rfl
theorem wd1428 : Cond.instanceMethod (yX6_slowInWind : MethodName) ∈ bg := bg_in (List.mem_of_getElem? (i := 1428) (by decide +kernel)) rfl
theorem wd1429 : Cond.selects "ClockLodgers$Pendulum" (yX6_slowInWind : MethodName) (yX6_slowInWind : MethodName) ∈ bg := bg_in (List.mem_of_getElem? (i := 1429) (by decide +kernel)) rfl
set_option maxRecDepth 1000000 in
theorem wd1430 : Cond.code (yX6_slowInWind : MethodName) cX6_slowInWind 8 (some .int) ∈ bg := bg_in (List.mem_of_getElem? (i := 1430) rfl) rfl
theorem wd1431 : Cond.constant "ClockLodgers$Pendulum" 79 (1103515245 : Int32) ∈ bg := bg_in (List.mem_of_getElem? (i := 1431) (by decide +kernel)) rfl
theorem wd1434 : Cond.methodLink "ClockLodgersLaw" 77 (yX12_init : MethodName) ∈ bg := bg_in (List.mem_of_getElem? (i := 1434) (by decide +kernel)) rfl
theorem wd1435 : Cond.instanceMethod (yX12_init : MethodName) ∈ bg := bg_in (List.mem_of_getElem? (i := 1435) (by decide +kernel)) rfl
set_option maxRecDepth 1000000 in
theorem wd1436 : Cond.code (yX12_init : MethodName) cX12_init 1 none ∈ bg := bg_in (List.mem_of_getElem? (i := 1436) rfl) rfl
theorem wd1437 : Cond.methodLink "ClockLodgersModel" 1 (⟨"java/lang/Object", "<init>", "()V"⟩ : MethodName) ∈ bg := bg_in (List.mem_of_getElem? (i := 1437) (by decide +kernel)) rfl
theorem wd1438 : Cond.fieldLink "ClockLodgersModel" 93 "ClockLodgersModel" "thrown" "I" ∈ bg := bg_in (List.mem_of_getElem? (i := 1438) (by decide +kernel)) rfl
theorem wd1439 : Cond.fieldLink "ClockLodgersModel" 7 "ClockLodgersModel" "base" "I" ∈ bg := bg_in (List.mem_of_getElem? (i := 1439) (by decide +kernel)) rfl
theorem wd1440 : Cond.fieldLink "ClockLodgersModel" 262 "ClockLodgersModel" "oil" "I" ∈ bg := bg_in (List.mem_of_getElem? (i := 1440) (by decide +kernel)) rfl
theorem wd1441 : Cond.fieldLink "ClockLodgersModel" 13 "ClockLodgersModel" "each" "I" ∈ bg := bg_in (List.mem_of_getElem? (i := 1441) (by decide +kernel)) rfl
theorem wd1442 : Cond.fieldLink "ClockLodgersModel" 16 "ClockLodgersModel" "stop" "I" ∈ bg := bg_in (List.mem_of_getElem? (i := 1442) (by decide +kernel)) rfl
theorem wd1443 : Cond.fieldLink "ClockLodgersModel" 265 "ClockLodgersModel" "tenants" "I" ∈ bg := bg_in (List.mem_of_getElem? (i := 1443) (by decide +kernel)) rfl
theorem wd1444 : Cond.fieldLink "ClockLodgersModel" 268 "ClockLodgersModel" "quarrels" "I" ∈ bg := bg_in (List.mem_of_getElem? (i := 1444) (by decide +kernel)) rfl
theorem wd1445 : Cond.fieldLink "ClockLodgersModel" 271 "ClockLodgersModel" "rules" "I" ∈ bg := bg_in (List.mem_of_getElem? (i := 1445) (by decide +kernel)) rfl
theorem wd1446 : Cond.fieldLink "ClockLodgersModel" 19 "ClockLodgersModel" "tenant" "[I" ∈ bg := bg_in (List.mem_of_getElem? (i := 1446) (by decide +kernel)) rfl
theorem wd1447 : Cond.fieldLink "ClockLodgersModel" 23 "ClockLodgersModel" "against" "[I" ∈ bg := bg_in (List.mem_of_getElem? (i := 1447) (by decide +kernel)) rfl
theorem wd1448 : Cond.fieldLink "ClockLodgersModel" 26 "ClockLodgersModel" "ruleAt" "[I" ∈ bg := bg_in (List.mem_of_getElem? (i := 1448) (by decide +kernel)) rfl
theorem wd1449 : Cond.fieldLink "ClockLodgersModel" 29 "ClockLodgersModel" "code" "[I" ∈ bg := bg_in (List.mem_of_getElem? (i := 1449) (by decide +kernel)) rfl
theorem wd1450 : Cond.fieldLink "ClockLodgersModel" 32 "ClockLodgersModel" "tape" "[I" ∈ bg := bg_in (List.mem_of_getElem? (i := 1450) (by decide +kernel)) rfl
theorem wd1451 : Cond.fieldLink "ClockLodgersModel" 96 "ClockLodgersModel" "taped" "I" ∈ bg := bg_in (List.mem_of_getElem? (i := 1451) (by decide +kernel)) rfl
theorem wd1452 : Cond.fieldLink "ClockLodgersModel" 149 "ClockLodgersModel" "faultKind" "I" ∈ bg := bg_in (List.mem_of_getElem? (i := 1452) (by decide +kernel)) rfl
theorem wd1453 : Cond.fieldLink "ClockLodgersModel" 35 "ClockLodgersModel" "faultPlace" "I" ∈ bg := bg_in (List.mem_of_getElem? (i := 1453) (by decide +kernel)) rfl
theorem wd1454 : Cond.fieldLink "ClockLodgersModel" 38 "ClockLodgersModel" "refused" "[I" ∈ bg := bg_in (List.mem_of_getElem? (i := 1454) (by decide +kernel)) rfl
theorem wd1455 : Cond.fieldLink "ClockLodgersModel" 103 "ClockLodgersModel" "long1" "I" ∈ bg := bg_in (List.mem_of_getElem? (i := 1455) (by decide +kernel)) rfl
theorem wd1456 : Cond.fieldLink "ClockLodgersModel" 106 "ClockLodgersModel" "next" "I" ∈ bg := bg_in (List.mem_of_getElem? (i := 1456) (by decide +kernel)) rfl
theorem wd1457 : Cond.fieldLink "ClockLodgersModel" 126 "ClockLodgersModel" "sort" "I" ∈ bg := bg_in (List.mem_of_getElem? (i := 1457) (by decide +kernel)) rfl
theorem wd1458 : Cond.fieldLink "ClockLodgersModel" 113 "ClockLodgersModel" "place" "I" ∈ bg := bg_in (List.mem_of_getElem? (i := 1458) (by decide +kernel)) rfl
theorem wd1459 : Cond.fieldLink "ClockLodgersModel" 136 "ClockLodgersModel" "long0" "I" ∈ bg := bg_in (List.mem_of_getElem? (i := 1459) (by decide +kernel)) rfl
theorem wd1460 : Cond.fieldLink "ClockLodgersModel" 120 "ClockLodgersModel" "value" "I" ∈ bg := bg_in (List.mem_of_getElem? (i := 1460) (by decide +kernel)) rfl
theorem wd1461 : Cond.fieldLink "ClockLodgersModel" 123 "ClockLodgersModel" "sign" "I" ∈ bg := bg_in (List.mem_of_getElem? (i := 1461) (by decide +kernel)) rfl
theorem wd1462 : Cond.fieldLink "ClockLodgersModel" 116 "ClockLodgersModel" "word" "J" ∈ bg := bg_in (List.mem_of_getElem? (i := 1462) (by decide +kernel)) rfl
theorem wd1463 : Cond.fieldLink "ClockLodgersModel" 231 "ClockLodgersModel" "newBase" "I" ∈ bg := bg_in (List.mem_of_getElem? (i := 1463) (by decide +kernel)) rfl
theorem wd1464 : Cond.fieldLink "ClockLodgersModel" 234 "ClockLodgersModel" "newOil" "I" ∈ bg := bg_in (List.mem_of_getElem? (i := 1464) (by decide +kernel)) rfl
theorem wd1465 : Cond.fieldLink "ClockLodgersModel" 237 "ClockLodgersModel" "newEach" "I" ∈ bg := bg_in (List.mem_of_getElem? (i := 1465) (by decide +kernel)) rfl
theorem wd1466 : Cond.fieldLink "ClockLodgersModel" 240 "ClockLodgersModel" "newStop" "I" ∈ bg := bg_in (List.mem_of_getElem? (i := 1466) (by decide +kernel)) rfl
theorem wd1467 : Cond.fieldLink "ClockLodgersModel" 212 "ClockLodgersModel" "newTenants" "I" ∈ bg := bg_in (List.mem_of_getElem? (i := 1467) (by decide +kernel)) rfl
theorem wd1468 : Cond.fieldLink "ClockLodgersModel" 222 "ClockLodgersModel" "newQuarrels" "I" ∈ bg := bg_in (List.mem_of_getElem? (i := 1468) (by decide +kernel)) rfl
theorem wd1469 : Cond.fieldLink "ClockLodgersModel" 249 "ClockLodgersModel" "newRules" "I" ∈ bg := bg_in (List.mem_of_getElem? (i := 1469) (by decide +kernel)) rfl
theorem wd1470 : Cond.fieldLink "ClockLodgersModel" 209 "ClockLodgersModel" "toldOnce" "I" ∈ bg := bg_in (List.mem_of_getElem? (i := 1470) (by decide +kernel)) rfl
theorem wd1471 : Cond.fieldLink "ClockLodgersModel" 162 "ClockLodgersModel" "top" "I" ∈ bg := bg_in (List.mem_of_getElem? (i := 1471) (by decide +kernel)) rfl
theorem wd1472 : Cond.fieldLink "ClockLodgersModel" 165 "ClockLodgersModel" "waiting" "I" ∈ bg := bg_in (List.mem_of_getElem? (i := 1472) (by decide +kernel)) rfl
theorem wd1473 : Cond.fieldLink "ClockLodgersModel" 181 "ClockLodgersModel" "depth" "I" ∈ bg := bg_in (List.mem_of_getElem? (i := 1473) (by decide +kernel)) rfl
theorem wd1474 : Cond.fieldLink "ClockLodgersModel" 41 "ClockLodgersModel" "newTenant" "[I" ∈ bg := bg_in (List.mem_of_getElem? (i := 1474) (by decide +kernel)) rfl
theorem wd1475 : Cond.fieldLink "ClockLodgersModel" 44 "ClockLodgersModel" "newAgainst" "[I" ∈ bg := bg_in (List.mem_of_getElem? (i := 1475) (by decide +kernel)) rfl
theorem wd1476 : Cond.fieldLink "ClockLodgersModel" 47 "ClockLodgersModel" "newRuleAt" "[I" ∈ bg := bg_in (List.mem_of_getElem? (i := 1476) (by decide +kernel)) rfl
theorem wd1477 : Cond.fieldLink "ClockLodgersModel" 50 "ClockLodgersModel" "readCode" "[I" ∈ bg := bg_in (List.mem_of_getElem? (i := 1477) (by decide +kernel)) rfl
theorem wd1478 : Cond.fieldLink "ClockLodgersModel" 53 "ClockLodgersModel" "waits" "[I" ∈ bg := bg_in (List.mem_of_getElem? (i := 1478) (by decide +kernel)) rfl
theorem wd1479 : Cond.fieldLink "ClockLodgersModel" 56 "ClockLodgersModel" "tested" "[Z" ∈ bg := bg_in (List.mem_of_getElem? (i := 1479) (by decide +kernel)) rfl
theorem wd1480 : Cond.fieldLink "ClockLodgersModel" 278 "ClockLodgersModel" "leases" "I" ∈ bg := bg_in (List.mem_of_getElem? (i := 1480) (by decide +kernel)) rfl
theorem wd1481 : Cond.fieldLink "ClockLodgersModel" 60 "ClockLodgersModel" "lease" "[I" ∈ bg := bg_in (List.mem_of_getElem? (i := 1481) (by decide +kernel)) rfl
theorem wd1482 : Cond.fieldLink "ClockLodgersModel" 63 "ClockLodgersModel" "trial" "[I" ∈ bg := bg_in (List.mem_of_getElem? (i := 1482) (by decide +kernel)) rfl
theorem wd1483 : Cond.fieldLink "ClockLodgersModel" 66 "ClockLodgersModel" "pile" "[I" ∈ bg := bg_in (List.mem_of_getElem? (i := 1483) (by decide +kernel)) rfl
theorem wd1484 : Cond.fieldLink "ClockLodgersModel" 69 "ClockLodgersModel" "who" "[I" ∈ bg := bg_in (List.mem_of_getElem? (i := 1484) (by decide +kernel)) rfl
theorem wd1485 : Cond.fieldLink "ClockLodgersModel" 72 "ClockLodgersModel" "way" "[I" ∈ bg := bg_in (List.mem_of_getElem? (i := 1485) (by decide +kernel)) rfl
theorem wd1486 : Cond.fieldLink "ClockLodgersModel" 75 "ClockLodgersModel" "housed" "[I" ∈ bg := bg_in (List.mem_of_getElem? (i := 1486) (by decide +kernel)) rfl
theorem wd1487 : Cond.fieldLink "ClockLodgersModel" 284 "ClockLodgersModel" "hasHoused" "Z" ∈ bg := bg_in (List.mem_of_getElem? (i := 1487) (by decide +kernel)) rfl
theorem wd1488 : Cond.fieldLink "ClockLodgersModel" 78 "ClockLodgersModel" "visiting" "[I" ∈ bg := bg_in (List.mem_of_getElem? (i := 1488) (by decide +kernel)) rfl
theorem wd1489 : Cond.fieldLink "ClockLodgersModel" 81 "ClockLodgersModel" "visited" "[I" ∈ bg := bg_in (List.mem_of_getElem? (i := 1489) (by decide +kernel)) rfl
theorem wd1490 : Cond.fieldLink "ClockLodgersModel" 288 "ClockLodgersModel" "hasVisits" "Z" ∈ bg := bg_in (List.mem_of_getElem? (i := 1490) (by decide +kernel)) rfl
theorem wd1491 : Cond.fieldLink "ClockLodgersModel" 281 "ClockLodgersModel" "offers" "I" ∈ bg := bg_in (List.mem_of_getElem? (i := 1491) (by decide +kernel)) rfl
theorem wd1492 : Cond.fieldLink "ClockLodgersModel" 84 "ClockLodgersModel" "offer" "[I" ∈ bg := bg_in (List.mem_of_getElem? (i := 1492) (by decide +kernel)) rfl
theorem wd1493 : Cond.fieldLink "ClockLodgersModel" 291 "ClockLodgersModel" "hasImage" "Z" ∈ bg := bg_in (List.mem_of_getElem? (i := 1493) (by decide +kernel)) rfl
theorem wd1494 : Cond.fieldLink "ClockLodgersModel" 393 "ClockLodgersModel" "imageLeases" "I" ∈ bg := bg_in (List.mem_of_getElem? (i := 1494) (by decide +kernel)) rfl
theorem wd1495 : Cond.fieldLink "ClockLodgersModel" 396 "ClockLodgersModel" "imageOffers" "I" ∈ bg := bg_in (List.mem_of_getElem? (i := 1495) (by decide +kernel)) rfl
theorem wd1496 : Cond.fieldLink "ClockLodgersModel" 87 "ClockLodgersModel" "imageLease" "[I" ∈ bg := bg_in (List.mem_of_getElem? (i := 1496) (by decide +kernel)) rfl
theorem wd1497 : Cond.fieldLink "ClockLodgersModel" 90 "ClockLodgersModel" "imageOffer" "[I" ∈ bg := bg_in (List.mem_of_getElem? (i := 1497) (by decide +kernel)) rfl
theorem wd1620 : Cond.methodLink "ClockLodgersLaw" 89 (yX12_thrown : MethodName) ∈ bg := bg_in (List.mem_of_getElem? (i := 1620) (by decide +kernel)) rfl
theorem wd1621 : Cond.instanceMethod (yX12_thrown : MethodName) ∈ bg := bg_in (List.mem_of_getElem? (i := 1621) (by decide +kernel)) rfl
theorem wd1622 : Cond.selects "ClockLodgersModel" (yX12_thrown : MethodName) (yX12_thrown : MethodName) ∈ bg := bg_in (List.mem_of_getElem? (i := 1622) (by decide +kernel)) rfl
set_option maxRecDepth 1000000 in
theorem wd1623 : Cond.code (yX12_thrown : MethodName) cX12_thrown 1 (some .int) ∈ bg := bg_in (List.mem_of_getElem? (i := 1623) rfl) rfl
theorem wd1624 : Cond.methodLink "ClockLodgersLaw" 82 (yX12_feed : MethodName) ∈ bg := bg_in (List.mem_of_getElem? (i := 1624) (by decide +kernel)) rfl
theorem wd1625 : Cond.instanceMethod (yX12_feed : MethodName) ∈ bg := bg_in (List.mem_of_getElem? (i := 1625) (by decide +kernel)) rfl
theorem wd1626 : Cond.selects "ClockLodgersModel" (yX12_feed : MethodName) (yX12_feed : MethodName) ∈ bg := bg_in (List.mem_of_getElem? (i := 1626) (by decide +kernel)) rfl
set_option maxRecDepth 1000000 in
theorem wd1627 : Cond.code (yX12_feed : MethodName) cX12_feed 6 (some .int) ∈ bg := bg_in (List.mem_of_getElem? (i := 1627) rfl) rfl
theorem wd1628 : Cond.methodLink "ClockLodgersModel" 99 (yX12_lays : MethodName) ∈ bg := bg_in (List.mem_of_getElem? (i := 1628) (by decide +kernel)) rfl
theorem wd1630 : Cond.instanceMethod (yX12_lays : MethodName) ∈ bg := bg_in (List.mem_of_getElem? (i := 1630) (by decide +kernel)) rfl
set_option maxRecDepth 1000000 in
theorem wd1631 : Cond.code (yX12_lays : MethodName) cX12_lays 3 none ∈ bg := bg_in (List.mem_of_getElem? (i := 1631) rfl) rfl
theorem wd1632 : Cond.methodLink "ClockLodgersLaw" 88 (yX12_house : MethodName) ∈ bg := bg_in (List.mem_of_getElem? (i := 1632) (by decide +kernel)) rfl
theorem wd1633 : Cond.instanceMethod (yX12_house : MethodName) ∈ bg := bg_in (List.mem_of_getElem? (i := 1633) (by decide +kernel)) rfl
theorem wd1634 : Cond.selects "ClockLodgersModel" (yX12_house : MethodName) (yX12_house : MethodName) ∈ bg := bg_in (List.mem_of_getElem? (i := 1634) (by decide +kernel)) rfl
set_option maxRecDepth 1000000 in
theorem wd1635 : Cond.code (yX12_house : MethodName) cX12_house 2 (some .int) ∈ bg := bg_in (List.mem_of_getElem? (i := 1635) rfl) rfl
theorem wd1636 : Cond.methodLink "ClockLodgersModel" 255 (yX12_right : MethodName) ∈ bg := bg_in (List.mem_of_getElem? (i := 1636) (by decide +kernel)) rfl
theorem wd1638 : Cond.instanceMethod (yX12_right : MethodName) ∈ bg := bg_in (List.mem_of_getElem? (i := 1638) (by decide +kernel)) rfl
set_option maxRecDepth 1000000 in
theorem wd1639 : Cond.code (yX12_right : MethodName) cX12_right 3 (some .boolean) ∈ bg := bg_in (List.mem_of_getElem? (i := 1639) rfl) rfl
theorem wd1640 : Cond.methodLink "ClockLodgersModel" 156 (yX12_goes : MethodName) ∈ bg := bg_in (List.mem_of_getElem? (i := 1640) (by decide +kernel)) rfl
theorem wd1642 : Cond.instanceMethod (yX12_goes : MethodName) ∈ bg := bg_in (List.mem_of_getElem? (i := 1642) (by decide +kernel)) rfl
set_option maxRecDepth 1000000 in
theorem wd1643 : Cond.code (yX12_goes : MethodName) cX12_goes 2 none ∈ bg := bg_in (List.mem_of_getElem? (i := 1643) rfl) rfl
theorem wd1644 : Cond.methodLink "ClockLodgersModel" 109 (yX12_byteAt : MethodName) ∈ bg := bg_in (List.mem_of_getElem? (i := 1644) (by decide +kernel)) rfl
theorem wd1646 : Cond.instanceMethod (yX12_byteAt : MethodName) ∈ bg := bg_in (List.mem_of_getElem? (i := 1646) (by decide +kernel)) rfl
set_option maxRecDepth 1000000 in
theorem wd1647 : Cond.code (yX12_byteAt : MethodName) cX12_byteAt 2 (some .int) ∈ bg := bg_in (List.mem_of_getElem? (i := 1647) rfl) rfl
theorem wd1648 : Cond.methodLink "ClockLodgersModel" 129 (yX12_isLetter : MethodName) ∈ bg := bg_in (List.mem_of_getElem? (i := 1648) (by decide +kernel)) rfl
theorem wd1649 : Cond.static (yX12_isLetter : MethodName) ∈ bg := bg_in (List.mem_of_getElem? (i := 1649) (by decide +kernel)) rfl
set_option maxRecDepth 1000000 in
theorem wd1650 : Cond.code (yX12_isLetter : MethodName) cX12_isLetter 1 (some .boolean) ∈ bg := bg_in (List.mem_of_getElem? (i := 1650) rfl) rfl
theorem wd1651 : Cond.methodLink "ClockLodgersModel" 133 (yX12_isDigit : MethodName) ∈ bg := bg_in (List.mem_of_getElem? (i := 1651) (by decide +kernel)) rfl
theorem wd1652 : Cond.static (yX12_isDigit : MethodName) ∈ bg := bg_in (List.mem_of_getElem? (i := 1652) (by decide +kernel)) rfl
set_option maxRecDepth 1000000 in
theorem wd1653 : Cond.code (yX12_isDigit : MethodName) cX12_isDigit 1 (some .boolean) ∈ bg := bg_in (List.mem_of_getElem? (i := 1653) rfl) rfl
theorem wd1654 : Cond.methodLink "ClockLodgersModel" 152 (yX12_isGood : MethodName) ∈ bg := bg_in (List.mem_of_getElem? (i := 1654) (by decide +kernel)) rfl
theorem wd1656 : Cond.instanceMethod (yX12_isGood : MethodName) ∈ bg := bg_in (List.mem_of_getElem? (i := 1656) (by decide +kernel)) rfl
set_option maxRecDepth 1000000 in
theorem wd1657 : Cond.code (yX12_isGood : MethodName) cX12_isGood 1 (some .boolean) ∈ bg := bg_in (List.mem_of_getElem? (i := 1657) rfl) rfl
theorem wd1658 : Cond.methodLink "ClockLodgersModel" 259 (yX12_line : MethodName) ∈ bg := bg_in (List.mem_of_getElem? (i := 1658) (by decide +kernel)) rfl
theorem wd1660 : Cond.instanceMethod (yX12_line : MethodName) ∈ bg := bg_in (List.mem_of_getElem? (i := 1660) (by decide +kernel)) rfl
set_option maxRecDepth 1000000 in
theorem wd1661 : Cond.code (yX12_line : MethodName) cX12_line 2 none ∈ bg := bg_in (List.mem_of_getElem? (i := 1661) rfl) rfl
theorem wd1662 : Cond.methodLink "ClockLodgersModel" 177 (yX12_knownWord : MethodName) ∈ bg := bg_in (List.mem_of_getElem? (i := 1662) (by decide +kernel)) rfl
theorem wd1664 : Cond.instanceMethod (yX12_knownWord : MethodName) ∈ bg := bg_in (List.mem_of_getElem? (i := 1664) (by decide +kernel)) rfl
set_option maxRecDepth 1000000 in
theorem wd1665 : Cond.code (yX12_knownWord : MethodName) cX12_knownWord 2 (some .int) ∈ bg := bg_in (List.mem_of_getElem? (i := 1665) rfl) rfl
theorem wd1666 : Cond.methodLink "ClockLodgersModel" 145 (yX12_letters : MethodName) ∈ bg := bg_in (List.mem_of_getElem? (i := 1666) (by decide +kernel)) rfl
theorem wd1667 : Cond.static (yX12_letters : MethodName) ∈ bg := bg_in (List.mem_of_getElem? (i := 1667) (by decide +kernel)) rfl
set_option maxRecDepth 1000000 in
theorem wd1668 : Cond.code (yX12_letters : MethodName) cX12_letters 1 (some .long) ∈ bg := bg_in (List.mem_of_getElem? (i := 1668) rfl) rfl
theorem wd1669 : Cond.methodLink "ClockLodgersModel" 141 (yX12_spelled : MethodName) ∈ bg := bg_in (List.mem_of_getElem? (i := 1669) (by decide +kernel)) rfl
theorem wd1670 : Cond.static (yX12_spelled : MethodName) ∈ bg := bg_in (List.mem_of_getElem? (i := 1670) (by decide +kernel)) rfl
set_option maxRecDepth 1000000 in
theorem wd1671 : Cond.code (yX12_spelled : MethodName) cX12_spelled 10 (some .long) ∈ bg := bg_in (List.mem_of_getElem? (i := 1671) rfl) rfl
theorem wd1672 : Cond.constantLong "ClockLodgersModel" 139 (96 : Int64) ∈ bg := bg_in (List.mem_of_getElem? (i := 1672) (by decide +kernel)) rfl
theorem wd1673 : Cond.methodLink "ClockLodgersModel" 228 (yX12_begins : MethodName) ∈ bg := bg_in (List.mem_of_getElem? (i := 1673) (by decide +kernel)) rfl
theorem wd1675 : Cond.instanceMethod (yX12_begins : MethodName) ∈ bg := bg_in (List.mem_of_getElem? (i := 1675) (by decide +kernel)) rfl
set_option maxRecDepth 1000000 in
theorem wd1676 : Cond.code (yX12_begins : MethodName) cX12_begins 3 (some .boolean) ∈ bg := bg_in (List.mem_of_getElem? (i := 1676) rfl) rfl
theorem wd1677 : Cond.methodLink "ClockLodgersModel" 159 (yX12_wrong : MethodName) ∈ bg := bg_in (List.mem_of_getElem? (i := 1677) (by decide +kernel)) rfl
theorem wd1679 : Cond.instanceMethod (yX12_wrong : MethodName) ∈ bg := bg_in (List.mem_of_getElem? (i := 1679) (by decide +kernel)) rfl
set_option maxRecDepth 1000000 in
theorem wd1680 : Cond.code (yX12_wrong : MethodName) cX12_wrong 2 none ∈ bg := bg_in (List.mem_of_getElem? (i := 1680) rfl) rfl
theorem wd1681 : Cond.methodLink "ClockLodgersModel" 215 (yX12_number : MethodName) ∈ bg := bg_in (List.mem_of_getElem? (i := 1681) (by decide +kernel)) rfl
theorem wd1683 : Cond.instanceMethod (yX12_number : MethodName) ∈ bg := bg_in (List.mem_of_getElem? (i := 1683) (by decide +kernel)) rfl
set_option maxRecDepth 1000000 in
theorem wd1684 : Cond.code (yX12_number : MethodName) cX12_number 4 (some .int) ∈ bg := bg_in (List.mem_of_getElem? (i := 1684) rfl) rfl
theorem wd1685 : Cond.methodLink "ClockLodgersModel" 243 (yX12_readsTenant : MethodName) ∈ bg := bg_in (List.mem_of_getElem? (i := 1685) (by decide +kernel)) rfl
theorem wd1687 : Cond.instanceMethod (yX12_readsTenant : MethodName) ∈ bg := bg_in (List.mem_of_getElem? (i := 1687) (by decide +kernel)) rfl
set_option maxRecDepth 1000000 in
theorem wd1688 : Cond.code (yX12_readsTenant : MethodName) cX12_readsTenant 3 none ∈ bg := bg_in (List.mem_of_getElem? (i := 1688) rfl) rfl
theorem wd1689 : Cond.methodLink "ClockLodgersModel" 219 (yX12_need : MethodName) ∈ bg := bg_in (List.mem_of_getElem? (i := 1689) (by decide +kernel)) rfl
theorem wd1691 : Cond.instanceMethod (yX12_need : MethodName) ∈ bg := bg_in (List.mem_of_getElem? (i := 1691) (by decide +kernel)) rfl
set_option maxRecDepth 1000000 in
theorem wd1692 : Cond.code (yX12_need : MethodName) cX12_need 2 none ∈ bg := bg_in (List.mem_of_getElem? (i := 1692) rfl) rfl
theorem wd1693 : Cond.methodLink "ClockLodgersModel" 246 (yX12_readsQuarrel : MethodName) ∈ bg := bg_in (List.mem_of_getElem? (i := 1693) (by decide +kernel)) rfl
theorem wd1695 : Cond.instanceMethod (yX12_readsQuarrel : MethodName) ∈ bg := bg_in (List.mem_of_getElem? (i := 1695) (by decide +kernel)) rfl
set_option maxRecDepth 1000000 in
theorem wd1696 : Cond.code (yX12_readsQuarrel : MethodName) cX12_readsQuarrel 2 none ∈ bg := bg_in (List.mem_of_getElem? (i := 1696) rfl) rfl
theorem wd1697 : Cond.methodLink "ClockLodgersModel" 225 (yX12_amongHere : MethodName) ∈ bg := bg_in (List.mem_of_getElem? (i := 1697) (by decide +kernel)) rfl
theorem wd1699 : Cond.instanceMethod (yX12_amongHere : MethodName) ∈ bg := bg_in (List.mem_of_getElem? (i := 1699) (by decide +kernel)) rfl
set_option maxRecDepth 1000000 in
theorem wd1700 : Cond.code (yX12_amongHere : MethodName) cX12_amongHere 2 (some .boolean) ∈ bg := bg_in (List.mem_of_getElem? (i := 1700) rfl) rfl
theorem wd1701 : Cond.methodLink "ClockLodgersModel" 252 (yX12_expression : MethodName) ∈ bg := bg_in (List.mem_of_getElem? (i := 1701) (by decide +kernel)) rfl
theorem wd1703 : Cond.instanceMethod (yX12_expression : MethodName) ∈ bg := bg_in (List.mem_of_getElem? (i := 1703) (by decide +kernel)) rfl
set_option maxRecDepth 1000000 in
theorem wd1704 : Cond.code (yX12_expression : MethodName) cX12_expression 3 none ∈ bg := bg_in (List.mem_of_getElem? (i := 1704) rfl) rfl
theorem wd1705 : Cond.methodLink "ClockLodgersModel" 190 (yX12_deeper : MethodName) ∈ bg := bg_in (List.mem_of_getElem? (i := 1705) (by decide +kernel)) rfl
theorem wd1707 : Cond.instanceMethod (yX12_deeper : MethodName) ∈ bg := bg_in (List.mem_of_getElem? (i := 1707) (by decide +kernel)) rfl
set_option maxRecDepth 1000000 in
theorem wd1708 : Cond.code (yX12_deeper : MethodName) cX12_deeper 1 none ∈ bg := bg_in (List.mem_of_getElem? (i := 1708) rfl) rfl
theorem wd1709 : Cond.methodLink "ClockLodgersModel" 184 (yX12_isSign : MethodName) ∈ bg := bg_in (List.mem_of_getElem? (i := 1709) (by decide +kernel)) rfl
theorem wd1711 : Cond.instanceMethod (yX12_isSign : MethodName) ∈ bg := bg_in (List.mem_of_getElem? (i := 1711) (by decide +kernel)) rfl
set_option maxRecDepth 1000000 in
theorem wd1712 : Cond.code (yX12_isSign : MethodName) cX12_isSign 2 (some .boolean) ∈ bg := bg_in (List.mem_of_getElem? (i := 1712) rfl) rfl
theorem wd1713 : Cond.methodLink "ClockLodgersModel" 199 (yX12_operand : MethodName) ∈ bg := bg_in (List.mem_of_getElem? (i := 1713) (by decide +kernel)) rfl
theorem wd1715 : Cond.instanceMethod (yX12_operand : MethodName) ∈ bg := bg_in (List.mem_of_getElem? (i := 1715) (by decide +kernel)) rfl
set_option maxRecDepth 1000000 in
theorem wd1716 : Cond.code (yX12_operand : MethodName) cX12_operand 5 none ∈ bg := bg_in (List.mem_of_getElem? (i := 1716) rfl) rfl
theorem wd1717 : Cond.methodLink "ClockLodgersModel" 187 (yX12_waitsFor : MethodName) ∈ bg := bg_in (List.mem_of_getElem? (i := 1717) (by decide +kernel)) rfl
theorem wd1719 : Cond.instanceMethod (yX12_waitsFor : MethodName) ∈ bg := bg_in (List.mem_of_getElem? (i := 1719) (by decide +kernel)) rfl
set_option maxRecDepth 1000000 in
theorem wd1720 : Cond.code (yX12_waitsFor : MethodName) cX12_waitsFor 2 none ∈ bg := bg_in (List.mem_of_getElem? (i := 1720) rfl) rfl
theorem wd1721 : Cond.methodLink "ClockLodgersModel" 193 (yX12_part : MethodName) ∈ bg := bg_in (List.mem_of_getElem? (i := 1721) (by decide +kernel)) rfl
theorem wd1723 : Cond.instanceMethod (yX12_part : MethodName) ∈ bg := bg_in (List.mem_of_getElem? (i := 1723) (by decide +kernel)) rfl
set_option maxRecDepth 1000000 in
theorem wd1724 : Cond.code (yX12_part : MethodName) cX12_part 2 none ∈ bg := bg_in (List.mem_of_getElem? (i := 1724) rfl) rfl
theorem wd1725 : Cond.methodLink "ClockLodgersModel" 174 (yX12_puts : MethodName) ∈ bg := bg_in (List.mem_of_getElem? (i := 1725) (by decide +kernel)) rfl
theorem wd1727 : Cond.instanceMethod (yX12_puts : MethodName) ∈ bg := bg_in (List.mem_of_getElem? (i := 1727) (by decide +kernel)) rfl
set_option maxRecDepth 1000000 in
theorem wd1728 : Cond.code (yX12_puts : MethodName) cX12_puts 2 none ∈ bg := bg_in (List.mem_of_getElem? (i := 1728) rfl) rfl
theorem wd1729 : Cond.methodLink "ClockLodgersModel" 196 (yX12_drops : MethodName) ∈ bg := bg_in (List.mem_of_getElem? (i := 1729) (by decide +kernel)) rfl
theorem wd1731 : Cond.instanceMethod (yX12_drops : MethodName) ∈ bg := bg_in (List.mem_of_getElem? (i := 1731) (by decide +kernel)) rfl
set_option maxRecDepth 1000000 in
theorem wd1732 : Cond.code (yX12_drops : MethodName) cX12_drops 2 none ∈ bg := bg_in (List.mem_of_getElem? (i := 1732) rfl) rfl
theorem wd1733 : Cond.methodLink "ClockLodgersModel" 168 (yX12_isOpen : MethodName) ∈ bg := bg_in (List.mem_of_getElem? (i := 1733) (by decide +kernel)) rfl
theorem wd1734 : Cond.static (yX12_isOpen : MethodName) ∈ bg := bg_in (List.mem_of_getElem? (i := 1734) (by decide +kernel)) rfl
set_option maxRecDepth 1000000 in
theorem wd1735 : Cond.code (yX12_isOpen : MethodName) cX12_isOpen 1 (some .boolean) ∈ bg := bg_in (List.mem_of_getElem? (i := 1735) rfl) rfl
theorem wd1736 : Cond.methodLink "ClockLodgersModel" 171 (yX12_strength : MethodName) ∈ bg := bg_in (List.mem_of_getElem? (i := 1736) (by decide +kernel)) rfl
theorem wd1737 : Cond.static (yX12_strength : MethodName) ∈ bg := bg_in (List.mem_of_getElem? (i := 1737) (by decide +kernel)) rfl
set_option maxRecDepth 1000000 in
theorem wd1738 : Cond.code (yX12_strength : MethodName) cX12_strength 1 (some .int) ∈ bg := bg_in (List.mem_of_getElem? (i := 1738) rfl) rfl
theorem wd1739 : Cond.methodLink "ClockLodgersModel" 203 (yX12_isOpened : MethodName) ∈ bg := bg_in (List.mem_of_getElem? (i := 1739) (by decide +kernel)) rfl
theorem wd1741 : Cond.instanceMethod (yX12_isOpened : MethodName) ∈ bg := bg_in (List.mem_of_getElem? (i := 1741) (by decide +kernel)) rfl
set_option maxRecDepth 1000000 in
theorem wd1742 : Cond.code (yX12_isOpened : MethodName) cX12_isOpened 2 (some .boolean) ∈ bg := bg_in (List.mem_of_getElem? (i := 1742) rfl) rfl
theorem wd1743 : Cond.methodLink "ClockLodgersModel" 206 (yX12_closes : MethodName) ∈ bg := bg_in (List.mem_of_getElem? (i := 1743) (by decide +kernel)) rfl
theorem wd1745 : Cond.instanceMethod (yX12_closes : MethodName) ∈ bg := bg_in (List.mem_of_getElem? (i := 1745) (by decide +kernel)) rfl
set_option maxRecDepth 1000000 in
theorem wd1746 : Cond.code (yX12_closes : MethodName) cX12_closes 1 none ∈ bg := bg_in (List.mem_of_getElem? (i := 1746) rfl) rfl
theorem wd1747 : Cond.methodLink "ClockLodgersModel" 274 (yX12_copies : MethodName) ∈ bg := bg_in (List.mem_of_getElem? (i := 1747) (by decide +kernel)) rfl
theorem wd1749 : Cond.instanceMethod (yX12_copies : MethodName) ∈ bg := bg_in (List.mem_of_getElem? (i := 1749) (by decide +kernel)) rfl
set_option maxRecDepth 1000000 in
theorem wd1750 : Cond.code (yX12_copies : MethodName) cX12_copies 4 none ∈ bg := bg_in (List.mem_of_getElem? (i := 1750) rfl) rfl
theorem wd1751 : Cond.methodLink "ClockLodgersLaw" 96 (yX12_fault : MethodName) ∈ bg := bg_in (List.mem_of_getElem? (i := 1751) (by decide +kernel)) rfl
theorem wd1752 : Cond.instanceMethod (yX12_fault : MethodName) ∈ bg := bg_in (List.mem_of_getElem? (i := 1752) (by decide +kernel)) rfl
theorem wd1753 : Cond.selects "ClockLodgersModel" (yX12_fault : MethodName) (yX12_fault : MethodName) ∈ bg := bg_in (List.mem_of_getElem? (i := 1753) (by decide +kernel)) rfl
set_option maxRecDepth 1000000 in
theorem wd1754 : Cond.code (yX12_fault : MethodName) cX12_fault 1 (some .int) ∈ bg := bg_in (List.mem_of_getElem? (i := 1754) rfl) rfl
theorem wd1755 : Cond.methodLink "ClockLodgersLaw" 99 (yX12_count : MethodName) ∈ bg := bg_in (List.mem_of_getElem? (i := 1755) (by decide +kernel)) rfl
theorem wd1756 : Cond.instanceMethod (yX12_count : MethodName) ∈ bg := bg_in (List.mem_of_getElem? (i := 1756) (by decide +kernel)) rfl
theorem wd1757 : Cond.selects "ClockLodgersModel" (yX12_count : MethodName) (yX12_count : MethodName) ∈ bg := bg_in (List.mem_of_getElem? (i := 1757) (by decide +kernel)) rfl
set_option maxRecDepth 1000000 in
theorem wd1758 : Cond.code (yX12_count : MethodName) cX12_count 2 (some .int) ∈ bg := bg_in (List.mem_of_getElem? (i := 1758) rfl) rfl
theorem wd1759 : Cond.methodLink "ClockLodgersModel" 294 (yX12_within : MethodName) ∈ bg := bg_in (List.mem_of_getElem? (i := 1759) (by decide +kernel)) rfl
theorem wd1760 : Cond.static (yX12_within : MethodName) ∈ bg := bg_in (List.mem_of_getElem? (i := 1760) (by decide +kernel)) rfl
set_option maxRecDepth 1000000 in
theorem wd1761 : Cond.code (yX12_within : MethodName) cX12_within 3 (some .boolean) ∈ bg := bg_in (List.mem_of_getElem? (i := 1761) rfl) rfl
theorem wd1762 : Cond.methodLink "ClockLodgersLaw" 107 (yX12_lease : MethodName) ∈ bg := bg_in (List.mem_of_getElem? (i := 1762) (by decide +kernel)) rfl
theorem wd1763 : Cond.instanceMethod (yX12_lease : MethodName) ∈ bg := bg_in (List.mem_of_getElem? (i := 1763) (by decide +kernel)) rfl
theorem wd1764 : Cond.selects "ClockLodgersModel" (yX12_lease : MethodName) (yX12_lease : MethodName) ∈ bg := bg_in (List.mem_of_getElem? (i := 1764) (by decide +kernel)) rfl
set_option maxRecDepth 1000000 in
theorem wd1765 : Cond.code (yX12_lease : MethodName) cX12_lease 6 (some .int) ∈ bg := bg_in (List.mem_of_getElem? (i := 1765) rfl) rfl
theorem wd1766 : Cond.methodLink "ClockLodgersModel" 331 (yX12_trouble : MethodName) ∈ bg := bg_in (List.mem_of_getElem? (i := 1766) (by decide +kernel)) rfl
theorem wd1768 : Cond.instanceMethod (yX12_trouble : MethodName) ∈ bg := bg_in (List.mem_of_getElem? (i := 1768) (by decide +kernel)) rfl
set_option maxRecDepth 1000000 in
theorem wd1769 : Cond.code (yX12_trouble : MethodName) cX12_trouble 9 (some .int) ∈ bg := bg_in (List.mem_of_getElem? (i := 1769) rfl) rfl
theorem wd1770 : Cond.methodLink "ClockLodgersModel" 323 (yX12_lets : MethodName) ∈ bg := bg_in (List.mem_of_getElem? (i := 1770) (by decide +kernel)) rfl
theorem wd1772 : Cond.instanceMethod (yX12_lets : MethodName) ∈ bg := bg_in (List.mem_of_getElem? (i := 1772) (by decide +kernel)) rfl
set_option maxRecDepth 1000000 in
theorem wd1773 : Cond.code (yX12_lets : MethodName) cX12_lets 3 (some .boolean) ∈ bg := bg_in (List.mem_of_getElem? (i := 1773) rfl) rfl
theorem wd1774 : Cond.methodLink "ClockLodgersModel" 298 (yX12_inOf : MethodName) ∈ bg := bg_in (List.mem_of_getElem? (i := 1774) (by decide +kernel)) rfl
theorem wd1775 : Cond.static (yX12_inOf : MethodName) ∈ bg := bg_in (List.mem_of_getElem? (i := 1775) (by decide +kernel)) rfl
set_option maxRecDepth 1000000 in
theorem wd1776 : Cond.code (yX12_inOf : MethodName) cX12_inOf 5 (some .int) ∈ bg := bg_in (List.mem_of_getElem? (i := 1776) rfl) rfl
theorem wd1777 : Cond.methodLink "ClockLodgersModel" 305 (yX12_allIn : MethodName) ∈ bg := bg_in (List.mem_of_getElem? (i := 1777) (by decide +kernel)) rfl
theorem wd1778 : Cond.static (yX12_allIn : MethodName) ∈ bg := bg_in (List.mem_of_getElem? (i := 1778) (by decide +kernel)) rfl
set_option maxRecDepth 1000000 in
theorem wd1779 : Cond.code (yX12_allIn : MethodName) cX12_allIn 6 (some .int) ∈ bg := bg_in (List.mem_of_getElem? (i := 1779) rfl) rfl
theorem wd1780 : Cond.methodLink "ClockLodgersModel" 327 (yX12_holds : MethodName) ∈ bg := bg_in (List.mem_of_getElem? (i := 1780) (by decide +kernel)) rfl
theorem wd1782 : Cond.instanceMethod (yX12_holds : MethodName) ∈ bg := bg_in (List.mem_of_getElem? (i := 1782) (by decide +kernel)) rfl
set_option maxRecDepth 1000000 in
theorem wd1783 : Cond.code (yX12_holds : MethodName) cX12_holds 6 (some .boolean) ∈ bg := bg_in (List.mem_of_getElem? (i := 1783) rfl) rfl
theorem wd1784 : Cond.methodLink "ClockLodgersModel" 320 (yX12_reckons : MethodName) ∈ bg := bg_in (List.mem_of_getElem? (i := 1784) (by decide +kernel)) rfl
theorem wd1786 : Cond.instanceMethod (yX12_reckons : MethodName) ∈ bg := bg_in (List.mem_of_getElem? (i := 1786) (by decide +kernel)) rfl
set_option maxRecDepth 1000000 in
theorem wd1787 : Cond.code (yX12_reckons : MethodName) cX12_reckons 9 (some .int) ∈ bg := bg_in (List.mem_of_getElem? (i := 1787) rfl) rfl
theorem wd1788 : Cond.methodLink "ClockLodgersModel" 312 (yX12_valueOf : MethodName) ∈ bg := bg_in (List.mem_of_getElem? (i := 1788) (by decide +kernel)) rfl
theorem wd1790 : Cond.instanceMethod (yX12_valueOf : MethodName) ∈ bg := bg_in (List.mem_of_getElem? (i := 1790) (by decide +kernel)) rfl
set_option maxRecDepth 1000000 in
theorem wd1791 : Cond.code (yX12_valueOf : MethodName) cX12_valueOf 7 (some .int) ∈ bg := bg_in (List.mem_of_getElem? (i := 1791) rfl) rfl
theorem wd1792 : Cond.methodLink "ClockLodgersModel" 302 (yX12_weightOf : MethodName) ∈ bg := bg_in (List.mem_of_getElem? (i := 1792) (by decide +kernel)) rfl
theorem wd1794 : Cond.instanceMethod (yX12_weightOf : MethodName) ∈ bg := bg_in (List.mem_of_getElem? (i := 1794) (by decide +kernel)) rfl
set_option maxRecDepth 1000000 in
theorem wd1795 : Cond.code (yX12_weightOf : MethodName) cX12_weightOf 2 (some .int) ∈ bg := bg_in (List.mem_of_getElem? (i := 1795) rfl) rfl
theorem wd1796 : Cond.methodLink "ClockLodgersModel" 309 (yX12_bits : MethodName) ∈ bg := bg_in (List.mem_of_getElem? (i := 1796) (by decide +kernel)) rfl
theorem wd1797 : Cond.static (yX12_bits : MethodName) ∈ bg := bg_in (List.mem_of_getElem? (i := 1797) (by decide +kernel)) rfl
set_option maxRecDepth 1000000 in
theorem wd1798 : Cond.code (yX12_bits : MethodName) cX12_bits 3 (some .int) ∈ bg := bg_in (List.mem_of_getElem? (i := 1798) rfl) rfl
theorem wd1799 : Cond.methodLink "ClockLodgersModel" 316 (yX12_works : MethodName) ∈ bg := bg_in (List.mem_of_getElem? (i := 1799) (by decide +kernel)) rfl
theorem wd1800 : Cond.static (yX12_works : MethodName) ∈ bg := bg_in (List.mem_of_getElem? (i := 1800) (by decide +kernel)) rfl
set_option maxRecDepth 1000000 in
theorem wd1801 : Cond.code (yX12_works : MethodName) cX12_works 3 (some .int) ∈ bg := bg_in (List.mem_of_getElem? (i := 1801) rfl) rfl
theorem wd1802 : Cond.methodLink "ClockLodgersLaw" 111 (yX12_judge : MethodName) ∈ bg := bg_in (List.mem_of_getElem? (i := 1802) (by decide +kernel)) rfl
theorem wd1803 : Cond.instanceMethod (yX12_judge : MethodName) ∈ bg := bg_in (List.mem_of_getElem? (i := 1803) (by decide +kernel)) rfl
theorem wd1804 : Cond.selects "ClockLodgersModel" (yX12_judge : MethodName) (yX12_judge : MethodName) ∈ bg := bg_in (List.mem_of_getElem? (i := 1804) (by decide +kernel)) rfl
set_option maxRecDepth 1000000 in
theorem wd1805 : Cond.code (yX12_judge : MethodName) cX12_judge 5 (some .int) ∈ bg := bg_in (List.mem_of_getElem? (i := 1805) rfl) rfl
theorem wd1806 : Cond.methodLink "ClockLodgersLaw" 115 (yX12_undo : MethodName) ∈ bg := bg_in (List.mem_of_getElem? (i := 1806) (by decide +kernel)) rfl
theorem wd1807 : Cond.instanceMethod (yX12_undo : MethodName) ∈ bg := bg_in (List.mem_of_getElem? (i := 1807) (by decide +kernel)) rfl
theorem wd1808 : Cond.selects "ClockLodgersModel" (yX12_undo : MethodName) (yX12_undo : MethodName) ∈ bg := bg_in (List.mem_of_getElem? (i := 1808) (by decide +kernel)) rfl
set_option maxRecDepth 1000000 in
theorem wd1809 : Cond.code (yX12_undo : MethodName) cX12_undo 1 (some .int) ∈ bg := bg_in (List.mem_of_getElem? (i := 1809) rfl) rfl
theorem wd1810 : Cond.methodLink "ClockLodgersLaw" 103 (yX12_tenant : MethodName) ∈ bg := bg_in (List.mem_of_getElem? (i := 1810) (by decide +kernel)) rfl
theorem wd1811 : Cond.instanceMethod (yX12_tenant : MethodName) ∈ bg := bg_in (List.mem_of_getElem? (i := 1811) (by decide +kernel)) rfl
theorem wd1812 : Cond.selects "ClockLodgersModel" (yX12_tenant : MethodName) (yX12_tenant : MethodName) ∈ bg := bg_in (List.mem_of_getElem? (i := 1812) (by decide +kernel)) rfl
set_option maxRecDepth 1000000 in
theorem wd1813 : Cond.code (yX12_tenant : MethodName) cX12_tenant 3 (some .int) ∈ bg := bg_in (List.mem_of_getElem? (i := 1813) rfl) rfl
theorem wd1814 : Cond.methodLink "ClockLodgersModel" 335 (yX12_isTenant : MethodName) ∈ bg := bg_in (List.mem_of_getElem? (i := 1814) (by decide +kernel)) rfl
theorem wd1816 : Cond.instanceMethod (yX12_isTenant : MethodName) ∈ bg := bg_in (List.mem_of_getElem? (i := 1816) (by decide +kernel)) rfl
set_option maxRecDepth 1000000 in
theorem wd1817 : Cond.code (yX12_isTenant : MethodName) cX12_isTenant 2 (some .boolean) ∈ bg := bg_in (List.mem_of_getElem? (i := 1817) rfl) rfl
theorem wd1818 : Cond.methodLink "ClockLodgersModel" 338 (yX12_hoursOf : MethodName) ∈ bg := bg_in (List.mem_of_getElem? (i := 1818) (by decide +kernel)) rfl
theorem wd1820 : Cond.instanceMethod (yX12_hoursOf : MethodName) ∈ bg := bg_in (List.mem_of_getElem? (i := 1820) (by decide +kernel)) rfl
set_option maxRecDepth 1000000 in
theorem wd1821 : Cond.code (yX12_hoursOf : MethodName) cX12_hoursOf 5 (some .int) ∈ bg := bg_in (List.mem_of_getElem? (i := 1821) rfl) rfl
theorem wd1822 : Cond.methodLink "ClockLodgersLaw" 118 (yX12_in : MethodName) ∈ bg := bg_in (List.mem_of_getElem? (i := 1822) (by decide +kernel)) rfl
theorem wd1823 : Cond.instanceMethod (yX12_in : MethodName) ∈ bg := bg_in (List.mem_of_getElem? (i := 1823) (by decide +kernel)) rfl
theorem wd1824 : Cond.selects "ClockLodgersModel" (yX12_in : MethodName) (yX12_in : MethodName) ∈ bg := bg_in (List.mem_of_getElem? (i := 1824) (by decide +kernel)) rfl
set_option maxRecDepth 1000000 in
theorem wd1825 : Cond.code (yX12_in : MethodName) cX12_in 3 (some .int) ∈ bg := bg_in (List.mem_of_getElem? (i := 1825) rfl) rfl
theorem wd1826 : Cond.methodLink "ClockLodgersModel" 342 (yX12_isHour : MethodName) ∈ bg := bg_in (List.mem_of_getElem? (i := 1826) (by decide +kernel)) rfl
theorem wd1828 : Cond.instanceMethod (yX12_isHour : MethodName) ∈ bg := bg_in (List.mem_of_getElem? (i := 1828) (by decide +kernel)) rfl
set_option maxRecDepth 1000000 in
theorem wd1829 : Cond.code (yX12_isHour : MethodName) cX12_isHour 2 (some .boolean) ∈ bg := bg_in (List.mem_of_getElem? (i := 1829) rfl) rfl
theorem wd1830 : Cond.methodLink "ClockLodgersLaw" 121 (yX12_swing : MethodName) ∈ bg := bg_in (List.mem_of_getElem? (i := 1830) (by decide +kernel)) rfl
theorem wd1831 : Cond.instanceMethod (yX12_swing : MethodName) ∈ bg := bg_in (List.mem_of_getElem? (i := 1831) (by decide +kernel)) rfl
theorem wd1832 : Cond.selects "ClockLodgersModel" (yX12_swing : MethodName) (yX12_swing : MethodName) ∈ bg := bg_in (List.mem_of_getElem? (i := 1832) (by decide +kernel)) rfl
set_option maxRecDepth 1000000 in
theorem wd1833 : Cond.code (yX12_swing : MethodName) cX12_swing 3 (some .int) ∈ bg := bg_in (List.mem_of_getElem? (i := 1833) rfl) rfl
theorem wd1834 : Cond.methodLink "ClockLodgersModel" 358 (yX12_isDay : MethodName) ∈ bg := bg_in (List.mem_of_getElem? (i := 1834) (by decide +kernel)) rfl
theorem wd1836 : Cond.instanceMethod (yX12_isDay : MethodName) ∈ bg := bg_in (List.mem_of_getElem? (i := 1836) (by decide +kernel)) rfl
set_option maxRecDepth 1000000 in
theorem wd1837 : Cond.code (yX12_isDay : MethodName) cX12_isDay 3 (some .boolean) ∈ bg := bg_in (List.mem_of_getElem? (i := 1837) rfl) rfl
theorem wd1838 : Cond.methodLink "ClockLodgersModel" 351 (yX12_swingOf : MethodName) ∈ bg := bg_in (List.mem_of_getElem? (i := 1838) (by decide +kernel)) rfl
theorem wd1840 : Cond.instanceMethod (yX12_swingOf : MethodName) ∈ bg := bg_in (List.mem_of_getElem? (i := 1840) (by decide +kernel)) rfl
set_option maxRecDepth 1000000 in
theorem wd1841 : Cond.code (yX12_swingOf : MethodName) cX12_swingOf 5 (some .int) ∈ bg := bg_in (List.mem_of_getElem? (i := 1841) rfl) rfl
theorem wd1842 : Cond.methodLink "ClockLodgersModel" 348 (yX12_swingBy : MethodName) ∈ bg := bg_in (List.mem_of_getElem? (i := 1842) (by decide +kernel)) rfl
theorem wd1844 : Cond.instanceMethod (yX12_swingBy : MethodName) ∈ bg := bg_in (List.mem_of_getElem? (i := 1844) (by decide +kernel)) rfl
set_option maxRecDepth 1000000 in
theorem wd1845 : Cond.code (yX12_swingBy : MethodName) cX12_swingBy 6 (some .int) ∈ bg := bg_in (List.mem_of_getElem? (i := 1845) rfl) rfl
theorem wd1846 : Cond.methodLink "ClockLodgersModel" 345 (yX12_oilOn : MethodName) ∈ bg := bg_in (List.mem_of_getElem? (i := 1846) (by decide +kernel)) rfl
theorem wd1848 : Cond.instanceMethod (yX12_oilOn : MethodName) ∈ bg := bg_in (List.mem_of_getElem? (i := 1848) (by decide +kernel)) rfl
set_option maxRecDepth 1000000 in
theorem wd1849 : Cond.code (yX12_oilOn : MethodName) cX12_oilOn 3 (some .int) ∈ bg := bg_in (List.mem_of_getElem? (i := 1849) rfl) rfl
theorem wd1850 : Cond.methodLink "ClockLodgersLaw" 125 (yX12_slow : MethodName) ∈ bg := bg_in (List.mem_of_getElem? (i := 1850) (by decide +kernel)) rfl
theorem wd1851 : Cond.instanceMethod (yX12_slow : MethodName) ∈ bg := bg_in (List.mem_of_getElem? (i := 1851) (by decide +kernel)) rfl
theorem wd1852 : Cond.selects "ClockLodgersModel" (yX12_slow : MethodName) (yX12_slow : MethodName) ∈ bg := bg_in (List.mem_of_getElem? (i := 1852) (by decide +kernel)) rfl
set_option maxRecDepth 1000000 in
theorem wd1853 : Cond.code (yX12_slow : MethodName) cX12_slow 4 (some .int) ∈ bg := bg_in (List.mem_of_getElem? (i := 1853) rfl) rfl
theorem wd1854 : Cond.methodLink "ClockLodgersModel" 354 (yX12_slowOf : MethodName) ∈ bg := bg_in (List.mem_of_getElem? (i := 1854) (by decide +kernel)) rfl
theorem wd1856 : Cond.instanceMethod (yX12_slowOf : MethodName) ∈ bg := bg_in (List.mem_of_getElem? (i := 1856) (by decide +kernel)) rfl
set_option maxRecDepth 1000000 in
theorem wd1857 : Cond.code (yX12_slowOf : MethodName) cX12_slowOf 8 (some .int) ∈ bg := bg_in (List.mem_of_getElem? (i := 1857) rfl) rfl
theorem wd1858 : Cond.methodLink "ClockLodgersLaw" 128 (yX12_slowBy : MethodName) ∈ bg := bg_in (List.mem_of_getElem? (i := 1858) (by decide +kernel)) rfl
theorem wd1859 : Cond.instanceMethod (yX12_slowBy : MethodName) ∈ bg := bg_in (List.mem_of_getElem? (i := 1859) (by decide +kernel)) rfl
theorem wd1860 : Cond.selects "ClockLodgersModel" (yX12_slowBy : MethodName) (yX12_slowBy : MethodName) ∈ bg := bg_in (List.mem_of_getElem? (i := 1860) (by decide +kernel)) rfl
set_option maxRecDepth 1000000 in
theorem wd1861 : Cond.code (yX12_slowBy : MethodName) cX12_slowBy 5 (some .int) ∈ bg := bg_in (List.mem_of_getElem? (i := 1861) rfl) rfl
theorem wd1862 : Cond.methodLink "ClockLodgersModel" 361 (yX12_slowDay : MethodName) ∈ bg := bg_in (List.mem_of_getElem? (i := 1862) (by decide +kernel)) rfl
theorem wd1864 : Cond.instanceMethod (yX12_slowDay : MethodName) ∈ bg := bg_in (List.mem_of_getElem? (i := 1864) (by decide +kernel)) rfl
set_option maxRecDepth 1000000 in
theorem wd1865 : Cond.code (yX12_slowDay : MethodName) cX12_slowDay 2 (some .int) ∈ bg := bg_in (List.mem_of_getElem? (i := 1865) rfl) rfl
theorem wd1866 : Cond.methodLink "ClockLodgersLaw" 131 (yX12_house4 : MethodName) ∈ bg := bg_in (List.mem_of_getElem? (i := 1866) (by decide +kernel)) rfl
theorem wd1867 : Cond.instanceMethod (yX12_house4 : MethodName) ∈ bg := bg_in (List.mem_of_getElem? (i := 1867) (by decide +kernel)) rfl
theorem wd1868 : Cond.selects "ClockLodgersModel" (yX12_house4 : MethodName) (yX12_house4 : MethodName) ∈ bg := bg_in (List.mem_of_getElem? (i := 1868) (by decide +kernel)) rfl
set_option maxRecDepth 1000000 in
theorem wd1869 : Cond.code (yX12_house4 : MethodName) cX12_house4 9 (some .int) ∈ bg := bg_in (List.mem_of_getElem? (i := 1869) rfl) rfl
theorem wd1870 : Cond.methodLink "ClockLodgersModel" 364 (yX12_isLaid : MethodName) ∈ bg := bg_in (List.mem_of_getElem? (i := 1870) (by decide +kernel)) rfl
theorem wd1872 : Cond.instanceMethod (yX12_isLaid : MethodName) ∈ bg := bg_in (List.mem_of_getElem? (i := 1872) (by decide +kernel)) rfl
set_option maxRecDepth 1000000 in
theorem wd1873 : Cond.code (yX12_isLaid : MethodName) cX12_isLaid 7 (some .boolean) ∈ bg := bg_in (List.mem_of_getElem? (i := 1873) rfl) rfl
theorem wd1874 : Cond.methodLink "ClockLodgersModel" 367 (yX12_size : MethodName) ∈ bg := bg_in (List.mem_of_getElem? (i := 1874) (by decide +kernel)) rfl
theorem wd1875 : Cond.static (yX12_size : MethodName) ∈ bg := bg_in (List.mem_of_getElem? (i := 1875) (by decide +kernel)) rfl
set_option maxRecDepth 1000000 in
theorem wd1876 : Cond.code (yX12_size : MethodName) cX12_size 1 (some .int) ∈ bg := bg_in (List.mem_of_getElem? (i := 1876) rfl) rfl
theorem wd1877 : Cond.methodLink "ClockLodgersLaw" 134 (yX12_housed : MethodName) ∈ bg := bg_in (List.mem_of_getElem? (i := 1877) (by decide +kernel)) rfl
theorem wd1878 : Cond.instanceMethod (yX12_housed : MethodName) ∈ bg := bg_in (List.mem_of_getElem? (i := 1878) (by decide +kernel)) rfl
theorem wd1879 : Cond.selects "ClockLodgersModel" (yX12_housed : MethodName) (yX12_housed : MethodName) ∈ bg := bg_in (List.mem_of_getElem? (i := 1879) (by decide +kernel)) rfl
set_option maxRecDepth 1000000 in
theorem wd1880 : Cond.code (yX12_housed : MethodName) cX12_housed 2 (some .int) ∈ bg := bg_in (List.mem_of_getElem? (i := 1880) rfl) rfl
theorem wd1881 : Cond.methodLink "ClockLodgersLaw" 137 (yX12_cuckoo : MethodName) ∈ bg := bg_in (List.mem_of_getElem? (i := 1881) (by decide +kernel)) rfl
theorem wd1882 : Cond.instanceMethod (yX12_cuckoo : MethodName) ∈ bg := bg_in (List.mem_of_getElem? (i := 1882) (by decide +kernel)) rfl
theorem wd1883 : Cond.selects "ClockLodgersModel" (yX12_cuckoo : MethodName) (yX12_cuckoo : MethodName) ∈ bg := bg_in (List.mem_of_getElem? (i := 1883) (by decide +kernel)) rfl
set_option maxRecDepth 1000000 in
theorem wd1884 : Cond.code (yX12_cuckoo : MethodName) cX12_cuckoo 8 (some .int) ∈ bg := bg_in (List.mem_of_getElem? (i := 1884) rfl) rfl
theorem wd1885 : Cond.methodLink "ClockLodgersModel" 370 (yX12_isCase : MethodName) ∈ bg := bg_in (List.mem_of_getElem? (i := 1885) (by decide +kernel)) rfl
theorem wd1887 : Cond.instanceMethod (yX12_isCase : MethodName) ∈ bg := bg_in (List.mem_of_getElem? (i := 1887) (by decide +kernel)) rfl
set_option maxRecDepth 1000000 in
theorem wd1888 : Cond.code (yX12_isCase : MethodName) cX12_isCase 5 (some .boolean) ∈ bg := bg_in (List.mem_of_getElem? (i := 1888) rfl) rfl
theorem wd1889 : Cond.methodLink "ClockLodgersModel" 373 (yX12_setOf : MethodName) ∈ bg := bg_in (List.mem_of_getElem? (i := 1889) (by decide +kernel)) rfl
theorem wd1890 : Cond.static (yX12_setOf : MethodName) ∈ bg := bg_in (List.mem_of_getElem? (i := 1890) (by decide +kernel)) rfl
set_option maxRecDepth 1000000 in
theorem wd1891 : Cond.code (yX12_setOf : MethodName) cX12_setOf 4 (some .int) ∈ bg := bg_in (List.mem_of_getElem? (i := 1891) rfl) rfl
theorem wd1892 : Cond.methodLink "ClockLodgersLaw" 140 (yX12_visits : MethodName) ∈ bg := bg_in (List.mem_of_getElem? (i := 1892) (by decide +kernel)) rfl
theorem wd1893 : Cond.instanceMethod (yX12_visits : MethodName) ∈ bg := bg_in (List.mem_of_getElem? (i := 1893) (by decide +kernel)) rfl
theorem wd1894 : Cond.selects "ClockLodgersModel" (yX12_visits : MethodName) (yX12_visits : MethodName) ∈ bg := bg_in (List.mem_of_getElem? (i := 1894) (by decide +kernel)) rfl
set_option maxRecDepth 1000000 in
theorem wd1895 : Cond.code (yX12_visits : MethodName) cX12_visits 4 (some .int) ∈ bg := bg_in (List.mem_of_getElem? (i := 1895) rfl) rfl
theorem wd1896 : Cond.methodLink "ClockLodgersModel" 382 (yX12_visitsBy : MethodName) ∈ bg := bg_in (List.mem_of_getElem? (i := 1896) (by decide +kernel)) rfl
theorem wd1898 : Cond.instanceMethod (yX12_visitsBy : MethodName) ∈ bg := bg_in (List.mem_of_getElem? (i := 1898) (by decide +kernel)) rfl
set_option maxRecDepth 1000000 in
theorem wd1899 : Cond.code (yX12_visitsBy : MethodName) cX12_visitsBy 7 (some .boolean) ∈ bg := bg_in (List.mem_of_getElem? (i := 1899) rfl) rfl
theorem wd1900 : Cond.methodLink "ClockLodgersModel" 379 (yX12_visitOf : MethodName) ∈ bg := bg_in (List.mem_of_getElem? (i := 1900) (by decide +kernel)) rfl
theorem wd1902 : Cond.instanceMethod (yX12_visitOf : MethodName) ∈ bg := bg_in (List.mem_of_getElem? (i := 1902) (by decide +kernel)) rfl
set_option maxRecDepth 1000000 in
theorem wd1903 : Cond.code (yX12_visitOf : MethodName) cX12_visitOf 5 (some .int) ∈ bg := bg_in (List.mem_of_getElem? (i := 1903) rfl) rfl
theorem wd1904 : Cond.methodLink "ClockLodgersModel" 376 (yX12_isTaken : MethodName) ∈ bg := bg_in (List.mem_of_getElem? (i := 1904) (by decide +kernel)) rfl
theorem wd1906 : Cond.instanceMethod (yX12_isTaken : MethodName) ∈ bg := bg_in (List.mem_of_getElem? (i := 1906) (by decide +kernel)) rfl
set_option maxRecDepth 1000000 in
theorem wd1907 : Cond.code (yX12_isTaken : MethodName) cX12_isTaken 4 (some .boolean) ∈ bg := bg_in (List.mem_of_getElem? (i := 1907) rfl) rfl
theorem wd1908 : Cond.methodLink "ClockLodgersLaw" 143 (yX12_visit : MethodName) ∈ bg := bg_in (List.mem_of_getElem? (i := 1908) (by decide +kernel)) rfl
theorem wd1909 : Cond.instanceMethod (yX12_visit : MethodName) ∈ bg := bg_in (List.mem_of_getElem? (i := 1909) (by decide +kernel)) rfl
theorem wd1910 : Cond.selects "ClockLodgersModel" (yX12_visit : MethodName) (yX12_visit : MethodName) ∈ bg := bg_in (List.mem_of_getElem? (i := 1910) (by decide +kernel)) rfl
set_option maxRecDepth 1000000 in
theorem wd1911 : Cond.code (yX12_visit : MethodName) cX12_visit 2 (some .int) ∈ bg := bg_in (List.mem_of_getElem? (i := 1911) rfl) rfl
theorem wd1912 : Cond.methodLink "ClockLodgersLaw" 146 (yX12_rent : MethodName) ∈ bg := bg_in (List.mem_of_getElem? (i := 1912) (by decide +kernel)) rfl
theorem wd1913 : Cond.instanceMethod (yX12_rent : MethodName) ∈ bg := bg_in (List.mem_of_getElem? (i := 1913) (by decide +kernel)) rfl
theorem wd1914 : Cond.selects "ClockLodgersModel" (yX12_rent : MethodName) (yX12_rent : MethodName) ∈ bg := bg_in (List.mem_of_getElem? (i := 1914) (by decide +kernel)) rfl
set_option maxRecDepth 1000000 in
theorem wd1915 : Cond.code (yX12_rent : MethodName) cX12_rent 2 (some .int) ∈ bg := bg_in (List.mem_of_getElem? (i := 1915) rfl) rfl
theorem wd1916 : Cond.methodLink "ClockLodgersModel" 385 (yX12_rentOf : MethodName) ∈ bg := bg_in (List.mem_of_getElem? (i := 1916) (by decide +kernel)) rfl
theorem wd1918 : Cond.instanceMethod (yX12_rentOf : MethodName) ∈ bg := bg_in (List.mem_of_getElem? (i := 1918) (by decide +kernel)) rfl
set_option maxRecDepth 1000000 in
theorem wd1919 : Cond.code (yX12_rentOf : MethodName) cX12_rentOf 2 (some .int) ∈ bg := bg_in (List.mem_of_getElem? (i := 1919) rfl) rfl
theorem wd1920 : Cond.methodLink "ClockLodgersLaw" 149 (yX12_shared : MethodName) ∈ bg := bg_in (List.mem_of_getElem? (i := 1920) (by decide +kernel)) rfl
theorem wd1921 : Cond.instanceMethod (yX12_shared : MethodName) ∈ bg := bg_in (List.mem_of_getElem? (i := 1921) (by decide +kernel)) rfl
theorem wd1922 : Cond.selects "ClockLodgersModel" (yX12_shared : MethodName) (yX12_shared : MethodName) ∈ bg := bg_in (List.mem_of_getElem? (i := 1922) (by decide +kernel)) rfl
set_option maxRecDepth 1000000 in
theorem wd1923 : Cond.code (yX12_shared : MethodName) cX12_shared 13 (some .int) ∈ bg := bg_in (List.mem_of_getElem? (i := 1923) rfl) rfl
theorem wd1924 : Cond.methodLink "ClockLodgersLaw" 153 (yX12_offer : MethodName) ∈ bg := bg_in (List.mem_of_getElem? (i := 1924) (by decide +kernel)) rfl
theorem wd1925 : Cond.instanceMethod (yX12_offer : MethodName) ∈ bg := bg_in (List.mem_of_getElem? (i := 1925) (by decide +kernel)) rfl
theorem wd1926 : Cond.selects "ClockLodgersModel" (yX12_offer : MethodName) (yX12_offer : MethodName) ∈ bg := bg_in (List.mem_of_getElem? (i := 1926) (by decide +kernel)) rfl
set_option maxRecDepth 1000000 in
theorem wd1927 : Cond.code (yX12_offer : MethodName) cX12_offer 4 (some .int) ∈ bg := bg_in (List.mem_of_getElem? (i := 1927) rfl) rfl
theorem wd1928 : Cond.methodLink "ClockLodgersLaw" 156 (yX12_sublet : MethodName) ∈ bg := bg_in (List.mem_of_getElem? (i := 1928) (by decide +kernel)) rfl
theorem wd1929 : Cond.instanceMethod (yX12_sublet : MethodName) ∈ bg := bg_in (List.mem_of_getElem? (i := 1929) (by decide +kernel)) rfl
theorem wd1930 : Cond.selects "ClockLodgersModel" (yX12_sublet : MethodName) (yX12_sublet : MethodName) ∈ bg := bg_in (List.mem_of_getElem? (i := 1930) (by decide +kernel)) rfl
set_option maxRecDepth 1000000 in
theorem wd1931 : Cond.code (yX12_sublet : MethodName) cX12_sublet 10 (some .int) ∈ bg := bg_in (List.mem_of_getElem? (i := 1931) rfl) rfl
theorem wd1932 : Cond.methodLink "ClockLodgersModel" 389 (yX12_hoursOfOffer : MethodName) ∈ bg := bg_in (List.mem_of_getElem? (i := 1932) (by decide +kernel)) rfl
theorem wd1934 : Cond.instanceMethod (yX12_hoursOfOffer : MethodName) ∈ bg := bg_in (List.mem_of_getElem? (i := 1934) (by decide +kernel)) rfl
set_option maxRecDepth 1000000 in
theorem wd1935 : Cond.code (yX12_hoursOfOffer : MethodName) cX12_hoursOfOffer 5 (some .int) ∈ bg := bg_in (List.mem_of_getElem? (i := 1935) rfl) rfl
theorem wd1936 : Cond.constant "ClockLodgersModel" 388 (16777216 : Int32) ∈ bg := bg_in (List.mem_of_getElem? (i := 1936) (by decide +kernel)) rfl
theorem wd1937 : Cond.methodLink "ClockLodgersLaw" 159 (yX12_wedding : MethodName) ∈ bg := bg_in (List.mem_of_getElem? (i := 1937) (by decide +kernel)) rfl
theorem wd1938 : Cond.instanceMethod (yX12_wedding : MethodName) ∈ bg := bg_in (List.mem_of_getElem? (i := 1938) (by decide +kernel)) rfl
theorem wd1939 : Cond.selects "ClockLodgersModel" (yX12_wedding : MethodName) (yX12_wedding : MethodName) ∈ bg := bg_in (List.mem_of_getElem? (i := 1939) (by decide +kernel)) rfl
set_option maxRecDepth 1000000 in
theorem wd1940 : Cond.code (yX12_wedding : MethodName) cX12_wedding 4 (some .int) ∈ bg := bg_in (List.mem_of_getElem? (i := 1940) rfl) rfl
theorem wd1941 : Cond.methodLink "ClockLodgersLaw" 162 (yX12_birthday : MethodName) ∈ bg := bg_in (List.mem_of_getElem? (i := 1941) (by decide +kernel)) rfl
theorem wd1942 : Cond.instanceMethod (yX12_birthday : MethodName) ∈ bg := bg_in (List.mem_of_getElem? (i := 1942) (by decide +kernel)) rfl
theorem wd1943 : Cond.selects "ClockLodgersModel" (yX12_birthday : MethodName) (yX12_birthday : MethodName) ∈ bg := bg_in (List.mem_of_getElem? (i := 1943) (by decide +kernel)) rfl
set_option maxRecDepth 1000000 in
theorem wd1944 : Cond.code (yX12_birthday : MethodName) cX12_birthday 4 (some .int) ∈ bg := bg_in (List.mem_of_getElem? (i := 1944) rfl) rfl
theorem wd1945 : Cond.methodLink "ClockLodgersLaw" 166 (yX12_both : MethodName) ∈ bg := bg_in (List.mem_of_getElem? (i := 1945) (by decide +kernel)) rfl
theorem wd1946 : Cond.instanceMethod (yX12_both : MethodName) ∈ bg := bg_in (List.mem_of_getElem? (i := 1946) (by decide +kernel)) rfl
theorem wd1947 : Cond.selects "ClockLodgersModel" (yX12_both : MethodName) (yX12_both : MethodName) ∈ bg := bg_in (List.mem_of_getElem? (i := 1947) (by decide +kernel)) rfl
set_option maxRecDepth 1000000 in
theorem wd1948 : Cond.code (yX12_both : MethodName) cX12_both 13 (some .int) ∈ bg := bg_in (List.mem_of_getElem? (i := 1948) rfl) rfl
theorem wd1949 : Cond.methodLink "ClockLodgersLaw" 169 (yX12_wind : MethodName) ∈ bg := bg_in (List.mem_of_getElem? (i := 1949) (by decide +kernel)) rfl
theorem wd1950 : Cond.instanceMethod (yX12_wind : MethodName) ∈ bg := bg_in (List.mem_of_getElem? (i := 1950) (by decide +kernel)) rfl
theorem wd1951 : Cond.selects "ClockLodgersModel" (yX12_wind : MethodName) (yX12_wind : MethodName) ∈ bg := bg_in (List.mem_of_getElem? (i := 1951) (by decide +kernel)) rfl
set_option maxRecDepth 1000000 in
theorem wd1952 : Cond.code (yX12_wind : MethodName) cX12_wind 8 (some .int) ∈ bg := bg_in (List.mem_of_getElem? (i := 1952) rfl) rfl
theorem wd1953 : Cond.constant "ClockLodgersModel" 392 (1103515245 : Int32) ∈ bg := bg_in (List.mem_of_getElem? (i := 1953) (by decide +kernel)) rfl
theorem wd1954 : Cond.methodLink "ClockLodgersLaw" 173 (yX12_image : MethodName) ∈ bg := bg_in (List.mem_of_getElem? (i := 1954) (by decide +kernel)) rfl
theorem wd1955 : Cond.instanceMethod (yX12_image : MethodName) ∈ bg := bg_in (List.mem_of_getElem? (i := 1955) (by decide +kernel)) rfl
theorem wd1956 : Cond.selects "ClockLodgersModel" (yX12_image : MethodName) (yX12_image : MethodName) ∈ bg := bg_in (List.mem_of_getElem? (i := 1956) (by decide +kernel)) rfl
set_option maxRecDepth 1000000 in
theorem wd1957 : Cond.code (yX12_image : MethodName) cX12_image 1 none ∈ bg := bg_in (List.mem_of_getElem? (i := 1957) rfl) rfl
theorem wd1958 : Cond.methodLink "ClockLodgersLaw" 178 (yX12_restore : MethodName) ∈ bg := bg_in (List.mem_of_getElem? (i := 1958) (by decide +kernel)) rfl
theorem wd1959 : Cond.instanceMethod (yX12_restore : MethodName) ∈ bg := bg_in (List.mem_of_getElem? (i := 1959) (by decide +kernel)) rfl
theorem wd1960 : Cond.selects "ClockLodgersModel" (yX12_restore : MethodName) (yX12_restore : MethodName) ∈ bg := bg_in (List.mem_of_getElem? (i := 1960) (by decide +kernel)) rfl
set_option maxRecDepth 1000000 in
theorem wd1961 : Cond.code (yX12_restore : MethodName) cX12_restore 1 (some .boolean) ∈ bg := bg_in (List.mem_of_getElem? (i := 1961) rfl) rfl
theorem wd1981 : Cond.fieldLink "java/lang/String" 9 "java/lang/String" "value" "[B" ∈ bg := bg_in (List.mem_of_getElem? (i := 1981) (by decide +kernel)) rfl
theorem wd1982 : Cond.fieldLink "java/lang/String" 15 "java/lang/String" "coder" "B" ∈ bg := bg_in (List.mem_of_getElem? (i := 1982) (by decide +kernel)) rfl
