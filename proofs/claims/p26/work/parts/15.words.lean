theorem gw_in {w : Cond} (h : w ∈ tables_1) (hg : goodWord w = true) : w ∈ gw := List.mem_filter.mpr ⟨List.mem_append_right (k2_sels lw_privs) h, hg⟩
theorem g0 : Cond.selects "MirageLoans$Laws" yX2_openWithVar yX2_openWithVar ∈ gw := gw_at 0 (by decide +kernel) (by decide +kernel)
theorem g1 : Cond.selects "MirageLoans$Tokens" yX6_skipBlanks yX6_skipBlanks ∈ gw := gw_at 1 (by decide +kernel) (by decide +kernel)
theorem g2 : Cond.selects "MirageLoans$Tokens" yX6_scanLetters yX6_scanLetters ∈ gw := gw_at 2 (by decide +kernel) (by decide +kernel)
theorem g3 : Cond.selects "MirageLoans$Tokens" yX6_kindOf yX6_kindOf ∈ gw := gw_at 3 (by decide +kernel) (by decide +kernel)
theorem g4 : Cond.selects "MirageLoans$Tokens" yX6_scanDigits yX6_scanDigits ∈ gw := gw_at 4 (by decide +kernel) (by decide +kernel)
theorem g5 : Cond.selects "MirageLoans$Grammar" yX1_takeTell yX1_takeTell ∈ gw := gw_at 5 (by decide +kernel) (by decide +kernel)
theorem g6 : Cond.selects "MirageLoans$Grammar" yX1_fail yX1_fail ∈ gw := gw_at 6 (by decide +kernel) (by decide +kernel)
theorem g7 : Cond.selects "MirageLoans$Grammar" yX1_take yX1_take ∈ gw := gw_at 7 (by decide +kernel) (by decide +kernel)
theorem g8 : Cond.selects "MirageLoans$Grammar" yX1_takeStander yX1_takeStander ∈ gw := gw_at 8 (by decide +kernel) (by decide +kernel)
theorem g9 : Cond.selects "MirageLoans$Grammar" yX1_note yX1_note ∈ gw := gw_at 9 (by decide +kernel) (by decide +kernel)
theorem g10 : Cond.selects "MirageLoans$Grammar" yX1_takeInt yX1_takeInt ∈ gw := gw_at 10 (by decide +kernel) (by decide +kernel)
theorem g11 : Cond.selects "MirageLoans$Grammar" yX1_takeLaw yX1_takeLaw ∈ gw := gw_at 11 (by decide +kernel) (by decide +kernel)
theorem g12 : Cond.selects "MirageLoans$Grammar" yX1_takeSum yX1_takeSum ∈ gw := gw_at 12 (by decide +kernel) (by decide +kernel)
theorem g13 : Cond.selects "MirageLoans$Grammar" yX1_takeProduct yX1_takeProduct ∈ gw := gw_at 13 (by decide +kernel) (by decide +kernel)
theorem g14 : Cond.selects "MirageLoans$Grammar" yX1_takeUnit yX1_takeUnit ∈ gw := gw_at 14 (by decide +kernel) (by decide +kernel)
theorem g15 : Cond.selects "MirageLoans$Grammar" yX1_takeSetting yX1_takeSetting ∈ gw := gw_at 15 (by decide +kernel) (by decide +kernel)
theorem g16 : Cond.selects "MirageLoans" yX8_beginAnew yX8_beginAnew ∈ gw := gw_at 16 (by decide +kernel) (by decide +kernel)
theorem g17 : Cond.selects "MirageLoans" yX8_isThing yX8_isThing ∈ gw := gw_at 17 (by decide +kernel) (by decide +kernel)
theorem g18 : Cond.selects "MirageLoans" yX8_seatsThatSee yX8_seatsThatSee ∈ gw := gw_at 18 (by decide +kernel) (by decide +kernel)
theorem g19 : Cond.selects "MirageLoans$Laws" yX2_clearVars yX2_clearVars ∈ gw := gw_at 19 (by decide +kernel) (by decide +kernel)
theorem g20 : Cond.selects "MirageLoans$Laws" yX2_reckon yX2_reckon ∈ gw := gw_at 20 (by decide +kernel) (by decide +kernel)
theorem g21 : Cond.selects "MirageLoans$Laws" yX2_variable yX2_variable ∈ gw := gw_at 21 (by decide +kernel) (by decide +kernel)
theorem g22 : Cond.selects "MirageLoans" yX8_seatsThatLent yX8_seatsThatLent ∈ gw := gw_at 22 (by decide +kernel) (by decide +kernel)
theorem g23 : Cond.selects "MirageLoans" yX8_isSeat yX8_isSeat ∈ gw := gw_at 23 (by decide +kernel) (by decide +kernel)
theorem g24 : Cond.selects "MirageLoans" yX8_thingsSeenFrom yX8_thingsSeenFrom ∈ gw := gw_at 24 (by decide +kernel) (by decide +kernel)
theorem g25 : Cond.selects "MirageLoans" yX8_thingsLentOn yX8_thingsLentOn ∈ gw := gw_at 25 (by decide +kernel) (by decide +kernel)
theorem g26 : Cond.selects "MirageLoans" yX8_isPair yX8_isPair ∈ gw := gw_at 26 (by decide +kernel) (by decide +kernel)
theorem g27 : Cond.selects "MirageLoans" yX8_seesNow yX8_seesNow ∈ gw := gw_at 27 (by decide +kernel) (by decide +kernel)
theorem g28 : Cond.selects "MirageLoans$Flat" yX0_passLoan yX0_passLoan ∈ gw := gw_at 28 (by decide +kernel) (by decide +kernel)
theorem g29 : Cond.selects "MirageLoans" yX8_findSpotsLentOn yX8_findSpotsLentOn ∈ gw := gw_at 29 (by decide +kernel) (by decide +kernel)
theorem g30 : Cond.selects "MirageLoans" yX8_titlesClash yX8_titlesClash ∈ gw := gw_at 30 (by decide +kernel) (by decide +kernel)
theorem g32 : Cond.selects "MirageLoans" yX8_goAhead yX8_goAhead ∈ gw := gw_at 32 (by decide +kernel) (by decide +kernel)
theorem g35 : Cond.selects "MirageLoans" yX8_unseenOf yX8_unseenOf ∈ gw := gw_at 35 (by decide +kernel) (by decide +kernel)
theorem g36 : Cond.selects "MirageLoans" yX8_thingsSeen yX8_thingsSeen ∈ gw := gw_at 36 (by decide +kernel) (by decide +kernel)
theorem g37 : Cond.selects "MirageLoans" yX8_isKnown yX8_isKnown ∈ gw := gw_at 37 (by decide +kernel) (by decide +kernel)
theorem g38 : Cond.selects "MirageLoans$Told" yX7_isSo yX7_isSo ∈ gw := gw_at 38 (by decide +kernel) (by decide +kernel)
theorem g39 : Cond.selects "MirageLoans$Told" yX7_worstLeft yX7_worstLeft ∈ gw := gw_at 39 (by decide +kernel) (by decide +kernel)
theorem g40 : Cond.selects "MirageLoans" yX8_heldSlots yX8_heldSlots ∈ gw := gw_at 40 (by decide +kernel) (by decide +kernel)
theorem g41 : Cond.selects "MirageLoansModel" yX9_plain yX9_plain ∈ gw := gw_at 41 (by decide +kernel) (by decide +kernel)
theorem g42 : Cond.selects "MirageLoansModel" yX9_begins yX9_begins ∈ gw := gw_at 42 (by decide +kernel) (by decide +kernel)
theorem g43 : Cond.selects "MirageLoansModel" yX9_keepsRow yX9_keepsRow ∈ gw := gw_at 43 (by decide +kernel) (by decide +kernel)
theorem g44 : Cond.selects "MirageLoansModel" yX9_put yX9_put ∈ gw := gw_at 44 (by decide +kernel) (by decide +kernel)
theorem g45 : Cond.selects "MirageLoansModel" yX9_cut yX9_cut ∈ gw := gw_at 45 (by decide +kernel) (by decide +kernel)
theorem g46 : Cond.selects "MirageLoansModel" yX9_byteAt yX9_byteAt ∈ gw := gw_at 46 (by decide +kernel) (by decide +kernel)
theorem g47 : Cond.selects "MirageLoansModel" yX9_token yX9_token ∈ gw := gw_at 47 (by decide +kernel) (by decide +kernel)
theorem g48 : Cond.selects "MirageLoansModel" yX9_sign yX9_sign ∈ gw := gw_at 48 (by decide +kernel) (by decide +kernel)
theorem g49 : Cond.selects "MirageLoansModel" yX9_is yX9_is ∈ gw := gw_at 49 (by decide +kernel) (by decide +kernel)
theorem g50 : Cond.selects "MirageLoansModel" yX9_tellOne yX9_tellOne ∈ gw := gw_at 50 (by decide +kernel) (by decide +kernel)
theorem g51 : Cond.selects "MirageLoansModel" yX9_roomFor yX9_roomFor ∈ gw := gw_at 51 (by decide +kernel) (by decide +kernel)
theorem g52 : Cond.selects "MirageLoansModel" yX9_fail yX9_fail ∈ gw := gw_at 52 (by decide +kernel) (by decide +kernel)
theorem g53 : Cond.selects "MirageLoansModel" yX9_goesOn yX9_goesOn ∈ gw := gw_at 53 (by decide +kernel) (by decide +kernel)
theorem g54 : Cond.selects "MirageLoansModel" yX9_named yX9_named ∈ gw := gw_at 54 (by decide +kernel) (by decide +kernel)
theorem g55 : Cond.selects "MirageLoansModel" yX9_must yX9_must ∈ gw := gw_at 55 (by decide +kernel) (by decide +kernel)
theorem g56 : Cond.selects "MirageLoansModel" yX9_wrong yX9_wrong ∈ gw := gw_at 56 (by decide +kernel) (by decide +kernel)
theorem g57 : Cond.selects "MirageLoansModel" yX9_bounded yX9_bounded ∈ gw := gw_at 57 (by decide +kernel) (by decide +kernel)
theorem g58 : Cond.selects "MirageLoansModel" yX9_ends yX9_ends ∈ gw := gw_at 58 (by decide +kernel) (by decide +kernel)
theorem g59 : Cond.selects "MirageLoansModel" yX9_toldInt yX9_toldInt ∈ gw := gw_at 59 (by decide +kernel) (by decide +kernel)
theorem g60 : Cond.selects "MirageLoansModel" yX9_tellLaw yX9_tellLaw ∈ gw := gw_at 60 (by decide +kernel) (by decide +kernel)
theorem g61 : Cond.selects "MirageLoansModel" yX9_expression yX9_expression ∈ gw := gw_at 61 (by decide +kernel) (by decide +kernel)
theorem g62 : Cond.selects "MirageLoansModel" yX9_unit yX9_unit ∈ gw := gw_at 62 (by decide +kernel) (by decide +kernel)
theorem g63 : Cond.selects "MirageLoansModel" yX9_emit yX9_emit ∈ gw := gw_at 63 (by decide +kernel) (by decide +kernel)
theorem g64 : Cond.selects "MirageLoansModel" yX9_comesOut yX9_comesOut ∈ gw := gw_at 64 (by decide +kernel) (by decide +kernel)
theorem g65 : Cond.selects "MirageLoansModel" yX9_term yX9_term ∈ gw := gw_at 65 (by decide +kernel) (by decide +kernel)
theorem g66 : Cond.selects "MirageLoansModel" yX9_isThing yX9_isThing ∈ gw := gw_at 66 (by decide +kernel) (by decide +kernel)
theorem g67 : Cond.selects "MirageLoansModel" yX9_copies yX9_copies ∈ gw := gw_at 67 (by decide +kernel) (by decide +kernel)
theorem g68 : Cond.selects "MirageLoansModel" yX9_sees yX9_sees ∈ gw := gw_at 68 (by decide +kernel) (by decide +kernel)
theorem g69 : Cond.selects "MirageLoansModel" yX9_isSeen yX9_isSeen ∈ gw := gw_at 69 (by decide +kernel) (by decide +kernel)
theorem g70 : Cond.selects "MirageLoansModel" yX9_looksAt yX9_looksAt ∈ gw := gw_at 70 (by decide +kernel) (by decide +kernel)
theorem g71 : Cond.selects "MirageLoansModel" yX9_heatAt yX9_heatAt ∈ gw := gw_at 71 (by decide +kernel) (by decide +kernel)
theorem g72 : Cond.selects "MirageLoansModel" yX9_looks yX9_looks ∈ gw := gw_at 72 (by decide +kernel) (by decide +kernel)
theorem g73 : Cond.selects "MirageLoansModel" yX9_lawTells yX9_lawTells ∈ gw := gw_at 73 (by decide +kernel) (by decide +kernel)
theorem g74 : Cond.selects "MirageLoansModel" yX9_termOf yX9_termOf ∈ gw := gw_at 74 (by decide +kernel) (by decide +kernel)
theorem g75 : Cond.selects "MirageLoansModel" yX9_isSeat yX9_isSeat ∈ gw := gw_at 75 (by decide +kernel) (by decide +kernel)
theorem g76 : Cond.selects "MirageLoansModel" yX9_seesBits yX9_seesBits ∈ gw := gw_at 76 (by decide +kernel) (by decide +kernel)
theorem g77 : Cond.selects "MirageLoansModel" yX9_lentBy yX9_lentBy ∈ gw := gw_at 77 (by decide +kernel) (by decide +kernel)
theorem g78 : Cond.selects "MirageLoansModel" yX9_movedBy yX9_movedBy ∈ gw := gw_at 78 (by decide +kernel) (by decide +kernel)
theorem g79 : Cond.selects "MirageLoansModel" yX9_rentOf yX9_rentOf ∈ gw := gw_at 79 (by decide +kernel) (by decide +kernel)
theorem g80 : Cond.selects "MirageLoansModel" yX9_interestOf yX9_interestOf ∈ gw := gw_at 80 (by decide +kernel) (by decide +kernel)
theorem g81 : Cond.selects "MirageLoansModel" yX9_records yX9_records ∈ gw := gw_at 81 (by decide +kernel) (by decide +kernel)
theorem g82 : Cond.selects "MirageLoansModel" yX9_goes yX9_goes ∈ gw := gw_at 82 (by decide +kernel) (by decide +kernel)
theorem g83 : Cond.selects "MirageLoansModel" yX9_hourGoes yX9_hourGoes ∈ gw := gw_at 83 (by decide +kernel) (by decide +kernel)
theorem g84 : Cond.selects "MirageLoansModel" yX9_isWind yX9_isWind ∈ gw := gw_at 84 (by decide +kernel) (by decide +kernel)
theorem g85 : Cond.selects "MirageLoansModel" yX9_loanGoes yX9_loanGoes ∈ gw := gw_at 85 (by decide +kernel) (by decide +kernel)
theorem g86 : Cond.selects "MirageLoansModel" yX9_grows yX9_grows ∈ gw := gw_at 86 (by decide +kernel) (by decide +kernel)
theorem g87 : Cond.selects "MirageLoansModel" yX9_sightOf yX9_sightOf ∈ gw := gw_at 87 (by decide +kernel) (by decide +kernel)
theorem g88 : Cond.selects "MirageLoansModel" yX9_seenAt yX9_seenAt ∈ gw := gw_at 88 (by decide +kernel) (by decide +kernel)
theorem g89 : Cond.selects "MirageLoansModel" yX9_doClash yX9_doClash ∈ gw := gw_at 89 (by decide +kernel) (by decide +kernel)
theorem g90 : Cond.selects "MirageLoansModel" yX9_hoursFrom yX9_hoursFrom ∈ gw := gw_at 90 (by decide +kernel) (by decide +kernel)
theorem g93 : Cond.selects "MirageLoansModel" yX9_isWatched yX9_isWatched ∈ gw := gw_at 93 (by decide +kernel) (by decide +kernel)
theorem g94 : Cond.selects "MirageLoansModel" yX9_isSo yX9_isSo ∈ gw := gw_at 94 (by decide +kernel) (by decide +kernel)
theorem g95 : Cond.selects "MirageLoansModel" yX9_sumNow yX9_sumNow ∈ gw := gw_at 95 (by decide +kernel) (by decide +kernel)
theorem g97 : Cond.initialized "MirageLoans" ∈ gw := gw_in (tb_1 (List.mem_of_getElem? (i := 1) (by decide +kernel))) (by decide +kernel)
theorem g98 : Cond.initialized "MirageLoans$Tape" ∈ gw := gw_in (tb_1 (List.mem_of_getElem? (i := 2) (by decide +kernel))) (by decide +kernel)
theorem g99 : Cond.initialized "MirageLoans$Grammar" ∈ gw := gw_in (tb_1 (List.mem_of_getElem? (i := 3) (by decide +kernel))) (by decide +kernel)
theorem g100 : Cond.initialized "MirageLoans$Tokens" ∈ gw := gw_in (tb_1 (List.mem_of_getElem? (i := 4) (by decide +kernel))) (by decide +kernel)
theorem g101 : Cond.initialized "java/lang/String" ∈ gw := gw_in (tb_1 (List.mem_of_getElem? (i := 5) (by decide +kernel))) (by decide +kernel)
theorem g102 : Cond.initialized "java/lang/StringLatin1" ∈ gw := gw_in (tb_1 (List.mem_of_getElem? (i := 6) (by decide +kernel))) (by decide +kernel)
theorem g105 : Cond.initialized "MirageLoans$Flat" ∈ gw := gw_in (tb_1 (List.mem_of_getElem? (i := 9) (by decide +kernel))) (by decide +kernel)
theorem g106 : Cond.initialized "MirageLoans$Laws" ∈ gw := gw_in (tb_1 (List.mem_of_getElem? (i := 10) (by decide +kernel))) (by decide +kernel)
theorem g107 : Cond.initialized "MirageLoans$State" ∈ gw := gw_in (tb_1 (List.mem_of_getElem? (i := 11) (by decide +kernel))) (by decide +kernel)
theorem g108 : Cond.initialized "MirageLoans$Past" ∈ gw := gw_in (tb_1 (List.mem_of_getElem? (i := 12) (by decide +kernel))) (by decide +kernel)
theorem g109 : Cond.initialized "MirageLoans$Told" ∈ gw := gw_in (tb_1 (List.mem_of_getElem? (i := 13) (by decide +kernel))) (by decide +kernel)
theorem g110 : Cond.initialized "MirageLoansModel" ∈ gw := gw_in (tb_1 (List.mem_of_getElem? (i := 14) (by decide +kernel))) (by decide +kernel)
theorem g111 : Cond.initialized "java/lang/Math" ∈ gw := gw_in (tb_1 (List.mem_of_getElem? (i := 15) (by decide +kernel))) (by decide +kernel)
theorem g113 : Cond.initialized "java/lang/System" ∈ gw := gw_in (tb_1 (List.mem_of_getElem? (i := 17) (by decide +kernel))) (by decide +kernel)
theorem g129 : Cond.fieldLink "MirageLoans$Tape" 11 "MirageLoans$Tape" "bytes" "[B" ∈ gw := gw_in (tb_1 (List.mem_of_getElem? (i := 33) (by decide +kernel))) (by decide +kernel)
theorem g130 : Cond.fieldLink "MirageLoans$Tape" 15 "MirageLoans$Tape" "size" "I" ∈ gw := gw_in (tb_1 (List.mem_of_getElem? (i := 34) (by decide +kernel))) (by decide +kernel)
theorem g131 : Cond.fieldLink "MirageLoans" 87 "MirageLoans$Tape" "size" "I" ∈ gw := gw_in (tb_1 (List.mem_of_getElem? (i := 35) (by decide +kernel))) (by decide +kernel)
theorem g132 : Cond.fieldLink "MirageLoans$Tokens" 76 "MirageLoans$Tape" "size" "I" ∈ gw := gw_in (tb_1 (List.mem_of_getElem? (i := 36) (by decide +kernel))) (by decide +kernel)
theorem g153 : Cond.instanceMethod yJ0_length_8abf5 ∈ gw := gw_in (tb_1 (List.mem_of_getElem? (i := 57) (by decide +kernel))) (by decide +kernel)
theorem g154 : Cond.selects "java/lang/String" yJ0_length_8abf5 yJ0_length_8abf5 ∈ gw := gw_in (tb_1 (List.mem_of_getElem? (i := 58) (by decide +kernel))) (by decide +kernel)
set_option maxRecDepth 100000 in
theorem g155 : Cond.code yJ0_length_8abf5 prog_15_method_54_code 1 (some Jvm.ClassFile.FieldType.int) ∈ gw := gw_in (tb_1 (List.mem_of_getElem? (i := 59) rfl)) (by decide +kernel)
theorem g156 : Cond.methodLink "java/lang/String" 335 yJ0_coder_7d493 ∈ gw := gw_in (tb_1 (List.mem_of_getElem? (i := 60) (by decide +kernel))) (by decide +kernel)
theorem g157 : Cond.instanceMethod yJ0_coder_7d493 ∈ gw := gw_in (tb_1 (List.mem_of_getElem? (i := 61) (by decide +kernel))) (by decide +kernel)
theorem g158 : Cond.selects "java/lang/String" yJ0_coder_7d493 yJ0_coder_7d493 ∈ gw := gw_in (tb_1 (List.mem_of_getElem? (i := 62) (by decide +kernel))) (by decide +kernel)
set_option maxRecDepth 100000 in
theorem g159 : Cond.code yJ0_coder_7d493 prog_15_method_152_code 1 (some Jvm.ClassFile.FieldType.byte) ∈ gw := gw_in (tb_1 (List.mem_of_getElem? (i := 63) rfl)) (by decide +kernel)
theorem g160 : Cond.fieldLink "java/lang/String" 38 "java/lang/String" "COMPACT_STRINGS" "Z" ∈ gw := gw_in (tb_1 (List.mem_of_getElem? (i := 64) (by decide +kernel))) (by decide +kernel)
theorem g166 : Cond.methodLink "java/lang/String" 492 yJ0_isLatin1_aae02 ∈ gw := gw_in (tb_1 (List.mem_of_getElem? (i := 70) (by decide +kernel))) (by decide +kernel)
theorem g167 : Cond.instanceMethod yJ0_isLatin1_aae02 ∈ gw := gw_in (tb_1 (List.mem_of_getElem? (i := 71) (by decide +kernel))) (by decide +kernel)
theorem g168 : Cond.selects "java/lang/String" yJ0_isLatin1_aae02 yJ0_isLatin1_aae02 ∈ gw := gw_in (tb_1 (List.mem_of_getElem? (i := 72) (by decide +kernel))) (by decide +kernel)
set_option maxRecDepth 100000 in
theorem g169 : Cond.code yJ0_isLatin1_aae02 prog_15_method_154_code 1 (some Jvm.ClassFile.FieldType.boolean) ∈ gw := gw_in (tb_1 (List.mem_of_getElem? (i := 73) rfl)) (by decide +kernel)
theorem g200 : Cond.methodLink "MirageLoans$Tokens" 41 yX6_withLetter ∈ gw := gw_in (tb_1 (List.mem_of_getElem? (i := 104) (by decide +kernel))) (by decide +kernel)
theorem g201 : Cond.static yX6_withLetter ∈ gw := gw_in (tb_1 (List.mem_of_getElem? (i := 105) (by decide +kernel))) (by decide +kernel)
set_option maxRecDepth 100000 in
theorem g202 : Cond.code yX6_withLetter prog_8_method_2_code 3 (some Jvm.ClassFile.FieldType.long) ∈ gw := gw_in (tb_1 (List.mem_of_getElem? (i := 106) rfl)) (by decide +kernel)
theorem g203 : Cond.constantLong "MirageLoans$Tokens" 45 (27 : Int64) ∈ gw := gw_in (tb_1 (List.mem_of_getElem? (i := 107) (by decide +kernel))) (by decide +kernel)
theorem g204 : Cond.fieldLink "MirageLoans$Tokens" 9 "MirageLoans$Tokens" "words" "[J" ∈ gw := gw_in (tb_1 (List.mem_of_getElem? (i := 108) (by decide +kernel))) (by decide +kernel)
theorem g205 : Cond.fieldLink "MirageLoans$Tokens" 15 "MirageLoans$Tokens" "kinds" "[I" ∈ gw := gw_in (tb_1 (List.mem_of_getElem? (i := 109) (by decide +kernel))) (by decide +kernel)
theorem g206 : Cond.fieldLink "MirageLoans$Grammar" 51 "MirageLoans$Tokens" "kinds" "[I" ∈ gw := gw_in (tb_1 (List.mem_of_getElem? (i := 110) (by decide +kernel))) (by decide +kernel)
theorem g207 : Cond.fieldLink "MirageLoans$Tokens" 19 "MirageLoans$Tokens" "starts" "[I" ∈ gw := gw_in (tb_1 (List.mem_of_getElem? (i := 111) (by decide +kernel))) (by decide +kernel)
theorem g208 : Cond.fieldLink "MirageLoans$Grammar" 58 "MirageLoans$Tokens" "starts" "[I" ∈ gw := gw_in (tb_1 (List.mem_of_getElem? (i := 112) (by decide +kernel))) (by decide +kernel)
theorem g209 : Cond.fieldLink "MirageLoans$Tokens" 22 "MirageLoans$Tokens" "values" "[J" ∈ gw := gw_in (tb_1 (List.mem_of_getElem? (i := 113) (by decide +kernel))) (by decide +kernel)
theorem g210 : Cond.fieldLink "MirageLoans$Grammar" 84 "MirageLoans$Tokens" "values" "[J" ∈ gw := gw_in (tb_1 (List.mem_of_getElem? (i := 114) (by decide +kernel))) (by decide +kernel)
theorem g211 : Cond.fieldLink "MirageLoans$Tokens" 25 "MirageLoans$Tokens" "next" "I" ∈ gw := gw_in (tb_1 (List.mem_of_getElem? (i := 115) (by decide +kernel))) (by decide +kernel)
theorem g237 : Cond.fieldLink "MirageLoans$Laws" 11 "MirageLoans$Laws" "steps" "[I" ∈ gw := gw_in (tb_1 (List.mem_of_getElem? (i := 141) (by decide +kernel))) (by decide +kernel)
theorem g238 : Cond.fieldLink "MirageLoans$Laws" 15 "MirageLoans$Laws" "values" "[I" ∈ gw := gw_in (tb_1 (List.mem_of_getElem? (i := 142) (by decide +kernel))) (by decide +kernel)
theorem g239 : Cond.fieldLink "MirageLoans$Laws" 18 "MirageLoans$Laws" "size" "I" ∈ gw := gw_in (tb_1 (List.mem_of_getElem? (i := 143) (by decide +kernel))) (by decide +kernel)
theorem g240 : Cond.fieldLink "MirageLoans$Laws" 22 "MirageLoans$Laws" "from" "[I" ∈ gw := gw_in (tb_1 (List.mem_of_getElem? (i := 144) (by decide +kernel))) (by decide +kernel)
theorem g241 : Cond.fieldLink "MirageLoans$Laws" 25 "MirageLoans$Laws" "vars" "[I" ∈ gw := gw_in (tb_1 (List.mem_of_getElem? (i := 145) (by decide +kernel))) (by decide +kernel)
theorem g242 : Cond.fieldLink "MirageLoans$Laws" 28 "MirageLoans$Laws" "stack" "[I" ∈ gw := gw_in (tb_1 (List.mem_of_getElem? (i := 146) (by decide +kernel))) (by decide +kernel)
theorem g257 : Cond.instanceMethod yX0_clear ∈ gw := gw_in (tb_1 (List.mem_of_getElem? (i := 161) (by decide +kernel))) (by decide +kernel)
theorem g258 : Cond.selects "MirageLoans$Flat" yX0_clear yX0_clear ∈ gw := gw_in (tb_1 (List.mem_of_getElem? (i := 162) (by decide +kernel))) (by decide +kernel)
set_option maxRecDepth 100000 in
theorem g259 : Cond.code yX0_clear prog_2_method_2_code 1 none ∈ gw := gw_in (tb_1 (List.mem_of_getElem? (i := 163) rfl)) (by decide +kernel)
theorem g260 : Cond.methodLink "MirageLoans$Flat" 60 yX2_clear ∈ gw := gw_in (tb_1 (List.mem_of_getElem? (i := 164) (by decide +kernel))) (by decide +kernel)
theorem g261 : Cond.instanceMethod yX2_clear ∈ gw := gw_in (tb_1 (List.mem_of_getElem? (i := 165) (by decide +kernel))) (by decide +kernel)
theorem g262 : Cond.selects "MirageLoans$Laws" yX2_clear yX2_clear ∈ gw := gw_in (tb_1 (List.mem_of_getElem? (i := 166) (by decide +kernel))) (by decide +kernel)
set_option maxRecDepth 100000 in
theorem g263 : Cond.code yX2_clear prog_4_method_2_code 1 none ∈ gw := gw_in (tb_1 (List.mem_of_getElem? (i := 167) rfl)) (by decide +kernel)
theorem g264 : Cond.methodLink "MirageLoans$Laws" 31 yX2_openWithVar ∈ gw := gw_in (tb_1 (List.mem_of_getElem? (i := 168) (by decide +kernel))) (by decide +kernel)
theorem g266 : Cond.instanceMethod yX2_openWithVar ∈ gw := gw_in (tb_1 (List.mem_of_getElem? (i := 170) (by decide +kernel))) (by decide +kernel)
set_option maxRecDepth 100000 in
theorem g267 : Cond.code yX2_openWithVar prog_4_method_3_code 3 none ∈ gw := gw_in (tb_1 (List.mem_of_getElem? (i := 171) rfl)) (by decide +kernel)
theorem g268 : Cond.methodLink "MirageLoans$Laws" 35 yX2_open ∈ gw := gw_in (tb_1 (List.mem_of_getElem? (i := 172) (by decide +kernel))) (by decide +kernel)
theorem g269 : Cond.instanceMethod yX2_open ∈ gw := gw_in (tb_1 (List.mem_of_getElem? (i := 173) (by decide +kernel))) (by decide +kernel)
theorem g270 : Cond.selects "MirageLoans$Laws" yX2_open yX2_open ∈ gw := gw_in (tb_1 (List.mem_of_getElem? (i := 174) (by decide +kernel))) (by decide +kernel)
set_option maxRecDepth 100000 in
theorem g271 : Cond.code yX2_open prog_4_method_4_code 2 none ∈ gw := gw_in (tb_1 (List.mem_of_getElem? (i := 175) rfl)) (by decide +kernel)
theorem g272 : Cond.methodLink "MirageLoans$Laws" 39 yX2_emit ∈ gw := gw_in (tb_1 (List.mem_of_getElem? (i := 176) (by decide +kernel))) (by decide +kernel)
theorem g273 : Cond.instanceMethod yX2_emit ∈ gw := gw_in (tb_1 (List.mem_of_getElem? (i := 177) (by decide +kernel))) (by decide +kernel)
theorem g274 : Cond.selects "MirageLoans$Laws" yX2_emit yX2_emit ∈ gw := gw_in (tb_1 (List.mem_of_getElem? (i := 178) (by decide +kernel))) (by decide +kernel)
set_option maxRecDepth 100000 in
theorem g275 : Cond.code yX2_emit prog_4_method_5_code 3 (some Jvm.ClassFile.FieldType.int) ∈ gw := gw_in (tb_1 (List.mem_of_getElem? (i := 179) rfl)) (by decide +kernel)
theorem g276 : Cond.fieldLink "MirageLoans$Flat" 9 "MirageLoans$Flat" "names" "[J" ∈ gw := gw_in (tb_1 (List.mem_of_getElem? (i := 180) (by decide +kernel))) (by decide +kernel)
theorem g277 : Cond.fieldLink "MirageLoans$Flat" 15 "MirageLoans$Flat" "nameCount" "I" ∈ gw := gw_in (tb_1 (List.mem_of_getElem? (i := 181) (by decide +kernel))) (by decide +kernel)
theorem g278 : Cond.fieldLink "MirageLoans$Flat" 19 "MirageLoans$Flat" "things" "I" ∈ gw := gw_in (tb_1 (List.mem_of_getElem? (i := 182) (by decide +kernel))) (by decide +kernel)
theorem g279 : Cond.fieldLink "MirageLoans$Grammar" 61 "MirageLoans$Flat" "things" "I" ∈ gw := gw_in (tb_1 (List.mem_of_getElem? (i := 183) (by decide +kernel))) (by decide +kernel)
theorem g280 : Cond.fieldLink "MirageLoans" 236 "MirageLoans$Flat" "things" "I" ∈ gw := gw_in (tb_1 (List.mem_of_getElem? (i := 184) (by decide +kernel))) (by decide +kernel)
theorem g281 : Cond.fieldLink "MirageLoans$Flat" 22 "MirageLoans$Flat" "thingX" "[I" ∈ gw := gw_in (tb_1 (List.mem_of_getElem? (i := 185) (by decide +kernel))) (by decide +kernel)
theorem g282 : Cond.fieldLink "MirageLoans" 118 "MirageLoans$Flat" "thingX" "[I" ∈ gw := gw_in (tb_1 (List.mem_of_getElem? (i := 186) (by decide +kernel))) (by decide +kernel)
theorem g283 : Cond.fieldLink "MirageLoans$Flat" 26 "MirageLoans$Flat" "tall" "[I" ∈ gw := gw_in (tb_1 (List.mem_of_getElem? (i := 187) (by decide +kernel))) (by decide +kernel)
theorem g284 : Cond.fieldLink "MirageLoans" 121 "MirageLoans$Flat" "tall" "[I" ∈ gw := gw_in (tb_1 (List.mem_of_getElem? (i := 188) (by decide +kernel))) (by decide +kernel)
theorem g285 : Cond.fieldLink "MirageLoans$Flat" 29 "MirageLoans$Flat" "seats" "I" ∈ gw := gw_in (tb_1 (List.mem_of_getElem? (i := 189) (by decide +kernel))) (by decide +kernel)
theorem g286 : Cond.fieldLink "MirageLoans$State" 39 "MirageLoans$Flat" "seats" "I" ∈ gw := gw_in (tb_1 (List.mem_of_getElem? (i := 190) (by decide +kernel))) (by decide +kernel)
theorem g287 : Cond.fieldLink "MirageLoans$Grammar" 64 "MirageLoans$Flat" "seats" "I" ∈ gw := gw_in (tb_1 (List.mem_of_getElem? (i := 191) (by decide +kernel))) (by decide +kernel)
theorem g288 : Cond.fieldLink "MirageLoans" 230 "MirageLoans$Flat" "seats" "I" ∈ gw := gw_in (tb_1 (List.mem_of_getElem? (i := 192) (by decide +kernel))) (by decide +kernel)
theorem g289 : Cond.fieldLink "MirageLoans$Flat" 32 "MirageLoans$Flat" "seatX" "[I" ∈ gw := gw_in (tb_1 (List.mem_of_getElem? (i := 193) (by decide +kernel))) (by decide +kernel)
theorem g290 : Cond.fieldLink "MirageLoans$State" 42 "MirageLoans$Flat" "seatX" "[I" ∈ gw := gw_in (tb_1 (List.mem_of_getElem? (i := 194) (by decide +kernel))) (by decide +kernel)
theorem g291 : Cond.fieldLink "MirageLoans$Flat" 35 "MirageLoans$Flat" "coins" "[I" ∈ gw := gw_in (tb_1 (List.mem_of_getElem? (i := 195) (by decide +kernel))) (by decide +kernel)
theorem g292 : Cond.fieldLink "MirageLoans$State" 45 "MirageLoans$Flat" "coins" "[I" ∈ gw := gw_in (tb_1 (List.mem_of_getElem? (i := 196) (by decide +kernel))) (by decide +kernel)
theorem g293 : Cond.fieldLink "MirageLoans$Flat" 38 "MirageLoans$Flat" "grace" "I" ∈ gw := gw_in (tb_1 (List.mem_of_getElem? (i := 197) (by decide +kernel))) (by decide +kernel)
theorem g294 : Cond.fieldLink "MirageLoans$Grammar" 104 "MirageLoans$Flat" "grace" "I" ∈ gw := gw_in (tb_1 (List.mem_of_getElem? (i := 198) (by decide +kernel))) (by decide +kernel)
theorem g295 : Cond.fieldLink "MirageLoans$Flat" 41 "MirageLoans$Flat" "winds" "I" ∈ gw := gw_in (tb_1 (List.mem_of_getElem? (i := 199) (by decide +kernel))) (by decide +kernel)
theorem g296 : Cond.fieldLink "MirageLoans$Grammar" 107 "MirageLoans$Flat" "winds" "I" ∈ gw := gw_in (tb_1 (List.mem_of_getElem? (i := 200) (by decide +kernel))) (by decide +kernel)
theorem g297 : Cond.fieldLink "MirageLoans" 213 "MirageLoans$Flat" "winds" "I" ∈ gw := gw_in (tb_1 (List.mem_of_getElem? (i := 201) (by decide +kernel))) (by decide +kernel)
theorem g298 : Cond.fieldLink "MirageLoans$Flat" 44 "MirageLoans$Flat" "begins" "I" ∈ gw := gw_in (tb_1 (List.mem_of_getElem? (i := 202) (by decide +kernel))) (by decide +kernel)
theorem g299 : Cond.fieldLink "MirageLoans$State" 34 "MirageLoans$Flat" "begins" "I" ∈ gw := gw_in (tb_1 (List.mem_of_getElem? (i := 203) (by decide +kernel))) (by decide +kernel)
theorem g300 : Cond.fieldLink "MirageLoans$Grammar" 110 "MirageLoans$Flat" "begins" "I" ∈ gw := gw_in (tb_1 (List.mem_of_getElem? (i := 204) (by decide +kernel))) (by decide +kernel)
theorem g301 : Cond.fieldLink "MirageLoans$Flat" 47 "MirageLoans$Flat" "seed" "I" ∈ gw := gw_in (tb_1 (List.mem_of_getElem? (i := 205) (by decide +kernel))) (by decide +kernel)
theorem g302 : Cond.fieldLink "MirageLoans$Grammar" 113 "MirageLoans$Flat" "seed" "I" ∈ gw := gw_in (tb_1 (List.mem_of_getElem? (i := 206) (by decide +kernel))) (by decide +kernel)
theorem g303 : Cond.fieldLink "MirageLoans" 210 "MirageLoans$Flat" "seed" "I" ∈ gw := gw_in (tb_1 (List.mem_of_getElem? (i := 207) (by decide +kernel))) (by decide +kernel)
theorem g304 : Cond.fieldLink "MirageLoans$Flat" 53 "MirageLoans$Flat" "laws" "LMirageLoans$Laws;" ∈ gw := gw_in (tb_1 (List.mem_of_getElem? (i := 208) (by decide +kernel))) (by decide +kernel)
theorem g305 : Cond.fieldLink "MirageLoans$Told" 42 "MirageLoans$Flat" "laws" "LMirageLoans$Laws;" ∈ gw := gw_in (tb_1 (List.mem_of_getElem? (i := 209) (by decide +kernel))) (by decide +kernel)
theorem g306 : Cond.fieldLink "MirageLoans" 186 "MirageLoans$Flat" "laws" "LMirageLoans$Laws;" ∈ gw := gw_in (tb_1 (List.mem_of_getElem? (i := 210) (by decide +kernel))) (by decide +kernel)
theorem g307 : Cond.fieldLink "MirageLoans$Grammar" 116 "MirageLoans$Flat" "laws" "LMirageLoans$Laws;" ∈ gw := gw_in (tb_1 (List.mem_of_getElem? (i := 211) (by decide +kernel))) (by decide +kernel)
theorem g335 : Cond.fieldLink "MirageLoans$Grammar" 12 "MirageLoans$Grammar" "tokens" "LMirageLoans$Tokens;" ∈ gw := gw_in (tb_1 (List.mem_of_getElem? (i := 239) (by decide +kernel))) (by decide +kernel)
theorem g336 : Cond.fieldLink "MirageLoans$Grammar" 21 "MirageLoans$Grammar" "draft" "LMirageLoans$Flat;" ∈ gw := gw_in (tb_2 (List.mem_of_getElem? (i := 0) (by decide +kernel))) (by decide +kernel)
theorem g337 : Cond.fieldLink "MirageLoans$Grammar" 25 "MirageLoans$Grammar" "at" "I" ∈ gw := gw_in (tb_2 (List.mem_of_getElem? (i := 1) (by decide +kernel))) (by decide +kernel)
theorem g338 : Cond.fieldLink "MirageLoans$Grammar" 29 "MirageLoans$Grammar" "kind" "I" ∈ gw := gw_in (tb_2 (List.mem_of_getElem? (i := 2) (by decide +kernel))) (by decide +kernel)
theorem g339 : Cond.fieldLink "MirageLoans$Grammar" 32 "MirageLoans$Grammar" "fault" "I" ∈ gw := gw_in (tb_2 (List.mem_of_getElem? (i := 3) (by decide +kernel))) (by decide +kernel)
theorem g340 : Cond.fieldLink "MirageLoans$Grammar" 35 "MirageLoans$Grammar" "place" "I" ∈ gw := gw_in (tb_2 (List.mem_of_getElem? (i := 4) (by decide +kernel))) (by decide +kernel)
theorem g341 : Cond.fieldLink "MirageLoans" 97 "MirageLoans$Grammar" "place" "I" ∈ gw := gw_in (tb_2 (List.mem_of_getElem? (i := 5) (by decide +kernel))) (by decide +kernel)
theorem g342 : Cond.fieldLink "MirageLoans$Grammar" 38 "MirageLoans$Grammar" "slip" "I" ∈ gw := gw_in (tb_2 (List.mem_of_getElem? (i := 6) (by decide +kernel))) (by decide +kernel)
theorem g343 : Cond.fieldLink "MirageLoans$Grammar" 41 "MirageLoans$Grammar" "slipPlace" "I" ∈ gw := gw_in (tb_2 (List.mem_of_getElem? (i := 7) (by decide +kernel))) (by decide +kernel)
theorem g367 : Cond.fieldLink "MirageLoans$State" 9 "MirageLoans$State" "hour" "I" ∈ gw := gw_in (tb_2 (List.mem_of_getElem? (i := 31) (by decide +kernel))) (by decide +kernel)
theorem g368 : Cond.fieldLink "MirageLoans" 140 "MirageLoans$State" "hour" "I" ∈ gw := gw_in (tb_2 (List.mem_of_getElem? (i := 32) (by decide +kernel))) (by decide +kernel)
theorem g369 : Cond.fieldLink "MirageLoans$Flat" 95 "MirageLoans$State" "hour" "I" ∈ gw := gw_in (tb_2 (List.mem_of_getElem? (i := 33) (by decide +kernel))) (by decide +kernel)
theorem g370 : Cond.fieldLink "MirageLoans$State" 15 "MirageLoans$State" "x" "[I" ∈ gw := gw_in (tb_2 (List.mem_of_getElem? (i := 34) (by decide +kernel))) (by decide +kernel)
theorem g371 : Cond.fieldLink "MirageLoans" 134 "MirageLoans$State" "x" "[I" ∈ gw := gw_in (tb_2 (List.mem_of_getElem? (i := 35) (by decide +kernel))) (by decide +kernel)
theorem g372 : Cond.fieldLink "MirageLoans$Flat" 115 "MirageLoans$State" "x" "[I" ∈ gw := gw_in (tb_2 (List.mem_of_getElem? (i := 36) (by decide +kernel))) (by decide +kernel)
theorem g373 : Cond.fieldLink "MirageLoans$State" 19 "MirageLoans$State" "coins" "[I" ∈ gw := gw_in (tb_2 (List.mem_of_getElem? (i := 37) (by decide +kernel))) (by decide +kernel)
theorem g374 : Cond.fieldLink "MirageLoans" 137 "MirageLoans$State" "coins" "[I" ∈ gw := gw_in (tb_2 (List.mem_of_getElem? (i := 38) (by decide +kernel))) (by decide +kernel)
theorem g375 : Cond.fieldLink "MirageLoans$Flat" 118 "MirageLoans$State" "coins" "[I" ∈ gw := gw_in (tb_2 (List.mem_of_getElem? (i := 39) (by decide +kernel))) (by decide +kernel)
theorem g376 : Cond.fieldLink "MirageLoans$State" 22 "MirageLoans$State" "gone" "[I" ∈ gw := gw_in (tb_2 (List.mem_of_getElem? (i := 40) (by decide +kernel))) (by decide +kernel)
theorem g377 : Cond.fieldLink "MirageLoans" 156 "MirageLoans$State" "gone" "[I" ∈ gw := gw_in (tb_2 (List.mem_of_getElem? (i := 41) (by decide +kernel))) (by decide +kernel)
theorem g378 : Cond.fieldLink "MirageLoans$Flat" 134 "MirageLoans$State" "gone" "[I" ∈ gw := gw_in (tb_2 (List.mem_of_getElem? (i := 42) (by decide +kernel))) (by decide +kernel)
theorem g379 : Cond.fieldLink "MirageLoans$State" 25 "MirageLoans$State" "rent" "[I" ∈ gw := gw_in (tb_2 (List.mem_of_getElem? (i := 43) (by decide +kernel))) (by decide +kernel)
theorem g380 : Cond.fieldLink "MirageLoans" 159 "MirageLoans$State" "rent" "[I" ∈ gw := gw_in (tb_2 (List.mem_of_getElem? (i := 44) (by decide +kernel))) (by decide +kernel)
theorem g381 : Cond.fieldLink "MirageLoans$Flat" 125 "MirageLoans$State" "rent" "[I" ∈ gw := gw_in (tb_2 (List.mem_of_getElem? (i := 45) (by decide +kernel))) (by decide +kernel)
theorem g382 : Cond.fieldLink "MirageLoans$State" 28 "MirageLoans$State" "lent" "[I" ∈ gw := gw_in (tb_2 (List.mem_of_getElem? (i := 46) (by decide +kernel))) (by decide +kernel)
theorem g383 : Cond.fieldLink "MirageLoans" 169 "MirageLoans$State" "lent" "[I" ∈ gw := gw_in (tb_2 (List.mem_of_getElem? (i := 47) (by decide +kernel))) (by decide +kernel)
theorem g384 : Cond.fieldLink "MirageLoans$Flat" 112 "MirageLoans$State" "lent" "[I" ∈ gw := gw_in (tb_2 (List.mem_of_getElem? (i := 48) (by decide +kernel))) (by decide +kernel)
theorem g385 : Cond.fieldLink "MirageLoans$State" 31 "MirageLoans$State" "unseen" "[I" ∈ gw := gw_in (tb_2 (List.mem_of_getElem? (i := 49) (by decide +kernel))) (by decide +kernel)
theorem g386 : Cond.fieldLink "MirageLoans" 172 "MirageLoans$State" "unseen" "[I" ∈ gw := gw_in (tb_2 (List.mem_of_getElem? (i := 50) (by decide +kernel))) (by decide +kernel)
theorem g387 : Cond.fieldLink "MirageLoans$Flat" 127 "MirageLoans$State" "unseen" "[I" ∈ gw := gw_in (tb_2 (List.mem_of_getElem? (i := 51) (by decide +kernel))) (by decide +kernel)
theorem g412 : Cond.fieldLink "MirageLoans$Past" 11 "MirageLoans$Past" "rows" "[LMirageLoans$State;" ∈ gw := gw_in (tb_2 (List.mem_of_getElem? (i := 76) (by decide +kernel))) (by decide +kernel)
theorem g413 : Cond.fieldLink "MirageLoans$Past" 15 "MirageLoans$Past" "next" "I" ∈ gw := gw_in (tb_2 (List.mem_of_getElem? (i := 77) (by decide +kernel))) (by decide +kernel)
theorem g414 : Cond.fieldLink "MirageLoans$Past" 19 "MirageLoans$Past" "size" "I" ∈ gw := gw_in (tb_2 (List.mem_of_getElem? (i := 78) (by decide +kernel))) (by decide +kernel)
theorem g415 : Cond.fieldLink "MirageLoans" 322 "MirageLoans$Past" "size" "I" ∈ gw := gw_in (tb_2 (List.mem_of_getElem? (i := 79) (by decide +kernel))) (by decide +kernel)
theorem g429 : Cond.fieldLink "MirageLoans$Told" 9 "MirageLoans$Told" "size" "I" ∈ gw := gw_in (tb_2 (List.mem_of_getElem? (i := 93) (by decide +kernel))) (by decide +kernel)
theorem g430 : Cond.fieldLink "MirageLoans" 114 "MirageLoans$Told" "size" "I" ∈ gw := gw_in (tb_2 (List.mem_of_getElem? (i := 94) (by decide +kernel))) (by decide +kernel)
theorem g431 : Cond.fieldLink "MirageLoans$Told" 15 "MirageLoans$Told" "x" "[I" ∈ gw := gw_in (tb_2 (List.mem_of_getElem? (i := 95) (by decide +kernel))) (by decide +kernel)
theorem g432 : Cond.fieldLink "MirageLoans$Told" 19 "MirageLoans$Told" "at" "[I" ∈ gw := gw_in (tb_2 (List.mem_of_getElem? (i := 96) (by decide +kernel))) (by decide +kernel)
theorem g433 : Cond.fieldLink "MirageLoans$Told" 22 "MirageLoans$Told" "hour" "[I" ∈ gw := gw_in (tb_2 (List.mem_of_getElem? (i := 97) (by decide +kernel))) (by decide +kernel)
theorem g434 : Cond.fieldLink "MirageLoans$Told" 25 "MirageLoans$Told" "isLeft" "[Z" ∈ gw := gw_in (tb_2 (List.mem_of_getElem? (i := 98) (by decide +kernel))) (by decide +kernel)
theorem g435 : Cond.fieldLink "MirageLoans$Told" 29 "MirageLoans$Told" "split" "[I" ∈ gw := gw_in (tb_2 (List.mem_of_getElem? (i := 99) (by decide +kernel))) (by decide +kernel)
theorem g452 : Cond.fieldLink "MirageLoans" 12 "MirageLoans" "tape" "LMirageLoans$Tape;" ∈ gw := gw_in (tb_2 (List.mem_of_getElem? (i := 116) (by decide +kernel))) (by decide +kernel)
theorem g453 : Cond.fieldLink "MirageLoans" 19 "MirageLoans" "grammar" "LMirageLoans$Grammar;" ∈ gw := gw_in (tb_2 (List.mem_of_getElem? (i := 117) (by decide +kernel))) (by decide +kernel)
theorem g454 : Cond.fieldLink "MirageLoans" 26 "MirageLoans" "now" "LMirageLoans$State;" ∈ gw := gw_in (tb_2 (List.mem_of_getElem? (i := 118) (by decide +kernel))) (by decide +kernel)
theorem g455 : Cond.fieldLink "MirageLoans" 30 "MirageLoans" "ahead" "LMirageLoans$State;" ∈ gw := gw_in (tb_2 (List.mem_of_getElem? (i := 119) (by decide +kernel))) (by decide +kernel)
theorem g456 : Cond.fieldLink "MirageLoans" 36 "MirageLoans" "past" "LMirageLoans$Past;" ∈ gw := gw_in (tb_2 (List.mem_of_getElem? (i := 120) (by decide +kernel))) (by decide +kernel)
theorem g457 : Cond.fieldLink "MirageLoans" 40 "MirageLoans" "slots" "[LMirageLoans$State;" ∈ gw := gw_in (tb_2 (List.mem_of_getElem? (i := 121) (by decide +kernel))) (by decide +kernel)
theorem g458 : Cond.fieldLink "MirageLoans" 44 "MirageLoans" "held" "[Z" ∈ gw := gw_in (tb_2 (List.mem_of_getElem? (i := 122) (by decide +kernel))) (by decide +kernel)
theorem g459 : Cond.fieldLink "MirageLoans" 51 "MirageLoans" "told" "LMirageLoans$Told;" ∈ gw := gw_in (tb_2 (List.mem_of_getElem? (i := 123) (by decide +kernel))) (by decide +kernel)
theorem g461 : Cond.fieldLink "MirageLoans" 59 "MirageLoans" "spots" "[I" ∈ gw := gw_in (tb_2 (List.mem_of_getElem? (i := 125) (by decide +kernel))) (by decide +kernel)
theorem g464 : Cond.fieldLink "MirageLoans" 71 "MirageLoans" "flat" "LMirageLoans$Flat;" ∈ gw := gw_in (tb_2 (List.mem_of_getElem? (i := 128) (by decide +kernel))) (by decide +kernel)
theorem g465 : Cond.fieldLink "MirageLoans" 75 "MirageLoans" "faultPlace" "I" ∈ gw := gw_in (tb_2 (List.mem_of_getElem? (i := 129) (by decide +kernel))) (by decide +kernel)
set_option maxRecDepth 100000 in
theorem g498 : Cond.code yX8_feed prog_1_method_2_code 6 (some Jvm.ClassFile.FieldType.int) ∈ gw := gw_in (tb_2 (List.mem_of_getElem? (i := 162) rfl)) (by decide +kernel)
theorem g499 : Cond.methodLink "MirageLoans" 79 yX5_hasRoom ∈ gw := gw_in (tb_2 (List.mem_of_getElem? (i := 163) (by decide +kernel))) (by decide +kernel)
theorem g500 : Cond.instanceMethod yX5_hasRoom ∈ gw := gw_in (tb_2 (List.mem_of_getElem? (i := 164) (by decide +kernel))) (by decide +kernel)
theorem g501 : Cond.selects "MirageLoans$Tape" yX5_hasRoom yX5_hasRoom ∈ gw := gw_in (tb_2 (List.mem_of_getElem? (i := 165) (by decide +kernel))) (by decide +kernel)
set_option maxRecDepth 100000 in
theorem g502 : Cond.code yX5_hasRoom prog_7_method_2_code 2 (some Jvm.ClassFile.FieldType.boolean) ∈ gw := gw_in (tb_2 (List.mem_of_getElem? (i := 166) rfl)) (by decide +kernel)
theorem g503 : Cond.methodLink "MirageLoans" 83 yX5_putWord ∈ gw := gw_in (tb_2 (List.mem_of_getElem? (i := 167) (by decide +kernel))) (by decide +kernel)
theorem g504 : Cond.instanceMethod yX5_putWord ∈ gw := gw_in (tb_2 (List.mem_of_getElem? (i := 168) (by decide +kernel))) (by decide +kernel)
theorem g505 : Cond.selects "MirageLoans$Tape" yX5_putWord yX5_putWord ∈ gw := gw_in (tb_2 (List.mem_of_getElem? (i := 169) (by decide +kernel))) (by decide +kernel)
set_option maxRecDepth 100000 in
theorem g506 : Cond.code yX5_putWord prog_7_method_3_code 3 none ∈ gw := gw_in (tb_2 (List.mem_of_getElem? (i := 170) rfl)) (by decide +kernel)
set_option maxRecDepth 100000 in
theorem g510 : Cond.code yX8_back prog_1_method_3_code 2 (some Jvm.ClassFile.FieldType.int) ∈ gw := gw_in (tb_2 (List.mem_of_getElem? (i := 174) rfl)) (by decide +kernel)
theorem g511 : Cond.methodLink "MirageLoans" 90 yX5_drop ∈ gw := gw_in (tb_2 (List.mem_of_getElem? (i := 175) (by decide +kernel))) (by decide +kernel)
theorem g512 : Cond.instanceMethod yX5_drop ∈ gw := gw_in (tb_2 (List.mem_of_getElem? (i := 176) (by decide +kernel))) (by decide +kernel)
theorem g513 : Cond.selects "MirageLoans$Tape" yX5_drop yX5_drop ∈ gw := gw_in (tb_2 (List.mem_of_getElem? (i := 177) (by decide +kernel))) (by decide +kernel)
set_option maxRecDepth 100000 in
theorem g514 : Cond.code yX5_drop prog_7_method_4_code 2 (some Jvm.ClassFile.FieldType.boolean) ∈ gw := gw_in (tb_2 (List.mem_of_getElem? (i := 178) rfl)) (by decide +kernel)
set_option maxRecDepth 100000 in
theorem g518 : Cond.code yX8_read prog_1_method_4_code 2 (some Jvm.ClassFile.FieldType.int) ∈ gw := gw_in (tb_2 (List.mem_of_getElem? (i := 182) rfl)) (by decide +kernel)
theorem g519 : Cond.methodLink "MirageLoans" 93 yX1_parse ∈ gw := gw_in (tb_2 (List.mem_of_getElem? (i := 183) (by decide +kernel))) (by decide +kernel)
theorem g520 : Cond.instanceMethod yX1_parse ∈ gw := gw_in (tb_2 (List.mem_of_getElem? (i := 184) (by decide +kernel))) (by decide +kernel)
theorem g521 : Cond.selects "MirageLoans$Grammar" yX1_parse yX1_parse ∈ gw := gw_in (tb_2 (List.mem_of_getElem? (i := 185) (by decide +kernel))) (by decide +kernel)
set_option maxRecDepth 100000 in
theorem g522 : Cond.code yX1_parse prog_3_method_2_code 3 (some Jvm.ClassFile.FieldType.int) ∈ gw := gw_in (tb_2 (List.mem_of_getElem? (i := 186) rfl)) (by decide +kernel)
theorem g523 : Cond.methodLink "MirageLoans$Grammar" 44 yX0_clear ∈ gw := gw_in (tb_2 (List.mem_of_getElem? (i := 187) (by decide +kernel))) (by decide +kernel)
theorem g524 : Cond.methodLink "MirageLoans$Grammar" 47 yX6_scan ∈ gw := gw_in (tb_2 (List.mem_of_getElem? (i := 188) (by decide +kernel))) (by decide +kernel)
theorem g525 : Cond.instanceMethod yX6_scan ∈ gw := gw_in (tb_2 (List.mem_of_getElem? (i := 189) (by decide +kernel))) (by decide +kernel)
theorem g526 : Cond.selects "MirageLoans$Tokens" yX6_scan yX6_scan ∈ gw := gw_in (tb_2 (List.mem_of_getElem? (i := 190) (by decide +kernel))) (by decide +kernel)
set_option maxRecDepth 100000 in
theorem g527 : Cond.code yX6_scan prog_8_method_3_code 4 none ∈ gw := gw_in (tb_2 (List.mem_of_getElem? (i := 191) rfl)) (by decide +kernel)
theorem g528 : Cond.methodLink "MirageLoans$Tokens" 47 yX6_skipBlanks ∈ gw := gw_in (tb_2 (List.mem_of_getElem? (i := 192) (by decide +kernel))) (by decide +kernel)
theorem g530 : Cond.instanceMethod yX6_skipBlanks ∈ gw := gw_in (tb_2 (List.mem_of_getElem? (i := 194) (by decide +kernel))) (by decide +kernel)
set_option maxRecDepth 100000 in
theorem g531 : Cond.code yX6_skipBlanks prog_8_method_4_code 2 none ∈ gw := gw_in (tb_2 (List.mem_of_getElem? (i := 195) rfl)) (by decide +kernel)
theorem g532 : Cond.methodLink "MirageLoans$Tokens" 51 yX5_byteAt ∈ gw := gw_in (tb_2 (List.mem_of_getElem? (i := 196) (by decide +kernel))) (by decide +kernel)
theorem g533 : Cond.instanceMethod yX5_byteAt ∈ gw := gw_in (tb_2 (List.mem_of_getElem? (i := 197) (by decide +kernel))) (by decide +kernel)
theorem g534 : Cond.selects "MirageLoans$Tape" yX5_byteAt yX5_byteAt ∈ gw := gw_in (tb_2 (List.mem_of_getElem? (i := 198) (by decide +kernel))) (by decide +kernel)
set_option maxRecDepth 100000 in
theorem g535 : Cond.code yX5_byteAt prog_7_method_5_code 2 (some Jvm.ClassFile.FieldType.int) ∈ gw := gw_in (tb_2 (List.mem_of_getElem? (i := 199) rfl)) (by decide +kernel)
theorem g536 : Cond.methodLink "MirageLoans$Tokens" 79 yX6_isBlank ∈ gw := gw_in (tb_2 (List.mem_of_getElem? (i := 200) (by decide +kernel))) (by decide +kernel)
theorem g537 : Cond.static yX6_isBlank ∈ gw := gw_in (tb_2 (List.mem_of_getElem? (i := 201) (by decide +kernel))) (by decide +kernel)
set_option maxRecDepth 100000 in
theorem g538 : Cond.code yX6_isBlank prog_8_method_8_code 1 (some Jvm.ClassFile.FieldType.boolean) ∈ gw := gw_in (tb_2 (List.mem_of_getElem? (i := 202) rfl)) (by decide +kernel)
theorem g539 : Cond.methodLink "MirageLoans$Tokens" 57 yX6_isLetter ∈ gw := gw_in (tb_2 (List.mem_of_getElem? (i := 203) (by decide +kernel))) (by decide +kernel)
theorem g540 : Cond.static yX6_isLetter ∈ gw := gw_in (tb_2 (List.mem_of_getElem? (i := 204) (by decide +kernel))) (by decide +kernel)
set_option maxRecDepth 100000 in
theorem g541 : Cond.code yX6_isLetter prog_8_method_9_code 1 (some Jvm.ClassFile.FieldType.boolean) ∈ gw := gw_in (tb_2 (List.mem_of_getElem? (i := 205) rfl)) (by decide +kernel)
theorem g542 : Cond.methodLink "MirageLoans$Tokens" 61 yX6_scanLetters ∈ gw := gw_in (tb_2 (List.mem_of_getElem? (i := 206) (by decide +kernel))) (by decide +kernel)
theorem g544 : Cond.instanceMethod yX6_scanLetters ∈ gw := gw_in (tb_2 (List.mem_of_getElem? (i := 208) (by decide +kernel))) (by decide +kernel)
set_option maxRecDepth 100000 in
theorem g545 : Cond.code yX6_scanLetters prog_8_method_5_code 6 none ∈ gw := gw_in (tb_2 (List.mem_of_getElem? (i := 209) rfl)) (by decide +kernel)
theorem g546 : Cond.methodLink "MirageLoans$Tokens" 82 yX6_kindOf ∈ gw := gw_in (tb_2 (List.mem_of_getElem? (i := 210) (by decide +kernel))) (by decide +kernel)
theorem g548 : Cond.instanceMethod yX6_kindOf ∈ gw := gw_in (tb_2 (List.mem_of_getElem? (i := 212) (by decide +kernel))) (by decide +kernel)
set_option maxRecDepth 100000 in
theorem g549 : Cond.code yX6_kindOf prog_8_method_6_code 4 (some Jvm.ClassFile.FieldType.int) ∈ gw := gw_in (tb_2 (List.mem_of_getElem? (i := 213) rfl)) (by decide +kernel)
theorem g550 : Cond.methodLink "MirageLoans$Tokens" 65 yX6_isDigit ∈ gw := gw_in (tb_2 (List.mem_of_getElem? (i := 214) (by decide +kernel))) (by decide +kernel)
theorem g551 : Cond.static yX6_isDigit ∈ gw := gw_in (tb_2 (List.mem_of_getElem? (i := 215) (by decide +kernel))) (by decide +kernel)
set_option maxRecDepth 100000 in
theorem g552 : Cond.code yX6_isDigit prog_8_method_10_code 1 (some Jvm.ClassFile.FieldType.boolean) ∈ gw := gw_in (tb_2 (List.mem_of_getElem? (i := 216) rfl)) (by decide +kernel)
theorem g553 : Cond.methodLink "MirageLoans$Tokens" 68 yX6_scanDigits ∈ gw := gw_in (tb_2 (List.mem_of_getElem? (i := 217) (by decide +kernel))) (by decide +kernel)
theorem g555 : Cond.instanceMethod yX6_scanDigits ∈ gw := gw_in (tb_2 (List.mem_of_getElem? (i := 219) (by decide +kernel))) (by decide +kernel)
set_option maxRecDepth 100000 in
theorem g556 : Cond.code yX6_scanDigits prog_8_method_7_code 6 none ∈ gw := gw_in (tb_2 (List.mem_of_getElem? (i := 220) rfl)) (by decide +kernel)
theorem g557 : Cond.constantLong "MirageLoans$Tokens" 86 (10 : Int64) ∈ gw := gw_in (tb_2 (List.mem_of_getElem? (i := 221) (by decide +kernel))) (by decide +kernel)
theorem g559 : Cond.methodLink "MirageLoans$Tokens" 73 yJ0_indexOf_0f7a4 ∈ gw := gw_in (tb_2 (List.mem_of_getElem? (i := 223) (by decide +kernel))) (by decide +kernel)
theorem g560 : Cond.instanceMethod yJ0_indexOf_0f7a4 ∈ gw := gw_in (tb_2 (List.mem_of_getElem? (i := 224) (by decide +kernel))) (by decide +kernel)
theorem g561 : Cond.selects "java/lang/String" yJ0_indexOf_0f7a4 yJ0_indexOf_0f7a4 ∈ gw := gw_in (tb_2 (List.mem_of_getElem? (i := 225) (by decide +kernel))) (by decide +kernel)
set_option maxRecDepth 100000 in
theorem g562 : Cond.code yJ0_indexOf_0f7a4 prog_15_method_79_code 2 (some Jvm.ClassFile.FieldType.int) ∈ gw := gw_in (tb_2 (List.mem_of_getElem? (i := 226) rfl)) (by decide +kernel)
theorem g563 : Cond.methodLink "java/lang/String" 633 yJ0_indexOf_7cf53 ∈ gw := gw_in (tb_2 (List.mem_of_getElem? (i := 227) (by decide +kernel))) (by decide +kernel)
theorem g564 : Cond.instanceMethod yJ0_indexOf_7cf53 ∈ gw := gw_in (tb_2 (List.mem_of_getElem? (i := 228) (by decide +kernel))) (by decide +kernel)
theorem g565 : Cond.selects "java/lang/String" yJ0_indexOf_7cf53 yJ0_indexOf_7cf53 ∈ gw := gw_in (tb_2 (List.mem_of_getElem? (i := 229) (by decide +kernel))) (by decide +kernel)
set_option maxRecDepth 100000 in
theorem g566 : Cond.code yJ0_indexOf_7cf53 prog_15_method_80_code 3 (some Jvm.ClassFile.FieldType.int) ∈ gw := gw_in (tb_2 (List.mem_of_getElem? (i := 230) rfl)) (by decide +kernel)
theorem g567 : Cond.methodLink "java/lang/String" 505 yJ0_length_8abf5 ∈ gw := gw_in (tb_2 (List.mem_of_getElem? (i := 231) (by decide +kernel))) (by decide +kernel)
theorem g568 : Cond.methodLink "java/lang/String" 637 yJ1_indexOf_4cfef ∈ gw := gw_in (tb_2 (List.mem_of_getElem? (i := 232) (by decide +kernel))) (by decide +kernel)
theorem g569 : Cond.static yJ1_indexOf_4cfef ∈ gw := gw_in (tb_2 (List.mem_of_getElem? (i := 233) (by decide +kernel))) (by decide +kernel)
set_option maxRecDepth 100000 in
theorem g570 : Cond.code yJ1_indexOf_4cfef prog_16_method_22_code 4 (some Jvm.ClassFile.FieldType.int) ∈ gw := gw_in (tb_2 (List.mem_of_getElem? (i := 234) rfl)) (by decide +kernel)
theorem g571 : Cond.methodLink "java/lang/StringLatin1" 88 yJ1_canEncode_9a6ad ∈ gw := gw_in (tb_2 (List.mem_of_getElem? (i := 235) (by decide +kernel))) (by decide +kernel)
theorem g572 : Cond.static yJ1_canEncode_9a6ad ∈ gw := gw_in (tb_2 (List.mem_of_getElem? (i := 236) (by decide +kernel))) (by decide +kernel)
set_option maxRecDepth 100000 in
theorem g573 : Cond.code yJ1_canEncode_9a6ad prog_16_method_4_code 1 (some Jvm.ClassFile.FieldType.boolean) ∈ gw := gw_in (tb_2 (List.mem_of_getElem? (i := 237) rfl)) (by decide +kernel)
theorem g574 : Cond.methodLink "java/lang/StringLatin1" 92 Lib.Math.max.name ∈ gw := gw_in (tb_2 (List.mem_of_getElem? (i := 238) (by decide +kernel))) (by decide +kernel)
theorem g575 : Cond.static Lib.Math.max.name ∈ gw := gw_in (tb_2 (List.mem_of_getElem? (i := 239) (by decide +kernel))) (by decide +kernel)
set_option maxRecDepth 100000 in
theorem g576 : Cond.code Lib.Math.max.name prog_14_method_65_code 2 (some Jvm.ClassFile.FieldType.int) ∈ gw := gw_in (tb_3 (List.mem_of_getElem? (i := 0) rfl)) (by decide +kernel)
theorem g577 : Cond.methodLink "java/lang/StringLatin1" 38 Lib.Math.min.name ∈ gw := gw_in (tb_3 (List.mem_of_getElem? (i := 1) (by decide +kernel))) (by decide +kernel)
theorem g578 : Cond.static Lib.Math.min.name ∈ gw := gw_in (tb_3 (List.mem_of_getElem? (i := 2) (by decide +kernel))) (by decide +kernel)
set_option maxRecDepth 100000 in
theorem g579 : Cond.code Lib.Math.min.name prog_14_method_69_code 2 (some Jvm.ClassFile.FieldType.int) ∈ gw := gw_in (tb_3 (List.mem_of_getElem? (i := 3) rfl)) (by decide +kernel)
theorem g580 : Cond.methodLink "java/lang/StringLatin1" 95 yJ1_indexOfChar_4cfef ∈ gw := gw_in (tb_3 (List.mem_of_getElem? (i := 4) (by decide +kernel))) (by decide +kernel)
theorem g581 : Cond.static yJ1_indexOfChar_4cfef ∈ gw := gw_in (tb_3 (List.mem_of_getElem? (i := 5) (by decide +kernel))) (by decide +kernel)
set_option maxRecDepth 100000 in
theorem g582 : Cond.code yJ1_indexOfChar_4cfef prog_16_method_23_code 6 (some Jvm.ClassFile.FieldType.int) ∈ gw := gw_in (tb_3 (List.mem_of_getElem? (i := 6) rfl)) (by decide +kernel)
theorem g618 : Cond.methodLink "MirageLoans$Grammar" 55 yX1_takeTell ∈ gw := gw_in (tb_3 (List.mem_of_getElem? (i := 42) (by decide +kernel))) (by decide +kernel)
theorem g620 : Cond.instanceMethod yX1_takeTell ∈ gw := gw_in (tb_3 (List.mem_of_getElem? (i := 44) (by decide +kernel))) (by decide +kernel)
set_option maxRecDepth 100000 in
theorem g621 : Cond.code yX1_takeTell prog_3_method_7_code 2 none ∈ gw := gw_in (tb_3 (List.mem_of_getElem? (i := 45) rfl)) (by decide +kernel)
theorem g622 : Cond.methodLink "MirageLoans$Grammar" 67 yX1_fail ∈ gw := gw_in (tb_3 (List.mem_of_getElem? (i := 46) (by decide +kernel))) (by decide +kernel)
theorem g624 : Cond.instanceMethod yX1_fail ∈ gw := gw_in (tb_3 (List.mem_of_getElem? (i := 48) (by decide +kernel))) (by decide +kernel)
set_option maxRecDepth 100000 in
theorem g625 : Cond.code yX1_fail prog_3_method_4_code 2 none ∈ gw := gw_in (tb_3 (List.mem_of_getElem? (i := 49) rfl)) (by decide +kernel)
theorem g626 : Cond.methodLink "MirageLoans$Grammar" 71 yX1_take ∈ gw := gw_in (tb_3 (List.mem_of_getElem? (i := 50) (by decide +kernel))) (by decide +kernel)
theorem g628 : Cond.instanceMethod yX1_take ∈ gw := gw_in (tb_3 (List.mem_of_getElem? (i := 52) (by decide +kernel))) (by decide +kernel)
set_option maxRecDepth 100000 in
theorem g629 : Cond.code yX1_take prog_3_method_6_code 2 none ∈ gw := gw_in (tb_3 (List.mem_of_getElem? (i := 53) rfl)) (by decide +kernel)
theorem g630 : Cond.methodLink "MirageLoans$Grammar" 75 yX1_takeStander ∈ gw := gw_in (tb_3 (List.mem_of_getElem? (i := 54) (by decide +kernel))) (by decide +kernel)
theorem g632 : Cond.instanceMethod yX1_takeStander ∈ gw := gw_in (tb_3 (List.mem_of_getElem? (i := 56) (by decide +kernel))) (by decide +kernel)
set_option maxRecDepth 100000 in
theorem g633 : Cond.code yX1_takeStander prog_3_method_8_code 7 none ∈ gw := gw_in (tb_3 (List.mem_of_getElem? (i := 57) rfl)) (by decide +kernel)
theorem g634 : Cond.methodLink "MirageLoans$Grammar" 88 yX0_addName ∈ gw := gw_in (tb_3 (List.mem_of_getElem? (i := 58) (by decide +kernel))) (by decide +kernel)
theorem g635 : Cond.instanceMethod yX0_addName ∈ gw := gw_in (tb_3 (List.mem_of_getElem? (i := 59) (by decide +kernel))) (by decide +kernel)
theorem g636 : Cond.selects "MirageLoans$Flat" yX0_addName yX0_addName ∈ gw := gw_in (tb_3 (List.mem_of_getElem? (i := 60) (by decide +kernel))) (by decide +kernel)
set_option maxRecDepth 100000 in
theorem g637 : Cond.code yX0_addName prog_2_method_3_code 4 (some Jvm.ClassFile.FieldType.boolean) ∈ gw := gw_in (tb_3 (List.mem_of_getElem? (i := 61) rfl)) (by decide +kernel)
theorem g638 : Cond.methodLink "MirageLoans$Grammar" 92 yX1_note ∈ gw := gw_in (tb_3 (List.mem_of_getElem? (i := 62) (by decide +kernel))) (by decide +kernel)
theorem g640 : Cond.instanceMethod yX1_note ∈ gw := gw_in (tb_3 (List.mem_of_getElem? (i := 64) (by decide +kernel))) (by decide +kernel)
set_option maxRecDepth 100000 in
theorem g641 : Cond.code yX1_note prog_3_method_5_code 3 none ∈ gw := gw_in (tb_3 (List.mem_of_getElem? (i := 65) rfl)) (by decide +kernel)
theorem g642 : Cond.methodLink "MirageLoans$Grammar" 96 yX1_takeInt ∈ gw := gw_in (tb_3 (List.mem_of_getElem? (i := 66) (by decide +kernel))) (by decide +kernel)
theorem g644 : Cond.instanceMethod yX1_takeInt ∈ gw := gw_in (tb_3 (List.mem_of_getElem? (i := 68) (by decide +kernel))) (by decide +kernel)
set_option maxRecDepth 100000 in
theorem g645 : Cond.code yX1_takeInt prog_3_method_9_code 5 (some Jvm.ClassFile.FieldType.int) ∈ gw := gw_in (tb_3 (List.mem_of_getElem? (i := 69) rfl)) (by decide +kernel)
theorem g646 : Cond.methodLink "MirageLoans$Grammar" 100 yX0_addStander ∈ gw := gw_in (tb_3 (List.mem_of_getElem? (i := 70) (by decide +kernel))) (by decide +kernel)
theorem g647 : Cond.instanceMethod yX0_addStander ∈ gw := gw_in (tb_3 (List.mem_of_getElem? (i := 71) (by decide +kernel))) (by decide +kernel)
theorem g648 : Cond.selects "MirageLoans$Flat" yX0_addStander yX0_addStander ∈ gw := gw_in (tb_3 (List.mem_of_getElem? (i := 72) (by decide +kernel))) (by decide +kernel)
set_option maxRecDepth 100000 in
theorem g649 : Cond.code yX0_addStander prog_2_method_4_code 4 none ∈ gw := gw_in (tb_3 (List.mem_of_getElem? (i := 73) rfl)) (by decide +kernel)
theorem g650 : Cond.methodLink "MirageLoans$Grammar" 78 yX1_takeLaw ∈ gw := gw_in (tb_3 (List.mem_of_getElem? (i := 74) (by decide +kernel))) (by decide +kernel)
theorem g652 : Cond.instanceMethod yX1_takeLaw ∈ gw := gw_in (tb_3 (List.mem_of_getElem? (i := 76) (by decide +kernel))) (by decide +kernel)
set_option maxRecDepth 100000 in
theorem g653 : Cond.code yX1_takeLaw prog_3_method_11_code 4 none ∈ gw := gw_in (tb_3 (List.mem_of_getElem? (i := 77) rfl)) (by decide +kernel)
theorem g654 : Cond.methodLink "MirageLoans$Grammar" 120 yX2_open ∈ gw := gw_in (tb_3 (List.mem_of_getElem? (i := 78) (by decide +kernel))) (by decide +kernel)
theorem g655 : Cond.methodLink "MirageLoans$Grammar" 125 yX1_takeSum ∈ gw := gw_in (tb_3 (List.mem_of_getElem? (i := 79) (by decide +kernel))) (by decide +kernel)
theorem g657 : Cond.instanceMethod yX1_takeSum ∈ gw := gw_in (tb_3 (List.mem_of_getElem? (i := 81) (by decide +kernel))) (by decide +kernel)
set_option maxRecDepth 100000 in
theorem g658 : Cond.code yX1_takeSum prog_3_method_12_code 4 none ∈ gw := gw_in (tb_3 (List.mem_of_getElem? (i := 82) rfl)) (by decide +kernel)
theorem g659 : Cond.methodLink "MirageLoans$Grammar" 134 yX1_takeProduct ∈ gw := gw_in (tb_3 (List.mem_of_getElem? (i := 83) (by decide +kernel))) (by decide +kernel)
theorem g661 : Cond.instanceMethod yX1_takeProduct ∈ gw := gw_in (tb_3 (List.mem_of_getElem? (i := 85) (by decide +kernel))) (by decide +kernel)
set_option maxRecDepth 100000 in
theorem g662 : Cond.code yX1_takeProduct prog_3_method_13_code 4 none ∈ gw := gw_in (tb_3 (List.mem_of_getElem? (i := 86) rfl)) (by decide +kernel)
theorem g663 : Cond.methodLink "MirageLoans$Grammar" 137 yX1_takeUnit ∈ gw := gw_in (tb_3 (List.mem_of_getElem? (i := 87) (by decide +kernel))) (by decide +kernel)
theorem g665 : Cond.instanceMethod yX1_takeUnit ∈ gw := gw_in (tb_3 (List.mem_of_getElem? (i := 89) (by decide +kernel))) (by decide +kernel)
set_option maxRecDepth 100000 in
theorem g666 : Cond.code yX1_takeUnit prog_3_method_14_code 2 none ∈ gw := gw_in (tb_3 (List.mem_of_getElem? (i := 90) rfl)) (by decide +kernel)
theorem g667 : Cond.methodLink "MirageLoans$Grammar" 128 yX2_emit ∈ gw := gw_in (tb_3 (List.mem_of_getElem? (i := 91) (by decide +kernel))) (by decide +kernel)
theorem g668 : Cond.methodLink "MirageLoans$Grammar" 131 yX2_leadOnFrom ∈ gw := gw_in (tb_3 (List.mem_of_getElem? (i := 92) (by decide +kernel))) (by decide +kernel)
theorem g669 : Cond.instanceMethod yX2_leadOnFrom ∈ gw := gw_in (tb_3 (List.mem_of_getElem? (i := 93) (by decide +kernel))) (by decide +kernel)
theorem g670 : Cond.selects "MirageLoans$Laws" yX2_leadOnFrom yX2_leadOnFrom ∈ gw := gw_in (tb_3 (List.mem_of_getElem? (i := 94) (by decide +kernel))) (by decide +kernel)
set_option maxRecDepth 100000 in
theorem g671 : Cond.code yX2_leadOnFrom prog_4_method_6_code 2 none ∈ gw := gw_in (tb_3 (List.mem_of_getElem? (i := 95) rfl)) (by decide +kernel)
theorem g672 : Cond.methodLink "MirageLoans$Grammar" 81 yX1_takeSetting ∈ gw := gw_in (tb_3 (List.mem_of_getElem? (i := 96) (by decide +kernel))) (by decide +kernel)
theorem g674 : Cond.instanceMethod yX1_takeSetting ∈ gw := gw_in (tb_3 (List.mem_of_getElem? (i := 98) (by decide +kernel))) (by decide +kernel)
set_option maxRecDepth 100000 in
theorem g675 : Cond.code yX1_takeSetting prog_3_method_10_code 2 none ∈ gw := gw_in (tb_3 (List.mem_of_getElem? (i := 99) rfl)) (by decide +kernel)
theorem g676 : Cond.methodLink "MirageLoans" 100 yX1_handOver ∈ gw := gw_in (tb_3 (List.mem_of_getElem? (i := 100) (by decide +kernel))) (by decide +kernel)
theorem g677 : Cond.instanceMethod yX1_handOver ∈ gw := gw_in (tb_3 (List.mem_of_getElem? (i := 101) (by decide +kernel))) (by decide +kernel)
theorem g678 : Cond.selects "MirageLoans$Grammar" yX1_handOver yX1_handOver ∈ gw := gw_in (tb_3 (List.mem_of_getElem? (i := 102) (by decide +kernel))) (by decide +kernel)
set_option maxRecDepth 100000 in
theorem g679 : Cond.code yX1_handOver prog_3_method_3_code 3 (some (Jvm.ClassFile.FieldType.object "MirageLoans$Flat")) ∈ gw := gw_in (tb_3 (List.mem_of_getElem? (i := 103) rfl)) (by decide +kernel)
theorem g680 : Cond.methodLink "MirageLoans" 104 yX8_beginAnew ∈ gw := gw_in (tb_3 (List.mem_of_getElem? (i := 104) (by decide +kernel))) (by decide +kernel)
theorem g682 : Cond.instanceMethod yX8_beginAnew ∈ gw := gw_in (tb_3 (List.mem_of_getElem? (i := 106) (by decide +kernel))) (by decide +kernel)
set_option maxRecDepth 100000 in
theorem g683 : Cond.code yX8_beginAnew prog_1_method_5_code 2 none ∈ gw := gw_in (tb_3 (List.mem_of_getElem? (i := 107) rfl)) (by decide +kernel)
theorem g684 : Cond.methodLink "MirageLoans" 107 yX4_begin ∈ gw := gw_in (tb_3 (List.mem_of_getElem? (i := 108) (by decide +kernel))) (by decide +kernel)
theorem g685 : Cond.instanceMethod yX4_begin ∈ gw := gw_in (tb_3 (List.mem_of_getElem? (i := 109) (by decide +kernel))) (by decide +kernel)
theorem g686 : Cond.selects "MirageLoans$State" yX4_begin yX4_begin ∈ gw := gw_in (tb_3 (List.mem_of_getElem? (i := 110) (by decide +kernel))) (by decide +kernel)
set_option maxRecDepth 100000 in
theorem g687 : Cond.code yX4_begin prog_6_method_2_code 3 none ∈ gw := gw_in (tb_3 (List.mem_of_getElem? (i := 111) rfl)) (by decide +kernel)
theorem g688 : Cond.methodLink "MirageLoans$State" 46 yX4_keepOnly ∈ gw := gw_in (tb_3 (List.mem_of_getElem? (i := 112) (by decide +kernel))) (by decide +kernel)
theorem g689 : Cond.instanceMethod yX4_keepOnly ∈ gw := gw_in (tb_3 (List.mem_of_getElem? (i := 113) (by decide +kernel))) (by decide +kernel)
theorem g690 : Cond.selects "MirageLoans$State" yX4_keepOnly yX4_keepOnly ∈ gw := gw_in (tb_3 (List.mem_of_getElem? (i := 114) (by decide +kernel))) (by decide +kernel)
set_option maxRecDepth 100000 in
theorem g691 : Cond.code yX4_keepOnly prog_6_method_5_code 3 none ∈ gw := gw_in (tb_3 (List.mem_of_getElem? (i := 115) rfl)) (by decide +kernel)
theorem g692 : Cond.methodLink "MirageLoans$State" 56 yX4_end ∈ gw := gw_in (tb_3 (List.mem_of_getElem? (i := 116) (by decide +kernel))) (by decide +kernel)
theorem g693 : Cond.instanceMethod yX4_end ∈ gw := gw_in (tb_3 (List.mem_of_getElem? (i := 117) (by decide +kernel))) (by decide +kernel)
theorem g694 : Cond.selects "MirageLoans$State" yX4_end yX4_end ∈ gw := gw_in (tb_3 (List.mem_of_getElem? (i := 118) (by decide +kernel))) (by decide +kernel)
set_option maxRecDepth 100000 in
theorem g695 : Cond.code yX4_end prog_6_method_4_code 2 none ∈ gw := gw_in (tb_3 (List.mem_of_getElem? (i := 119) rfl)) (by decide +kernel)
theorem g696 : Cond.methodLink "MirageLoans" 111 yX3_clear ∈ gw := gw_in (tb_3 (List.mem_of_getElem? (i := 120) (by decide +kernel))) (by decide +kernel)
theorem g697 : Cond.instanceMethod yX3_clear ∈ gw := gw_in (tb_3 (List.mem_of_getElem? (i := 121) (by decide +kernel))) (by decide +kernel)
theorem g698 : Cond.selects "MirageLoans$Past" yX3_clear yX3_clear ∈ gw := gw_in (tb_3 (List.mem_of_getElem? (i := 122) (by decide +kernel))) (by decide +kernel)
set_option maxRecDepth 100000 in
theorem g699 : Cond.code yX3_clear prog_5_method_2_code 1 none ∈ gw := gw_in (tb_3 (List.mem_of_getElem? (i := 123) rfl)) (by decide +kernel)
set_option maxRecDepth 100000 in
theorem g703 : Cond.code yX8_place prog_1_method_6_code 1 (some Jvm.ClassFile.FieldType.int) ∈ gw := gw_in (tb_3 (List.mem_of_getElem? (i := 127) rfl)) (by decide +kernel)
set_option maxRecDepth 100000 in
theorem g707 : Cond.code yX8_thing prog_1_method_7_code 3 (some Jvm.ClassFile.FieldType.int) ∈ gw := gw_in (tb_3 (List.mem_of_getElem? (i := 131) rfl)) (by decide +kernel)
theorem g708 : Cond.methodLink "MirageLoans" 115 yX8_isThing ∈ gw := gw_in (tb_3 (List.mem_of_getElem? (i := 132) (by decide +kernel))) (by decide +kernel)
theorem g710 : Cond.instanceMethod yX8_isThing ∈ gw := gw_in (tb_3 (List.mem_of_getElem? (i := 134) (by decide +kernel))) (by decide +kernel)
set_option maxRecDepth 100000 in
theorem g711 : Cond.code yX8_isThing prog_1_method_50_code 2 (some Jvm.ClassFile.FieldType.boolean) ∈ gw := gw_in (tb_3 (List.mem_of_getElem? (i := 135) rfl)) (by decide +kernel)
theorem g712 : Cond.methodLink "MirageLoans" 124 yX8_seatsThatSee ∈ gw := gw_in (tb_3 (List.mem_of_getElem? (i := 136) (by decide +kernel))) (by decide +kernel)
theorem g714 : Cond.instanceMethod yX8_seatsThatSee ∈ gw := gw_in (tb_3 (List.mem_of_getElem? (i := 138) (by decide +kernel))) (by decide +kernel)
set_option maxRecDepth 100000 in
theorem g715 : Cond.code yX8_seatsThatSee prog_1_method_58_code 5 (some Jvm.ClassFile.FieldType.int) ∈ gw := gw_in (tb_3 (List.mem_of_getElem? (i := 139) rfl)) (by decide +kernel)
theorem g716 : Cond.methodLink "MirageLoans" 143 yX0_heat ∈ gw := gw_in (tb_3 (List.mem_of_getElem? (i := 140) (by decide +kernel))) (by decide +kernel)
theorem g717 : Cond.instanceMethod yX0_heat ∈ gw := gw_in (tb_3 (List.mem_of_getElem? (i := 141) (by decide +kernel))) (by decide +kernel)
theorem g718 : Cond.selects "MirageLoans$Flat" yX0_heat yX0_heat ∈ gw := gw_in (tb_3 (List.mem_of_getElem? (i := 142) (by decide +kernel))) (by decide +kernel)
set_option maxRecDepth 100000 in
theorem g719 : Cond.code yX0_heat prog_2_method_5_code 2 (some Jvm.ClassFile.FieldType.int) ∈ gw := gw_in (tb_3 (List.mem_of_getElem? (i := 143) rfl)) (by decide +kernel)
theorem g720 : Cond.methodLink "MirageLoans$Flat" 61 yX2_heat ∈ gw := gw_in (tb_3 (List.mem_of_getElem? (i := 144) (by decide +kernel))) (by decide +kernel)
theorem g721 : Cond.instanceMethod yX2_heat ∈ gw := gw_in (tb_3 (List.mem_of_getElem? (i := 145) (by decide +kernel))) (by decide +kernel)
theorem g722 : Cond.selects "MirageLoans$Laws" yX2_heat yX2_heat ∈ gw := gw_in (tb_3 (List.mem_of_getElem? (i := 146) (by decide +kernel))) (by decide +kernel)
set_option maxRecDepth 100000 in
theorem g723 : Cond.code yX2_heat prog_4_method_7_code 2 (some Jvm.ClassFile.FieldType.int) ∈ gw := gw_in (tb_3 (List.mem_of_getElem? (i := 147) rfl)) (by decide +kernel)
theorem g724 : Cond.methodLink "MirageLoans$Laws" 43 yX2_clearVars ∈ gw := gw_in (tb_3 (List.mem_of_getElem? (i := 148) (by decide +kernel))) (by decide +kernel)
theorem g726 : Cond.instanceMethod yX2_clearVars ∈ gw := gw_in (tb_3 (List.mem_of_getElem? (i := 150) (by decide +kernel))) (by decide +kernel)
set_option maxRecDepth 100000 in
theorem g727 : Cond.code yX2_clearVars prog_4_method_9_code 3 none ∈ gw := gw_in (tb_3 (List.mem_of_getElem? (i := 151) rfl)) (by decide +kernel)
theorem g728 : Cond.methodLink "MirageLoans$Laws" 46 yX2_reckon ∈ gw := gw_in (tb_3 (List.mem_of_getElem? (i := 152) (by decide +kernel))) (by decide +kernel)
theorem g730 : Cond.instanceMethod yX2_reckon ∈ gw := gw_in (tb_3 (List.mem_of_getElem? (i := 154) (by decide +kernel))) (by decide +kernel)
set_option maxRecDepth 100000 in
theorem g731 : Cond.code yX2_reckon prog_4_method_15_code 6 (some Jvm.ClassFile.FieldType.int) ∈ gw := gw_in (tb_3 (List.mem_of_getElem? (i := 155) rfl)) (by decide +kernel)
theorem g732 : Cond.methodLink "MirageLoans$Laws" 67 yX2_variable ∈ gw := gw_in (tb_3 (List.mem_of_getElem? (i := 156) (by decide +kernel))) (by decide +kernel)
theorem g734 : Cond.instanceMethod yX2_variable ∈ gw := gw_in (tb_3 (List.mem_of_getElem? (i := 158) (by decide +kernel))) (by decide +kernel)
set_option maxRecDepth 100000 in
theorem g735 : Cond.code yX2_variable prog_4_method_16_code 2 (some Jvm.ClassFile.FieldType.int) ∈ gw := gw_in (tb_3 (List.mem_of_getElem? (i := 159) rfl)) (by decide +kernel)
theorem g736 : Cond.methodLink "MirageLoans$Laws" 70 Lib.Math.max.name ∈ gw := gw_in (tb_3 (List.mem_of_getElem? (i := 160) (by decide +kernel))) (by decide +kernel)
theorem g737 : Cond.methodLink "MirageLoans$Laws" 73 yX2_joined ∈ gw := gw_in (tb_3 (List.mem_of_getElem? (i := 161) (by decide +kernel))) (by decide +kernel)
theorem g738 : Cond.static yX2_joined ∈ gw := gw_in (tb_3 (List.mem_of_getElem? (i := 162) (by decide +kernel))) (by decide +kernel)
set_option maxRecDepth 100000 in
theorem g739 : Cond.code yX2_joined prog_4_method_17_code 3 (some Jvm.ClassFile.FieldType.int) ∈ gw := gw_in (tb_3 (List.mem_of_getElem? (i := 163) rfl)) (by decide +kernel)
theorem g741 : Cond.static yX8_within ∈ gw := gw_in (tb_3 (List.mem_of_getElem? (i := 165) (by decide +kernel))) (by decide +kernel)
set_option maxRecDepth 100000 in
theorem g742 : Cond.code yX8_within prog_1_method_56_code 3 (some Jvm.ClassFile.FieldType.int) ∈ gw := gw_in (tb_3 (List.mem_of_getElem? (i := 166) rfl)) (by decide +kernel)
theorem g743 : Cond.methodLink "MirageLoans" 330 Lib.Math.min.name ∈ gw := gw_in (tb_3 (List.mem_of_getElem? (i := 167) (by decide +kernel))) (by decide +kernel)
theorem g744 : Cond.methodLink "MirageLoans" 333 Lib.Math.max.name ∈ gw := gw_in (tb_3 (List.mem_of_getElem? (i := 168) (by decide +kernel))) (by decide +kernel)
theorem g745 : Cond.methodLink "MirageLoans" 239 yX0_isSeenFrom ∈ gw := gw_in (tb_3 (List.mem_of_getElem? (i := 169) (by decide +kernel))) (by decide +kernel)
theorem g746 : Cond.instanceMethod yX0_isSeenFrom ∈ gw := gw_in (tb_3 (List.mem_of_getElem? (i := 170) (by decide +kernel))) (by decide +kernel)
theorem g747 : Cond.selects "MirageLoans$Flat" yX0_isSeenFrom yX0_isSeenFrom ∈ gw := gw_in (tb_3 (List.mem_of_getElem? (i := 171) (by decide +kernel))) (by decide +kernel)
set_option maxRecDepth 100000 in
theorem g748 : Cond.code yX0_isSeenFrom prog_2_method_6_code 5 (some Jvm.ClassFile.FieldType.boolean) ∈ gw := gw_in (tb_3 (List.mem_of_getElem? (i := 172) rfl)) (by decide +kernel)
theorem g749 : Cond.methodLink "MirageLoans$Flat" 65 yX2_aim ∈ gw := gw_in (tb_3 (List.mem_of_getElem? (i := 173) (by decide +kernel))) (by decide +kernel)
theorem g750 : Cond.instanceMethod yX2_aim ∈ gw := gw_in (tb_3 (List.mem_of_getElem? (i := 174) (by decide +kernel))) (by decide +kernel)
theorem g751 : Cond.selects "MirageLoans$Laws" yX2_aim yX2_aim ∈ gw := gw_in (tb_3 (List.mem_of_getElem? (i := 175) (by decide +kernel))) (by decide +kernel)
set_option maxRecDepth 100000 in
theorem g752 : Cond.code yX2_aim prog_4_method_10_code 6 none ∈ gw := gw_in (tb_3 (List.mem_of_getElem? (i := 176) rfl)) (by decide +kernel)
theorem g753 : Cond.methodLink "MirageLoans$Laws" 54 Lib.Math.abs.name ∈ gw := gw_in (tb_3 (List.mem_of_getElem? (i := 177) (by decide +kernel))) (by decide +kernel)
theorem g754 : Cond.static Lib.Math.abs.name ∈ gw := gw_in (tb_3 (List.mem_of_getElem? (i := 178) (by decide +kernel))) (by decide +kernel)
set_option maxRecDepth 100000 in
theorem g755 : Cond.code Lib.Math.abs.name prog_14_method_59_code 1 (some Jvm.ClassFile.FieldType.int) ∈ gw := gw_in (tb_3 (List.mem_of_getElem? (i := 179) rfl)) (by decide +kernel)
theorem g756 : Cond.methodLink "MirageLoans$Flat" 69 yX2_isSeen ∈ gw := gw_in (tb_3 (List.mem_of_getElem? (i := 180) (by decide +kernel))) (by decide +kernel)
theorem g757 : Cond.instanceMethod yX2_isSeen ∈ gw := gw_in (tb_3 (List.mem_of_getElem? (i := 181) (by decide +kernel))) (by decide +kernel)
theorem g758 : Cond.selects "MirageLoans$Laws" yX2_isSeen yX2_isSeen ∈ gw := gw_in (tb_3 (List.mem_of_getElem? (i := 182) (by decide +kernel))) (by decide +kernel)
set_option maxRecDepth 100000 in
theorem g759 : Cond.code yX2_isSeen prog_4_method_11_code 1 (some Jvm.ClassFile.FieldType.boolean) ∈ gw := gw_in (tb_3 (List.mem_of_getElem? (i := 183) rfl)) (by decide +kernel)
theorem g760 : Cond.methodLink "MirageLoans" 128 yX8_seatsThatLent ∈ gw := gw_in (tb_3 (List.mem_of_getElem? (i := 184) (by decide +kernel))) (by decide +kernel)
theorem g762 : Cond.instanceMethod yX8_seatsThatLent ∈ gw := gw_in (tb_3 (List.mem_of_getElem? (i := 186) (by decide +kernel))) (by decide +kernel)
set_option maxRecDepth 100000 in
theorem g763 : Cond.code yX8_seatsThatLent prog_1_method_59_code 4 (some Jvm.ClassFile.FieldType.int) ∈ gw := gw_in (tb_3 (List.mem_of_getElem? (i := 187) rfl)) (by decide +kernel)
theorem g764 : Cond.methodLink "MirageLoans" 166 yX8_loanOf ∈ gw := gw_in (tb_3 (List.mem_of_getElem? (i := 188) (by decide +kernel))) (by decide +kernel)
theorem g765 : Cond.static yX8_loanOf ∈ gw := gw_in (tb_3 (List.mem_of_getElem? (i := 189) (by decide +kernel))) (by decide +kernel)
set_option maxRecDepth 100000 in
theorem g766 : Cond.code yX8_loanOf prog_1_method_54_code 2 (some Jvm.ClassFile.FieldType.int) ∈ gw := gw_in (tb_3 (List.mem_of_getElem? (i := 190) rfl)) (by decide +kernel)
set_option maxRecDepth 100000 in
theorem g770 : Cond.code yX8_seat prog_1_method_8_code 3 (some Jvm.ClassFile.FieldType.int) ∈ gw := gw_in (tb_3 (List.mem_of_getElem? (i := 194) rfl)) (by decide +kernel)
theorem g771 : Cond.methodLink "MirageLoans" 131 yX8_isSeat ∈ gw := gw_in (tb_3 (List.mem_of_getElem? (i := 195) (by decide +kernel))) (by decide +kernel)
theorem g773 : Cond.instanceMethod yX8_isSeat ∈ gw := gw_in (tb_3 (List.mem_of_getElem? (i := 197) (by decide +kernel))) (by decide +kernel)
set_option maxRecDepth 100000 in
theorem g774 : Cond.code yX8_isSeat prog_1_method_51_code 2 (some Jvm.ClassFile.FieldType.boolean) ∈ gw := gw_in (tb_3 (List.mem_of_getElem? (i := 198) rfl)) (by decide +kernel)
theorem g775 : Cond.methodLink "MirageLoans" 146 yX8_thingsSeenFrom ∈ gw := gw_in (tb_3 (List.mem_of_getElem? (i := 199) (by decide +kernel))) (by decide +kernel)
theorem g777 : Cond.instanceMethod yX8_thingsSeenFrom ∈ gw := gw_in (tb_3 (List.mem_of_getElem? (i := 201) (by decide +kernel))) (by decide +kernel)
set_option maxRecDepth 100000 in
theorem g778 : Cond.code yX8_thingsSeenFrom prog_1_method_61_code 3 (some Jvm.ClassFile.FieldType.int) ∈ gw := gw_in (tb_3 (List.mem_of_getElem? (i := 202) rfl)) (by decide +kernel)
theorem g779 : Cond.methodLink "MirageLoans" 336 yX0_thingsSeenFrom ∈ gw := gw_in (tb_3 (List.mem_of_getElem? (i := 203) (by decide +kernel))) (by decide +kernel)
theorem g780 : Cond.instanceMethod yX0_thingsSeenFrom ∈ gw := gw_in (tb_3 (List.mem_of_getElem? (i := 204) (by decide +kernel))) (by decide +kernel)
theorem g781 : Cond.selects "MirageLoans$Flat" yX0_thingsSeenFrom yX0_thingsSeenFrom ∈ gw := gw_in (tb_3 (List.mem_of_getElem? (i := 205) (by decide +kernel))) (by decide +kernel)
set_option maxRecDepth 100000 in
theorem g782 : Cond.code yX0_thingsSeenFrom prog_2_method_10_code 6 (some Jvm.ClassFile.FieldType.int) ∈ gw := gw_in (tb_3 (List.mem_of_getElem? (i := 206) rfl)) (by decide +kernel)
theorem g783 : Cond.methodLink "MirageLoans$Flat" 83 yX0_isSeenFrom ∈ gw := gw_in (tb_3 (List.mem_of_getElem? (i := 207) (by decide +kernel))) (by decide +kernel)
theorem g784 : Cond.methodLink "MirageLoans" 150 yX8_thingsLentOn ∈ gw := gw_in (tb_3 (List.mem_of_getElem? (i := 208) (by decide +kernel))) (by decide +kernel)
theorem g786 : Cond.instanceMethod yX8_thingsLentOn ∈ gw := gw_in (tb_3 (List.mem_of_getElem? (i := 210) (by decide +kernel))) (by decide +kernel)
set_option maxRecDepth 100000 in
theorem g787 : Cond.code yX8_thingsLentOn prog_1_method_60_code 4 (some Jvm.ClassFile.FieldType.int) ∈ gw := gw_in (tb_3 (List.mem_of_getElem? (i := 211) rfl)) (by decide +kernel)
theorem g788 : Cond.methodLink "MirageLoans" 153 yX4_lentBy ∈ gw := gw_in (tb_3 (List.mem_of_getElem? (i := 212) (by decide +kernel))) (by decide +kernel)
theorem g789 : Cond.instanceMethod yX4_lentBy ∈ gw := gw_in (tb_3 (List.mem_of_getElem? (i := 213) (by decide +kernel))) (by decide +kernel)
theorem g790 : Cond.selects "MirageLoans$State" yX4_lentBy yX4_lentBy ∈ gw := gw_in (tb_3 (List.mem_of_getElem? (i := 214) (by decide +kernel))) (by decide +kernel)
set_option maxRecDepth 100000 in
theorem g791 : Cond.code yX4_lentBy prog_6_method_7_code 4 (some Jvm.ClassFile.FieldType.int) ∈ gw := gw_in (tb_3 (List.mem_of_getElem? (i := 215) rfl)) (by decide +kernel)
set_option maxRecDepth 100000 in
theorem g796 : Cond.code yX8_loan prog_1_method_9_code 5 (some Jvm.ClassFile.FieldType.int) ∈ gw := gw_in (tb_3 (List.mem_of_getElem? (i := 220) rfl)) (by decide +kernel)
theorem g797 : Cond.methodLink "MirageLoans" 162 yX8_isPair ∈ gw := gw_in (tb_3 (List.mem_of_getElem? (i := 221) (by decide +kernel))) (by decide +kernel)
theorem g799 : Cond.instanceMethod yX8_isPair ∈ gw := gw_in (tb_3 (List.mem_of_getElem? (i := 223) (by decide +kernel))) (by decide +kernel)
set_option maxRecDepth 100000 in
theorem g800 : Cond.code yX8_isPair prog_1_method_52_code 3 (some Jvm.ClassFile.FieldType.boolean) ∈ gw := gw_in (tb_3 (List.mem_of_getElem? (i := 224) rfl)) (by decide +kernel)
set_option maxRecDepth 100000 in
theorem g804 : Cond.code yX8_tells prog_1_method_10_code 8 (some Jvm.ClassFile.FieldType.int) ∈ gw := gw_in (tb_3 (List.mem_of_getElem? (i := 228) rfl)) (by decide +kernel)
theorem g805 : Cond.methodLink "MirageLoans" 175 yX8_isX ∈ gw := gw_in (tb_3 (List.mem_of_getElem? (i := 229) (by decide +kernel))) (by decide +kernel)
theorem g806 : Cond.static yX8_isX ∈ gw := gw_in (tb_3 (List.mem_of_getElem? (i := 230) (by decide +kernel))) (by decide +kernel)
set_option maxRecDepth 100000 in
theorem g807 : Cond.code yX8_isX prog_1_method_48_code 1 (some Jvm.ClassFile.FieldType.boolean) ∈ gw := gw_in (tb_3 (List.mem_of_getElem? (i := 231) rfl)) (by decide +kernel)
theorem g808 : Cond.methodLink "MirageLoans" 178 yX0_movedFrom ∈ gw := gw_in (tb_3 (List.mem_of_getElem? (i := 232) (by decide +kernel))) (by decide +kernel)
theorem g809 : Cond.instanceMethod yX0_movedFrom ∈ gw := gw_in (tb_3 (List.mem_of_getElem? (i := 233) (by decide +kernel))) (by decide +kernel)
theorem g810 : Cond.selects "MirageLoans$Flat" yX0_movedFrom yX0_movedFrom ∈ gw := gw_in (tb_3 (List.mem_of_getElem? (i := 234) (by decide +kernel))) (by decide +kernel)
set_option maxRecDepth 100000 in
theorem g811 : Cond.code yX0_movedFrom prog_2_method_8_code 5 (some Jvm.ClassFile.FieldType.int) ∈ gw := gw_in (tb_3 (List.mem_of_getElem? (i := 235) rfl)) (by decide +kernel)
theorem g812 : Cond.methodLink "MirageLoans$Flat" 77 yX2_moved ∈ gw := gw_in (tb_3 (List.mem_of_getElem? (i := 236) (by decide +kernel))) (by decide +kernel)
theorem g813 : Cond.instanceMethod yX2_moved ∈ gw := gw_in (tb_3 (List.mem_of_getElem? (i := 237) (by decide +kernel))) (by decide +kernel)
theorem g814 : Cond.selects "MirageLoans$Laws" yX2_moved yX2_moved ∈ gw := gw_in (tb_3 (List.mem_of_getElem? (i := 238) (by decide +kernel))) (by decide +kernel)
set_option maxRecDepth 100000 in
theorem g815 : Cond.code yX2_moved prog_4_method_12_code 1 (some Jvm.ClassFile.FieldType.int) ∈ gw := gw_in (tb_3 (List.mem_of_getElem? (i := 239) rfl)) (by decide +kernel)
theorem g816 : Cond.methodLink "MirageLoans" 182 yX0_rentFrom ∈ gw := gw_in (tb_4 (List.mem_of_getElem? (i := 0) (by decide +kernel))) (by decide +kernel)
theorem g817 : Cond.instanceMethod yX0_rentFrom ∈ gw := gw_in (tb_4 (List.mem_of_getElem? (i := 1) (by decide +kernel))) (by decide +kernel)
theorem g818 : Cond.selects "MirageLoans$Flat" yX0_rentFrom yX0_rentFrom ∈ gw := gw_in (tb_4 (List.mem_of_getElem? (i := 2) (by decide +kernel))) (by decide +kernel)
set_option maxRecDepth 100000 in
theorem g819 : Cond.code yX0_rentFrom prog_2_method_9_code 6 (some Jvm.ClassFile.FieldType.int) ∈ gw := gw_in (tb_4 (List.mem_of_getElem? (i := 3) rfl)) (by decide +kernel)
theorem g820 : Cond.methodLink "MirageLoans$Flat" 80 yX2_rent ∈ gw := gw_in (tb_4 (List.mem_of_getElem? (i := 4) (by decide +kernel))) (by decide +kernel)
theorem g821 : Cond.instanceMethod yX2_rent ∈ gw := gw_in (tb_4 (List.mem_of_getElem? (i := 5) (by decide +kernel))) (by decide +kernel)
theorem g822 : Cond.selects "MirageLoans$Laws" yX2_rent yX2_rent ∈ gw := gw_in (tb_4 (List.mem_of_getElem? (i := 6) (by decide +kernel))) (by decide +kernel)
set_option maxRecDepth 100000 in
theorem g823 : Cond.code yX2_rent prog_4_method_14_code 2 (some Jvm.ClassFile.FieldType.int) ∈ gw := gw_in (tb_4 (List.mem_of_getElem? (i := 7) rfl)) (by decide +kernel)
theorem g824 : Cond.methodLink "MirageLoans" 190 yX2_interest ∈ gw := gw_in (tb_4 (List.mem_of_getElem? (i := 8) (by decide +kernel))) (by decide +kernel)
theorem g825 : Cond.instanceMethod yX2_interest ∈ gw := gw_in (tb_4 (List.mem_of_getElem? (i := 9) (by decide +kernel))) (by decide +kernel)
theorem g826 : Cond.selects "MirageLoans$Laws" yX2_interest yX2_interest ∈ gw := gw_in (tb_4 (List.mem_of_getElem? (i := 10) (by decide +kernel))) (by decide +kernel)
set_option maxRecDepth 100000 in
theorem g827 : Cond.code yX2_interest prog_4_method_8_code 4 (some Jvm.ClassFile.FieldType.int) ∈ gw := gw_in (tb_4 (List.mem_of_getElem? (i := 11) rfl)) (by decide +kernel)
set_option maxRecDepth 100000 in
theorem g831 : Cond.code yX8_lend prog_1_method_11_code 5 (some Jvm.ClassFile.FieldType.int) ∈ gw := gw_in (tb_4 (List.mem_of_getElem? (i := 15) rfl)) (by decide +kernel)
theorem g832 : Cond.methodLink "MirageLoans" 196 yX8_seesNow ∈ gw := gw_in (tb_4 (List.mem_of_getElem? (i := 16) (by decide +kernel))) (by decide +kernel)
theorem g834 : Cond.instanceMethod yX8_seesNow ∈ gw := gw_in (tb_4 (List.mem_of_getElem? (i := 18) (by decide +kernel))) (by decide +kernel)
set_option maxRecDepth 100000 in
theorem g835 : Cond.code yX8_seesNow prog_1_method_57_code 3 (some Jvm.ClassFile.FieldType.boolean) ∈ gw := gw_in (tb_4 (List.mem_of_getElem? (i := 19) rfl)) (by decide +kernel)
theorem g836 : Cond.methodLink "MirageLoans" 199 yX3_push ∈ gw := gw_in (tb_4 (List.mem_of_getElem? (i := 20) (by decide +kernel))) (by decide +kernel)
theorem g837 : Cond.instanceMethod yX3_push ∈ gw := gw_in (tb_4 (List.mem_of_getElem? (i := 21) (by decide +kernel))) (by decide +kernel)
theorem g838 : Cond.selects "MirageLoans$Past" yX3_push yX3_push ∈ gw := gw_in (tb_4 (List.mem_of_getElem? (i := 22) (by decide +kernel))) (by decide +kernel)
set_option maxRecDepth 100000 in
theorem g839 : Cond.code yX3_push prog_5_method_3_code 2 none ∈ gw := gw_in (tb_4 (List.mem_of_getElem? (i := 23) rfl)) (by decide +kernel)
theorem g840 : Cond.methodLink "MirageLoans$Past" 23 yX4_copy ∈ gw := gw_in (tb_4 (List.mem_of_getElem? (i := 24) (by decide +kernel))) (by decide +kernel)
theorem g841 : Cond.instanceMethod yX4_copy ∈ gw := gw_in (tb_4 (List.mem_of_getElem? (i := 25) (by decide +kernel))) (by decide +kernel)
theorem g842 : Cond.selects "MirageLoans$State" yX4_copy yX4_copy ∈ gw := gw_in (tb_4 (List.mem_of_getElem? (i := 26) (by decide +kernel))) (by decide +kernel)
set_option maxRecDepth 100000 in
theorem g843 : Cond.code yX4_copy prog_6_method_3_code 2 none ∈ gw := gw_in (tb_4 (List.mem_of_getElem? (i := 27) rfl)) (by decide +kernel)
theorem g844 : Cond.methodLink "MirageLoans$State" 50 arraycopyName ∈ gw := gw_in (tb_4 (List.mem_of_getElem? (i := 28) (by decide +kernel))) (by decide +kernel)
theorem g845 : Cond.static arraycopyName ∈ gw := gw_in (tb_4 (List.mem_of_getElem? (i := 29) (by decide +kernel))) (by decide +kernel)
theorem g846 : Cond.native arraycopyName ∈ gw := gw_in (tb_4 (List.mem_of_getElem? (i := 30) (by decide +kernel))) (by decide +kernel)
theorem g847 : Cond.methodLink "MirageLoans$Past" 27 Lib.Math.min.name ∈ gw := gw_in (tb_4 (List.mem_of_getElem? (i := 31) (by decide +kernel))) (by decide +kernel)
set_option maxRecDepth 100000 in
theorem g851 : Cond.code yX8_call prog_1_method_12_code 5 (some Jvm.ClassFile.FieldType.int) ∈ gw := gw_in (tb_4 (List.mem_of_getElem? (i := 35) rfl)) (by decide +kernel)
theorem g852 : Cond.constant "MirageLoans" 203 (99999 : Int32) ∈ gw := gw_in (tb_4 (List.mem_of_getElem? (i := 36) (by decide +kernel))) (by decide +kernel)
theorem g853 : Cond.methodLink "MirageLoans" 204 yX4_end ∈ gw := gw_in (tb_4 (List.mem_of_getElem? (i := 37) (by decide +kernel))) (by decide +kernel)
set_option maxRecDepth 100000 in
theorem g857 : Cond.code yX8_move prog_1_method_13_code 3 (some Jvm.ClassFile.FieldType.boolean) ∈ gw := gw_in (tb_4 (List.mem_of_getElem? (i := 41) rfl)) (by decide +kernel)
set_option maxRecDepth 100000 in
theorem g861 : Cond.code yX8_hours prog_1_method_14_code 2 (some Jvm.ClassFile.FieldType.int) ∈ gw := gw_in (tb_4 (List.mem_of_getElem? (i := 45) rfl)) (by decide +kernel)
theorem g862 : Cond.methodLink "MirageLoans" 207 yX8_isAhead ∈ gw := gw_in (tb_4 (List.mem_of_getElem? (i := 46) (by decide +kernel))) (by decide +kernel)
theorem g863 : Cond.static yX8_isAhead ∈ gw := gw_in (tb_4 (List.mem_of_getElem? (i := 47) (by decide +kernel))) (by decide +kernel)
set_option maxRecDepth 100000 in
theorem g864 : Cond.code yX8_isAhead prog_1_method_49_code 1 (some Jvm.ClassFile.FieldType.boolean) ∈ gw := gw_in (tb_4 (List.mem_of_getElem? (i := 48) rfl)) (by decide +kernel)
theorem g865 : Cond.methodLink "MirageLoans" 216 yX0_pass ∈ gw := gw_in (tb_4 (List.mem_of_getElem? (i := 49) (by decide +kernel))) (by decide +kernel)
theorem g866 : Cond.instanceMethod yX0_pass ∈ gw := gw_in (tb_4 (List.mem_of_getElem? (i := 50) (by decide +kernel))) (by decide +kernel)
theorem g867 : Cond.selects "MirageLoans$Flat" yX0_pass yX0_pass ∈ gw := gw_in (tb_4 (List.mem_of_getElem? (i := 51) (by decide +kernel))) (by decide +kernel)
set_option maxRecDepth 100000 in
theorem g868 : Cond.code yX0_pass prog_2_method_14_code 10 none ∈ gw := gw_in (tb_4 (List.mem_of_getElem? (i := 52) rfl)) (by decide +kernel)
theorem g869 : Cond.methodLink "MirageLoans$Flat" 100 yX0_heat ∈ gw := gw_in (tb_4 (List.mem_of_getElem? (i := 53) (by decide +kernel))) (by decide +kernel)
theorem g870 : Cond.methodLink "MirageLoans$Flat" 101 yX0_isWind ∈ gw := gw_in (tb_4 (List.mem_of_getElem? (i := 54) (by decide +kernel))) (by decide +kernel)
theorem g871 : Cond.static yX0_isWind ∈ gw := gw_in (tb_4 (List.mem_of_getElem? (i := 55) (by decide +kernel))) (by decide +kernel)
set_option maxRecDepth 100000 in
theorem g872 : Cond.code yX0_isWind prog_2_method_11_code 3 (some Jvm.ClassFile.FieldType.boolean) ∈ gw := gw_in (tb_4 (List.mem_of_getElem? (i := 56) rfl)) (by decide +kernel)
theorem g873 : Cond.methodLink "MirageLoans$Flat" 87 yX0_lot ∈ gw := gw_in (tb_4 (List.mem_of_getElem? (i := 57) (by decide +kernel))) (by decide +kernel)
theorem g874 : Cond.static yX0_lot ∈ gw := gw_in (tb_4 (List.mem_of_getElem? (i := 58) (by decide +kernel))) (by decide +kernel)
set_option maxRecDepth 100000 in
theorem g875 : Cond.code yX0_lot prog_2_method_12_code 3 (some Jvm.ClassFile.FieldType.int) ∈ gw := gw_in (tb_4 (List.mem_of_getElem? (i := 59) rfl)) (by decide +kernel)
theorem g876 : Cond.methodLink "MirageLoans$Flat" 91 yX0_stirred ∈ gw := gw_in (tb_4 (List.mem_of_getElem? (i := 60) (by decide +kernel))) (by decide +kernel)
theorem g877 : Cond.static yX0_stirred ∈ gw := gw_in (tb_4 (List.mem_of_getElem? (i := 61) (by decide +kernel))) (by decide +kernel)
set_option maxRecDepth 100000 in
theorem g878 : Cond.code yX0_stirred prog_2_method_13_code 3 (some Jvm.ClassFile.FieldType.int) ∈ gw := gw_in (tb_4 (List.mem_of_getElem? (i := 62) rfl)) (by decide +kernel)
theorem g879 : Cond.constant "MirageLoans$Flat" 94 (1103515245 : Int32) ∈ gw := gw_in (tb_4 (List.mem_of_getElem? (i := 63) (by decide +kernel))) (by decide +kernel)
theorem g880 : Cond.methodLink "MirageLoans$Flat" 105 yX0_passLoan ∈ gw := gw_in (tb_4 (List.mem_of_getElem? (i := 64) (by decide +kernel))) (by decide +kernel)
theorem g882 : Cond.instanceMethod yX0_passLoan ∈ gw := gw_in (tb_4 (List.mem_of_getElem? (i := 66) (by decide +kernel))) (by decide +kernel)
set_option maxRecDepth 100000 in
theorem g883 : Cond.code yX0_passLoan prog_2_method_15_code 9 none ∈ gw := gw_in (tb_4 (List.mem_of_getElem? (i := 67) rfl)) (by decide +kernel)
theorem g885 : Cond.constant "MirageLoans$Flat" 119 (99999 : Int32) ∈ gw := gw_in (tb_4 (List.mem_of_getElem? (i := 69) (by decide +kernel))) (by decide +kernel)
theorem g886 : Cond.methodLink "MirageLoans$Flat" 120 Lib.Math.min.name ∈ gw := gw_in (tb_4 (List.mem_of_getElem? (i := 70) (by decide +kernel))) (by decide +kernel)
theorem g887 : Cond.methodLink "MirageLoans$Flat" 130 yX4_end ∈ gw := gw_in (tb_4 (List.mem_of_getElem? (i := 71) (by decide +kernel))) (by decide +kernel)
theorem g888 : Cond.methodLink "MirageLoans$Flat" 137 yX2_interest ∈ gw := gw_in (tb_4 (List.mem_of_getElem? (i := 72) (by decide +kernel))) (by decide +kernel)
set_option maxRecDepth 100000 in
theorem g892 : Cond.code yX8_undo prog_1_method_15_code 1 (some Jvm.ClassFile.FieldType.boolean) ∈ gw := gw_in (tb_4 (List.mem_of_getElem? (i := 76) rfl)) (by decide +kernel)
theorem g893 : Cond.methodLink "MirageLoans" 220 yX3_pop ∈ gw := gw_in (tb_4 (List.mem_of_getElem? (i := 77) (by decide +kernel))) (by decide +kernel)
theorem g894 : Cond.instanceMethod yX3_pop ∈ gw := gw_in (tb_4 (List.mem_of_getElem? (i := 78) (by decide +kernel))) (by decide +kernel)
theorem g895 : Cond.selects "MirageLoans$Past" yX3_pop yX3_pop ∈ gw := gw_in (tb_4 (List.mem_of_getElem? (i := 79) (by decide +kernel))) (by decide +kernel)
set_option maxRecDepth 100000 in
theorem g896 : Cond.code yX3_pop prog_5_method_4_code 2 (some Jvm.ClassFile.FieldType.boolean) ∈ gw := gw_in (tb_4 (List.mem_of_getElem? (i := 80) rfl)) (by decide +kernel)
set_option maxRecDepth 100000 in
theorem g900 : Cond.code yX8_sight prog_1_method_16_code 6 (some Jvm.ClassFile.FieldType.int) ∈ gw := gw_in (tb_4 (List.mem_of_getElem? (i := 84) rfl)) (by decide +kernel)
theorem g901 : Cond.methodLink "MirageLoans" 224 yX0_spotFrom ∈ gw := gw_in (tb_4 (List.mem_of_getElem? (i := 85) (by decide +kernel))) (by decide +kernel)
theorem g902 : Cond.instanceMethod yX0_spotFrom ∈ gw := gw_in (tb_4 (List.mem_of_getElem? (i := 86) (by decide +kernel))) (by decide +kernel)
theorem g903 : Cond.selects "MirageLoans$Flat" yX0_spotFrom yX0_spotFrom ∈ gw := gw_in (tb_4 (List.mem_of_getElem? (i := 87) (by decide +kernel))) (by decide +kernel)
set_option maxRecDepth 100000 in
theorem g904 : Cond.code yX0_spotFrom prog_2_method_7_code 5 (some Jvm.ClassFile.FieldType.int) ∈ gw := gw_in (tb_4 (List.mem_of_getElem? (i := 88) rfl)) (by decide +kernel)
theorem g905 : Cond.methodLink "MirageLoans$Flat" 73 yX2_spot ∈ gw := gw_in (tb_4 (List.mem_of_getElem? (i := 89) (by decide +kernel))) (by decide +kernel)
theorem g906 : Cond.instanceMethod yX2_spot ∈ gw := gw_in (tb_4 (List.mem_of_getElem? (i := 90) (by decide +kernel))) (by decide +kernel)
theorem g907 : Cond.selects "MirageLoans$Laws" yX2_spot yX2_spot ∈ gw := gw_in (tb_4 (List.mem_of_getElem? (i := 91) (by decide +kernel))) (by decide +kernel)
set_option maxRecDepth 100000 in
theorem g908 : Cond.code yX2_spot prog_4_method_13_code 2 (some Jvm.ClassFile.FieldType.int) ∈ gw := gw_in (tb_4 (List.mem_of_getElem? (i := 92) rfl)) (by decide +kernel)
theorem g909 : Cond.methodLink "MirageLoans$Laws" 59 yX2_isSeen ∈ gw := gw_in (tb_4 (List.mem_of_getElem? (i := 93) (by decide +kernel))) (by decide +kernel)
theorem g910 : Cond.methodLink "MirageLoans$Laws" 63 yX2_moved ∈ gw := gw_in (tb_4 (List.mem_of_getElem? (i := 94) (by decide +kernel))) (by decide +kernel)
set_option maxRecDepth 100000 in
theorem g914 : Cond.code yX8_clash prog_1_method_17_code 6 (some Jvm.ClassFile.FieldType.int) ∈ gw := gw_in (tb_4 (List.mem_of_getElem? (i := 98) rfl)) (by decide +kernel)
theorem g915 : Cond.methodLink "MirageLoans" 227 yX8_findSpotsLentOn ∈ gw := gw_in (tb_4 (List.mem_of_getElem? (i := 99) (by decide +kernel))) (by decide +kernel)
theorem g917 : Cond.instanceMethod yX8_findSpotsLentOn ∈ gw := gw_in (tb_4 (List.mem_of_getElem? (i := 101) (by decide +kernel))) (by decide +kernel)
set_option maxRecDepth 100000 in
theorem g918 : Cond.code yX8_findSpotsLentOn prog_1_method_18_code 5 none ∈ gw := gw_in (tb_4 (List.mem_of_getElem? (i := 102) rfl)) (by decide +kernel)
theorem g919 : Cond.methodLink "MirageLoans" 233 yX8_titlesClash ∈ gw := gw_in (tb_4 (List.mem_of_getElem? (i := 103) (by decide +kernel))) (by decide +kernel)
theorem g921 : Cond.instanceMethod yX8_titlesClash ∈ gw := gw_in (tb_4 (List.mem_of_getElem? (i := 105) (by decide +kernel))) (by decide +kernel)
set_option maxRecDepth 100000 in
theorem g922 : Cond.code yX8_titlesClash prog_1_method_19_code 6 (some Jvm.ClassFile.FieldType.boolean) ∈ gw := gw_in (tb_4 (List.mem_of_getElem? (i := 106) rfl)) (by decide +kernel)
set_option maxRecDepth 100000 in
theorem g938 : Cond.code yX8_dawns prog_1_method_23_code 5 (some Jvm.ClassFile.FieldType.int) ∈ gw := gw_in (tb_4 (List.mem_of_getElem? (i := 122) rfl)) (by decide +kernel)
set_option maxRecDepth 100000 in
theorem g942 : Cond.code yX8_near prog_1_method_24_code 8 (some Jvm.ClassFile.FieldType.int) ∈ gw := gw_in (tb_4 (List.mem_of_getElem? (i := 126) rfl)) (by decide +kernel)
theorem g943 : Cond.methodLink "MirageLoans" 247 Lib.Math.abs.name ∈ gw := gw_in (tb_4 (List.mem_of_getElem? (i := 127) (by decide +kernel))) (by decide +kernel)
set_option maxRecDepth 100000 in
theorem g947 : Cond.code yX8_crowd prog_1_method_25_code 6 (some Jvm.ClassFile.FieldType.int) ∈ gw := gw_in (tb_4 (List.mem_of_getElem? (i := 131) rfl)) (by decide +kernel)
set_option maxRecDepth 100000 in
theorem g951 : Cond.code yX8_rich prog_1_method_26_code 5 (some Jvm.ClassFile.FieldType.int) ∈ gw := gw_in (tb_4 (List.mem_of_getElem? (i := 135) rfl)) (by decide +kernel)
theorem g952 : Cond.methodLink "MirageLoans" 252 yX8_goAhead ∈ gw := gw_in (tb_4 (List.mem_of_getElem? (i := 136) (by decide +kernel))) (by decide +kernel)
theorem g954 : Cond.instanceMethod yX8_goAhead ∈ gw := gw_in (tb_4 (List.mem_of_getElem? (i := 138) (by decide +kernel))) (by decide +kernel)
set_option maxRecDepth 100000 in
theorem g955 : Cond.code yX8_goAhead prog_1_method_27_code 2 none ∈ gw := gw_in (tb_4 (List.mem_of_getElem? (i := 139) rfl)) (by decide +kernel)
theorem g956 : Cond.methodLink "MirageLoans" 258 yX4_copy ∈ gw := gw_in (tb_4 (List.mem_of_getElem? (i := 140) (by decide +kernel))) (by decide +kernel)
theorem g957 : Cond.methodLink "MirageLoans" 255 yX4_wealth ∈ gw := gw_in (tb_4 (List.mem_of_getElem? (i := 141) (by decide +kernel))) (by decide +kernel)
theorem g958 : Cond.instanceMethod yX4_wealth ∈ gw := gw_in (tb_4 (List.mem_of_getElem? (i := 142) (by decide +kernel))) (by decide +kernel)
theorem g959 : Cond.selects "MirageLoans$State" yX4_wealth yX4_wealth ∈ gw := gw_in (tb_4 (List.mem_of_getElem? (i := 143) (by decide +kernel))) (by decide +kernel)
set_option maxRecDepth 100000 in
theorem g960 : Cond.code yX4_wealth prog_6_method_8_code 2 (some Jvm.ClassFile.FieldType.int) ∈ gw := gw_in (tb_4 (List.mem_of_getElem? (i := 144) rfl)) (by decide +kernel)
theorem g961 : Cond.methodLink "MirageLoans$State" 63 yX4_lentBy ∈ gw := gw_in (tb_4 (List.mem_of_getElem? (i := 145) (by decide +kernel))) (by decide +kernel)
set_option maxRecDepth 100000 in
theorem g984 : Cond.code yX8_worth prog_1_method_31_code 7 (some Jvm.ClassFile.FieldType.int) ∈ gw := gw_in (tb_4 (List.mem_of_getElem? (i := 168) rfl)) (by decide +kernel)
theorem g985 : Cond.constant "MirageLoans" 278 (-100000 : Int32) ∈ gw := gw_in (tb_4 (List.mem_of_getElem? (i := 169) (by decide +kernel))) (by decide +kernel)
theorem g986 : Cond.methodLink "MirageLoans" 279 yX4_keepOnly ∈ gw := gw_in (tb_4 (List.mem_of_getElem? (i := 170) (by decide +kernel))) (by decide +kernel)
set_option maxRecDepth 100000 in
theorem g990 : Cond.code yX8_book prog_1_method_32_code 3 (some Jvm.ClassFile.FieldType.int) ∈ gw := gw_in (tb_4 (List.mem_of_getElem? (i := 174) rfl)) (by decide +kernel)
set_option maxRecDepth 100000 in
theorem g994 : Cond.code yX8_hidden prog_1_method_33_code 7 (some Jvm.ClassFile.FieldType.int) ∈ gw := gw_in (tb_4 (List.mem_of_getElem? (i := 178) rfl)) (by decide +kernel)
theorem g995 : Cond.methodLink "MirageLoans" 282 yX8_unseenOf ∈ gw := gw_in (tb_4 (List.mem_of_getElem? (i := 179) (by decide +kernel))) (by decide +kernel)
theorem g997 : Cond.instanceMethod yX8_unseenOf ∈ gw := gw_in (tb_4 (List.mem_of_getElem? (i := 181) (by decide +kernel))) (by decide +kernel)
set_option maxRecDepth 100000 in
theorem g998 : Cond.code yX8_unseenOf prog_1_method_34_code 8 (some Jvm.ClassFile.FieldType.int) ∈ gw := gw_in (tb_4 (List.mem_of_getElem? (i := 182) rfl)) (by decide +kernel)
theorem g999 : Cond.methodLink "MirageLoans" 286 yX2_aim ∈ gw := gw_in (tb_4 (List.mem_of_getElem? (i := 183) (by decide +kernel))) (by decide +kernel)
theorem g1000 : Cond.methodLink "MirageLoans" 290 yX2_isSeen ∈ gw := gw_in (tb_4 (List.mem_of_getElem? (i := 184) (by decide +kernel))) (by decide +kernel)
theorem g1001 : Cond.constant "MirageLoans" 285 (1048575 : Int32) ∈ gw := gw_in (tb_4 (List.mem_of_getElem? (i := 185) (by decide +kernel))) (by decide +kernel)
set_option maxRecDepth 100000 in
theorem g1005 : Cond.code yX8_cool prog_1_method_35_code 2 (some Jvm.ClassFile.FieldType.int) ∈ gw := gw_in (tb_4 (List.mem_of_getElem? (i := 189) rfl)) (by decide +kernel)
theorem g1006 : Cond.methodLink "MirageLoans" 294 yX8_thingsSeen ∈ gw := gw_in (tb_4 (List.mem_of_getElem? (i := 190) (by decide +kernel))) (by decide +kernel)
theorem g1008 : Cond.instanceMethod yX8_thingsSeen ∈ gw := gw_in (tb_4 (List.mem_of_getElem? (i := 192) (by decide +kernel))) (by decide +kernel)
set_option maxRecDepth 100000 in
theorem g1009 : Cond.code yX8_thingsSeen prog_1_method_62_code 5 (some Jvm.ClassFile.FieldType.int) ∈ gw := gw_in (tb_4 (List.mem_of_getElem? (i := 193) rfl)) (by decide +kernel)
set_option maxRecDepth 100000 in
theorem g1013 : Cond.code yX8_heatIn prog_1_method_36_code 2 (some Jvm.ClassFile.FieldType.int) ∈ gw := gw_in (tb_4 (List.mem_of_getElem? (i := 197) rfl)) (by decide +kernel)
set_option maxRecDepth 100000 in
theorem g1017 : Cond.code yX8_lentIn prog_1_method_37_code 5 (some Jvm.ClassFile.FieldType.int) ∈ gw := gw_in (tb_4 (List.mem_of_getElem? (i := 201) rfl)) (by decide +kernel)
set_option maxRecDepth 100000 in
theorem g1021 : Cond.code yX8_year prog_1_method_38_code 8 (some Jvm.ClassFile.FieldType.int) ∈ gw := gw_in (tb_4 (List.mem_of_getElem? (i := 205) rfl)) (by decide +kernel)
set_option maxRecDepth 100000 in
theorem g1025 : Cond.code yX8_tell prog_1_method_39_code 4 (some Jvm.ClassFile.FieldType.int) ∈ gw := gw_in (tb_4 (List.mem_of_getElem? (i := 209) rfl)) (by decide +kernel)
theorem g1026 : Cond.methodLink "MirageLoans" 297 yX7_put ∈ gw := gw_in (tb_4 (List.mem_of_getElem? (i := 210) (by decide +kernel))) (by decide +kernel)
theorem g1027 : Cond.instanceMethod yX7_put ∈ gw := gw_in (tb_4 (List.mem_of_getElem? (i := 211) (by decide +kernel))) (by decide +kernel)
theorem g1028 : Cond.selects "MirageLoans$Told" yX7_put yX7_put ∈ gw := gw_in (tb_4 (List.mem_of_getElem? (i := 212) (by decide +kernel))) (by decide +kernel)
set_option maxRecDepth 100000 in
theorem g1029 : Cond.code yX7_put prog_9_method_2_code 4 (some Jvm.ClassFile.FieldType.int) ∈ gw := gw_in (tb_4 (List.mem_of_getElem? (i := 213) rfl)) (by decide +kernel)
set_option maxRecDepth 100000 in
theorem g1033 : Cond.code yX8_forget prog_1_method_40_code 2 (some Jvm.ClassFile.FieldType.int) ∈ gw := gw_in (tb_4 (List.mem_of_getElem? (i := 217) rfl)) (by decide +kernel)
set_option maxRecDepth 100000 in
theorem g1037 : Cond.code yX8_stands prog_1_method_41_code 2 (some Jvm.ClassFile.FieldType.int) ∈ gw := gw_in (tb_4 (List.mem_of_getElem? (i := 221) rfl)) (by decide +kernel)
theorem g1038 : Cond.methodLink "MirageLoans" 300 yX8_isKnown ∈ gw := gw_in (tb_4 (List.mem_of_getElem? (i := 222) (by decide +kernel))) (by decide +kernel)
theorem g1040 : Cond.instanceMethod yX8_isKnown ∈ gw := gw_in (tb_4 (List.mem_of_getElem? (i := 224) (by decide +kernel))) (by decide +kernel)
set_option maxRecDepth 100000 in
theorem g1041 : Cond.code yX8_isKnown prog_1_method_53_code 2 (some Jvm.ClassFile.FieldType.boolean) ∈ gw := gw_in (tb_4 (List.mem_of_getElem? (i := 225) rfl)) (by decide +kernel)
theorem g1042 : Cond.methodLink "MirageLoans" 303 yX7_sift ∈ gw := gw_in (tb_4 (List.mem_of_getElem? (i := 226) (by decide +kernel))) (by decide +kernel)
theorem g1043 : Cond.instanceMethod yX7_sift ∈ gw := gw_in (tb_4 (List.mem_of_getElem? (i := 227) (by decide +kernel))) (by decide +kernel)
theorem g1044 : Cond.selects "MirageLoans$Told" yX7_sift yX7_sift ∈ gw := gw_in (tb_4 (List.mem_of_getElem? (i := 228) (by decide +kernel))) (by decide +kernel)
set_option maxRecDepth 100000 in
theorem g1045 : Cond.code yX7_sift prog_9_method_5_code 7 (some Jvm.ClassFile.FieldType.int) ∈ gw := gw_in (tb_4 (List.mem_of_getElem? (i := 229) rfl)) (by decide +kernel)
theorem g1046 : Cond.methodLink "MirageLoans$Told" 32 yX0_heat ∈ gw := gw_in (tb_4 (List.mem_of_getElem? (i := 230) (by decide +kernel))) (by decide +kernel)
theorem g1047 : Cond.methodLink "MirageLoans$Told" 38 yX7_isSo ∈ gw := gw_in (tb_4 (List.mem_of_getElem? (i := 231) (by decide +kernel))) (by decide +kernel)
theorem g1049 : Cond.instanceMethod yX7_isSo ∈ gw := gw_in (tb_4 (List.mem_of_getElem? (i := 233) (by decide +kernel))) (by decide +kernel)
set_option maxRecDepth 100000 in
theorem g1050 : Cond.code yX7_isSo prog_9_method_6_code 5 (some Jvm.ClassFile.FieldType.boolean) ∈ gw := gw_in (tb_4 (List.mem_of_getElem? (i := 234) rfl)) (by decide +kernel)
theorem g1051 : Cond.methodLink "MirageLoans$Told" 46 yX7_xOf ∈ gw := gw_in (tb_4 (List.mem_of_getElem? (i := 235) (by decide +kernel))) (by decide +kernel)
theorem g1052 : Cond.static yX7_xOf ∈ gw := gw_in (tb_4 (List.mem_of_getElem? (i := 236) (by decide +kernel))) (by decide +kernel)
set_option maxRecDepth 100000 in
theorem g1053 : Cond.code yX7_xOf prog_9_method_3_code 1 (some Jvm.ClassFile.FieldType.int) ∈ gw := gw_in (tb_4 (List.mem_of_getElem? (i := 237) rfl)) (by decide +kernel)
theorem g1054 : Cond.methodLink "MirageLoans$Told" 49 yX7_tallOf ∈ gw := gw_in (tb_4 (List.mem_of_getElem? (i := 238) (by decide +kernel))) (by decide +kernel)
theorem g1055 : Cond.static yX7_tallOf ∈ gw := gw_in (tb_4 (List.mem_of_getElem? (i := 239) (by decide +kernel))) (by decide +kernel)
set_option maxRecDepth 100000 in
theorem g1056 : Cond.code yX7_tallOf prog_9_method_4_code 1 (some Jvm.ClassFile.FieldType.int) ∈ gw := gw_in (tb_5 (List.mem_of_getElem? (i := 0) rfl)) (by decide +kernel)
theorem g1057 : Cond.methodLink "MirageLoans$Told" 52 yX2_aim ∈ gw := gw_in (tb_5 (List.mem_of_getElem? (i := 1) (by decide +kernel))) (by decide +kernel)
theorem g1058 : Cond.methodLink "MirageLoans$Told" 58 yX2_spot ∈ gw := gw_in (tb_5 (List.mem_of_getElem? (i := 2) (by decide +kernel))) (by decide +kernel)
set_option maxRecDepth 100000 in
theorem g1062 : Cond.code yX8_sure prog_1_method_42_code 3 (some Jvm.ClassFile.FieldType.int) ∈ gw := gw_in (tb_5 (List.mem_of_getElem? (i := 6) rfl)) (by decide +kernel)
theorem g1063 : Cond.methodLink "MirageLoans" 307 yX7_common ∈ gw := gw_in (tb_5 (List.mem_of_getElem? (i := 7) (by decide +kernel))) (by decide +kernel)
theorem g1064 : Cond.instanceMethod yX7_common ∈ gw := gw_in (tb_5 (List.mem_of_getElem? (i := 8) (by decide +kernel))) (by decide +kernel)
theorem g1065 : Cond.selects "MirageLoans$Told" yX7_common yX7_common ∈ gw := gw_in (tb_5 (List.mem_of_getElem? (i := 9) (by decide +kernel))) (by decide +kernel)
set_option maxRecDepth 100000 in
theorem g1066 : Cond.code yX7_common prog_9_method_7_code 5 (some Jvm.ClassFile.FieldType.int) ∈ gw := gw_in (tb_5 (List.mem_of_getElem? (i := 10) rfl)) (by decide +kernel)
set_option maxRecDepth 100000 in
theorem g1070 : Cond.code yX8_look prog_1_method_43_code 3 (some Jvm.ClassFile.FieldType.int) ∈ gw := gw_in (tb_5 (List.mem_of_getElem? (i := 14) rfl)) (by decide +kernel)
theorem g1071 : Cond.methodLink "MirageLoans" 311 yX7_lookFrom ∈ gw := gw_in (tb_5 (List.mem_of_getElem? (i := 15) (by decide +kernel))) (by decide +kernel)
theorem g1072 : Cond.instanceMethod yX7_lookFrom ∈ gw := gw_in (tb_5 (List.mem_of_getElem? (i := 16) (by decide +kernel))) (by decide +kernel)
theorem g1073 : Cond.selects "MirageLoans$Told" yX7_lookFrom yX7_lookFrom ∈ gw := gw_in (tb_5 (List.mem_of_getElem? (i := 17) (by decide +kernel))) (by decide +kernel)
set_option maxRecDepth 100000 in
theorem g1074 : Cond.code yX7_lookFrom prog_9_method_8_code 8 (some Jvm.ClassFile.FieldType.int) ∈ gw := gw_in (tb_5 (List.mem_of_getElem? (i := 18) rfl)) (by decide +kernel)
theorem g1075 : Cond.methodLink "MirageLoans$Told" 62 yX7_worstLeft ∈ gw := gw_in (tb_5 (List.mem_of_getElem? (i := 19) (by decide +kernel))) (by decide +kernel)
theorem g1077 : Cond.instanceMethod yX7_worstLeft ∈ gw := gw_in (tb_5 (List.mem_of_getElem? (i := 21) (by decide +kernel))) (by decide +kernel)
set_option maxRecDepth 100000 in
theorem g1078 : Cond.code yX7_worstLeft prog_9_method_9_code 8 (some Jvm.ClassFile.FieldType.int) ∈ gw := gw_in (tb_5 (List.mem_of_getElem? (i := 22) rfl)) (by decide +kernel)
theorem g1079 : Cond.methodLink "MirageLoans$Told" 66 Lib.Math.max.name ∈ gw := gw_in (tb_5 (List.mem_of_getElem? (i := 23) (by decide +kernel))) (by decide +kernel)
set_option maxRecDepth 100000 in
theorem g1083 : Cond.code yX8_hold prog_1_method_44_code 2 (some Jvm.ClassFile.FieldType.boolean) ∈ gw := gw_in (tb_5 (List.mem_of_getElem? (i := 27) rfl)) (by decide +kernel)
set_option maxRecDepth 100000 in
theorem g1087 : Cond.code yX8_restore prog_1_method_45_code 2 (some Jvm.ClassFile.FieldType.boolean) ∈ gw := gw_in (tb_5 (List.mem_of_getElem? (i := 31) rfl)) (by decide +kernel)
set_option maxRecDepth 100000 in
theorem g1091 : Cond.code yX8_count prog_1_method_46_code 2 (some Jvm.ClassFile.FieldType.int) ∈ gw := gw_in (tb_5 (List.mem_of_getElem? (i := 35) rfl)) (by decide +kernel)
theorem g1092 : Cond.methodLink "MirageLoans" 314 yX4_loans ∈ gw := gw_in (tb_5 (List.mem_of_getElem? (i := 36) (by decide +kernel))) (by decide +kernel)
theorem g1093 : Cond.instanceMethod yX4_loans ∈ gw := gw_in (tb_5 (List.mem_of_getElem? (i := 37) (by decide +kernel))) (by decide +kernel)
theorem g1094 : Cond.selects "MirageLoans$State" yX4_loans yX4_loans ∈ gw := gw_in (tb_5 (List.mem_of_getElem? (i := 38) (by decide +kernel))) (by decide +kernel)
set_option maxRecDepth 100000 in
theorem g1095 : Cond.code yX4_loans prog_6_method_6_code 6 (some Jvm.ClassFile.FieldType.int) ∈ gw := gw_in (tb_5 (List.mem_of_getElem? (i := 39) rfl)) (by decide +kernel)
theorem g1096 : Cond.methodLink "MirageLoans" 318 yX8_sum ∈ gw := gw_in (tb_5 (List.mem_of_getElem? (i := 40) (by decide +kernel))) (by decide +kernel)
theorem g1097 : Cond.static yX8_sum ∈ gw := gw_in (tb_5 (List.mem_of_getElem? (i := 41) (by decide +kernel))) (by decide +kernel)
set_option maxRecDepth 100000 in
theorem g1098 : Cond.code yX8_sum prog_1_method_55_code 6 (some Jvm.ClassFile.FieldType.int) ∈ gw := gw_in (tb_5 (List.mem_of_getElem? (i := 42) rfl)) (by decide +kernel)
theorem g1099 : Cond.methodLink "MirageLoans" 323 yX8_heldSlots ∈ gw := gw_in (tb_5 (List.mem_of_getElem? (i := 43) (by decide +kernel))) (by decide +kernel)
theorem g1101 : Cond.instanceMethod yX8_heldSlots ∈ gw := gw_in (tb_5 (List.mem_of_getElem? (i := 45) (by decide +kernel))) (by decide +kernel)
set_option maxRecDepth 100000 in
theorem g1102 : Cond.code yX8_heldSlots prog_1_method_47_code 3 (some Jvm.ClassFile.FieldType.int) ∈ gw := gw_in (tb_5 (List.mem_of_getElem? (i := 46) rfl)) (by decide +kernel)
theorem g1103 : Cond.methodLink "MirageLoans" 326 yX0_isWind ∈ gw := gw_in (tb_5 (List.mem_of_getElem? (i := 47) (by decide +kernel))) (by decide +kernel)
theorem g1110 : Cond.methodLink "MirageLoansModel" 149 yX9_plain ∈ gw := gw_in (tb_5 (List.mem_of_getElem? (i := 54) (by decide +kernel))) (by decide +kernel)
theorem g1112 : Cond.instanceMethod yX9_plain ∈ gw := gw_in (tb_5 (List.mem_of_getElem? (i := 56) (by decide +kernel))) (by decide +kernel)
set_option maxRecDepth 100000 in
theorem g1113 : Cond.code yX9_plain prog_11_method_19_code 3 none ∈ gw := gw_in (tb_5 (List.mem_of_getElem? (i := 57) rfl)) (by decide +kernel)
theorem g1117 : Cond.methodLink "MirageLoansModel" 157 yX9_appends ∈ gw := gw_in (tb_5 (List.mem_of_getElem? (i := 61) (by decide +kernel))) (by decide +kernel)
theorem g1118 : Cond.static yX9_appends ∈ gw := gw_in (tb_5 (List.mem_of_getElem? (i := 62) (by decide +kernel))) (by decide +kernel)
set_option maxRecDepth 100000 in
theorem g1119 : Cond.code yX9_appends prog_11_method_9_code 3 (some Jvm.ClassFile.FieldType.long) ∈ gw := gw_in (tb_5 (List.mem_of_getElem? (i := 63) rfl)) (by decide +kernel)
theorem g1120 : Cond.constantLong "MirageLoansModel" 176 (27 : Int64) ∈ gw := gw_in (tb_5 (List.mem_of_getElem? (i := 64) (by decide +kernel))) (by decide +kernel)
theorem g1121 : Cond.methodLink "MirageLoansModel" 161 yX9_begins ∈ gw := gw_in (tb_5 (List.mem_of_getElem? (i := 65) (by decide +kernel))) (by decide +kernel)
theorem g1123 : Cond.instanceMethod yX9_begins ∈ gw := gw_in (tb_5 (List.mem_of_getElem? (i := 67) (by decide +kernel))) (by decide +kernel)
set_option maxRecDepth 100000 in
theorem g1124 : Cond.code yX9_begins prog_11_method_42_code 2 none ∈ gw := gw_in (tb_5 (List.mem_of_getElem? (i := 68) rfl)) (by decide +kernel)
theorem g1125 : Cond.methodLink "MirageLoansModel" 164 yX9_keepsRow ∈ gw := gw_in (tb_5 (List.mem_of_getElem? (i := 69) (by decide +kernel))) (by decide +kernel)
theorem g1127 : Cond.instanceMethod yX9_keepsRow ∈ gw := gw_in (tb_5 (List.mem_of_getElem? (i := 71) (by decide +kernel))) (by decide +kernel)
set_option maxRecDepth 100000 in
theorem g1128 : Cond.code yX9_keepsRow prog_11_method_43_code 2 none ∈ gw := gw_in (tb_5 (List.mem_of_getElem? (i := 72) rfl)) (by decide +kernel)
theorem g1129 : Cond.fieldLink "MirageLoansModel" 13 "MirageLoansModel" "tape" "[B" ∈ gw := gw_in (tb_5 (List.mem_of_getElem? (i := 73) (by decide +kernel))) (by decide +kernel)
theorem g1130 : Cond.fieldLink "MirageLoansModel" 167 "MirageLoansModel" "taped" "I" ∈ gw := gw_in (tb_5 (List.mem_of_getElem? (i := 74) (by decide +kernel))) (by decide +kernel)
theorem g1131 : Cond.fieldLink "MirageLoansModel" 17 "MirageLoansModel" "text" "[B" ∈ gw := gw_in (tb_5 (List.mem_of_getElem? (i := 75) (by decide +kernel))) (by decide +kernel)
theorem g1132 : Cond.fieldLink "MirageLoansModel" 173 "MirageLoansModel" "size" "I" ∈ gw := gw_in (tb_5 (List.mem_of_getElem? (i := 76) (by decide +kernel))) (by decide +kernel)
theorem g1133 : Cond.fieldLink "MirageLoansModel" 20 "MirageLoansModel" "tKind" "[I" ∈ gw := gw_in (tb_5 (List.mem_of_getElem? (i := 77) (by decide +kernel))) (by decide +kernel)
theorem g1134 : Cond.fieldLink "MirageLoansModel" 24 "MirageLoansModel" "tPlace" "[I" ∈ gw := gw_in (tb_5 (List.mem_of_getElem? (i := 78) (by decide +kernel))) (by decide +kernel)
theorem g1135 : Cond.fieldLink "MirageLoansModel" 27 "MirageLoansModel" "tValue" "[I" ∈ gw := gw_in (tb_5 (List.mem_of_getElem? (i := 79) (by decide +kernel))) (by decide +kernel)
theorem g1136 : Cond.fieldLink "MirageLoansModel" 30 "MirageLoansModel" "tName" "[J" ∈ gw := gw_in (tb_5 (List.mem_of_getElem? (i := 80) (by decide +kernel))) (by decide +kernel)
theorem g1137 : Cond.fieldLink "MirageLoansModel" 34 "MirageLoansModel" "keys" "[J" ∈ gw := gw_in (tb_5 (List.mem_of_getElem? (i := 81) (by decide +kernel))) (by decide +kernel)
theorem g1138 : Cond.fieldLink "MirageLoansModel" 178 "MirageLoansModel" "tokens" "I" ∈ gw := gw_in (tb_5 (List.mem_of_getElem? (i := 82) (by decide +kernel))) (by decide +kernel)
theorem g1139 : Cond.fieldLink "MirageLoansModel" 203 "MirageLoansModel" "t" "I" ∈ gw := gw_in (tb_5 (List.mem_of_getElem? (i := 83) (by decide +kernel))) (by decide +kernel)
theorem g1140 : Cond.fieldLink "MirageLoansModel" 227 "MirageLoansModel" "open" "I" ∈ gw := gw_in (tb_5 (List.mem_of_getElem? (i := 84) (by decide +kernel))) (by decide +kernel)
theorem g1141 : Cond.fieldLink "MirageLoansModel" 200 "MirageLoansModel" "fault" "I" ∈ gw := gw_in (tb_5 (List.mem_of_getElem? (i := 85) (by decide +kernel))) (by decide +kernel)
theorem g1142 : Cond.fieldLink "MirageLoansModel" 206 "MirageLoansModel" "faultPlace" "I" ∈ gw := gw_in (tb_5 (List.mem_of_getElem? (i := 86) (by decide +kernel))) (by decide +kernel)
theorem g1143 : Cond.fieldLink "MirageLoansModel" 209 "MirageLoansModel" "worst" "I" ∈ gw := gw_in (tb_5 (List.mem_of_getElem? (i := 87) (by decide +kernel))) (by decide +kernel)
theorem g1144 : Cond.fieldLink "MirageLoansModel" 212 "MirageLoansModel" "worstPlace" "I" ∈ gw := gw_in (tb_5 (List.mem_of_getElem? (i := 88) (by decide +kernel))) (by decide +kernel)
theorem g1145 : Cond.fieldLink "MirageLoansModel" 37 "MirageLoansModel" "place" "I" ∈ gw := gw_in (tb_5 (List.mem_of_getElem? (i := 89) (by decide +kernel))) (by decide +kernel)
theorem g1146 : Cond.fieldLink "MirageLoansModel" 230 "MirageLoansModel" "live" "I" ∈ gw := gw_in (tb_5 (List.mem_of_getElem? (i := 90) (by decide +kernel))) (by decide +kernel)
theorem g1147 : Cond.fieldLink "MirageLoansModel" 233 "MirageLoansModel" "side" "I" ∈ gw := gw_in (tb_5 (List.mem_of_getElem? (i := 91) (by decide +kernel))) (by decide +kernel)
theorem g1148 : Cond.fieldLink "MirageLoansModel" 236 "MirageLoansModel" "names" "I" ∈ gw := gw_in (tb_5 (List.mem_of_getElem? (i := 92) (by decide +kernel))) (by decide +kernel)
theorem g1149 : Cond.fieldLink "MirageLoansModel" 40 "MirageLoansModel" "nameOf" "[J" ∈ gw := gw_in (tb_5 (List.mem_of_getElem? (i := 93) (by decide +kernel))) (by decide +kernel)
theorem g1150 : Cond.fieldLink "MirageLoansModel" 43 "MirageLoansModel" "things" "[I" ∈ gw := gw_in (tb_5 (List.mem_of_getElem? (i := 94) (by decide +kernel))) (by decide +kernel)
theorem g1151 : Cond.fieldLink "MirageLoansModel" 46 "MirageLoansModel" "xOf" "[I" ∈ gw := gw_in (tb_5 (List.mem_of_getElem? (i := 95) (by decide +kernel))) (by decide +kernel)
theorem g1152 : Cond.fieldLink "MirageLoansModel" 49 "MirageLoansModel" "tallOf" "[I" ∈ gw := gw_in (tb_5 (List.mem_of_getElem? (i := 96) (by decide +kernel))) (by decide +kernel)
theorem g1153 : Cond.fieldLink "MirageLoansModel" 52 "MirageLoansModel" "seats" "[I" ∈ gw := gw_in (tb_5 (List.mem_of_getElem? (i := 97) (by decide +kernel))) (by decide +kernel)
theorem g1154 : Cond.fieldLink "MirageLoansModel" 55 "MirageLoansModel" "seatTold" "[I" ∈ gw := gw_in (tb_5 (List.mem_of_getElem? (i := 98) (by decide +kernel))) (by decide +kernel)
theorem g1155 : Cond.fieldLink "MirageLoansModel" 58 "MirageLoansModel" "coinsTold" "[I" ∈ gw := gw_in (tb_5 (List.mem_of_getElem? (i := 99) (by decide +kernel))) (by decide +kernel)
theorem g1156 : Cond.fieldLink "MirageLoansModel" 61 "MirageLoansModel" "grace" "[I" ∈ gw := gw_in (tb_5 (List.mem_of_getElem? (i := 100) (by decide +kernel))) (by decide +kernel)
theorem g1157 : Cond.fieldLink "MirageLoansModel" 64 "MirageLoansModel" "winds" "[I" ∈ gw := gw_in (tb_5 (List.mem_of_getElem? (i := 101) (by decide +kernel))) (by decide +kernel)
theorem g1158 : Cond.fieldLink "MirageLoansModel" 67 "MirageLoansModel" "startsAt" "[I" ∈ gw := gw_in (tb_5 (List.mem_of_getElem? (i := 102) (by decide +kernel))) (by decide +kernel)
theorem g1159 : Cond.fieldLink "MirageLoansModel" 70 "MirageLoansModel" "seed" "[I" ∈ gw := gw_in (tb_5 (List.mem_of_getElem? (i := 103) (by decide +kernel))) (by decide +kernel)
theorem g1160 : Cond.fieldLink "MirageLoansModel" 73 "MirageLoansModel" "lawFirst" "[I" ∈ gw := gw_in (tb_5 (List.mem_of_getElem? (i := 104) (by decide +kernel))) (by decide +kernel)
theorem g1161 : Cond.fieldLink "MirageLoansModel" 76 "MirageLoansModel" "lawLast" "[I" ∈ gw := gw_in (tb_5 (List.mem_of_getElem? (i := 105) (by decide +kernel))) (by decide +kernel)
theorem g1162 : Cond.fieldLink "MirageLoansModel" 239 "MirageLoansModel" "branches" "I" ∈ gw := gw_in (tb_5 (List.mem_of_getElem? (i := 106) (by decide +kernel))) (by decide +kernel)
theorem g1163 : Cond.fieldLink "MirageLoansModel" 79 "MirageLoansModel" "hasTest" "[Z" ∈ gw := gw_in (tb_5 (List.mem_of_getElem? (i := 107) (by decide +kernel))) (by decide +kernel)
theorem g1164 : Cond.fieldLink "MirageLoansModel" 83 "MirageLoansModel" "testFrom" "[I" ∈ gw := gw_in (tb_5 (List.mem_of_getElem? (i := 108) (by decide +kernel))) (by decide +kernel)
theorem g1165 : Cond.fieldLink "MirageLoansModel" 86 "MirageLoansModel" "testMid" "[I" ∈ gw := gw_in (tb_5 (List.mem_of_getElem? (i := 109) (by decide +kernel))) (by decide +kernel)
theorem g1166 : Cond.fieldLink "MirageLoansModel" 89 "MirageLoansModel" "testTo" "[I" ∈ gw := gw_in (tb_5 (List.mem_of_getElem? (i := 110) (by decide +kernel))) (by decide +kernel)
theorem g1167 : Cond.fieldLink "MirageLoansModel" 92 "MirageLoansModel" "termTo" "[I" ∈ gw := gw_in (tb_5 (List.mem_of_getElem? (i := 111) (by decide +kernel))) (by decide +kernel)
theorem g1168 : Cond.fieldLink "MirageLoansModel" 242 "MirageLoansModel" "codes" "I" ∈ gw := gw_in (tb_5 (List.mem_of_getElem? (i := 112) (by decide +kernel))) (by decide +kernel)
theorem g1169 : Cond.fieldLink "MirageLoansModel" 95 "MirageLoansModel" "code" "[I" ∈ gw := gw_in (tb_5 (List.mem_of_getElem? (i := 113) (by decide +kernel))) (by decide +kernel)
theorem g1170 : Cond.fieldLink "MirageLoansModel" 98 "MirageLoansModel" "codeInt" "[I" ∈ gw := gw_in (tb_5 (List.mem_of_getElem? (i := 114) (by decide +kernel))) (by decide +kernel)
theorem g1171 : Cond.fieldLink "MirageLoansModel" 101 "MirageLoansModel" "waits" "[I" ∈ gw := gw_in (tb_5 (List.mem_of_getElem? (i := 115) (by decide +kernel))) (by decide +kernel)
theorem g1172 : Cond.fieldLink "MirageLoansModel" 287 "MirageLoansModel" "waiting" "I" ∈ gw := gw_in (tb_5 (List.mem_of_getElem? (i := 116) (by decide +kernel))) (by decide +kernel)
theorem g1173 : Cond.fieldLink "MirageLoansModel" 104 "MirageLoansModel" "variables" "[I" ∈ gw := gw_in (tb_5 (List.mem_of_getElem? (i := 117) (by decide +kernel))) (by decide +kernel)
theorem g1174 : Cond.fieldLink "MirageLoansModel" 107 "MirageLoansModel" "pile" "[I" ∈ gw := gw_in (tb_5 (List.mem_of_getElem? (i := 118) (by decide +kernel))) (by decide +kernel)
theorem g1175 : Cond.fieldLink "MirageLoansModel" 300 "MirageLoansModel" "isBroken" "Z" ∈ gw := gw_in (tb_5 (List.mem_of_getElem? (i := 119) (by decide +kernel))) (by decide +kernel)
theorem g1176 : Cond.fieldLink "MirageLoansModel" 110 "MirageLoansModel" "now" "[I" ∈ gw := gw_in (tb_5 (List.mem_of_getElem? (i := 120) (by decide +kernel))) (by decide +kernel)
theorem g1177 : Cond.fieldLink "MirageLoansModel" 113 "MirageLoansModel" "row" "[I" ∈ gw := gw_in (tb_5 (List.mem_of_getElem? (i := 121) (by decide +kernel))) (by decide +kernel)
theorem g1178 : Cond.fieldLink "MirageLoansModel" 308 "MirageLoansModel" "lots" "I" ∈ gw := gw_in (tb_5 (List.mem_of_getElem? (i := 122) (by decide +kernel))) (by decide +kernel)
theorem g1179 : Cond.fieldLink "MirageLoansModel" 248 "MirageLoansModel" "undos" "I" ∈ gw := gw_in (tb_5 (List.mem_of_getElem? (i := 123) (by decide +kernel))) (by decide +kernel)
theorem g1180 : Cond.fieldLink "MirageLoansModel" 116 "MirageLoansModel" "history" "[I" ∈ gw := gw_in (tb_5 (List.mem_of_getElem? (i := 124) (by decide +kernel))) (by decide +kernel)
theorem g1184 : Cond.fieldLink "MirageLoansModel" 125 "MirageLoansModel" "isThere" "[Z" ∈ gw := gw_in (tb_5 (List.mem_of_getElem? (i := 128) (by decide +kernel))) (by decide +kernel)
theorem g1185 : Cond.fieldLink "MirageLoansModel" 128 "MirageLoansModel" "isThen" "[Z" ∈ gw := gw_in (tb_5 (List.mem_of_getElem? (i := 129) (by decide +kernel))) (by decide +kernel)
theorem g1186 : Cond.fieldLink "MirageLoansModel" 251 "MirageLoansModel" "tolds" "I" ∈ gw := gw_in (tb_5 (List.mem_of_getElem? (i := 130) (by decide +kernel))) (by decide +kernel)
theorem g1187 : Cond.fieldLink "MirageLoansModel" 131 "MirageLoansModel" "toldFrom" "[I" ∈ gw := gw_in (tb_5 (List.mem_of_getElem? (i := 131) (by decide +kernel))) (by decide +kernel)
theorem g1188 : Cond.fieldLink "MirageLoansModel" 134 "MirageLoansModel" "toldAt" "[I" ∈ gw := gw_in (tb_5 (List.mem_of_getElem? (i := 132) (by decide +kernel))) (by decide +kernel)
theorem g1189 : Cond.fieldLink "MirageLoansModel" 137 "MirageLoansModel" "toldHours" "[I" ∈ gw := gw_in (tb_5 (List.mem_of_getElem? (i := 133) (by decide +kernel))) (by decide +kernel)
theorem g1190 : Cond.fieldLink "MirageLoansModel" 140 "MirageLoansModel" "waysBy" "[I" ∈ gw := gw_in (tb_5 (List.mem_of_getElem? (i := 134) (by decide +kernel))) (by decide +kernel)
theorem g1191 : Cond.fieldLink "MirageLoansModel" 143 "MirageLoansModel" "isHeld" "[Z" ∈ gw := gw_in (tb_5 (List.mem_of_getElem? (i := 135) (by decide +kernel))) (by decide +kernel)
theorem g1192 : Cond.fieldLink "MirageLoansModel" 146 "MirageLoansModel" "heldRows" "[I" ∈ gw := gw_in (tb_5 (List.mem_of_getElem? (i := 136) (by decide +kernel))) (by decide +kernel)
set_option maxRecDepth 100000 in
theorem g1327 : Cond.code yX9_feed prog_11_method_3_code 6 (some Jvm.ClassFile.FieldType.int) ∈ gw := gw_in (tb_6 (List.mem_of_getElem? (i := 31) rfl)) (by decide +kernel)
theorem g1328 : Cond.methodLink "MirageLoansModel" 170 yX9_put ∈ gw := gw_in (tb_6 (List.mem_of_getElem? (i := 32) (by decide +kernel))) (by decide +kernel)
theorem g1330 : Cond.instanceMethod yX9_put ∈ gw := gw_in (tb_6 (List.mem_of_getElem? (i := 34) (by decide +kernel))) (by decide +kernel)
set_option maxRecDepth 100000 in
theorem g1331 : Cond.code yX9_put prog_11_method_4_code 3 none ∈ gw := gw_in (tb_6 (List.mem_of_getElem? (i := 35) rfl)) (by decide +kernel)
set_option maxRecDepth 100000 in
theorem g1335 : Cond.code yX9_back prog_11_method_5_code 2 (some Jvm.ClassFile.FieldType.int) ∈ gw := gw_in (tb_6 (List.mem_of_getElem? (i := 39) rfl)) (by decide +kernel)
set_option maxRecDepth 100000 in
theorem g1339 : Cond.code yX9_read prog_11_method_20_code 2 (some Jvm.ClassFile.FieldType.int) ∈ gw := gw_in (tb_6 (List.mem_of_getElem? (i := 43) rfl)) (by decide +kernel)
theorem g1340 : Cond.methodLink "MirageLoansModel" 224 yX9_cut ∈ gw := gw_in (tb_6 (List.mem_of_getElem? (i := 44) (by decide +kernel))) (by decide +kernel)
theorem g1342 : Cond.instanceMethod yX9_cut ∈ gw := gw_in (tb_6 (List.mem_of_getElem? (i := 46) (by decide +kernel))) (by decide +kernel)
set_option maxRecDepth 100000 in
theorem g1343 : Cond.code yX9_cut prog_11_method_12_code 8 none ∈ gw := gw_in (tb_6 (List.mem_of_getElem? (i := 47) rfl)) (by decide +kernel)
theorem g1344 : Cond.methodLink "MirageLoansModel" 181 yX9_byteAt ∈ gw := gw_in (tb_6 (List.mem_of_getElem? (i := 48) (by decide +kernel))) (by decide +kernel)
theorem g1346 : Cond.instanceMethod yX9_byteAt ∈ gw := gw_in (tb_6 (List.mem_of_getElem? (i := 50) (by decide +kernel))) (by decide +kernel)
set_option maxRecDepth 100000 in
theorem g1347 : Cond.code yX9_byteAt prog_11_method_6_code 2 (some Jvm.ClassFile.FieldType.int) ∈ gw := gw_in (tb_6 (List.mem_of_getElem? (i := 51) rfl)) (by decide +kernel)
theorem g1348 : Cond.methodLink "MirageLoansModel" 185 yX9_token ∈ gw := gw_in (tb_6 (List.mem_of_getElem? (i := 52) (by decide +kernel))) (by decide +kernel)
theorem g1350 : Cond.instanceMethod yX9_token ∈ gw := gw_in (tb_6 (List.mem_of_getElem? (i := 54) (by decide +kernel))) (by decide +kernel)
set_option maxRecDepth 100000 in
theorem g1351 : Cond.code yX9_token prog_11_method_11_code 6 none ∈ gw := gw_in (tb_6 (List.mem_of_getElem? (i := 55) rfl)) (by decide +kernel)
theorem g1352 : Cond.methodLink "MirageLoansModel" 189 yX9_isLetter ∈ gw := gw_in (tb_6 (List.mem_of_getElem? (i := 56) (by decide +kernel))) (by decide +kernel)
theorem g1353 : Cond.static yX9_isLetter ∈ gw := gw_in (tb_6 (List.mem_of_getElem? (i := 57) (by decide +kernel))) (by decide +kernel)
set_option maxRecDepth 100000 in
theorem g1354 : Cond.code yX9_isLetter prog_11_method_8_code 1 (some Jvm.ClassFile.FieldType.boolean) ∈ gw := gw_in (tb_6 (List.mem_of_getElem? (i := 58) rfl)) (by decide +kernel)
theorem g1355 : Cond.methodLink "MirageLoansModel" 193 yX9_isDigit ∈ gw := gw_in (tb_6 (List.mem_of_getElem? (i := 59) (by decide +kernel))) (by decide +kernel)
theorem g1356 : Cond.static yX9_isDigit ∈ gw := gw_in (tb_6 (List.mem_of_getElem? (i := 60) (by decide +kernel))) (by decide +kernel)
set_option maxRecDepth 100000 in
theorem g1357 : Cond.code yX9_isDigit prog_11_method_7_code 1 (some Jvm.ClassFile.FieldType.boolean) ∈ gw := gw_in (tb_6 (List.mem_of_getElem? (i := 61) rfl)) (by decide +kernel)
theorem g1358 : Cond.methodLink "MirageLoansModel" 196 yX9_sign ∈ gw := gw_in (tb_6 (List.mem_of_getElem? (i := 62) (by decide +kernel))) (by decide +kernel)
theorem g1360 : Cond.instanceMethod yX9_sign ∈ gw := gw_in (tb_6 (List.mem_of_getElem? (i := 64) (by decide +kernel))) (by decide +kernel)
set_option maxRecDepth 100000 in
theorem g1361 : Cond.code yX9_sign prog_11_method_13_code 5 (some Jvm.ClassFile.FieldType.int) ∈ gw := gw_in (tb_6 (List.mem_of_getElem? (i := 65) rfl)) (by decide +kernel)
theorem g1362 : Cond.methodLink "MirageLoansModel" 218 yX9_is ∈ gw := gw_in (tb_6 (List.mem_of_getElem? (i := 66) (by decide +kernel))) (by decide +kernel)
theorem g1364 : Cond.instanceMethod yX9_is ∈ gw := gw_in (tb_6 (List.mem_of_getElem? (i := 68) (by decide +kernel))) (by decide +kernel)
set_option maxRecDepth 100000 in
theorem g1365 : Cond.code yX9_is prog_11_method_14_code 2 (some Jvm.ClassFile.FieldType.boolean) ∈ gw := gw_in (tb_6 (List.mem_of_getElem? (i := 69) rfl)) (by decide +kernel)
theorem g1366 : Cond.methodLink "MirageLoansModel" 245 yX9_tellOne ∈ gw := gw_in (tb_6 (List.mem_of_getElem? (i := 70) (by decide +kernel))) (by decide +kernel)
theorem g1368 : Cond.instanceMethod yX9_tellOne ∈ gw := gw_in (tb_6 (List.mem_of_getElem? (i := 72) (by decide +kernel))) (by decide +kernel)
set_option maxRecDepth 100000 in
theorem g1369 : Cond.code yX9_tellOne prog_11_method_24_code 2 none ∈ gw := gw_in (tb_6 (List.mem_of_getElem? (i := 73) rfl)) (by decide +kernel)
theorem g1370 : Cond.methodLink "MirageLoansModel" 261 yX9_roomFor ∈ gw := gw_in (tb_6 (List.mem_of_getElem? (i := 74) (by decide +kernel))) (by decide +kernel)
theorem g1372 : Cond.instanceMethod yX9_roomFor ∈ gw := gw_in (tb_6 (List.mem_of_getElem? (i := 76) (by decide +kernel))) (by decide +kernel)
set_option maxRecDepth 100000 in
theorem g1373 : Cond.code yX9_roomFor prog_11_method_22_code 3 none ∈ gw := gw_in (tb_6 (List.mem_of_getElem? (i := 77) rfl)) (by decide +kernel)
theorem g1374 : Cond.methodLink "MirageLoansModel" 215 yX9_fail ∈ gw := gw_in (tb_6 (List.mem_of_getElem? (i := 78) (by decide +kernel))) (by decide +kernel)
theorem g1376 : Cond.instanceMethod yX9_fail ∈ gw := gw_in (tb_6 (List.mem_of_getElem? (i := 80) (by decide +kernel))) (by decide +kernel)
set_option maxRecDepth 100000 in
theorem g1377 : Cond.code yX9_fail prog_11_method_15_code 2 none ∈ gw := gw_in (tb_6 (List.mem_of_getElem? (i := 81) rfl)) (by decide +kernel)
theorem g1378 : Cond.methodLink "MirageLoansModel" 221 yX9_goesOn ∈ gw := gw_in (tb_6 (List.mem_of_getElem? (i := 82) (by decide +kernel))) (by decide +kernel)
theorem g1380 : Cond.instanceMethod yX9_goesOn ∈ gw := gw_in (tb_6 (List.mem_of_getElem? (i := 84) (by decide +kernel))) (by decide +kernel)
set_option maxRecDepth 100000 in
theorem g1381 : Cond.code yX9_goesOn prog_11_method_17_code 1 none ∈ gw := gw_in (tb_6 (List.mem_of_getElem? (i := 85) rfl)) (by decide +kernel)
theorem g1382 : Cond.methodLink "MirageLoansModel" 265 yX9_named ∈ gw := gw_in (tb_6 (List.mem_of_getElem? (i := 86) (by decide +kernel))) (by decide +kernel)
theorem g1384 : Cond.instanceMethod yX9_named ∈ gw := gw_in (tb_6 (List.mem_of_getElem? (i := 88) (by decide +kernel))) (by decide +kernel)
set_option maxRecDepth 100000 in
theorem g1385 : Cond.code yX9_named prog_11_method_25_code 3 (some Jvm.ClassFile.FieldType.int) ∈ gw := gw_in (tb_6 (List.mem_of_getElem? (i := 89) rfl)) (by decide +kernel)
theorem g1386 : Cond.methodLink "MirageLoansModel" 258 yX9_must ∈ gw := gw_in (tb_6 (List.mem_of_getElem? (i := 90) (by decide +kernel))) (by decide +kernel)
theorem g1388 : Cond.instanceMethod yX9_must ∈ gw := gw_in (tb_6 (List.mem_of_getElem? (i := 92) (by decide +kernel))) (by decide +kernel)
set_option maxRecDepth 100000 in
theorem g1389 : Cond.code yX9_must prog_11_method_18_code 2 none ∈ gw := gw_in (tb_6 (List.mem_of_getElem? (i := 93) rfl)) (by decide +kernel)
theorem g1390 : Cond.methodLink "MirageLoansModel" 278 yX9_wrong ∈ gw := gw_in (tb_6 (List.mem_of_getElem? (i := 94) (by decide +kernel))) (by decide +kernel)
theorem g1392 : Cond.instanceMethod yX9_wrong ∈ gw := gw_in (tb_6 (List.mem_of_getElem? (i := 96) (by decide +kernel))) (by decide +kernel)
set_option maxRecDepth 100000 in
theorem g1393 : Cond.code yX9_wrong prog_11_method_16_code 4 none ∈ gw := gw_in (tb_6 (List.mem_of_getElem? (i := 97) rfl)) (by decide +kernel)
theorem g1394 : Cond.methodLink "MirageLoansModel" 254 yX9_bounded ∈ gw := gw_in (tb_6 (List.mem_of_getElem? (i := 98) (by decide +kernel))) (by decide +kernel)
theorem g1396 : Cond.instanceMethod yX9_bounded ∈ gw := gw_in (tb_6 (List.mem_of_getElem? (i := 100) (by decide +kernel))) (by decide +kernel)
set_option maxRecDepth 100000 in
theorem g1397 : Cond.code yX9_bounded prog_11_method_27_code 4 (some Jvm.ClassFile.FieldType.int) ∈ gw := gw_in (tb_6 (List.mem_of_getElem? (i := 101) rfl)) (by decide +kernel)
theorem g1398 : Cond.methodLink "MirageLoansModel" 269 yX9_ends ∈ gw := gw_in (tb_6 (List.mem_of_getElem? (i := 102) (by decide +kernel))) (by decide +kernel)
theorem g1400 : Cond.instanceMethod yX9_ends ∈ gw := gw_in (tb_6 (List.mem_of_getElem? (i := 104) (by decide +kernel))) (by decide +kernel)
set_option maxRecDepth 100000 in
theorem g1401 : Cond.code yX9_ends prog_11_method_26_code 2 none ∈ gw := gw_in (tb_6 (List.mem_of_getElem? (i := 105) rfl)) (by decide +kernel)
theorem g1402 : Cond.methodLink "MirageLoansModel" 272 yX9_toldInt ∈ gw := gw_in (tb_6 (List.mem_of_getElem? (i := 106) (by decide +kernel))) (by decide +kernel)
theorem g1404 : Cond.instanceMethod yX9_toldInt ∈ gw := gw_in (tb_6 (List.mem_of_getElem? (i := 108) (by decide +kernel))) (by decide +kernel)
set_option maxRecDepth 100000 in
theorem g1405 : Cond.code yX9_toldInt prog_11_method_23_code 4 (some Jvm.ClassFile.FieldType.int) ∈ gw := gw_in (tb_6 (List.mem_of_getElem? (i := 109) rfl)) (by decide +kernel)
theorem g1406 : Cond.methodLink "MirageLoansModel" 275 yX9_tellLaw ∈ gw := gw_in (tb_6 (List.mem_of_getElem? (i := 110) (by decide +kernel))) (by decide +kernel)
theorem g1408 : Cond.instanceMethod yX9_tellLaw ∈ gw := gw_in (tb_6 (List.mem_of_getElem? (i := 112) (by decide +kernel))) (by decide +kernel)
set_option maxRecDepth 100000 in
theorem g1409 : Cond.code yX9_tellLaw prog_11_method_28_code 4 none ∈ gw := gw_in (tb_6 (List.mem_of_getElem? (i := 113) rfl)) (by decide +kernel)
theorem g1410 : Cond.methodLink "MirageLoansModel" 281 yX9_expression ∈ gw := gw_in (tb_6 (List.mem_of_getElem? (i := 114) (by decide +kernel))) (by decide +kernel)
theorem g1412 : Cond.instanceMethod yX9_expression ∈ gw := gw_in (tb_6 (List.mem_of_getElem? (i := 116) (by decide +kernel))) (by decide +kernel)
set_option maxRecDepth 100000 in
theorem g1413 : Cond.code yX9_expression prog_11_method_32_code 3 none ∈ gw := gw_in (tb_6 (List.mem_of_getElem? (i := 117) rfl)) (by decide +kernel)
theorem g1414 : Cond.methodLink "MirageLoansModel" 293 yX9_unit ∈ gw := gw_in (tb_6 (List.mem_of_getElem? (i := 118) (by decide +kernel))) (by decide +kernel)
theorem g1416 : Cond.instanceMethod yX9_unit ∈ gw := gw_in (tb_6 (List.mem_of_getElem? (i := 120) (by decide +kernel))) (by decide +kernel)
set_option maxRecDepth 100000 in
theorem g1417 : Cond.code yX9_unit prog_11_method_33_code 1 none ∈ gw := gw_in (tb_6 (List.mem_of_getElem? (i := 121) rfl)) (by decide +kernel)
theorem g1418 : Cond.methodLink "MirageLoansModel" 290 yX9_emit ∈ gw := gw_in (tb_6 (List.mem_of_getElem? (i := 122) (by decide +kernel))) (by decide +kernel)
theorem g1420 : Cond.instanceMethod yX9_emit ∈ gw := gw_in (tb_6 (List.mem_of_getElem? (i := 124) (by decide +kernel))) (by decide +kernel)
set_option maxRecDepth 100000 in
theorem g1421 : Cond.code yX9_emit prog_11_method_30_code 3 none ∈ gw := gw_in (tb_6 (List.mem_of_getElem? (i := 125) rfl)) (by decide +kernel)
theorem g1422 : Cond.methodLink "MirageLoansModel" 296 yX9_comesOut ∈ gw := gw_in (tb_6 (List.mem_of_getElem? (i := 126) (by decide +kernel))) (by decide +kernel)
theorem g1424 : Cond.instanceMethod yX9_comesOut ∈ gw := gw_in (tb_6 (List.mem_of_getElem? (i := 128) (by decide +kernel))) (by decide +kernel)
set_option maxRecDepth 100000 in
theorem g1425 : Cond.code yX9_comesOut prog_11_method_31_code 3 none ∈ gw := gw_in (tb_6 (List.mem_of_getElem? (i := 129) rfl)) (by decide +kernel)
theorem g1426 : Cond.methodLink "MirageLoansModel" 284 yX9_term ∈ gw := gw_in (tb_6 (List.mem_of_getElem? (i := 130) (by decide +kernel))) (by decide +kernel)
theorem g1428 : Cond.instanceMethod yX9_term ∈ gw := gw_in (tb_6 (List.mem_of_getElem? (i := 132) (by decide +kernel))) (by decide +kernel)
set_option maxRecDepth 100000 in
theorem g1429 : Cond.code yX9_term prog_11_method_29_code 1 none ∈ gw := gw_in (tb_6 (List.mem_of_getElem? (i := 133) rfl)) (by decide +kernel)
set_option maxRecDepth 100000 in
theorem g1433 : Cond.code yX9_place prog_11_method_21_code 1 (some Jvm.ClassFile.FieldType.int) ∈ gw := gw_in (tb_6 (List.mem_of_getElem? (i := 137) rfl)) (by decide +kernel)
set_option maxRecDepth 100000 in
theorem g1437 : Cond.code yX9_thing prog_11_method_63_code 5 (some Jvm.ClassFile.FieldType.int) ∈ gw := gw_in (tb_6 (List.mem_of_getElem? (i := 141) rfl)) (by decide +kernel)
theorem g1438 : Cond.methodLink "MirageLoansModel" 372 yX9_isThing ∈ gw := gw_in (tb_6 (List.mem_of_getElem? (i := 142) (by decide +kernel))) (by decide +kernel)
theorem g1440 : Cond.instanceMethod yX9_isThing ∈ gw := gw_in (tb_6 (List.mem_of_getElem? (i := 144) (by decide +kernel))) (by decide +kernel)
set_option maxRecDepth 100000 in
theorem g1441 : Cond.code yX9_isThing prog_11_method_39_code 2 (some Jvm.ClassFile.FieldType.boolean) ∈ gw := gw_in (tb_6 (List.mem_of_getElem? (i := 145) rfl)) (by decide +kernel)
theorem g1442 : Cond.methodLink "MirageLoansModel" 304 yX9_in ∈ gw := gw_in (tb_6 (List.mem_of_getElem? (i := 146) (by decide +kernel))) (by decide +kernel)
theorem g1443 : Cond.static yX9_in ∈ gw := gw_in (tb_6 (List.mem_of_getElem? (i := 147) (by decide +kernel))) (by decide +kernel)
set_option maxRecDepth 100000 in
theorem g1444 : Cond.code yX9_in prog_11_method_35_code 3 (some Jvm.ClassFile.FieldType.boolean) ∈ gw := gw_in (tb_6 (List.mem_of_getElem? (i := 148) rfl)) (by decide +kernel)
theorem g1445 : Cond.methodLink "MirageLoansModel" 375 yX9_copies ∈ gw := gw_in (tb_6 (List.mem_of_getElem? (i := 149) (by decide +kernel))) (by decide +kernel)
theorem g1447 : Cond.instanceMethod yX9_copies ∈ gw := gw_in (tb_6 (List.mem_of_getElem? (i := 151) (by decide +kernel))) (by decide +kernel)
set_option maxRecDepth 100000 in
theorem g1448 : Cond.code yX9_copies prog_11_method_44_code 2 none ∈ gw := gw_in (tb_6 (List.mem_of_getElem? (i := 152) rfl)) (by decide +kernel)
theorem g1449 : Cond.methodLink "MirageLoansModel" 352 yX9_sees ∈ gw := gw_in (tb_6 (List.mem_of_getElem? (i := 153) (by decide +kernel))) (by decide +kernel)
theorem g1451 : Cond.instanceMethod yX9_sees ∈ gw := gw_in (tb_6 (List.mem_of_getElem? (i := 155) (by decide +kernel))) (by decide +kernel)
set_option maxRecDepth 100000 in
theorem g1452 : Cond.code yX9_sees prog_11_method_54_code 4 (some Jvm.ClassFile.FieldType.boolean) ∈ gw := gw_in (tb_6 (List.mem_of_getElem? (i := 156) rfl)) (by decide +kernel)
theorem g1453 : Cond.methodLink "MirageLoansModel" 337 yX9_isSeen ∈ gw := gw_in (tb_6 (List.mem_of_getElem? (i := 157) (by decide +kernel))) (by decide +kernel)
theorem g1455 : Cond.instanceMethod yX9_isSeen ∈ gw := gw_in (tb_6 (List.mem_of_getElem? (i := 159) (by decide +kernel))) (by decide +kernel)
set_option maxRecDepth 100000 in
theorem g1456 : Cond.code yX9_isSeen prog_11_method_51_code 5 (some Jvm.ClassFile.FieldType.boolean) ∈ gw := gw_in (tb_6 (List.mem_of_getElem? (i := 160) rfl)) (by decide +kernel)
theorem g1457 : Cond.methodLink "MirageLoansModel" 333 yX9_looksAt ∈ gw := gw_in (tb_6 (List.mem_of_getElem? (i := 161) (by decide +kernel))) (by decide +kernel)
theorem g1459 : Cond.instanceMethod yX9_looksAt ∈ gw := gw_in (tb_6 (List.mem_of_getElem? (i := 163) (by decide +kernel))) (by decide +kernel)
set_option maxRecDepth 100000 in
theorem g1460 : Cond.code yX9_looksAt prog_11_method_50_code 6 none ∈ gw := gw_in (tb_6 (List.mem_of_getElem? (i := 164) rfl)) (by decide +kernel)
theorem g1461 : Cond.methodLink "MirageLoansModel" 327 yX9_heatAt ∈ gw := gw_in (tb_6 (List.mem_of_getElem? (i := 165) (by decide +kernel))) (by decide +kernel)
theorem g1463 : Cond.instanceMethod yX9_heatAt ∈ gw := gw_in (tb_6 (List.mem_of_getElem? (i := 167) (by decide +kernel))) (by decide +kernel)
set_option maxRecDepth 100000 in
theorem g1464 : Cond.code yX9_heatAt prog_11_method_49_code 2 (some Jvm.ClassFile.FieldType.int) ∈ gw := gw_in (tb_6 (List.mem_of_getElem? (i := 168) rfl)) (by decide +kernel)
theorem g1465 : Cond.methodLink "MirageLoansModel" 318 yX9_looks ∈ gw := gw_in (tb_6 (List.mem_of_getElem? (i := 169) (by decide +kernel))) (by decide +kernel)
theorem g1467 : Cond.instanceMethod yX9_looks ∈ gw := gw_in (tb_6 (List.mem_of_getElem? (i := 171) (by decide +kernel))) (by decide +kernel)
set_option maxRecDepth 100000 in
theorem g1468 : Cond.code yX9_looks prog_11_method_47_code 3 none ∈ gw := gw_in (tb_6 (List.mem_of_getElem? (i := 172) rfl)) (by decide +kernel)
theorem g1469 : Cond.methodLink "MirageLoansModel" 321 yX9_lawTells ∈ gw := gw_in (tb_6 (List.mem_of_getElem? (i := 173) (by decide +kernel))) (by decide +kernel)
theorem g1471 : Cond.instanceMethod yX9_lawTells ∈ gw := gw_in (tb_6 (List.mem_of_getElem? (i := 175) (by decide +kernel))) (by decide +kernel)
set_option maxRecDepth 100000 in
theorem g1472 : Cond.code yX9_lawTells prog_11_method_48_code 7 (some Jvm.ClassFile.FieldType.int) ∈ gw := gw_in (tb_6 (List.mem_of_getElem? (i := 176) rfl)) (by decide +kernel)
theorem g1473 : Cond.methodLink "MirageLoansModel" 315 yX9_termOf ∈ gw := gw_in (tb_6 (List.mem_of_getElem? (i := 177) (by decide +kernel))) (by decide +kernel)
theorem g1475 : Cond.instanceMethod yX9_termOf ∈ gw := gw_in (tb_6 (List.mem_of_getElem? (i := 179) (by decide +kernel))) (by decide +kernel)
set_option maxRecDepth 100000 in
theorem g1476 : Cond.code yX9_termOf prog_11_method_34_code 8 (some Jvm.ClassFile.FieldType.int) ∈ gw := gw_in (tb_6 (List.mem_of_getElem? (i := 180) rfl)) (by decide +kernel)
theorem g1477 : Cond.methodLink "MirageLoansModel" 324 yX9_held ∈ gw := gw_in (tb_6 (List.mem_of_getElem? (i := 181) (by decide +kernel))) (by decide +kernel)
theorem g1478 : Cond.static yX9_held ∈ gw := gw_in (tb_6 (List.mem_of_getElem? (i := 182) (by decide +kernel))) (by decide +kernel)
set_option maxRecDepth 100000 in
theorem g1479 : Cond.code yX9_held prog_11_method_36_code 3 (some Jvm.ClassFile.FieldType.int) ∈ gw := gw_in (tb_6 (List.mem_of_getElem? (i := 183) rfl)) (by decide +kernel)
theorem g1480 : Cond.methodLink "MirageLoansModel" 330 yX9_off ∈ gw := gw_in (tb_6 (List.mem_of_getElem? (i := 184) (by decide +kernel))) (by decide +kernel)
theorem g1481 : Cond.static yX9_off ∈ gw := gw_in (tb_6 (List.mem_of_getElem? (i := 185) (by decide +kernel))) (by decide +kernel)
set_option maxRecDepth 100000 in
theorem g1482 : Cond.code yX9_off prog_11_method_38_code 2 (some Jvm.ClassFile.FieldType.int) ∈ gw := gw_in (tb_6 (List.mem_of_getElem? (i := 186) rfl)) (by decide +kernel)
set_option maxRecDepth 100000 in
theorem g1486 : Cond.code yX9_seat prog_11_method_65_code 5 (some Jvm.ClassFile.FieldType.int) ∈ gw := gw_in (tb_6 (List.mem_of_getElem? (i := 190) rfl)) (by decide +kernel)
theorem g1487 : Cond.methodLink "MirageLoansModel" 378 yX9_isSeat ∈ gw := gw_in (tb_6 (List.mem_of_getElem? (i := 191) (by decide +kernel))) (by decide +kernel)
theorem g1489 : Cond.instanceMethod yX9_isSeat ∈ gw := gw_in (tb_6 (List.mem_of_getElem? (i := 193) (by decide +kernel))) (by decide +kernel)
set_option maxRecDepth 100000 in
theorem g1490 : Cond.code yX9_isSeat prog_11_method_40_code 2 (some Jvm.ClassFile.FieldType.boolean) ∈ gw := gw_in (tb_6 (List.mem_of_getElem? (i := 194) rfl)) (by decide +kernel)
theorem g1491 : Cond.methodLink "MirageLoansModel" 381 yX9_seesBits ∈ gw := gw_in (tb_6 (List.mem_of_getElem? (i := 195) (by decide +kernel))) (by decide +kernel)
theorem g1493 : Cond.instanceMethod yX9_seesBits ∈ gw := gw_in (tb_6 (List.mem_of_getElem? (i := 197) (by decide +kernel))) (by decide +kernel)
set_option maxRecDepth 100000 in
theorem g1494 : Cond.code yX9_seesBits prog_11_method_62_code 4 (some Jvm.ClassFile.FieldType.int) ∈ gw := gw_in (tb_6 (List.mem_of_getElem? (i := 198) rfl)) (by decide +kernel)
theorem g1495 : Cond.methodLink "MirageLoansModel" 384 yX9_lentBy ∈ gw := gw_in (tb_6 (List.mem_of_getElem? (i := 199) (by decide +kernel))) (by decide +kernel)
theorem g1497 : Cond.instanceMethod yX9_lentBy ∈ gw := gw_in (tb_6 (List.mem_of_getElem? (i := 201) (by decide +kernel))) (by decide +kernel)
set_option maxRecDepth 100000 in
theorem g1498 : Cond.code yX9_lentBy prog_11_method_64_code 4 (some Jvm.ClassFile.FieldType.int) ∈ gw := gw_in (tb_6 (List.mem_of_getElem? (i := 202) rfl)) (by decide +kernel)
set_option maxRecDepth 100000 in
theorem g1502 : Cond.code yX9_loan prog_11_method_66_code 4 (some Jvm.ClassFile.FieldType.int) ∈ gw := gw_in (tb_6 (List.mem_of_getElem? (i := 206) rfl)) (by decide +kernel)
set_option maxRecDepth 100000 in
theorem g1506 : Cond.code yX9_tells prog_11_method_67_code 7 (some Jvm.ClassFile.FieldType.int) ∈ gw := gw_in (tb_6 (List.mem_of_getElem? (i := 210) rfl)) (by decide +kernel)
theorem g1507 : Cond.methodLink "MirageLoansModel" 387 yX9_isX ∈ gw := gw_in (tb_6 (List.mem_of_getElem? (i := 211) (by decide +kernel))) (by decide +kernel)
theorem g1508 : Cond.static yX9_isX ∈ gw := gw_in (tb_6 (List.mem_of_getElem? (i := 212) (by decide +kernel))) (by decide +kernel)
set_option maxRecDepth 100000 in
theorem g1509 : Cond.code yX9_isX prog_11_method_41_code 1 (some Jvm.ClassFile.FieldType.boolean) ∈ gw := gw_in (tb_6 (List.mem_of_getElem? (i := 213) rfl)) (by decide +kernel)
theorem g1510 : Cond.methodLink "MirageLoansModel" 341 yX9_movedBy ∈ gw := gw_in (tb_6 (List.mem_of_getElem? (i := 214) (by decide +kernel))) (by decide +kernel)
theorem g1512 : Cond.instanceMethod yX9_movedBy ∈ gw := gw_in (tb_6 (List.mem_of_getElem? (i := 216) (by decide +kernel))) (by decide +kernel)
set_option maxRecDepth 100000 in
theorem g1513 : Cond.code yX9_movedBy prog_11_method_52_code 5 (some Jvm.ClassFile.FieldType.int) ∈ gw := gw_in (tb_6 (List.mem_of_getElem? (i := 217) rfl)) (by decide +kernel)
theorem g1514 : Cond.methodLink "MirageLoansModel" 355 yX9_rentOf ∈ gw := gw_in (tb_6 (List.mem_of_getElem? (i := 218) (by decide +kernel))) (by decide +kernel)
theorem g1516 : Cond.instanceMethod yX9_rentOf ∈ gw := gw_in (tb_6 (List.mem_of_getElem? (i := 220) (by decide +kernel))) (by decide +kernel)
set_option maxRecDepth 100000 in
theorem g1517 : Cond.code yX9_rentOf prog_11_method_56_code 5 (some Jvm.ClassFile.FieldType.int) ∈ gw := gw_in (tb_6 (List.mem_of_getElem? (i := 221) rfl)) (by decide +kernel)
theorem g1518 : Cond.methodLink "MirageLoansModel" 348 yX9_interestOf ∈ gw := gw_in (tb_6 (List.mem_of_getElem? (i := 222) (by decide +kernel))) (by decide +kernel)
theorem g1520 : Cond.instanceMethod yX9_interestOf ∈ gw := gw_in (tb_6 (List.mem_of_getElem? (i := 224) (by decide +kernel))) (by decide +kernel)
set_option maxRecDepth 100000 in
theorem g1521 : Cond.code yX9_interestOf prog_11_method_57_code 4 (some Jvm.ClassFile.FieldType.int) ∈ gw := gw_in (tb_6 (List.mem_of_getElem? (i := 225) rfl)) (by decide +kernel)
set_option maxRecDepth 100000 in
theorem g1525 : Cond.code yX9_lend prog_11_method_69_code 5 (some Jvm.ClassFile.FieldType.int) ∈ gw := gw_in (tb_6 (List.mem_of_getElem? (i := 229) rfl)) (by decide +kernel)
theorem g1526 : Cond.methodLink "MirageLoansModel" 390 yX9_records ∈ gw := gw_in (tb_6 (List.mem_of_getElem? (i := 230) (by decide +kernel))) (by decide +kernel)
theorem g1528 : Cond.instanceMethod yX9_records ∈ gw := gw_in (tb_6 (List.mem_of_getElem? (i := 232) (by decide +kernel))) (by decide +kernel)
set_option maxRecDepth 100000 in
theorem g1529 : Cond.code yX9_records prog_11_method_68_code 2 none ∈ gw := gw_in (tb_6 (List.mem_of_getElem? (i := 233) rfl)) (by decide +kernel)
set_option maxRecDepth 100000 in
theorem g1533 : Cond.code yX9_call prog_11_method_70_code 5 (some Jvm.ClassFile.FieldType.int) ∈ gw := gw_in (tb_6 (List.mem_of_getElem? (i := 237) rfl)) (by decide +kernel)
theorem g1534 : Cond.constant "MirageLoansModel" 351 (99999 : Int32) ∈ gw := gw_in (tb_6 (List.mem_of_getElem? (i := 238) (by decide +kernel))) (by decide +kernel)
set_option maxRecDepth 100000 in
theorem g1538 : Cond.code yX9_move prog_11_method_71_code 3 (some Jvm.ClassFile.FieldType.boolean) ∈ gw := gw_in (tb_7 (List.mem_of_getElem? (i := 2) rfl)) (by decide +kernel)
set_option maxRecDepth 100000 in
theorem g1542 : Cond.code yX9_hours prog_11_method_72_code 2 (some Jvm.ClassFile.FieldType.int) ∈ gw := gw_in (tb_7 (List.mem_of_getElem? (i := 6) rfl)) (by decide +kernel)
theorem g1543 : Cond.methodLink "MirageLoansModel" 393 yX9_isLong ∈ gw := gw_in (tb_7 (List.mem_of_getElem? (i := 7) (by decide +kernel))) (by decide +kernel)
theorem g1544 : Cond.static yX9_isLong ∈ gw := gw_in (tb_7 (List.mem_of_getElem? (i := 8) (by decide +kernel))) (by decide +kernel)
set_option maxRecDepth 100000 in
theorem g1545 : Cond.code yX9_isLong prog_11_method_74_code 1 (some Jvm.ClassFile.FieldType.boolean) ∈ gw := gw_in (tb_7 (List.mem_of_getElem? (i := 9) rfl)) (by decide +kernel)
theorem g1546 : Cond.methodLink "MirageLoansModel" 396 yX9_goes ∈ gw := gw_in (tb_7 (List.mem_of_getElem? (i := 10) (by decide +kernel))) (by decide +kernel)
theorem g1548 : Cond.instanceMethod yX9_goes ∈ gw := gw_in (tb_7 (List.mem_of_getElem? (i := 12) (by decide +kernel))) (by decide +kernel)
set_option maxRecDepth 100000 in
theorem g1549 : Cond.code yX9_goes prog_11_method_61_code 3 none ∈ gw := gw_in (tb_7 (List.mem_of_getElem? (i := 13) rfl)) (by decide +kernel)
theorem g1550 : Cond.methodLink "MirageLoansModel" 369 yX9_hourGoes ∈ gw := gw_in (tb_7 (List.mem_of_getElem? (i := 14) (by decide +kernel))) (by decide +kernel)
theorem g1552 : Cond.instanceMethod yX9_hourGoes ∈ gw := gw_in (tb_7 (List.mem_of_getElem? (i := 16) (by decide +kernel))) (by decide +kernel)
set_option maxRecDepth 100000 in
theorem g1553 : Cond.code yX9_hourGoes prog_11_method_60_code 4 none ∈ gw := gw_in (tb_7 (List.mem_of_getElem? (i := 17) rfl)) (by decide +kernel)
theorem g1554 : Cond.methodLink "MirageLoansModel" 361 yX9_isWind ∈ gw := gw_in (tb_7 (List.mem_of_getElem? (i := 18) (by decide +kernel))) (by decide +kernel)
theorem g1556 : Cond.instanceMethod yX9_isWind ∈ gw := gw_in (tb_7 (List.mem_of_getElem? (i := 20) (by decide +kernel))) (by decide +kernel)
set_option maxRecDepth 100000 in
theorem g1557 : Cond.code yX9_isWind prog_11_method_46_code 1 (some Jvm.ClassFile.FieldType.boolean) ∈ gw := gw_in (tb_7 (List.mem_of_getElem? (i := 21) rfl)) (by decide +kernel)
theorem g1558 : Cond.methodLink "MirageLoansModel" 312 yX9_mixed ∈ gw := gw_in (tb_7 (List.mem_of_getElem? (i := 22) (by decide +kernel))) (by decide +kernel)
theorem g1559 : Cond.static yX9_mixed ∈ gw := gw_in (tb_7 (List.mem_of_getElem? (i := 23) (by decide +kernel))) (by decide +kernel)
set_option maxRecDepth 100000 in
theorem g1560 : Cond.code yX9_mixed prog_11_method_45_code 3 (some Jvm.ClassFile.FieldType.int) ∈ gw := gw_in (tb_7 (List.mem_of_getElem? (i := 24) rfl)) (by decide +kernel)
theorem g1561 : Cond.constant "MirageLoansModel" 311 (1103515245 : Int32) ∈ gw := gw_in (tb_7 (List.mem_of_getElem? (i := 25) (by decide +kernel))) (by decide +kernel)
theorem g1562 : Cond.methodLink "MirageLoansModel" 365 yX9_loanGoes ∈ gw := gw_in (tb_7 (List.mem_of_getElem? (i := 26) (by decide +kernel))) (by decide +kernel)
theorem g1564 : Cond.instanceMethod yX9_loanGoes ∈ gw := gw_in (tb_7 (List.mem_of_getElem? (i := 28) (by decide +kernel))) (by decide +kernel)
set_option maxRecDepth 100000 in
theorem g1565 : Cond.code yX9_loanGoes prog_11_method_59_code 7 none ∈ gw := gw_in (tb_7 (List.mem_of_getElem? (i := 29) rfl)) (by decide +kernel)
theorem g1566 : Cond.methodLink "MirageLoansModel" 358 yX9_grows ∈ gw := gw_in (tb_7 (List.mem_of_getElem? (i := 30) (by decide +kernel))) (by decide +kernel)
theorem g1568 : Cond.instanceMethod yX9_grows ∈ gw := gw_in (tb_7 (List.mem_of_getElem? (i := 32) (by decide +kernel))) (by decide +kernel)
set_option maxRecDepth 100000 in
theorem g1569 : Cond.code yX9_grows prog_11_method_58_code 3 (some Jvm.ClassFile.FieldType.int) ∈ gw := gw_in (tb_7 (List.mem_of_getElem? (i := 33) rfl)) (by decide +kernel)
set_option maxRecDepth 100000 in
theorem g1573 : Cond.code yX9_undo prog_11_method_73_code 2 (some Jvm.ClassFile.FieldType.boolean) ∈ gw := gw_in (tb_7 (List.mem_of_getElem? (i := 37) rfl)) (by decide +kernel)
set_option maxRecDepth 100000 in
theorem g1577 : Cond.code yX9_sight prog_11_method_76_code 4 (some Jvm.ClassFile.FieldType.int) ∈ gw := gw_in (tb_7 (List.mem_of_getElem? (i := 41) rfl)) (by decide +kernel)
theorem g1578 : Cond.methodLink "MirageLoansModel" 399 yX9_sightOf ∈ gw := gw_in (tb_7 (List.mem_of_getElem? (i := 42) (by decide +kernel))) (by decide +kernel)
theorem g1580 : Cond.instanceMethod yX9_sightOf ∈ gw := gw_in (tb_7 (List.mem_of_getElem? (i := 44) (by decide +kernel))) (by decide +kernel)
set_option maxRecDepth 100000 in
theorem g1581 : Cond.code yX9_sightOf prog_11_method_55_code 4 (some Jvm.ClassFile.FieldType.int) ∈ gw := gw_in (tb_7 (List.mem_of_getElem? (i := 45) rfl)) (by decide +kernel)
theorem g1582 : Cond.methodLink "MirageLoansModel" 345 yX9_seenAt ∈ gw := gw_in (tb_7 (List.mem_of_getElem? (i := 46) (by decide +kernel))) (by decide +kernel)
theorem g1584 : Cond.instanceMethod yX9_seenAt ∈ gw := gw_in (tb_7 (List.mem_of_getElem? (i := 48) (by decide +kernel))) (by decide +kernel)
set_option maxRecDepth 100000 in
theorem g1585 : Cond.code yX9_seenAt prog_11_method_53_code 6 (some Jvm.ClassFile.FieldType.int) ∈ gw := gw_in (tb_7 (List.mem_of_getElem? (i := 49) rfl)) (by decide +kernel)
set_option maxRecDepth 100000 in
theorem g1589 : Cond.code yX9_clash prog_11_method_78_code 6 (some Jvm.ClassFile.FieldType.int) ∈ gw := gw_in (tb_7 (List.mem_of_getElem? (i := 53) rfl)) (by decide +kernel)
theorem g1590 : Cond.methodLink "MirageLoansModel" 402 yX9_doClash ∈ gw := gw_in (tb_7 (List.mem_of_getElem? (i := 54) (by decide +kernel))) (by decide +kernel)
theorem g1592 : Cond.instanceMethod yX9_doClash ∈ gw := gw_in (tb_7 (List.mem_of_getElem? (i := 56) (by decide +kernel))) (by decide +kernel)
set_option maxRecDepth 100000 in
theorem g1593 : Cond.code yX9_doClash prog_11_method_77_code 6 (some Jvm.ClassFile.FieldType.boolean) ∈ gw := gw_in (tb_7 (List.mem_of_getElem? (i := 57) rfl)) (by decide +kernel)
set_option maxRecDepth 100000 in
theorem g1597 : Cond.code yX9_longFrom prog_11_method_80_code 4 (some Jvm.ClassFile.FieldType.int) ∈ gw := gw_in (tb_7 (List.mem_of_getElem? (i := 61) rfl)) (by decide +kernel)
theorem g1598 : Cond.methodLink "MirageLoansModel" 406 yX9_isSome ∈ gw := gw_in (tb_7 (List.mem_of_getElem? (i := 62) (by decide +kernel))) (by decide +kernel)
theorem g1599 : Cond.static yX9_isSome ∈ gw := gw_in (tb_7 (List.mem_of_getElem? (i := 63) (by decide +kernel))) (by decide +kernel)
set_option maxRecDepth 100000 in
theorem g1600 : Cond.code yX9_isSome prog_11_method_75_code 1 (some Jvm.ClassFile.FieldType.boolean) ∈ gw := gw_in (tb_7 (List.mem_of_getElem? (i := 64) rfl)) (by decide +kernel)
theorem g1601 : Cond.methodLink "MirageLoansModel" 409 yX9_hoursFrom ∈ gw := gw_in (tb_7 (List.mem_of_getElem? (i := 65) (by decide +kernel))) (by decide +kernel)
theorem g1603 : Cond.instanceMethod yX9_hoursFrom ∈ gw := gw_in (tb_7 (List.mem_of_getElem? (i := 67) (by decide +kernel))) (by decide +kernel)
set_option maxRecDepth 100000 in
theorem g1604 : Cond.code yX9_hoursFrom prog_11_method_79_code 6 (some Jvm.ClassFile.FieldType.int) ∈ gw := gw_in (tb_7 (List.mem_of_getElem? (i := 68) rfl)) (by decide +kernel)
set_option maxRecDepth 100000 in
theorem g1608 : Cond.code yX9_best prog_11_method_81_code 8 (some Jvm.ClassFile.FieldType.int) ∈ gw := gw_in (tb_7 (List.mem_of_getElem? (i := 72) rfl)) (by decide +kernel)
set_option maxRecDepth 100000 in
theorem g1612 : Cond.code yX9_dawns prog_11_method_82_code 4 (some Jvm.ClassFile.FieldType.int) ∈ gw := gw_in (tb_7 (List.mem_of_getElem? (i := 76) rfl)) (by decide +kernel)
set_option maxRecDepth 100000 in
theorem g1616 : Cond.code yX9_near prog_11_method_83_code 7 (some Jvm.ClassFile.FieldType.int) ∈ gw := gw_in (tb_7 (List.mem_of_getElem? (i := 80) rfl)) (by decide +kernel)
set_option maxRecDepth 100000 in
theorem g1620 : Cond.code yX9_crowd prog_11_method_84_code 5 (some Jvm.ClassFile.FieldType.int) ∈ gw := gw_in (tb_7 (List.mem_of_getElem? (i := 84) rfl)) (by decide +kernel)
set_option maxRecDepth 100000 in
theorem g1639 : Cond.code yX9_worth prog_11_method_88_code 10 (some Jvm.ClassFile.FieldType.int) ∈ gw := gw_in (tb_7 (List.mem_of_getElem? (i := 103) rfl)) (by decide +kernel)
theorem g1640 : Cond.constant "MirageLoansModel" 424 (-100000 : Int32) ∈ gw := gw_in (tb_7 (List.mem_of_getElem? (i := 104) (by decide +kernel))) (by decide +kernel)
set_option maxRecDepth 100000 in
theorem g1644 : Cond.code yX9_book prog_11_method_89_code 3 (some Jvm.ClassFile.FieldType.int) ∈ gw := gw_in (tb_7 (List.mem_of_getElem? (i := 108) rfl)) (by decide +kernel)
set_option maxRecDepth 100000 in
theorem g1648 : Cond.code yX9_rich prog_11_method_90_code 7 (some Jvm.ClassFile.FieldType.int) ∈ gw := gw_in (tb_7 (List.mem_of_getElem? (i := 112) rfl)) (by decide +kernel)
set_option maxRecDepth 100000 in
theorem g1652 : Cond.code yX9_hidden prog_11_method_92_code 6 (some Jvm.ClassFile.FieldType.int) ∈ gw := gw_in (tb_7 (List.mem_of_getElem? (i := 116) rfl)) (by decide +kernel)
theorem g1653 : Cond.methodLink "MirageLoansModel" 425 yX9_isWatched ∈ gw := gw_in (tb_7 (List.mem_of_getElem? (i := 117) (by decide +kernel))) (by decide +kernel)
theorem g1655 : Cond.instanceMethod yX9_isWatched ∈ gw := gw_in (tb_7 (List.mem_of_getElem? (i := 119) (by decide +kernel))) (by decide +kernel)
set_option maxRecDepth 100000 in
theorem g1656 : Cond.code yX9_isWatched prog_11_method_91_code 5 (some Jvm.ClassFile.FieldType.boolean) ∈ gw := gw_in (tb_7 (List.mem_of_getElem? (i := 120) rfl)) (by decide +kernel)
set_option maxRecDepth 100000 in
theorem g1660 : Cond.code yX9_cool prog_11_method_93_code 5 (some Jvm.ClassFile.FieldType.int) ∈ gw := gw_in (tb_7 (List.mem_of_getElem? (i := 124) rfl)) (by decide +kernel)
set_option maxRecDepth 100000 in
theorem g1664 : Cond.code yX9_heatIn prog_11_method_94_code 2 (some Jvm.ClassFile.FieldType.int) ∈ gw := gw_in (tb_7 (List.mem_of_getElem? (i := 128) rfl)) (by decide +kernel)
set_option maxRecDepth 100000 in
theorem g1668 : Cond.code yX9_lentIn prog_11_method_95_code 4 (some Jvm.ClassFile.FieldType.int) ∈ gw := gw_in (tb_7 (List.mem_of_getElem? (i := 132) rfl)) (by decide +kernel)
set_option maxRecDepth 100000 in
theorem g1672 : Cond.code yX9_year prog_11_method_96_code 7 (some Jvm.ClassFile.FieldType.int) ∈ gw := gw_in (tb_7 (List.mem_of_getElem? (i := 136) rfl)) (by decide +kernel)
set_option maxRecDepth 100000 in
theorem g1676 : Cond.code yX9_tell prog_11_method_97_code 4 (some Jvm.ClassFile.FieldType.int) ∈ gw := gw_in (tb_7 (List.mem_of_getElem? (i := 140) rfl)) (by decide +kernel)
set_option maxRecDepth 100000 in
theorem g1680 : Cond.code yX9_forget prog_11_method_98_code 2 (some Jvm.ClassFile.FieldType.int) ∈ gw := gw_in (tb_7 (List.mem_of_getElem? (i := 144) rfl)) (by decide +kernel)
set_option maxRecDepth 100000 in
theorem g1684 : Cond.code yX9_stands prog_11_method_100_code 4 (some Jvm.ClassFile.FieldType.int) ∈ gw := gw_in (tb_7 (List.mem_of_getElem? (i := 148) rfl)) (by decide +kernel)
theorem g1685 : Cond.methodLink "MirageLoansModel" 428 yX9_isSo ∈ gw := gw_in (tb_7 (List.mem_of_getElem? (i := 149) (by decide +kernel))) (by decide +kernel)
theorem g1687 : Cond.instanceMethod yX9_isSo ∈ gw := gw_in (tb_7 (List.mem_of_getElem? (i := 151) (by decide +kernel))) (by decide +kernel)
set_option maxRecDepth 100000 in
theorem g1688 : Cond.code yX9_isSo prog_11_method_99_code 4 (some Jvm.ClassFile.FieldType.boolean) ∈ gw := gw_in (tb_7 (List.mem_of_getElem? (i := 152) rfl)) (by decide +kernel)
set_option maxRecDepth 100000 in
theorem g1692 : Cond.code yX9_sure prog_11_method_101_code 6 (some Jvm.ClassFile.FieldType.int) ∈ gw := gw_in (tb_7 (List.mem_of_getElem? (i := 156) rfl)) (by decide +kernel)
set_option maxRecDepth 100000 in
theorem g1696 : Cond.code yX9_look prog_11_method_102_code 9 (some Jvm.ClassFile.FieldType.int) ∈ gw := gw_in (tb_7 (List.mem_of_getElem? (i := 160) rfl)) (by decide +kernel)
set_option maxRecDepth 100000 in
theorem g1700 : Cond.code yX9_hold prog_11_method_103_code 3 (some Jvm.ClassFile.FieldType.boolean) ∈ gw := gw_in (tb_7 (List.mem_of_getElem? (i := 164) rfl)) (by decide +kernel)
set_option maxRecDepth 100000 in
theorem g1704 : Cond.code yX9_restore prog_11_method_104_code 3 (some Jvm.ClassFile.FieldType.boolean) ∈ gw := gw_in (tb_7 (List.mem_of_getElem? (i := 168) rfl)) (by decide +kernel)
set_option maxRecDepth 100000 in
theorem g1708 : Cond.code yX9_count prog_11_method_106_code 4 (some Jvm.ClassFile.FieldType.int) ∈ gw := gw_in (tb_7 (List.mem_of_getElem? (i := 172) rfl)) (by decide +kernel)
theorem g1709 : Cond.methodLink "MirageLoansModel" 431 yX9_sumNow ∈ gw := gw_in (tb_7 (List.mem_of_getElem? (i := 173) (by decide +kernel))) (by decide +kernel)
theorem g1711 : Cond.instanceMethod yX9_sumNow ∈ gw := gw_in (tb_7 (List.mem_of_getElem? (i := 175) (by decide +kernel))) (by decide +kernel)
set_option maxRecDepth 100000 in
theorem g1712 : Cond.code yX9_sumNow prog_11_method_105_code 5 (some Jvm.ClassFile.FieldType.int) ∈ gw := gw_in (tb_7 (List.mem_of_getElem? (i := 176) rfl)) (by decide +kernel)
theorem g1713 : Cond.fieldLink "java/lang/String" 9 "java/lang/String" "value" "[B" ∈ gw := gw_in (tb_7 (List.mem_of_getElem? (i := 177) (by decide +kernel))) (by decide +kernel)
theorem g1714 : Cond.fieldLink "java/lang/String" 15 "java/lang/String" "coder" "B" ∈ gw := gw_in (tb_7 (List.mem_of_getElem? (i := 178) (by decide +kernel))) (by decide +kernel)
def zk0 : Nat := 6491683197587412695493619463567518419922357291354002018261100280539094238405977271886030960959702456249293858870931099928974653701423583072489632007233272669907159958025006002453800234971211702617618678383266399420246393963240735502808100254845595031782157266559754995630536
def zk1 : Nat := 6491683197587412695493619456739471640653386514696233784562532296262861716354487315640262961713328324724038617632984526236503059980663354624813993790643139776088930115732929404867030267769770341195267770517074234646548832640780558979660219825594269041406260904407944562606536
def zk2 : Nat := 79556879991463600596904591597529070096520569381384669235970561852069334409631497299077140401082232283110441154
def zk3 : Nat := 27670116106269491504
def zk5 : Nat := 6164924279781312223369030002223141422355040842078088636376560358324372243690813630337570436377071745014825154
def zk6 : Nat := 74859794825915934140998315655429490661373921634975688667909032746616141081831220444273469337635389849901072583
def zk7 : Nat := 27670116106269491856
def zk10 : Nat := 303260747794464125274315382607511467207694188599740421619806163736852292702318273014824690470672181492603626730705077026613756132
def zk11 : Nat := 27670116106269492368
def zk12 : Nat := 27670116106269491408
def zk13 : Nat := 27670116106269491314
def zk14 : Nat := 1461501638011467968958211816700382608708155342917
def zk15 : Nat := 27670116106269555217
def zk18 : Nat := 27670116106269504656
def zk19 : Nat := 27670116106269491376
def zk20 : Nat := 7265041773146954241942672880188991666390844371125480583370602979475156614925389329362967410326070084893913190808142818137272321084065039388369868820932592485133842435111794968148486836451589483013252560330529106060807627578257898283179863351361952
def zk21 : Nat := 436994993877983465284904646490423682114611849073990627124834980228782483400134088125020836633598391277199352248715773001885586644066764283892125242038815885774818694458781069185536491994888346025284136007149248436686715101336677187880841027649952
def zk22 : Nat := 379075934743080156592967620215101016297993260604216472100000599568383928344417021608694694843510296927104191670367250774925377764
def zk24 : Nat := 2861005748571272884915074936748712198029353719476881052506483262410446473249982994284417135948050389212852647762501588136157658008308269885799280016802067900224393604533894560786406170258529109932026452659521860956440706108398512412264077269706730345665320296325806184519319497100242699372287540681468179847957513167891785128911624231532458315817443960095933744259627176453406506895815443612982114846007768949699533251890811779959096218952626349304516655838817863243666416347958285633749086947115843601821880698810869605906700480957804137287745316783212758508106103046437341365198
def zk25 : Nat := 476552603677015054002663354282001865128377781752828537003107731351781745598543984086527557608587873914319203735647188451326034148
def zk26 : Nat := 552367790625631085321315591889591414218676853757304587483302167183313381240642732680397561981425989348819768675309362199637655780
def zk27 : Nat := 628182977574247116639967829497180963308975925761780637963496603014845016882741481274267566354264104783320333614971535947949277412
def zk28 : Nat := 703998164522863147958620067104770512399274997766256688443691038846376652524840229868137570727102220217820898554633709696260899044
def zk29 : Nat := 779813351471479179277272304712360061489574069770732738923885474677908288166938978462007575099940335652321463494295883444572520676
def zk30 : Nat := 855628538420095210595924542319949610579873141775208789404079910509439923809037727055877579472778451086822028433958057192884142308
def zk31 : Nat := 931443725368711241914576779927539159670172213779684839884274346340971559451136475649747583845616566521322593373620230941195763940
def zk32 : Nat := 1007258912317327273233229017535128708760471285784160890364468782172503195093235224243617588218454681955823158313282404689507385572
def zk33 : Nat := 1083074099265943304551881255142718257850770357788636940844663218004034830735333972837487592591292797390323723252944578437819007204
def zk34 : Nat := 1158889286214559335870533492750307806941069429793112991324857653835566466377432721431357596964130912824824288192606752186130628836
def zk35 : Nat := 1234704473163175367189185730357897356031368501797589041805052089667098102019531470025227601336969028259324853132268925934442250468
def zk36 : Nat := 1310519660111791398507837967965486905121667573802065092285246525498629737661630218619097605709807143693825418071931099682753872100
def zk37 : Nat := 1386334847060407429826490205573076454211966645806541142765440961330161373303728967212967610082645259128325983011593273431065493732
def zk38 : Nat := 1462150034009023461145142443180666003302265717811017193245635397161693008945827715806837614455483374562826547951255447179377115364
def zk39 : Nat := 1537965220957639492463794680788255552392564789815493243725829832993224644587926464400707618828321489997327112890917620927688736996
def zk40 : Nat := 1613780407906255523782446918395845101482863861819969294206024268824756280230025212994577623201159605431827677830579794676000358628
def zk41 : Nat := 1689595594854871555101099156003434650573162933824445344686218704656287915872123961588447627573997720866328242770241968424311980260
def zk42 : Nat := 1765410781803487586419751393611024199663462005828921395166413140487819551514222710182317631946835836300828807709904142172623601892
def zk43 : Nat := 1841225968752103617738403631218613748753761077833397445646607576319351187156321458776187636319673951735329372649566315920935223524
def zk44 : Nat := 1917041155700719649057055868826203297844060149837873496126802012150882822798420207370057640692512067169829937589228489669246845156
def zk45 : Nat := 1992856342649335680375708106433792846934359221842349546606996447982414458440518955963927645065350182604330502528890663417558466788
def zk46 : Nat := 2068671529597951711694360344041382396024658293846825597087190883813946094082617704557797649438188298038831067468552837165870088420
def zk47 : Nat := 2144486716546567743013012581648971945114957365851301647567385319645477729724716453151667653811026413473331632408215010914181710052
def zk48 : Nat := 2220301903495183774331664819256561494205256437855777698047579755477009365366815201745537658183864528907832197347877184662493331684
def zk49 : Nat := 2296117090443799805650317056864151043295555509860253748527774191308541001008913950339407662556702644342332762287539358410804953316
def zk50 : Nat := 2371932277392415836968969294471740592385854581864729799007968627140072636651012698933277666929540759776833327227201532159116574948
def zk51 : Nat := 2447747464341031868287621532079330141476153653869205849488163062971604272293111447527147671302378875211333892166863705907428196580
def zk52 : Nat := 2523562651289647899606273769686919690566452725873681899968357498803135907935210196121017675675216990645834457106525879655739818212
def zk53 : Nat := 2599377838238263930924926007294509239656751797878157950448551934634667543577308944714887680048055106080335022046188053404051439844
def zk54 : Nat := 2675193025186879962243578244902098788747050869882634000928746370466199179219407693308757684420893221514835586985850227152363061476
def zk57 : Nat := 27670116106269360336
def zk58 : Nat := 27670116106269361296
def zk88 : Nat := 303260747794464125274315382607511467207694188599740421619806163736852292702318273014824690470672181492603626730705077026613625060
def zk89 : Nat := 27670116106269496978
def zk90 : Nat := 1671957873106552938469224763310387274864752584687726
def zk91 : Nat := 3010945995959322386654752440021423934718375331616742224483893157720124994205845008510181989500604875581909517432925568037743100132
def zk94 : Nat := 3086761182907938417973404677629013483808674403621218274964087593551656629847943757104051993873442991016410082372587741786054721764
def zk96 : Nat := 3162576369856554449292056915236603032898973475625694325444282029383188265490042505697921998246281106450910647312249915534366343396
def zk99 : Nat := 27670116106269491888
def zk103 : Nat := 27670116106269491280
def zk104 : Nat := 27670116106269494320
def zk107 : Nat := 39614081275578912896251461712
def zk108 : Nat := 27670116106269584336
def zk111 : Nat := 27670116106269491600
def zk114 : Nat := 27670116106269500528
def zk116 : Nat := 27670116106269504016
def zk118 : Nat := 27670116106269491922
