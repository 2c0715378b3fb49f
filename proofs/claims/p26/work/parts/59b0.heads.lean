theorem g31 : Cond.selects "MirageLoans" yX8_tallySeenHours yX8_tallySeenHours ∈ gw := gw_at 31 (by decide +kernel) (by decide +kernel)
theorem g33 : Cond.selects "MirageLoans" yX8_pitchUmbrellas yX8_pitchUmbrellas ∈ gw := gw_at 33 (by decide +kernel) (by decide +kernel)
theorem g34 : Cond.selects "MirageLoans" yX8_nextPitch yX8_nextPitch ∈ gw := gw_at 34 (by decide +kernel) (by decide +kernel)
theorem g91 : Cond.selects "MirageLoansModel" yX9_fillsSeen yX9_fillsSeen ∈ gw := gw_at 91 (by decide +kernel) (by decide +kernel)
theorem g92 : Cond.selects "MirageLoansModel" yX9_tries yX9_tries ∈ gw := gw_at 92 (by decide +kernel) (by decide +kernel)
theorem g114 : Cond.initialized "java/lang/Integer" ∈ gw := gw_in (tb_1 (List.mem_of_getElem? (i := 18) (by decide +kernel))) (by decide +kernel)
theorem g460 : Cond.fieldLink "MirageLoans" 55 "MirageLoans" "tally" "[I" ∈ gw := gw_in (tb_2 (List.mem_of_getElem? (i := 124) (by decide +kernel))) (by decide +kernel)
theorem g462 : Cond.fieldLink "MirageLoans" 62 "MirageLoans" "pitch" "[I" ∈ gw := gw_in (tb_2 (List.mem_of_getElem? (i := 126) (by decide +kernel))) (by decide +kernel)
theorem g463 : Cond.fieldLink "MirageLoans" 65 "MirageLoans" "bestPitch" "[I" ∈ gw := gw_in (tb_2 (List.mem_of_getElem? (i := 127) (by decide +kernel))) (by decide +kernel)
set_option maxRecDepth 100000 in
theorem g926 : Cond.code yX8_longFrom prog_1_method_20_code 6 (some Jvm.ClassFile.FieldType.int) ∈ gw := gw_in (tb_4 (List.mem_of_getElem? (i := 110) rfl)) (by decide +kernel)
set_option maxRecDepth 100000 in
theorem g930 : Cond.code yX8_best prog_1_method_21_code 6 (some Jvm.ClassFile.FieldType.int) ∈ gw := gw_in (tb_4 (List.mem_of_getElem? (i := 114) rfl)) (by decide +kernel)
theorem g931 : Cond.methodLink "MirageLoans" 243 yX8_tallySeenHours ∈ gw := gw_in (tb_4 (List.mem_of_getElem? (i := 115) (by decide +kernel))) (by decide +kernel)
theorem g933 : Cond.instanceMethod yX8_tallySeenHours ∈ gw := gw_in (tb_4 (List.mem_of_getElem? (i := 117) (by decide +kernel))) (by decide +kernel)
set_option maxRecDepth 100000 in
theorem g934 : Cond.code yX8_tallySeenHours prog_1_method_22_code 6 none ∈ gw := gw_in (tb_4 (List.mem_of_getElem? (i := 118) rfl)) (by decide +kernel)
set_option maxRecDepth 100000 in
theorem g965 : Cond.code yX8_umbrellas prog_1_method_28_code 4 (some Jvm.ClassFile.FieldType.int) ∈ gw := gw_in (tb_4 (List.mem_of_getElem? (i := 149) rfl)) (by decide +kernel)
theorem g966 : Cond.methodLink "MirageLoans" 261 yX8_pitchUmbrellas ∈ gw := gw_in (tb_4 (List.mem_of_getElem? (i := 150) (by decide +kernel))) (by decide +kernel)
theorem g968 : Cond.instanceMethod yX8_pitchUmbrellas ∈ gw := gw_in (tb_4 (List.mem_of_getElem? (i := 152) (by decide +kernel))) (by decide +kernel)
set_option maxRecDepth 100000 in
theorem g969 : Cond.code yX8_pitchUmbrellas prog_1_method_29_code 8 (some Jvm.ClassFile.FieldType.int) ∈ gw := gw_in (tb_4 (List.mem_of_getElem? (i := 153) rfl)) (by decide +kernel)
theorem g970 : Cond.methodLink "MirageLoans" 264 yJ6_bitCount_0f7a4 ∈ gw := gw_in (tb_4 (List.mem_of_getElem? (i := 154) (by decide +kernel))) (by decide +kernel)
theorem g971 : Cond.static yJ6_bitCount_0f7a4 ∈ gw := gw_in (tb_4 (List.mem_of_getElem? (i := 155) (by decide +kernel))) (by decide +kernel)
set_option maxRecDepth 100000 in
theorem g972 : Cond.code yJ6_bitCount_0f7a4 prog_13_method_49_code 1 (some Jvm.ClassFile.FieldType.int) ∈ gw := gw_in (tb_4 (List.mem_of_getElem? (i := 156) rfl)) (by decide +kernel)
theorem g973 : Cond.constant "java/lang/Integer" 265 (1431655765 : Int32) ∈ gw := gw_in (tb_4 (List.mem_of_getElem? (i := 157) (by decide +kernel))) (by decide +kernel)
theorem g974 : Cond.constant "java/lang/Integer" 266 (858993459 : Int32) ∈ gw := gw_in (tb_4 (List.mem_of_getElem? (i := 158) (by decide +kernel))) (by decide +kernel)
theorem g975 : Cond.constant "java/lang/Integer" 267 (252645135 : Int32) ∈ gw := gw_in (tb_4 (List.mem_of_getElem? (i := 159) (by decide +kernel))) (by decide +kernel)
theorem g976 : Cond.methodLink "MirageLoans" 269 arraycopyName ∈ gw := gw_in (tb_4 (List.mem_of_getElem? (i := 160) (by decide +kernel))) (by decide +kernel)
theorem g977 : Cond.methodLink "MirageLoans" 275 yX8_nextPitch ∈ gw := gw_in (tb_4 (List.mem_of_getElem? (i := 161) (by decide +kernel))) (by decide +kernel)
theorem g979 : Cond.instanceMethod yX8_nextPitch ∈ gw := gw_in (tb_4 (List.mem_of_getElem? (i := 163) (by decide +kernel))) (by decide +kernel)
set_option maxRecDepth 100000 in
theorem g980 : Cond.code yX8_nextPitch prog_1_method_30_code 4 (some Jvm.ClassFile.FieldType.boolean) ∈ gw := gw_in (tb_4 (List.mem_of_getElem? (i := 164) rfl)) (by decide +kernel)
theorem g1181 : Cond.fieldLink "MirageLoansModel" 119 "MirageLoansModel" "seenFrom" "[I" ∈ gw := gw_in (tb_5 (List.mem_of_getElem? (i := 125) (by decide +kernel))) (by decide +kernel)
theorem g1182 : Cond.fieldLink "MirageLoansModel" 122 "MirageLoansModel" "umbrellaAt" "[I" ∈ gw := gw_in (tb_5 (List.mem_of_getElem? (i := 126) (by decide +kernel))) (by decide +kernel)
theorem g1183 : Cond.fieldLink "MirageLoansModel" 415 "MirageLoansModel" "umbrellaMost" "I" ∈ gw := gw_in (tb_5 (List.mem_of_getElem? (i := 127) (by decide +kernel))) (by decide +kernel)
set_option maxRecDepth 100000 in
theorem g1624 : Cond.code yX9_umbrellas prog_11_method_87_code 6 (some Jvm.ClassFile.FieldType.int) ∈ gw := gw_in (tb_7 (List.mem_of_getElem? (i := 88) rfl)) (by decide +kernel)
theorem g1625 : Cond.methodLink "MirageLoansModel" 418 yX9_fillsSeen ∈ gw := gw_in (tb_7 (List.mem_of_getElem? (i := 89) (by decide +kernel))) (by decide +kernel)
theorem g1627 : Cond.instanceMethod yX9_fillsSeen ∈ gw := gw_in (tb_7 (List.mem_of_getElem? (i := 91) (by decide +kernel))) (by decide +kernel)
set_option maxRecDepth 100000 in
theorem g1628 : Cond.code yX9_fillsSeen prog_11_method_85_code 3 none ∈ gw := gw_in (tb_7 (List.mem_of_getElem? (i := 92) rfl)) (by decide +kernel)
theorem g1629 : Cond.methodLink "MirageLoansModel" 421 yX9_tries ∈ gw := gw_in (tb_7 (List.mem_of_getElem? (i := 93) (by decide +kernel))) (by decide +kernel)
theorem g1631 : Cond.instanceMethod yX9_tries ∈ gw := gw_in (tb_7 (List.mem_of_getElem? (i := 95) (by decide +kernel))) (by decide +kernel)
set_option maxRecDepth 100000 in
theorem g1632 : Cond.code yX9_tries prog_11_method_86_code 6 none ∈ gw := gw_in (tb_7 (List.mem_of_getElem? (i := 96) rfl)) (by decide +kernel)
theorem g1633 : Cond.methodLink "MirageLoansModel" 412 yX9_bits ∈ gw := gw_in (tb_7 (List.mem_of_getElem? (i := 97) (by decide +kernel))) (by decide +kernel)
theorem g1634 : Cond.static yX9_bits ∈ gw := gw_in (tb_7 (List.mem_of_getElem? (i := 98) (by decide +kernel))) (by decide +kernel)
set_option maxRecDepth 100000 in
theorem g1635 : Cond.code yX9_bits prog_11_method_37_code 3 (some Jvm.ClassFile.FieldType.int) ∈ gw := gw_in (tb_7 (List.mem_of_getElem? (i := 99) rfl)) (by decide +kernel)
theorem g103 : Cond.initialized "jdk/internal/util/Preconditions" ∈ gw := gw_in (tb_1 (List.mem_of_getElem? (i := 7) (by decide +kernel))) (by decide +kernel)
set_option maxRecDepth 100000 in
theorem g119 : Cond.code yX8_init prog_1_method_1_code 2 none ∈ gw := gw_in (tb_1 (List.mem_of_getElem? (i := 23) rfl)) (by decide +kernel)
theorem g120 : Cond.methodLink "MirageLoans" 3 Lib.objectInit ∈ gw := gw_in (tb_1 (List.mem_of_getElem? (i := 24) (by decide +kernel))) (by decide +kernel)
theorem g121 : Cond.instanceMethod Lib.objectInit ∈ gw := gw_in (tb_1 (List.mem_of_getElem? (i := 25) (by decide +kernel))) (by decide +kernel)
set_option maxRecDepth 100000 in
theorem g122 : Cond.code Lib.objectInit object_method_1_code 1 none ∈ gw := gw_in (tb_1 (List.mem_of_getElem? (i := 26) rfl)) (by decide +kernel)
theorem g123 : Cond.classLink "MirageLoans" 9 "MirageLoans$Tape" ∈ gw := gw_in (tb_1 (List.mem_of_getElem? (i := 27) (by decide +kernel))) (by decide +kernel)
theorem g124 : Cond.instantiable "MirageLoans$Tape" 2 ∈ gw := gw_in (tb_1 (List.mem_of_getElem? (i := 28) (by decide +kernel))) (by decide +kernel)
theorem g126 : Cond.instanceMethod yX5_init ∈ gw := gw_in (tb_1 (List.mem_of_getElem? (i := 30) (by decide +kernel))) (by decide +kernel)
set_option maxRecDepth 100000 in
theorem g127 : Cond.code yX5_init prog_7_method_1_code 1 none ∈ gw := gw_in (tb_1 (List.mem_of_getElem? (i := 31) rfl)) (by decide +kernel)
theorem g128 : Cond.methodLink "MirageLoans$Tape" 3 Lib.objectInit ∈ gw := gw_in (tb_1 (List.mem_of_getElem? (i := 32) (by decide +kernel))) (by decide +kernel)
theorem g138 : Cond.arrayClass FieldType.byte ∈ gw := gw_in (tb_1 (List.mem_of_getElem? (i := 42) (by decide +kernel))) (by decide +kernel)
theorem g139 : Cond.classLink "MirageLoans" 16 "MirageLoans$Grammar" ∈ gw := gw_in (tb_1 (List.mem_of_getElem? (i := 43) (by decide +kernel))) (by decide +kernel)
theorem g140 : Cond.instantiable "MirageLoans$Grammar" 8 ∈ gw := gw_in (tb_1 (List.mem_of_getElem? (i := 44) (by decide +kernel))) (by decide +kernel)
theorem g142 : Cond.instanceMethod yX1_init ∈ gw := gw_in (tb_1 (List.mem_of_getElem? (i := 46) (by decide +kernel))) (by decide +kernel)
set_option maxRecDepth 100000 in
theorem g143 : Cond.code yX1_init prog_3_method_1_code 1 none ∈ gw := gw_in (tb_1 (List.mem_of_getElem? (i := 47) rfl)) (by decide +kernel)
theorem g144 : Cond.methodLink "MirageLoans$Grammar" 3 Lib.objectInit ∈ gw := gw_in (tb_1 (List.mem_of_getElem? (i := 48) (by decide +kernel))) (by decide +kernel)
theorem g145 : Cond.classLink "MirageLoans$Grammar" 9 "MirageLoans$Tokens" ∈ gw := gw_in (tb_1 (List.mem_of_getElem? (i := 49) (by decide +kernel))) (by decide +kernel)
theorem g146 : Cond.instantiable "MirageLoans$Tokens" 5 ∈ gw := gw_in (tb_1 (List.mem_of_getElem? (i := 50) (by decide +kernel))) (by decide +kernel)
theorem g147 : Cond.methodLink "MirageLoans$Grammar" 11 yX6_init ∈ gw := gw_in (tb_1 (List.mem_of_getElem? (i := 51) (by decide +kernel))) (by decide +kernel)
theorem g148 : Cond.instanceMethod yX6_init ∈ gw := gw_in (tb_1 (List.mem_of_getElem? (i := 52) (by decide +kernel))) (by decide +kernel)
set_option maxRecDepth 100000 in
theorem g149 : Cond.code yX6_init prog_8_method_1_code 6 none ∈ gw := gw_in (tb_1 (List.mem_of_getElem? (i := 53) rfl)) (by decide +kernel)
theorem g150 : Cond.methodLink "MirageLoans$Tokens" 3 Lib.objectInit ∈ gw := gw_in (tb_1 (List.mem_of_getElem? (i := 54) (by decide +kernel))) (by decide +kernel)
theorem g152 : Cond.methodLink "MirageLoans$Tokens" 31 yJ0_length_8abf5 ∈ gw := gw_in (tb_1 (List.mem_of_getElem? (i := 56) (by decide +kernel))) (by decide +kernel)
theorem g162 : Cond.methodLink "MirageLoans$Tokens" 37 yJ0_charAt_5068e ∈ gw := gw_in (tb_1 (List.mem_of_getElem? (i := 66) (by decide +kernel))) (by decide +kernel)
theorem g163 : Cond.instanceMethod yJ0_charAt_5068e ∈ gw := gw_in (tb_1 (List.mem_of_getElem? (i := 67) (by decide +kernel))) (by decide +kernel)
theorem g164 : Cond.selects "java/lang/String" yJ0_charAt_5068e yJ0_charAt_5068e ∈ gw := gw_in (tb_1 (List.mem_of_getElem? (i := 68) (by decide +kernel))) (by decide +kernel)
set_option maxRecDepth 100000 in
theorem g165 : Cond.code yJ0_charAt_5068e prog_15_method_56_code 2 (some Jvm.ClassFile.FieldType.char) ∈ gw := gw_in (tb_1 (List.mem_of_getElem? (i := 69) rfl)) (by decide +kernel)
theorem g170 : Cond.methodLink "java/lang/String" 495 yJ1_charAt_3b067 ∈ gw := gw_in (tb_1 (List.mem_of_getElem? (i := 74) (by decide +kernel))) (by decide +kernel)
theorem g171 : Cond.static yJ1_charAt_3b067 ∈ gw := gw_in (tb_1 (List.mem_of_getElem? (i := 75) (by decide +kernel))) (by decide +kernel)
set_option maxRecDepth 100000 in
theorem g172 : Cond.code yJ1_charAt_3b067 prog_16_method_2_code 2 (some Jvm.ClassFile.FieldType.char) ∈ gw := gw_in (tb_1 (List.mem_of_getElem? (i := 76) rfl)) (by decide +kernel)
theorem g173 : Cond.methodLink "java/lang/StringLatin1" 9 yJ0_checkIndex_df160 ∈ gw := gw_in (tb_1 (List.mem_of_getElem? (i := 77) (by decide +kernel))) (by decide +kernel)
theorem g174 : Cond.static yJ0_checkIndex_df160 ∈ gw := gw_in (tb_1 (List.mem_of_getElem? (i := 78) (by decide +kernel))) (by decide +kernel)
set_option maxRecDepth 100000 in
theorem g175 : Cond.code yJ0_checkIndex_df160 prog_15_method_155_code 2 none ∈ gw := gw_in (tb_1 (List.mem_of_getElem? (i := 79) rfl)) (by decide +kernel)
theorem g176 : Cond.fieldLink "java/lang/String" 1053 "jdk/internal/util/Preconditions" "SIOOBE_FORMATTER" "Ljava/util/function/BiFunction;" ∈ gw := gw_in (tb_1 (List.mem_of_getElem? (i := 80) (by decide +kernel))) (by decide +kernel)
theorem g178 : Cond.methodLink "java/lang/String" 1059 yJ3_checkIndex_8e157 ∈ gw := gw_in (tb_1 (List.mem_of_getElem? (i := 82) (by decide +kernel))) (by decide +kernel)
theorem g179 : Cond.static yJ3_checkIndex_8e157 ∈ gw := gw_in (tb_1 (List.mem_of_getElem? (i := 83) (by decide +kernel))) (by decide +kernel)
set_option maxRecDepth 100000 in
theorem g180 : Cond.code yJ3_checkIndex_8e157 prog_19_method_11_code 3 (some Jvm.ClassFile.FieldType.int) ∈ gw := gw_in (tb_1 (List.mem_of_getElem? (i := 84) rfl)) (by decide +kernel)
theorem g223 : Cond.arrayClass FieldType.long ∈ gw := gw_in (tb_1 (List.mem_of_getElem? (i := 127) (by decide +kernel))) (by decide +kernel)
theorem g224 : Cond.arrayClass FieldType.int ∈ gw := gw_in (tb_1 (List.mem_of_getElem? (i := 128) (by decide +kernel))) (by decide +kernel)
theorem g225 : Cond.classLink "MirageLoans$Grammar" 18 "MirageLoans$Flat" ∈ gw := gw_in (tb_1 (List.mem_of_getElem? (i := 129) (by decide +kernel))) (by decide +kernel)
theorem g226 : Cond.instantiable "MirageLoans$Flat" 13 ∈ gw := gw_in (tb_1 (List.mem_of_getElem? (i := 130) (by decide +kernel))) (by decide +kernel)
theorem g227 : Cond.methodLink "MirageLoans$Grammar" 20 yX0_init ∈ gw := gw_in (tb_1 (List.mem_of_getElem? (i := 131) (by decide +kernel))) (by decide +kernel)
theorem g228 : Cond.instanceMethod yX0_init ∈ gw := gw_in (tb_1 (List.mem_of_getElem? (i := 132) (by decide +kernel))) (by decide +kernel)
set_option maxRecDepth 100000 in
theorem g229 : Cond.code yX0_init prog_2_method_1_code 1 none ∈ gw := gw_in (tb_1 (List.mem_of_getElem? (i := 133) rfl)) (by decide +kernel)
theorem g230 : Cond.methodLink "MirageLoans$Flat" 3 Lib.objectInit ∈ gw := gw_in (tb_1 (List.mem_of_getElem? (i := 134) (by decide +kernel))) (by decide +kernel)
theorem g231 : Cond.classLink "MirageLoans$Flat" 50 "MirageLoans$Laws" ∈ gw := gw_in (tb_1 (List.mem_of_getElem? (i := 135) (by decide +kernel))) (by decide +kernel)
theorem g232 : Cond.instantiable "MirageLoans$Laws" 6 ∈ gw := gw_in (tb_1 (List.mem_of_getElem? (i := 136) (by decide +kernel))) (by decide +kernel)
theorem g234 : Cond.instanceMethod yX2_init ∈ gw := gw_in (tb_1 (List.mem_of_getElem? (i := 138) (by decide +kernel))) (by decide +kernel)
set_option maxRecDepth 100000 in
theorem g235 : Cond.code yX2_init prog_4_method_1_code 1 none ∈ gw := gw_in (tb_1 (List.mem_of_getElem? (i := 139) rfl)) (by decide +kernel)
theorem g236 : Cond.methodLink "MirageLoans$Laws" 3 Lib.objectInit ∈ gw := gw_in (tb_1 (List.mem_of_getElem? (i := 140) (by decide +kernel))) (by decide +kernel)
theorem g256 : Cond.methodLink "MirageLoans$Flat" 57 yX0_clear ∈ gw := gw_in (tb_1 (List.mem_of_getElem? (i := 160) (by decide +kernel))) (by decide +kernel)
theorem g361 : Cond.classLink "MirageLoans" 23 "MirageLoans$State" ∈ gw := gw_in (tb_2 (List.mem_of_getElem? (i := 25) (by decide +kernel))) (by decide +kernel)
theorem g362 : Cond.instantiable "MirageLoans$State" 7 ∈ gw := gw_in (tb_2 (List.mem_of_getElem? (i := 26) (by decide +kernel))) (by decide +kernel)
theorem g364 : Cond.instanceMethod yX4_init ∈ gw := gw_in (tb_2 (List.mem_of_getElem? (i := 28) (by decide +kernel))) (by decide +kernel)
set_option maxRecDepth 100000 in
theorem g365 : Cond.code yX4_init prog_6_method_1_code 1 none ∈ gw := gw_in (tb_2 (List.mem_of_getElem? (i := 29) rfl)) (by decide +kernel)
theorem g366 : Cond.methodLink "MirageLoans$State" 3 Lib.objectInit ∈ gw := gw_in (tb_2 (List.mem_of_getElem? (i := 30) (by decide +kernel))) (by decide +kernel)
theorem g403 : Cond.classLink "MirageLoans" 33 "MirageLoans$Past" ∈ gw := gw_in (tb_2 (List.mem_of_getElem? (i := 67) (by decide +kernel))) (by decide +kernel)
theorem g404 : Cond.instantiable "MirageLoans$Past" 3 ∈ gw := gw_in (tb_2 (List.mem_of_getElem? (i := 68) (by decide +kernel))) (by decide +kernel)
theorem g405 : Cond.methodLink "MirageLoans" 35 yX3_init ∈ gw := gw_in (tb_2 (List.mem_of_getElem? (i := 69) (by decide +kernel))) (by decide +kernel)
theorem g406 : Cond.instanceMethod yX3_init ∈ gw := gw_in (tb_2 (List.mem_of_getElem? (i := 70) (by decide +kernel))) (by decide +kernel)
set_option maxRecDepth 100000 in
theorem g407 : Cond.code yX3_init prog_5_method_1_code 2 none ∈ gw := gw_in (tb_2 (List.mem_of_getElem? (i := 71) rfl)) (by decide +kernel)
theorem g408 : Cond.methodLink "MirageLoans$Past" 1 Lib.objectInit ∈ gw := gw_in (tb_2 (List.mem_of_getElem? (i := 72) (by decide +kernel))) (by decide +kernel)
theorem g409 : Cond.classLink "MirageLoans$Past" 9 "MirageLoans$State" ∈ gw := gw_in (tb_2 (List.mem_of_getElem? (i := 73) (by decide +kernel))) (by decide +kernel)
theorem g423 : Cond.classLink "MirageLoans" 48 "MirageLoans$Told" ∈ gw := gw_in (tb_2 (List.mem_of_getElem? (i := 87) (by decide +kernel))) (by decide +kernel)
theorem g424 : Cond.instantiable "MirageLoans$Told" 6 ∈ gw := gw_in (tb_2 (List.mem_of_getElem? (i := 88) (by decide +kernel))) (by decide +kernel)
theorem g426 : Cond.instanceMethod yX7_init ∈ gw := gw_in (tb_2 (List.mem_of_getElem? (i := 90) (by decide +kernel))) (by decide +kernel)
set_option maxRecDepth 100000 in
theorem g427 : Cond.code yX7_init prog_9_method_1_code 1 none ∈ gw := gw_in (tb_2 (List.mem_of_getElem? (i := 91) rfl)) (by decide +kernel)
theorem g428 : Cond.methodLink "MirageLoans$Told" 3 Lib.objectInit ∈ gw := gw_in (tb_2 (List.mem_of_getElem? (i := 92) (by decide +kernel))) (by decide +kernel)
theorem g449 : Cond.arrayClass FieldType.boolean ∈ gw := gw_in (tb_2 (List.mem_of_getElem? (i := 113) (by decide +kernel))) (by decide +kernel)
theorem g450 : Cond.classLink "MirageLoans" 68 "MirageLoans$Flat" ∈ gw := gw_in (tb_2 (List.mem_of_getElem? (i := 114) (by decide +kernel))) (by decide +kernel)
theorem g451 : Cond.methodLink "MirageLoans" 70 yX0_init ∈ gw := gw_in (tb_2 (List.mem_of_getElem? (i := 115) (by decide +kernel))) (by decide +kernel)
set_option maxRecDepth 100000 in
theorem g1108 : Cond.code yX9_init prog_11_method_2_code 1 none ∈ gw := gw_in (tb_5 (List.mem_of_getElem? (i := 52) rfl)) (by decide +kernel)
theorem g1109 : Cond.methodLink "MirageLoansModel" 7 Lib.objectInit ∈ gw := gw_in (tb_5 (List.mem_of_getElem? (i := 53) (by decide +kernel))) (by decide +kernel)
theorem g1114 : Cond.methodLink "MirageLoansModel" 153 yX9_word ∈ gw := gw_in (tb_5 (List.mem_of_getElem? (i := 58) (by decide +kernel))) (by decide +kernel)
theorem g1115 : Cond.static yX9_word ∈ gw := gw_in (tb_5 (List.mem_of_getElem? (i := 59) (by decide +kernel))) (by decide +kernel)
set_option maxRecDepth 100000 in
theorem g1116 : Cond.code yX9_word prog_11_method_10_code 7 (some Jvm.ClassFile.FieldType.long) ∈ gw := gw_in (tb_5 (List.mem_of_getElem? (i := 60) rfl)) (by decide +kernel)

theorem g115 : Cond.classLink "MirageLoansLaw" 7 "MirageLoans" ∈ gw := gw_in (tb_1 (List.mem_of_getElem? (i := 19) (by decide +kernel))) (by decide +kernel)
theorem g116 : Cond.instantiable "MirageLoans" 14 ∈ gw := gw_in (tb_1 (List.mem_of_getElem? (i := 20) (by decide +kernel))) (by decide +kernel)
theorem g117 : Cond.methodLink "MirageLoansLaw" 9 yX8_init ∈ gw := gw_in (tb_1 (List.mem_of_getElem? (i := 21) (by decide +kernel))) (by decide +kernel)
theorem g118 : Cond.instanceMethod yX8_init ∈ gw := gw_in (tb_1 (List.mem_of_getElem? (i := 22) (by decide +kernel))) (by decide +kernel)
theorem g495 : Cond.methodLink "MirageLoansLaw" 13 yX8_feed ∈ gw := gw_in (tb_2 (List.mem_of_getElem? (i := 159) (by decide +kernel))) (by decide +kernel)
theorem g496 : Cond.instanceMethod yX8_feed ∈ gw := gw_in (tb_2 (List.mem_of_getElem? (i := 160) (by decide +kernel))) (by decide +kernel)
theorem g497 : Cond.selects "MirageLoans" yX8_feed yX8_feed ∈ gw := gw_in (tb_2 (List.mem_of_getElem? (i := 161) (by decide +kernel))) (by decide +kernel)
theorem g507 : Cond.methodLink "MirageLoansLaw" 18 yX8_back ∈ gw := gw_in (tb_2 (List.mem_of_getElem? (i := 171) (by decide +kernel))) (by decide +kernel)
theorem g508 : Cond.instanceMethod yX8_back ∈ gw := gw_in (tb_2 (List.mem_of_getElem? (i := 172) (by decide +kernel))) (by decide +kernel)
theorem g509 : Cond.selects "MirageLoans" yX8_back yX8_back ∈ gw := gw_in (tb_2 (List.mem_of_getElem? (i := 173) (by decide +kernel))) (by decide +kernel)
theorem g515 : Cond.methodLink "MirageLoansLaw" 23 yX8_read ∈ gw := gw_in (tb_2 (List.mem_of_getElem? (i := 179) (by decide +kernel))) (by decide +kernel)
theorem g516 : Cond.instanceMethod yX8_read ∈ gw := gw_in (tb_2 (List.mem_of_getElem? (i := 180) (by decide +kernel))) (by decide +kernel)
theorem g517 : Cond.selects "MirageLoans" yX8_read yX8_read ∈ gw := gw_in (tb_2 (List.mem_of_getElem? (i := 181) (by decide +kernel))) (by decide +kernel)
theorem g700 : Cond.methodLink "MirageLoansLaw" 28 yX8_place ∈ gw := gw_in (tb_3 (List.mem_of_getElem? (i := 124) (by decide +kernel))) (by decide +kernel)
theorem g701 : Cond.instanceMethod yX8_place ∈ gw := gw_in (tb_3 (List.mem_of_getElem? (i := 125) (by decide +kernel))) (by decide +kernel)
theorem g702 : Cond.selects "MirageLoans" yX8_place yX8_place ∈ gw := gw_in (tb_3 (List.mem_of_getElem? (i := 126) (by decide +kernel))) (by decide +kernel)
theorem g704 : Cond.methodLink "MirageLoansLaw" 32 yX8_thing ∈ gw := gw_in (tb_3 (List.mem_of_getElem? (i := 128) (by decide +kernel))) (by decide +kernel)
theorem g705 : Cond.instanceMethod yX8_thing ∈ gw := gw_in (tb_3 (List.mem_of_getElem? (i := 129) (by decide +kernel))) (by decide +kernel)
theorem g706 : Cond.selects "MirageLoans" yX8_thing yX8_thing ∈ gw := gw_in (tb_3 (List.mem_of_getElem? (i := 130) (by decide +kernel))) (by decide +kernel)
theorem g767 : Cond.methodLink "MirageLoansLaw" 37 yX8_seat ∈ gw := gw_in (tb_3 (List.mem_of_getElem? (i := 191) (by decide +kernel))) (by decide +kernel)
theorem g768 : Cond.instanceMethod yX8_seat ∈ gw := gw_in (tb_3 (List.mem_of_getElem? (i := 192) (by decide +kernel))) (by decide +kernel)
theorem g769 : Cond.selects "MirageLoans" yX8_seat yX8_seat ∈ gw := gw_in (tb_3 (List.mem_of_getElem? (i := 193) (by decide +kernel))) (by decide +kernel)
theorem g793 : Cond.methodLink "MirageLoansLaw" 41 yX8_loan ∈ gw := gw_in (tb_3 (List.mem_of_getElem? (i := 217) (by decide +kernel))) (by decide +kernel)
theorem g794 : Cond.instanceMethod yX8_loan ∈ gw := gw_in (tb_3 (List.mem_of_getElem? (i := 218) (by decide +kernel))) (by decide +kernel)
theorem g795 : Cond.selects "MirageLoans" yX8_loan yX8_loan ∈ gw := gw_in (tb_3 (List.mem_of_getElem? (i := 219) (by decide +kernel))) (by decide +kernel)
theorem g801 : Cond.methodLink "MirageLoansLaw" 46 yX8_tells ∈ gw := gw_in (tb_3 (List.mem_of_getElem? (i := 225) (by decide +kernel))) (by decide +kernel)
theorem g802 : Cond.instanceMethod yX8_tells ∈ gw := gw_in (tb_3 (List.mem_of_getElem? (i := 226) (by decide +kernel))) (by decide +kernel)
theorem g803 : Cond.selects "MirageLoans" yX8_tells yX8_tells ∈ gw := gw_in (tb_3 (List.mem_of_getElem? (i := 227) (by decide +kernel))) (by decide +kernel)
theorem g828 : Cond.methodLink "MirageLoansLaw" 51 yX8_lend ∈ gw := gw_in (tb_4 (List.mem_of_getElem? (i := 12) (by decide +kernel))) (by decide +kernel)
theorem g829 : Cond.instanceMethod yX8_lend ∈ gw := gw_in (tb_4 (List.mem_of_getElem? (i := 13) (by decide +kernel))) (by decide +kernel)
theorem g830 : Cond.selects "MirageLoans" yX8_lend yX8_lend ∈ gw := gw_in (tb_4 (List.mem_of_getElem? (i := 14) (by decide +kernel))) (by decide +kernel)
theorem g848 : Cond.methodLink "MirageLoansLaw" 55 yX8_call ∈ gw := gw_in (tb_4 (List.mem_of_getElem? (i := 32) (by decide +kernel))) (by decide +kernel)
theorem g849 : Cond.instanceMethod yX8_call ∈ gw := gw_in (tb_4 (List.mem_of_getElem? (i := 33) (by decide +kernel))) (by decide +kernel)
theorem g850 : Cond.selects "MirageLoans" yX8_call yX8_call ∈ gw := gw_in (tb_4 (List.mem_of_getElem? (i := 34) (by decide +kernel))) (by decide +kernel)
theorem g854 : Cond.methodLink "MirageLoansLaw" 59 yX8_move ∈ gw := gw_in (tb_4 (List.mem_of_getElem? (i := 38) (by decide +kernel))) (by decide +kernel)
theorem g855 : Cond.instanceMethod yX8_move ∈ gw := gw_in (tb_4 (List.mem_of_getElem? (i := 39) (by decide +kernel))) (by decide +kernel)
theorem g856 : Cond.selects "MirageLoans" yX8_move yX8_move ∈ gw := gw_in (tb_4 (List.mem_of_getElem? (i := 40) (by decide +kernel))) (by decide +kernel)
theorem g858 : Cond.methodLink "MirageLoansLaw" 64 yX8_hours ∈ gw := gw_in (tb_4 (List.mem_of_getElem? (i := 42) (by decide +kernel))) (by decide +kernel)
theorem g859 : Cond.instanceMethod yX8_hours ∈ gw := gw_in (tb_4 (List.mem_of_getElem? (i := 43) (by decide +kernel))) (by decide +kernel)
theorem g860 : Cond.selects "MirageLoans" yX8_hours yX8_hours ∈ gw := gw_in (tb_4 (List.mem_of_getElem? (i := 44) (by decide +kernel))) (by decide +kernel)
theorem g889 : Cond.methodLink "MirageLoansLaw" 68 yX8_undo ∈ gw := gw_in (tb_4 (List.mem_of_getElem? (i := 73) (by decide +kernel))) (by decide +kernel)
theorem g890 : Cond.instanceMethod yX8_undo ∈ gw := gw_in (tb_4 (List.mem_of_getElem? (i := 74) (by decide +kernel))) (by decide +kernel)
theorem g891 : Cond.selects "MirageLoans" yX8_undo yX8_undo ∈ gw := gw_in (tb_4 (List.mem_of_getElem? (i := 75) (by decide +kernel))) (by decide +kernel)
theorem g897 : Cond.methodLink "MirageLoansLaw" 73 yX8_sight ∈ gw := gw_in (tb_4 (List.mem_of_getElem? (i := 81) (by decide +kernel))) (by decide +kernel)
theorem g898 : Cond.instanceMethod yX8_sight ∈ gw := gw_in (tb_4 (List.mem_of_getElem? (i := 82) (by decide +kernel))) (by decide +kernel)
theorem g899 : Cond.selects "MirageLoans" yX8_sight yX8_sight ∈ gw := gw_in (tb_4 (List.mem_of_getElem? (i := 83) (by decide +kernel))) (by decide +kernel)
theorem g911 : Cond.methodLink "MirageLoansLaw" 77 yX8_clash ∈ gw := gw_in (tb_4 (List.mem_of_getElem? (i := 95) (by decide +kernel))) (by decide +kernel)
theorem g912 : Cond.instanceMethod yX8_clash ∈ gw := gw_in (tb_4 (List.mem_of_getElem? (i := 96) (by decide +kernel))) (by decide +kernel)
theorem g913 : Cond.selects "MirageLoans" yX8_clash yX8_clash ∈ gw := gw_in (tb_4 (List.mem_of_getElem? (i := 97) (by decide +kernel))) (by decide +kernel)
theorem g923 : Cond.methodLink "MirageLoansLaw" 81 yX8_longFrom ∈ gw := gw_in (tb_4 (List.mem_of_getElem? (i := 107) (by decide +kernel))) (by decide +kernel)
theorem g924 : Cond.instanceMethod yX8_longFrom ∈ gw := gw_in (tb_4 (List.mem_of_getElem? (i := 108) (by decide +kernel))) (by decide +kernel)
theorem g925 : Cond.selects "MirageLoans" yX8_longFrom yX8_longFrom ∈ gw := gw_in (tb_4 (List.mem_of_getElem? (i := 109) (by decide +kernel))) (by decide +kernel)
theorem g927 : Cond.methodLink "MirageLoansLaw" 85 yX8_best ∈ gw := gw_in (tb_4 (List.mem_of_getElem? (i := 111) (by decide +kernel))) (by decide +kernel)
theorem g928 : Cond.instanceMethod yX8_best ∈ gw := gw_in (tb_4 (List.mem_of_getElem? (i := 112) (by decide +kernel))) (by decide +kernel)
theorem g929 : Cond.selects "MirageLoans" yX8_best yX8_best ∈ gw := gw_in (tb_4 (List.mem_of_getElem? (i := 113) (by decide +kernel))) (by decide +kernel)
theorem g935 : Cond.methodLink "MirageLoansLaw" 89 yX8_dawns ∈ gw := gw_in (tb_4 (List.mem_of_getElem? (i := 119) (by decide +kernel))) (by decide +kernel)
theorem g936 : Cond.instanceMethod yX8_dawns ∈ gw := gw_in (tb_4 (List.mem_of_getElem? (i := 120) (by decide +kernel))) (by decide +kernel)
theorem g937 : Cond.selects "MirageLoans" yX8_dawns yX8_dawns ∈ gw := gw_in (tb_4 (List.mem_of_getElem? (i := 121) (by decide +kernel))) (by decide +kernel)
theorem g939 : Cond.methodLink "MirageLoansLaw" 93 yX8_near ∈ gw := gw_in (tb_4 (List.mem_of_getElem? (i := 123) (by decide +kernel))) (by decide +kernel)
theorem g940 : Cond.instanceMethod yX8_near ∈ gw := gw_in (tb_4 (List.mem_of_getElem? (i := 124) (by decide +kernel))) (by decide +kernel)
theorem g941 : Cond.selects "MirageLoans" yX8_near yX8_near ∈ gw := gw_in (tb_4 (List.mem_of_getElem? (i := 125) (by decide +kernel))) (by decide +kernel)
theorem g944 : Cond.methodLink "MirageLoansLaw" 97 yX8_crowd ∈ gw := gw_in (tb_4 (List.mem_of_getElem? (i := 128) (by decide +kernel))) (by decide +kernel)
theorem g945 : Cond.instanceMethod yX8_crowd ∈ gw := gw_in (tb_4 (List.mem_of_getElem? (i := 129) (by decide +kernel))) (by decide +kernel)
theorem g946 : Cond.selects "MirageLoans" yX8_crowd yX8_crowd ∈ gw := gw_in (tb_4 (List.mem_of_getElem? (i := 130) (by decide +kernel))) (by decide +kernel)
theorem g948 : Cond.methodLink "MirageLoansLaw" 101 yX8_rich ∈ gw := gw_in (tb_4 (List.mem_of_getElem? (i := 132) (by decide +kernel))) (by decide +kernel)
theorem g949 : Cond.instanceMethod yX8_rich ∈ gw := gw_in (tb_4 (List.mem_of_getElem? (i := 133) (by decide +kernel))) (by decide +kernel)
theorem g950 : Cond.selects "MirageLoans" yX8_rich yX8_rich ∈ gw := gw_in (tb_4 (List.mem_of_getElem? (i := 134) (by decide +kernel))) (by decide +kernel)
theorem g962 : Cond.methodLink "MirageLoansLaw" 105 yX8_umbrellas ∈ gw := gw_in (tb_4 (List.mem_of_getElem? (i := 146) (by decide +kernel))) (by decide +kernel)
theorem g963 : Cond.instanceMethod yX8_umbrellas ∈ gw := gw_in (tb_4 (List.mem_of_getElem? (i := 147) (by decide +kernel))) (by decide +kernel)
theorem g964 : Cond.selects "MirageLoans" yX8_umbrellas yX8_umbrellas ∈ gw := gw_in (tb_4 (List.mem_of_getElem? (i := 148) (by decide +kernel))) (by decide +kernel)
theorem g981 : Cond.methodLink "MirageLoansLaw" 109 yX8_worth ∈ gw := gw_in (tb_4 (List.mem_of_getElem? (i := 165) (by decide +kernel))) (by decide +kernel)
theorem g982 : Cond.instanceMethod yX8_worth ∈ gw := gw_in (tb_4 (List.mem_of_getElem? (i := 166) (by decide +kernel))) (by decide +kernel)
theorem g983 : Cond.selects "MirageLoans" yX8_worth yX8_worth ∈ gw := gw_in (tb_4 (List.mem_of_getElem? (i := 167) (by decide +kernel))) (by decide +kernel)
theorem g987 : Cond.methodLink "MirageLoansLaw" 113 yX8_book ∈ gw := gw_in (tb_4 (List.mem_of_getElem? (i := 171) (by decide +kernel))) (by decide +kernel)
theorem g988 : Cond.instanceMethod yX8_book ∈ gw := gw_in (tb_4 (List.mem_of_getElem? (i := 172) (by decide +kernel))) (by decide +kernel)
theorem g989 : Cond.selects "MirageLoans" yX8_book yX8_book ∈ gw := gw_in (tb_4 (List.mem_of_getElem? (i := 173) (by decide +kernel))) (by decide +kernel)
theorem g991 : Cond.methodLink "MirageLoansLaw" 117 yX8_hidden ∈ gw := gw_in (tb_4 (List.mem_of_getElem? (i := 175) (by decide +kernel))) (by decide +kernel)
theorem g992 : Cond.instanceMethod yX8_hidden ∈ gw := gw_in (tb_4 (List.mem_of_getElem? (i := 176) (by decide +kernel))) (by decide +kernel)
theorem g993 : Cond.selects "MirageLoans" yX8_hidden yX8_hidden ∈ gw := gw_in (tb_4 (List.mem_of_getElem? (i := 177) (by decide +kernel))) (by decide +kernel)
theorem g1002 : Cond.methodLink "MirageLoansLaw" 121 yX8_cool ∈ gw := gw_in (tb_4 (List.mem_of_getElem? (i := 186) (by decide +kernel))) (by decide +kernel)
theorem g1003 : Cond.instanceMethod yX8_cool ∈ gw := gw_in (tb_4 (List.mem_of_getElem? (i := 187) (by decide +kernel))) (by decide +kernel)
theorem g1004 : Cond.selects "MirageLoans" yX8_cool yX8_cool ∈ gw := gw_in (tb_4 (List.mem_of_getElem? (i := 188) (by decide +kernel))) (by decide +kernel)
theorem g1010 : Cond.methodLink "MirageLoansLaw" 125 yX8_heatIn ∈ gw := gw_in (tb_4 (List.mem_of_getElem? (i := 194) (by decide +kernel))) (by decide +kernel)
theorem g1011 : Cond.instanceMethod yX8_heatIn ∈ gw := gw_in (tb_4 (List.mem_of_getElem? (i := 195) (by decide +kernel))) (by decide +kernel)
theorem g1012 : Cond.selects "MirageLoans" yX8_heatIn yX8_heatIn ∈ gw := gw_in (tb_4 (List.mem_of_getElem? (i := 196) (by decide +kernel))) (by decide +kernel)
theorem g1014 : Cond.methodLink "MirageLoansLaw" 129 yX8_lentIn ∈ gw := gw_in (tb_4 (List.mem_of_getElem? (i := 198) (by decide +kernel))) (by decide +kernel)
theorem g1015 : Cond.instanceMethod yX8_lentIn ∈ gw := gw_in (tb_4 (List.mem_of_getElem? (i := 199) (by decide +kernel))) (by decide +kernel)
theorem g1016 : Cond.selects "MirageLoans" yX8_lentIn yX8_lentIn ∈ gw := gw_in (tb_4 (List.mem_of_getElem? (i := 200) (by decide +kernel))) (by decide +kernel)
theorem g1018 : Cond.methodLink "MirageLoansLaw" 133 yX8_year ∈ gw := gw_in (tb_4 (List.mem_of_getElem? (i := 202) (by decide +kernel))) (by decide +kernel)
theorem g1019 : Cond.instanceMethod yX8_year ∈ gw := gw_in (tb_4 (List.mem_of_getElem? (i := 203) (by decide +kernel))) (by decide +kernel)
theorem g1020 : Cond.selects "MirageLoans" yX8_year yX8_year ∈ gw := gw_in (tb_4 (List.mem_of_getElem? (i := 204) (by decide +kernel))) (by decide +kernel)
theorem g1022 : Cond.methodLink "MirageLoansLaw" 137 yX8_tell ∈ gw := gw_in (tb_4 (List.mem_of_getElem? (i := 206) (by decide +kernel))) (by decide +kernel)
theorem g1023 : Cond.instanceMethod yX8_tell ∈ gw := gw_in (tb_4 (List.mem_of_getElem? (i := 207) (by decide +kernel))) (by decide +kernel)
theorem g1024 : Cond.selects "MirageLoans" yX8_tell yX8_tell ∈ gw := gw_in (tb_4 (List.mem_of_getElem? (i := 208) (by decide +kernel))) (by decide +kernel)
theorem g1030 : Cond.methodLink "MirageLoansLaw" 141 yX8_forget ∈ gw := gw_in (tb_4 (List.mem_of_getElem? (i := 214) (by decide +kernel))) (by decide +kernel)
theorem g1031 : Cond.instanceMethod yX8_forget ∈ gw := gw_in (tb_4 (List.mem_of_getElem? (i := 215) (by decide +kernel))) (by decide +kernel)
theorem g1032 : Cond.selects "MirageLoans" yX8_forget yX8_forget ∈ gw := gw_in (tb_4 (List.mem_of_getElem? (i := 216) (by decide +kernel))) (by decide +kernel)
theorem g1034 : Cond.methodLink "MirageLoansLaw" 145 yX8_stands ∈ gw := gw_in (tb_4 (List.mem_of_getElem? (i := 218) (by decide +kernel))) (by decide +kernel)
theorem g1035 : Cond.instanceMethod yX8_stands ∈ gw := gw_in (tb_4 (List.mem_of_getElem? (i := 219) (by decide +kernel))) (by decide +kernel)
theorem g1036 : Cond.selects "MirageLoans" yX8_stands yX8_stands ∈ gw := gw_in (tb_4 (List.mem_of_getElem? (i := 220) (by decide +kernel))) (by decide +kernel)
theorem g1059 : Cond.methodLink "MirageLoansLaw" 149 yX8_sure ∈ gw := gw_in (tb_5 (List.mem_of_getElem? (i := 3) (by decide +kernel))) (by decide +kernel)
theorem g1060 : Cond.instanceMethod yX8_sure ∈ gw := gw_in (tb_5 (List.mem_of_getElem? (i := 4) (by decide +kernel))) (by decide +kernel)
theorem g1061 : Cond.selects "MirageLoans" yX8_sure yX8_sure ∈ gw := gw_in (tb_5 (List.mem_of_getElem? (i := 5) (by decide +kernel))) (by decide +kernel)
theorem g1067 : Cond.methodLink "MirageLoansLaw" 153 yX8_look ∈ gw := gw_in (tb_5 (List.mem_of_getElem? (i := 11) (by decide +kernel))) (by decide +kernel)
theorem g1068 : Cond.instanceMethod yX8_look ∈ gw := gw_in (tb_5 (List.mem_of_getElem? (i := 12) (by decide +kernel))) (by decide +kernel)
theorem g1069 : Cond.selects "MirageLoans" yX8_look yX8_look ∈ gw := gw_in (tb_5 (List.mem_of_getElem? (i := 13) (by decide +kernel))) (by decide +kernel)
theorem g1080 : Cond.methodLink "MirageLoansLaw" 157 yX8_hold ∈ gw := gw_in (tb_5 (List.mem_of_getElem? (i := 24) (by decide +kernel))) (by decide +kernel)
theorem g1081 : Cond.instanceMethod yX8_hold ∈ gw := gw_in (tb_5 (List.mem_of_getElem? (i := 25) (by decide +kernel))) (by decide +kernel)
theorem g1082 : Cond.selects "MirageLoans" yX8_hold yX8_hold ∈ gw := gw_in (tb_5 (List.mem_of_getElem? (i := 26) (by decide +kernel))) (by decide +kernel)
theorem g1084 : Cond.methodLink "MirageLoansLaw" 162 yX8_restore ∈ gw := gw_in (tb_5 (List.mem_of_getElem? (i := 28) (by decide +kernel))) (by decide +kernel)
theorem g1085 : Cond.instanceMethod yX8_restore ∈ gw := gw_in (tb_5 (List.mem_of_getElem? (i := 29) (by decide +kernel))) (by decide +kernel)
theorem g1086 : Cond.selects "MirageLoans" yX8_restore yX8_restore ∈ gw := gw_in (tb_5 (List.mem_of_getElem? (i := 30) (by decide +kernel))) (by decide +kernel)
theorem g1088 : Cond.methodLink "MirageLoansLaw" 166 yX8_count ∈ gw := gw_in (tb_5 (List.mem_of_getElem? (i := 32) (by decide +kernel))) (by decide +kernel)
theorem g1089 : Cond.instanceMethod yX8_count ∈ gw := gw_in (tb_5 (List.mem_of_getElem? (i := 33) (by decide +kernel))) (by decide +kernel)
theorem g1090 : Cond.selects "MirageLoans" yX8_count yX8_count ∈ gw := gw_in (tb_5 (List.mem_of_getElem? (i := 34) (by decide +kernel))) (by decide +kernel)
theorem g1104 : Cond.classLink "MirageLoansLaw" 10 "MirageLoansModel" ∈ gw := gw_in (tb_5 (List.mem_of_getElem? (i := 48) (by decide +kernel))) (by decide +kernel)
theorem g1105 : Cond.instantiable "MirageLoansModel" 65 ∈ gw := gw_in (tb_5 (List.mem_of_getElem? (i := 49) (by decide +kernel))) (by decide +kernel)
theorem g1106 : Cond.methodLink "MirageLoansLaw" 12 yX9_init ∈ gw := gw_in (tb_5 (List.mem_of_getElem? (i := 50) (by decide +kernel))) (by decide +kernel)
theorem g1107 : Cond.instanceMethod yX9_init ∈ gw := gw_in (tb_5 (List.mem_of_getElem? (i := 51) (by decide +kernel))) (by decide +kernel)
theorem g1324 : Cond.methodLink "MirageLoansLaw" 17 yX9_feed ∈ gw := gw_in (tb_6 (List.mem_of_getElem? (i := 28) (by decide +kernel))) (by decide +kernel)
theorem g1325 : Cond.instanceMethod yX9_feed ∈ gw := gw_in (tb_6 (List.mem_of_getElem? (i := 29) (by decide +kernel))) (by decide +kernel)
theorem g1326 : Cond.selects "MirageLoansModel" yX9_feed yX9_feed ∈ gw := gw_in (tb_6 (List.mem_of_getElem? (i := 30) (by decide +kernel))) (by decide +kernel)
theorem g1332 : Cond.methodLink "MirageLoansLaw" 22 yX9_back ∈ gw := gw_in (tb_6 (List.mem_of_getElem? (i := 36) (by decide +kernel))) (by decide +kernel)
theorem g1333 : Cond.instanceMethod yX9_back ∈ gw := gw_in (tb_6 (List.mem_of_getElem? (i := 37) (by decide +kernel))) (by decide +kernel)
theorem g1334 : Cond.selects "MirageLoansModel" yX9_back yX9_back ∈ gw := gw_in (tb_6 (List.mem_of_getElem? (i := 38) (by decide +kernel))) (by decide +kernel)
theorem g1336 : Cond.methodLink "MirageLoansLaw" 27 yX9_read ∈ gw := gw_in (tb_6 (List.mem_of_getElem? (i := 40) (by decide +kernel))) (by decide +kernel)
theorem g1337 : Cond.instanceMethod yX9_read ∈ gw := gw_in (tb_6 (List.mem_of_getElem? (i := 41) (by decide +kernel))) (by decide +kernel)
theorem g1338 : Cond.selects "MirageLoansModel" yX9_read yX9_read ∈ gw := gw_in (tb_6 (List.mem_of_getElem? (i := 42) (by decide +kernel))) (by decide +kernel)
theorem g1430 : Cond.methodLink "MirageLoansLaw" 31 yX9_place ∈ gw := gw_in (tb_6 (List.mem_of_getElem? (i := 134) (by decide +kernel))) (by decide +kernel)
theorem g1431 : Cond.instanceMethod yX9_place ∈ gw := gw_in (tb_6 (List.mem_of_getElem? (i := 135) (by decide +kernel))) (by decide +kernel)
theorem g1432 : Cond.selects "MirageLoansModel" yX9_place yX9_place ∈ gw := gw_in (tb_6 (List.mem_of_getElem? (i := 136) (by decide +kernel))) (by decide +kernel)
theorem g1434 : Cond.methodLink "MirageLoansLaw" 36 yX9_thing ∈ gw := gw_in (tb_6 (List.mem_of_getElem? (i := 138) (by decide +kernel))) (by decide +kernel)
theorem g1435 : Cond.instanceMethod yX9_thing ∈ gw := gw_in (tb_6 (List.mem_of_getElem? (i := 139) (by decide +kernel))) (by decide +kernel)
theorem g1436 : Cond.selects "MirageLoansModel" yX9_thing yX9_thing ∈ gw := gw_in (tb_6 (List.mem_of_getElem? (i := 140) (by decide +kernel))) (by decide +kernel)
theorem g1483 : Cond.methodLink "MirageLoansLaw" 40 yX9_seat ∈ gw := gw_in (tb_6 (List.mem_of_getElem? (i := 187) (by decide +kernel))) (by decide +kernel)
theorem g1484 : Cond.instanceMethod yX9_seat ∈ gw := gw_in (tb_6 (List.mem_of_getElem? (i := 188) (by decide +kernel))) (by decide +kernel)
theorem g1485 : Cond.selects "MirageLoansModel" yX9_seat yX9_seat ∈ gw := gw_in (tb_6 (List.mem_of_getElem? (i := 189) (by decide +kernel))) (by decide +kernel)
theorem g1499 : Cond.methodLink "MirageLoansLaw" 45 yX9_loan ∈ gw := gw_in (tb_6 (List.mem_of_getElem? (i := 203) (by decide +kernel))) (by decide +kernel)
theorem g1500 : Cond.instanceMethod yX9_loan ∈ gw := gw_in (tb_6 (List.mem_of_getElem? (i := 204) (by decide +kernel))) (by decide +kernel)
theorem g1501 : Cond.selects "MirageLoansModel" yX9_loan yX9_loan ∈ gw := gw_in (tb_6 (List.mem_of_getElem? (i := 205) (by decide +kernel))) (by decide +kernel)
theorem g1503 : Cond.methodLink "MirageLoansLaw" 50 yX9_tells ∈ gw := gw_in (tb_6 (List.mem_of_getElem? (i := 207) (by decide +kernel))) (by decide +kernel)
theorem g1504 : Cond.instanceMethod yX9_tells ∈ gw := gw_in (tb_6 (List.mem_of_getElem? (i := 208) (by decide +kernel))) (by decide +kernel)
theorem g1505 : Cond.selects "MirageLoansModel" yX9_tells yX9_tells ∈ gw := gw_in (tb_6 (List.mem_of_getElem? (i := 209) (by decide +kernel))) (by decide +kernel)
theorem g1522 : Cond.methodLink "MirageLoansLaw" 54 yX9_lend ∈ gw := gw_in (tb_6 (List.mem_of_getElem? (i := 226) (by decide +kernel))) (by decide +kernel)
theorem g1523 : Cond.instanceMethod yX9_lend ∈ gw := gw_in (tb_6 (List.mem_of_getElem? (i := 227) (by decide +kernel))) (by decide +kernel)
theorem g1524 : Cond.selects "MirageLoansModel" yX9_lend yX9_lend ∈ gw := gw_in (tb_6 (List.mem_of_getElem? (i := 228) (by decide +kernel))) (by decide +kernel)
theorem g1530 : Cond.methodLink "MirageLoansLaw" 58 yX9_call ∈ gw := gw_in (tb_6 (List.mem_of_getElem? (i := 234) (by decide +kernel))) (by decide +kernel)
theorem g1531 : Cond.instanceMethod yX9_call ∈ gw := gw_in (tb_6 (List.mem_of_getElem? (i := 235) (by decide +kernel))) (by decide +kernel)
theorem g1532 : Cond.selects "MirageLoansModel" yX9_call yX9_call ∈ gw := gw_in (tb_6 (List.mem_of_getElem? (i := 236) (by decide +kernel))) (by decide +kernel)
theorem g1535 : Cond.methodLink "MirageLoansLaw" 63 yX9_move ∈ gw := gw_in (tb_6 (List.mem_of_getElem? (i := 239) (by decide +kernel))) (by decide +kernel)
theorem g1536 : Cond.instanceMethod yX9_move ∈ gw := gw_in (tb_7 (List.mem_of_getElem? (i := 0) (by decide +kernel))) (by decide +kernel)
theorem g1537 : Cond.selects "MirageLoansModel" yX9_move yX9_move ∈ gw := gw_in (tb_7 (List.mem_of_getElem? (i := 1) (by decide +kernel))) (by decide +kernel)
theorem g1539 : Cond.methodLink "MirageLoansLaw" 67 yX9_hours ∈ gw := gw_in (tb_7 (List.mem_of_getElem? (i := 3) (by decide +kernel))) (by decide +kernel)
theorem g1540 : Cond.instanceMethod yX9_hours ∈ gw := gw_in (tb_7 (List.mem_of_getElem? (i := 4) (by decide +kernel))) (by decide +kernel)
theorem g1541 : Cond.selects "MirageLoansModel" yX9_hours yX9_hours ∈ gw := gw_in (tb_7 (List.mem_of_getElem? (i := 5) (by decide +kernel))) (by decide +kernel)
theorem g1570 : Cond.methodLink "MirageLoansLaw" 72 yX9_undo ∈ gw := gw_in (tb_7 (List.mem_of_getElem? (i := 34) (by decide +kernel))) (by decide +kernel)
theorem g1571 : Cond.instanceMethod yX9_undo ∈ gw := gw_in (tb_7 (List.mem_of_getElem? (i := 35) (by decide +kernel))) (by decide +kernel)
theorem g1572 : Cond.selects "MirageLoansModel" yX9_undo yX9_undo ∈ gw := gw_in (tb_7 (List.mem_of_getElem? (i := 36) (by decide +kernel))) (by decide +kernel)
theorem g1574 : Cond.methodLink "MirageLoansLaw" 76 yX9_sight ∈ gw := gw_in (tb_7 (List.mem_of_getElem? (i := 38) (by decide +kernel))) (by decide +kernel)
theorem g1575 : Cond.instanceMethod yX9_sight ∈ gw := gw_in (tb_7 (List.mem_of_getElem? (i := 39) (by decide +kernel))) (by decide +kernel)
theorem g1576 : Cond.selects "MirageLoansModel" yX9_sight yX9_sight ∈ gw := gw_in (tb_7 (List.mem_of_getElem? (i := 40) (by decide +kernel))) (by decide +kernel)
theorem g1586 : Cond.methodLink "MirageLoansLaw" 80 yX9_clash ∈ gw := gw_in (tb_7 (List.mem_of_getElem? (i := 50) (by decide +kernel))) (by decide +kernel)
theorem g1587 : Cond.instanceMethod yX9_clash ∈ gw := gw_in (tb_7 (List.mem_of_getElem? (i := 51) (by decide +kernel))) (by decide +kernel)
theorem g1588 : Cond.selects "MirageLoansModel" yX9_clash yX9_clash ∈ gw := gw_in (tb_7 (List.mem_of_getElem? (i := 52) (by decide +kernel))) (by decide +kernel)
theorem g1594 : Cond.methodLink "MirageLoansLaw" 84 yX9_longFrom ∈ gw := gw_in (tb_7 (List.mem_of_getElem? (i := 58) (by decide +kernel))) (by decide +kernel)
theorem g1595 : Cond.instanceMethod yX9_longFrom ∈ gw := gw_in (tb_7 (List.mem_of_getElem? (i := 59) (by decide +kernel))) (by decide +kernel)
theorem g1596 : Cond.selects "MirageLoansModel" yX9_longFrom yX9_longFrom ∈ gw := gw_in (tb_7 (List.mem_of_getElem? (i := 60) (by decide +kernel))) (by decide +kernel)
theorem g1605 : Cond.methodLink "MirageLoansLaw" 88 yX9_best ∈ gw := gw_in (tb_7 (List.mem_of_getElem? (i := 69) (by decide +kernel))) (by decide +kernel)
theorem g1606 : Cond.instanceMethod yX9_best ∈ gw := gw_in (tb_7 (List.mem_of_getElem? (i := 70) (by decide +kernel))) (by decide +kernel)
theorem g1607 : Cond.selects "MirageLoansModel" yX9_best yX9_best ∈ gw := gw_in (tb_7 (List.mem_of_getElem? (i := 71) (by decide +kernel))) (by decide +kernel)
theorem g1609 : Cond.methodLink "MirageLoansLaw" 92 yX9_dawns ∈ gw := gw_in (tb_7 (List.mem_of_getElem? (i := 73) (by decide +kernel))) (by decide +kernel)
theorem g1610 : Cond.instanceMethod yX9_dawns ∈ gw := gw_in (tb_7 (List.mem_of_getElem? (i := 74) (by decide +kernel))) (by decide +kernel)
theorem g1611 : Cond.selects "MirageLoansModel" yX9_dawns yX9_dawns ∈ gw := gw_in (tb_7 (List.mem_of_getElem? (i := 75) (by decide +kernel))) (by decide +kernel)
theorem g1613 : Cond.methodLink "MirageLoansLaw" 96 yX9_near ∈ gw := gw_in (tb_7 (List.mem_of_getElem? (i := 77) (by decide +kernel))) (by decide +kernel)
theorem g1614 : Cond.instanceMethod yX9_near ∈ gw := gw_in (tb_7 (List.mem_of_getElem? (i := 78) (by decide +kernel))) (by decide +kernel)
theorem g1615 : Cond.selects "MirageLoansModel" yX9_near yX9_near ∈ gw := gw_in (tb_7 (List.mem_of_getElem? (i := 79) (by decide +kernel))) (by decide +kernel)
theorem g1617 : Cond.methodLink "MirageLoansLaw" 100 yX9_crowd ∈ gw := gw_in (tb_7 (List.mem_of_getElem? (i := 81) (by decide +kernel))) (by decide +kernel)
theorem g1618 : Cond.instanceMethod yX9_crowd ∈ gw := gw_in (tb_7 (List.mem_of_getElem? (i := 82) (by decide +kernel))) (by decide +kernel)
theorem g1619 : Cond.selects "MirageLoansModel" yX9_crowd yX9_crowd ∈ gw := gw_in (tb_7 (List.mem_of_getElem? (i := 83) (by decide +kernel))) (by decide +kernel)
theorem g1621 : Cond.methodLink "MirageLoansLaw" 108 yX9_umbrellas ∈ gw := gw_in (tb_7 (List.mem_of_getElem? (i := 85) (by decide +kernel))) (by decide +kernel)
theorem g1622 : Cond.instanceMethod yX9_umbrellas ∈ gw := gw_in (tb_7 (List.mem_of_getElem? (i := 86) (by decide +kernel))) (by decide +kernel)
theorem g1623 : Cond.selects "MirageLoansModel" yX9_umbrellas yX9_umbrellas ∈ gw := gw_in (tb_7 (List.mem_of_getElem? (i := 87) (by decide +kernel))) (by decide +kernel)
theorem g1636 : Cond.methodLink "MirageLoansLaw" 112 yX9_worth ∈ gw := gw_in (tb_7 (List.mem_of_getElem? (i := 100) (by decide +kernel))) (by decide +kernel)
theorem g1637 : Cond.instanceMethod yX9_worth ∈ gw := gw_in (tb_7 (List.mem_of_getElem? (i := 101) (by decide +kernel))) (by decide +kernel)
theorem g1638 : Cond.selects "MirageLoansModel" yX9_worth yX9_worth ∈ gw := gw_in (tb_7 (List.mem_of_getElem? (i := 102) (by decide +kernel))) (by decide +kernel)
theorem g1641 : Cond.methodLink "MirageLoansLaw" 116 yX9_book ∈ gw := gw_in (tb_7 (List.mem_of_getElem? (i := 105) (by decide +kernel))) (by decide +kernel)
theorem g1642 : Cond.instanceMethod yX9_book ∈ gw := gw_in (tb_7 (List.mem_of_getElem? (i := 106) (by decide +kernel))) (by decide +kernel)
theorem g1643 : Cond.selects "MirageLoansModel" yX9_book yX9_book ∈ gw := gw_in (tb_7 (List.mem_of_getElem? (i := 107) (by decide +kernel))) (by decide +kernel)
theorem g1645 : Cond.methodLink "MirageLoansLaw" 104 yX9_rich ∈ gw := gw_in (tb_7 (List.mem_of_getElem? (i := 109) (by decide +kernel))) (by decide +kernel)
theorem g1646 : Cond.instanceMethod yX9_rich ∈ gw := gw_in (tb_7 (List.mem_of_getElem? (i := 110) (by decide +kernel))) (by decide +kernel)
theorem g1647 : Cond.selects "MirageLoansModel" yX9_rich yX9_rich ∈ gw := gw_in (tb_7 (List.mem_of_getElem? (i := 111) (by decide +kernel))) (by decide +kernel)
theorem g1649 : Cond.methodLink "MirageLoansLaw" 120 yX9_hidden ∈ gw := gw_in (tb_7 (List.mem_of_getElem? (i := 113) (by decide +kernel))) (by decide +kernel)
theorem g1650 : Cond.instanceMethod yX9_hidden ∈ gw := gw_in (tb_7 (List.mem_of_getElem? (i := 114) (by decide +kernel))) (by decide +kernel)
theorem g1651 : Cond.selects "MirageLoansModel" yX9_hidden yX9_hidden ∈ gw := gw_in (tb_7 (List.mem_of_getElem? (i := 115) (by decide +kernel))) (by decide +kernel)
theorem g1657 : Cond.methodLink "MirageLoansLaw" 124 yX9_cool ∈ gw := gw_in (tb_7 (List.mem_of_getElem? (i := 121) (by decide +kernel))) (by decide +kernel)
theorem g1658 : Cond.instanceMethod yX9_cool ∈ gw := gw_in (tb_7 (List.mem_of_getElem? (i := 122) (by decide +kernel))) (by decide +kernel)
theorem g1659 : Cond.selects "MirageLoansModel" yX9_cool yX9_cool ∈ gw := gw_in (tb_7 (List.mem_of_getElem? (i := 123) (by decide +kernel))) (by decide +kernel)
theorem g1661 : Cond.methodLink "MirageLoansLaw" 128 yX9_heatIn ∈ gw := gw_in (tb_7 (List.mem_of_getElem? (i := 125) (by decide +kernel))) (by decide +kernel)
theorem g1662 : Cond.instanceMethod yX9_heatIn ∈ gw := gw_in (tb_7 (List.mem_of_getElem? (i := 126) (by decide +kernel))) (by decide +kernel)
theorem g1663 : Cond.selects "MirageLoansModel" yX9_heatIn yX9_heatIn ∈ gw := gw_in (tb_7 (List.mem_of_getElem? (i := 127) (by decide +kernel))) (by decide +kernel)
theorem g1665 : Cond.methodLink "MirageLoansLaw" 132 yX9_lentIn ∈ gw := gw_in (tb_7 (List.mem_of_getElem? (i := 129) (by decide +kernel))) (by decide +kernel)
theorem g1666 : Cond.instanceMethod yX9_lentIn ∈ gw := gw_in (tb_7 (List.mem_of_getElem? (i := 130) (by decide +kernel))) (by decide +kernel)
theorem g1667 : Cond.selects "MirageLoansModel" yX9_lentIn yX9_lentIn ∈ gw := gw_in (tb_7 (List.mem_of_getElem? (i := 131) (by decide +kernel))) (by decide +kernel)
theorem g1669 : Cond.methodLink "MirageLoansLaw" 136 yX9_year ∈ gw := gw_in (tb_7 (List.mem_of_getElem? (i := 133) (by decide +kernel))) (by decide +kernel)
theorem g1670 : Cond.instanceMethod yX9_year ∈ gw := gw_in (tb_7 (List.mem_of_getElem? (i := 134) (by decide +kernel))) (by decide +kernel)
theorem g1671 : Cond.selects "MirageLoansModel" yX9_year yX9_year ∈ gw := gw_in (tb_7 (List.mem_of_getElem? (i := 135) (by decide +kernel))) (by decide +kernel)
theorem g1673 : Cond.methodLink "MirageLoansLaw" 140 yX9_tell ∈ gw := gw_in (tb_7 (List.mem_of_getElem? (i := 137) (by decide +kernel))) (by decide +kernel)
theorem g1674 : Cond.instanceMethod yX9_tell ∈ gw := gw_in (tb_7 (List.mem_of_getElem? (i := 138) (by decide +kernel))) (by decide +kernel)
theorem g1675 : Cond.selects "MirageLoansModel" yX9_tell yX9_tell ∈ gw := gw_in (tb_7 (List.mem_of_getElem? (i := 139) (by decide +kernel))) (by decide +kernel)
theorem g1677 : Cond.methodLink "MirageLoansLaw" 144 yX9_forget ∈ gw := gw_in (tb_7 (List.mem_of_getElem? (i := 141) (by decide +kernel))) (by decide +kernel)
theorem g1678 : Cond.instanceMethod yX9_forget ∈ gw := gw_in (tb_7 (List.mem_of_getElem? (i := 142) (by decide +kernel))) (by decide +kernel)
theorem g1679 : Cond.selects "MirageLoansModel" yX9_forget yX9_forget ∈ gw := gw_in (tb_7 (List.mem_of_getElem? (i := 143) (by decide +kernel))) (by decide +kernel)
theorem g1681 : Cond.methodLink "MirageLoansLaw" 148 yX9_stands ∈ gw := gw_in (tb_7 (List.mem_of_getElem? (i := 145) (by decide +kernel))) (by decide +kernel)
theorem g1682 : Cond.instanceMethod yX9_stands ∈ gw := gw_in (tb_7 (List.mem_of_getElem? (i := 146) (by decide +kernel))) (by decide +kernel)
theorem g1683 : Cond.selects "MirageLoansModel" yX9_stands yX9_stands ∈ gw := gw_in (tb_7 (List.mem_of_getElem? (i := 147) (by decide +kernel))) (by decide +kernel)
theorem g1689 : Cond.methodLink "MirageLoansLaw" 152 yX9_sure ∈ gw := gw_in (tb_7 (List.mem_of_getElem? (i := 153) (by decide +kernel))) (by decide +kernel)
theorem g1690 : Cond.instanceMethod yX9_sure ∈ gw := gw_in (tb_7 (List.mem_of_getElem? (i := 154) (by decide +kernel))) (by decide +kernel)
theorem g1691 : Cond.selects "MirageLoansModel" yX9_sure yX9_sure ∈ gw := gw_in (tb_7 (List.mem_of_getElem? (i := 155) (by decide +kernel))) (by decide +kernel)
theorem g1693 : Cond.methodLink "MirageLoansLaw" 156 yX9_look ∈ gw := gw_in (tb_7 (List.mem_of_getElem? (i := 157) (by decide +kernel))) (by decide +kernel)
theorem g1694 : Cond.instanceMethod yX9_look ∈ gw := gw_in (tb_7 (List.mem_of_getElem? (i := 158) (by decide +kernel))) (by decide +kernel)
theorem g1695 : Cond.selects "MirageLoansModel" yX9_look yX9_look ∈ gw := gw_in (tb_7 (List.mem_of_getElem? (i := 159) (by decide +kernel))) (by decide +kernel)
theorem g1697 : Cond.methodLink "MirageLoansLaw" 161 yX9_hold ∈ gw := gw_in (tb_7 (List.mem_of_getElem? (i := 161) (by decide +kernel))) (by decide +kernel)
theorem g1698 : Cond.instanceMethod yX9_hold ∈ gw := gw_in (tb_7 (List.mem_of_getElem? (i := 162) (by decide +kernel))) (by decide +kernel)
theorem g1699 : Cond.selects "MirageLoansModel" yX9_hold yX9_hold ∈ gw := gw_in (tb_7 (List.mem_of_getElem? (i := 163) (by decide +kernel))) (by decide +kernel)
theorem g1701 : Cond.methodLink "MirageLoansLaw" 165 yX9_restore ∈ gw := gw_in (tb_7 (List.mem_of_getElem? (i := 165) (by decide +kernel))) (by decide +kernel)
theorem g1702 : Cond.instanceMethod yX9_restore ∈ gw := gw_in (tb_7 (List.mem_of_getElem? (i := 166) (by decide +kernel))) (by decide +kernel)
theorem g1703 : Cond.selects "MirageLoansModel" yX9_restore yX9_restore ∈ gw := gw_in (tb_7 (List.mem_of_getElem? (i := 167) (by decide +kernel))) (by decide +kernel)
theorem g1705 : Cond.methodLink "MirageLoansLaw" 169 yX9_count ∈ gw := gw_in (tb_7 (List.mem_of_getElem? (i := 169) (by decide +kernel))) (by decide +kernel)
theorem g1706 : Cond.instanceMethod yX9_count ∈ gw := gw_in (tb_7 (List.mem_of_getElem? (i := 170) (by decide +kernel))) (by decide +kernel)
theorem g1707 : Cond.selects "MirageLoansModel" yX9_count yX9_count ∈ gw := gw_in (tb_7 (List.mem_of_getElem? (i := 171) (by decide +kernel))) (by decide +kernel)
def n_X9_movedBy : qMn := (yX9_movedBy, cX9_movedBy, 5, (some Jvm.ClassFile.FieldType.int), 0, 0)
theorem to_X9_movedBy : qTo n_X9_movedBy 4 := ⟨g1513, g110, ⟨by decide, by decide, by decide +kernel⟩, by decide⟩
def n_X9_rentOf : qMn := (yX9_rentOf, cX9_rentOf, 5, (some Jvm.ClassFile.FieldType.int), 0, 0)
theorem to_X9_rentOf : qTo n_X9_rentOf 4 := ⟨g1517, g110, ⟨by decide, by decide, by decide +kernel⟩, by decide⟩
def n_X9_grows : qMn := (yX9_grows, cX9_grows, 3, (some Jvm.ClassFile.FieldType.int), 0, 0)
theorem to_X9_grows : qTo n_X9_grows 2 := ⟨g1569, g110, ⟨by decide, by decide, by decide +kernel⟩, by decide⟩
def n_X9_sees : qMn := (yX9_sees, cX9_sees, 4, (some Jvm.ClassFile.FieldType.boolean), 0, 0)
theorem to_X9_sees : qTo n_X9_sees 3 := ⟨g1452, g110, ⟨by decide, by decide, by decide +kernel⟩, by decide⟩
def n_X9_tells : qMn := (yX9_tells, cX9_tells, 7, (some Jvm.ClassFile.FieldType.int), 0, 0)
theorem to_X9_tells : qTo n_X9_tells 4 := ⟨g1506, g110, ⟨by decide, by decide, by decide +kernel⟩, by decide⟩
def n_X9_seenAt : qMn := (yX9_seenAt, cX9_seenAt, 6, (some Jvm.ClassFile.FieldType.int), 0, 0)
theorem to_X9_seenAt : qTo n_X9_seenAt 4 := ⟨g1585, g110, ⟨by decide, by decide, by decide +kernel⟩, by decide⟩
def n_X9_isWatched : qMn := (yX9_isWatched, cX9_isWatched, 5, (some Jvm.ClassFile.FieldType.boolean), 0, 0)
theorem to_X9_isWatched : qTo n_X9_isWatched 3 := ⟨g1656, g110, ⟨by decide, by decide, by decide +kernel⟩, by decide⟩
def n_X9_thing : qMn := (yX9_thing, cX9_thing, 5, (some Jvm.ClassFile.FieldType.int), 0, 0)
theorem to_X9_thing : qTo n_X9_thing 2 := ⟨g1437, g110, ⟨by decide, by decide, by decide +kernel⟩, by decide⟩
def n_X9_seesBits : qMn := (yX9_seesBits, cX9_seesBits, 4, (some Jvm.ClassFile.FieldType.int), 0, 0)
theorem to_X9_seesBits : qTo n_X9_seesBits 1 := ⟨g1494, g110, ⟨by decide, by decide, by decide +kernel⟩, by decide⟩
def n_X9_lend : qMn := (yX9_lend, cX9_lend, 5, (some Jvm.ClassFile.FieldType.int), 0, 0)
theorem to_X9_lend : qTo n_X9_lend 3 := ⟨g1525, g110, ⟨by decide, by decide, by decide +kernel⟩, by decide⟩
def n_X9_call : qMn := (yX9_call, cX9_call, 5, (some Jvm.ClassFile.FieldType.int), 0, 0)
theorem to_X9_call : qTo n_X9_call 2 := ⟨g1533, g110, ⟨by decide, by decide, by decide +kernel⟩, by decide⟩
def n_X9_loanGoes : qMn := (yX9_loanGoes, cX9_loanGoes, 7, none, 0, 0)
theorem to_X9_loanGoes : qTo n_X9_loanGoes 3 := ⟨g1565, g110, ⟨by decide, by decide, by decide +kernel⟩, by decide⟩
def n_X9_sightOf : qMn := (yX9_sightOf, cX9_sightOf, 4, (some Jvm.ClassFile.FieldType.int), 0, 0)
theorem to_X9_sightOf : qTo n_X9_sightOf 3 := ⟨g1581, g110, ⟨by decide, by decide, by decide +kernel⟩, by decide⟩
def n_X9_hoursFrom : qMn := (yX9_hoursFrom, cX9_hoursFrom, 6, (some Jvm.ClassFile.FieldType.int), 0, 0)
theorem to_X9_hoursFrom : qTo n_X9_hoursFrom 3 := ⟨g1604, g110, ⟨by decide, by decide, by decide +kernel⟩, by decide⟩
def n_X9_dawns : qMn := (yX9_dawns, cX9_dawns, 4, (some Jvm.ClassFile.FieldType.int), 0, 0)
theorem to_X9_dawns : qTo n_X9_dawns 2 := ⟨g1612, g110, ⟨by decide, by decide, by decide +kernel⟩, by decide⟩
def n_X9_worth : qMn := (yX9_worth, cX9_worth, 10, (some Jvm.ClassFile.FieldType.int), 0, 0)
theorem to_X9_worth : qTo n_X9_worth 4 := ⟨g1639, g110, ⟨by decide, by decide, by decide +kernel⟩, by decide⟩
def n_X9_hidden : qMn := (yX9_hidden, cX9_hidden, 6, (some Jvm.ClassFile.FieldType.int), 0, 0)
theorem to_X9_hidden : qTo n_X9_hidden 3 := ⟨g1652, g110, ⟨by decide, by decide, by decide +kernel⟩, by decide⟩
def n_X9_cool : qMn := (yX9_cool, cX9_cool, 5, (some Jvm.ClassFile.FieldType.int), 0, 0)
theorem to_X9_cool : qTo n_X9_cool 0 := ⟨g1660, g110, ⟨by decide, by decide, by decide +kernel⟩, by decide⟩
def n_X9_isSo : qMn := (yX9_isSo, cX9_isSo, 4, (some Jvm.ClassFile.FieldType.boolean), 0, 0)
theorem to_X9_isSo : qTo n_X9_isSo 2 := ⟨g1688, g110, ⟨by decide, by decide, by decide +kernel⟩, by decide⟩
def n_X9_seat : qMn := (yX9_seat, cX9_seat, 5, (some Jvm.ClassFile.FieldType.int), 0, 0)
theorem to_X9_seat : qTo n_X9_seat 2 := ⟨g1486, g110, ⟨by decide, by decide, by decide +kernel⟩, by decide⟩
def n_X9_hourGoes : qMn := (yX9_hourGoes, cX9_hourGoes, 4, none, 0, 0)
theorem to_X9_hourGoes : qTo n_X9_hourGoes 0 := ⟨g1553, g110, ⟨by decide, by decide, by decide +kernel⟩, by decide⟩
def n_X9_sight : qMn := (yX9_sight, cX9_sight, 4, (some Jvm.ClassFile.FieldType.int), 0, 0)
theorem to_X9_sight : qTo n_X9_sight 3 := ⟨g1577, g110, ⟨by decide, by decide, by decide +kernel⟩, by decide⟩
def n_X9_doClash : qMn := (yX9_doClash, cX9_doClash, 6, (some Jvm.ClassFile.FieldType.boolean), 0, 0)
theorem to_X9_doClash : qTo n_X9_doClash 2 := ⟨g1593, g110, ⟨by decide, by decide, by decide +kernel⟩, by decide⟩
def n_X9_longFrom : qMn := (yX9_longFrom, cX9_longFrom, 4, (some Jvm.ClassFile.FieldType.int), 0, 0)
theorem to_X9_longFrom : qTo n_X9_longFrom 3 := ⟨g1597, g110, ⟨by decide, by decide, by decide +kernel⟩, by decide⟩
def n_X9_best : qMn := (yX9_best, cX9_best, 8, (some Jvm.ClassFile.FieldType.int), 0, 0)
theorem to_X9_best : qTo n_X9_best 3 := ⟨g1608, g110, ⟨by decide, by decide, by decide +kernel⟩, by decide⟩
def n_X9_near : qMn := (yX9_near, cX9_near, 7, (some Jvm.ClassFile.FieldType.int), 0, 0)
theorem to_X9_near : qTo n_X9_near 2 := ⟨g1616, g110, ⟨by decide, by decide, by decide +kernel⟩, by decide⟩
def n_X9_crowd : qMn := (yX9_crowd, cX9_crowd, 5, (some Jvm.ClassFile.FieldType.int), 0, 0)
theorem to_X9_crowd : qTo n_X9_crowd 1 := ⟨g1620, g110, ⟨by decide, by decide, by decide +kernel⟩, by decide⟩
def n_X9_stands : qMn := (yX9_stands, cX9_stands, 4, (some Jvm.ClassFile.FieldType.int), 0, 0)
theorem to_X9_stands : qTo n_X9_stands 1 := ⟨g1684, g110, ⟨by decide, by decide, by decide +kernel⟩, by decide⟩
def n_X9_sure : qMn := (yX9_sure, cX9_sure, 6, (some Jvm.ClassFile.FieldType.int), 0, 0)
theorem to_X9_sure : qTo n_X9_sure 2 := ⟨g1692, g110, ⟨by decide, by decide, by decide +kernel⟩, by decide⟩
def n_X9_look : qMn := (yX9_look, cX9_look, 9, (some Jvm.ClassFile.FieldType.int), 0, 0)
theorem to_X9_look : qTo n_X9_look 2 := ⟨g1696, g110, ⟨by decide, by decide, by decide +kernel⟩, by decide⟩
def n_X9_count : qMn := (yX9_count, cX9_count, 4, (some Jvm.ClassFile.FieldType.int), 0, 0)
theorem to_X9_count : qTo n_X9_count 1 := ⟨g1708, g110, ⟨by decide, by decide, by decide +kernel⟩, by decide⟩
def n_X9_goes : qMn := (yX9_goes, cX9_goes, 3, none, 0, 0)
theorem to_X9_goes : qTo n_X9_goes 1 := ⟨g1549, g110, ⟨by decide, by decide, by decide +kernel⟩, by decide⟩
def n_X9_clash : qMn := (yX9_clash, cX9_clash, 6, (some Jvm.ClassFile.FieldType.int), 0, 0)
theorem to_X9_clash : qTo n_X9_clash 1 := ⟨g1589, g110, ⟨by decide, by decide, by decide +kernel⟩, by decide⟩
def n_X9_hours : qMn := (yX9_hours, cX9_hours, 2, (some Jvm.ClassFile.FieldType.int), 0, 0)
theorem to_X9_hours : qTo n_X9_hours 1 := ⟨g1542, g110, ⟨by decide, by decide, by decide +kernel⟩, by decide⟩
def n_X9_rich : qMn := (yX9_rich, cX9_rich, 7, (some Jvm.ClassFile.FieldType.int), 0, 0)
theorem to_X9_rich : qTo n_X9_rich 2 := ⟨g1648, g110, ⟨by decide, by decide, by decide +kernel⟩, by decide⟩
def n_X9_book : qMn := (yX9_book, cX9_book, 3, (some Jvm.ClassFile.FieldType.int), 0, 0)
theorem to_X9_book : qTo n_X9_book 2 := ⟨g1644, g110, ⟨by decide, by decide, by decide +kernel⟩, by decide⟩
def n_X9_lentIn : qMn := (yX9_lentIn, cX9_lentIn, 4, (some Jvm.ClassFile.FieldType.int), 0, 0)
theorem to_X9_lentIn : qTo n_X9_lentIn 3 := ⟨g1668, g110, ⟨by decide, by decide, by decide +kernel⟩, by decide⟩
def n_X9_year : qMn := (yX9_year, cX9_year, 7, (some Jvm.ClassFile.FieldType.int), 0, 0)
theorem to_X9_year : qTo n_X9_year 4 := ⟨g1672, g110, ⟨by decide, by decide, by decide +kernel⟩, by decide⟩
def n_X5_hasRoom : qMn := (yX5_hasRoom, cX5_hasRoom, 2, (some Jvm.ClassFile.FieldType.boolean), 0, 0)
theorem to_X5_hasRoom : qTo n_X5_hasRoom 1 := ⟨g502, g98, ⟨by decide, by decide, by decide +kernel⟩, by decide⟩
def n_X5_putWord : qMn := (yX5_putWord, cX5_putWord, 3, none, 0, 0)
theorem to_X5_putWord : qTo n_X5_putWord 1 := ⟨g506, g98, ⟨by decide, by decide, by decide +kernel⟩, by decide⟩
def n_X5_drop : qMn := (yX5_drop, cX5_drop, 2, (some Jvm.ClassFile.FieldType.boolean), 0, 0)
theorem to_X5_drop : qTo n_X5_drop 1 := ⟨g514, g98, ⟨by decide, by decide, by decide +kernel⟩, by decide⟩
def n_X8_place : qMn := (yX8_place, cX8_place, 1, (some Jvm.ClassFile.FieldType.int), 0, 0)
theorem to_X8_place : qTo n_X8_place 0 := ⟨g703, g97, ⟨by decide, by decide, by decide +kernel⟩, by decide⟩
def n_X8_isThing : qMn := (yX8_isThing, cX8_isThing, 2, (some Jvm.ClassFile.FieldType.boolean), 0, 0)
theorem to_X8_isThing : qTo n_X8_isThing 1 := ⟨g711, g97, ⟨by decide, by decide, by decide +kernel⟩, by decide⟩
def n_X2_clearVars : qMn := (yX2_clearVars, cX2_clearVars, 3, none, 0, 0)
theorem to_X2_clearVars : qTo n_X2_clearVars 1 := ⟨g727, g106, ⟨by decide, by decide, by decide +kernel⟩, by decide⟩
def n_X2_variable : qMn := (yX2_variable, cX2_variable, 2, (some Jvm.ClassFile.FieldType.int), 0, 0)
theorem to_X2_variable : qTo n_X2_variable 1 := ⟨g735, g106, ⟨by decide, by decide, by decide +kernel⟩, by decide⟩
def n_X2_joined : qMn := (yX2_joined, cX2_joined, 3, (some Jvm.ClassFile.FieldType.int), 0, 0)
theorem to_X2_joined : qTo n_X2_joined 3 := ⟨g739, g106, ⟨by decide, by decide, by decide +kernel⟩, by decide⟩
def n_X8_within : qMn := (yX8_within, cX8_within, 3, (some Jvm.ClassFile.FieldType.int), 0, 0)
theorem to_X8_within : qTo n_X8_within 3 := ⟨g742, g97, ⟨by decide, by decide, by decide +kernel⟩, by decide⟩
def n_X2_aim : qMn := (yX2_aim, cX2_aim, 6, none, 0, 0)
theorem to_X2_aim : qTo n_X2_aim 5 := ⟨g752, g106, ⟨by decide, by decide, by decide +kernel⟩, by decide⟩
def n_X8_loanOf : qMn := (yX8_loanOf, cX8_loanOf, 2, (some Jvm.ClassFile.FieldType.int), 0, 0)
theorem to_X8_loanOf : qTo n_X8_loanOf 2 := ⟨g766, g97, ⟨by decide, by decide, by decide +kernel⟩, by decide⟩
def n_X8_isSeat : qMn := (yX8_isSeat, cX8_isSeat, 2, (some Jvm.ClassFile.FieldType.boolean), 0, 0)
theorem to_X8_isSeat : qTo n_X8_isSeat 1 := ⟨g774, g97, ⟨by decide, by decide, by decide +kernel⟩, by decide⟩
def n_X8_isX : qMn := (yX8_isX, cX8_isX, 1, (some Jvm.ClassFile.FieldType.boolean), 0, 0)
theorem to_X8_isX : qTo n_X8_isX 1 := ⟨g807, g97, ⟨by decide, by decide, by decide +kernel⟩, by decide⟩
def n_X4_copy : qMn := (yX4_copy, cX4_copy, 2, none, 0, 0)
theorem to_X4_copy : qTo n_X4_copy 1 := ⟨g843, g107, ⟨by decide, by decide, by decide +kernel⟩, by decide⟩
def n_X4_end : qMn := (yX4_end, cX4_end, 2, none, 0, 0)
theorem to_X4_end : qTo n_X4_end 1 := ⟨g695, g107, ⟨by decide, by decide, by decide +kernel⟩, by decide⟩
def n_X8_isAhead : qMn := (yX8_isAhead, cX8_isAhead, 1, (some Jvm.ClassFile.FieldType.boolean), 0, 0)
theorem to_X8_isAhead : qTo n_X8_isAhead 1 := ⟨g864, g97, ⟨by decide, by decide, by decide +kernel⟩, by decide⟩
def n_X0_stirred : qMn := (yX0_stirred, cX0_stirred, 3, (some Jvm.ClassFile.FieldType.int), 0, 0)
theorem to_X0_stirred : qTo n_X0_stirred 2 := ⟨g878, g105, ⟨by decide, by decide, by decide +kernel⟩, by decide⟩
def n_X7_put : qMn := (yX7_put, cX7_put, 4, (some Jvm.ClassFile.FieldType.int), 0, 0)
theorem to_X7_put : qTo n_X7_put 3 := ⟨g1029, g109, ⟨by decide, by decide, by decide +kernel⟩, by decide⟩
def n_X8_forget : qMn := (yX8_forget, cX8_forget, 2, (some Jvm.ClassFile.FieldType.int), 0, 0)
theorem to_X8_forget : qTo n_X8_forget 0 := ⟨g1033, g97, ⟨by decide, by decide, by decide +kernel⟩, by decide⟩
def n_X8_isKnown : qMn := (yX8_isKnown, cX8_isKnown, 2, (some Jvm.ClassFile.FieldType.boolean), 0, 0)
theorem to_X8_isKnown : qTo n_X8_isKnown 1 := ⟨g1041, g97, ⟨by decide, by decide, by decide +kernel⟩, by decide⟩
def n_X7_xOf : qMn := (yX7_xOf, cX7_xOf, 1, (some Jvm.ClassFile.FieldType.int), 0, 0)
theorem to_X7_xOf : qTo n_X7_xOf 1 := ⟨g1053, g109, ⟨by decide, by decide, by decide +kernel⟩, by decide⟩
def n_X7_tallOf : qMn := (yX7_tallOf, cX7_tallOf, 1, (some Jvm.ClassFile.FieldType.int), 0, 0)
theorem to_X7_tallOf : qTo n_X7_tallOf 1 := ⟨g1056, g109, ⟨by decide, by decide, by decide +kernel⟩, by decide⟩
def n_X3_clear : qMn := (yX3_clear, cX3_clear, 1, none, 0, 0)
theorem to_X3_clear : qTo n_X3_clear 0 := ⟨g699, g108, ⟨by decide, by decide, by decide +kernel⟩, by decide⟩
def n_X4_loans : qMn := (yX4_loans, cX4_loans, 6, (some Jvm.ClassFile.FieldType.int), 0, 0)
theorem to_X4_loans : qTo n_X4_loans 0 := ⟨g1095, g107, ⟨by decide, by decide, by decide +kernel⟩, by decide⟩
def n_X8_sum : qMn := (yX8_sum, cX8_sum, 6, (some Jvm.ClassFile.FieldType.int), 0, 0)
theorem to_X8_sum : qTo n_X8_sum 1 := ⟨g1098, g97, ⟨by decide, by decide, by decide +kernel⟩, by decide⟩
def n_X8_heldSlots : qMn := (yX8_heldSlots, cX8_heldSlots, 3, (some Jvm.ClassFile.FieldType.int), 0, 0)
theorem to_X8_heldSlots : qTo n_X8_heldSlots 0 := ⟨g1102, g97, ⟨by decide, by decide, by decide +kernel⟩, by decide⟩
def n_X1_handOver : qMn := (yX1_handOver, cX1_handOver, 3, (some (Jvm.ClassFile.FieldType.object "MirageLoans$Flat")), 0, 0)
theorem to_X1_handOver : qTo n_X1_handOver 1 := ⟨g679, g99, ⟨by decide, by decide, by decide +kernel⟩, by decide⟩
def n_X8_feed : qMn := (yX8_feed, cX8_feed, 6, (some Jvm.ClassFile.FieldType.int), 0, 0)
theorem to_X8_feed : qTo n_X8_feed 5 := ⟨g498, g97, ⟨by decide, by decide, by decide +kernel⟩, by decide⟩
def n_X8_back : qMn := (yX8_back, cX8_back, 2, (some Jvm.ClassFile.FieldType.int), 0, 0)
theorem to_X8_back : qTo n_X8_back 1 := ⟨g510, g97, ⟨by decide, by decide, by decide +kernel⟩, by decide⟩
def n_X2_reckon : qMn := (yX2_reckon, cX2_reckon, 6, (some Jvm.ClassFile.FieldType.int), 0, 0)
theorem to_X2_reckon : qTo n_X2_reckon 1 := ⟨g731, g106, ⟨by decide, by decide, by decide +kernel⟩, by decide⟩
def n_X8_seatsThatLent : qMn := (yX8_seatsThatLent, cX8_seatsThatLent, 4, (some Jvm.ClassFile.FieldType.int), 0, 0)
theorem to_X8_seatsThatLent : qTo n_X8_seatsThatLent 1 := ⟨g763, g97, ⟨by decide, by decide, by decide +kernel⟩, by decide⟩
def n_X8_thingsLentOn : qMn := (yX8_thingsLentOn, cX8_thingsLentOn, 4, (some Jvm.ClassFile.FieldType.int), 0, 0)
theorem to_X8_thingsLentOn : qTo n_X8_thingsLentOn 1 := ⟨g787, g97, ⟨by decide, by decide, by decide +kernel⟩, by decide⟩
def n_X4_lentBy : qMn := (yX4_lentBy, cX4_lentBy, 4, (some Jvm.ClassFile.FieldType.int), 0, 0)
theorem to_X4_lentBy : qTo n_X4_lentBy 1 := ⟨g791, g107, ⟨by decide, by decide, by decide +kernel⟩, by decide⟩
def n_X8_isPair : qMn := (yX8_isPair, cX8_isPair, 3, (some Jvm.ClassFile.FieldType.boolean), 0, 0)
theorem to_X8_isPair : qTo n_X8_isPair 2 := ⟨g800, g97, ⟨by decide, by decide, by decide +kernel⟩, by decide⟩
def n_X3_push : qMn := (yX3_push, cX3_push, 2, none, 0, 0)
theorem to_X3_push : qTo n_X3_push 1 := ⟨g839, g108, ⟨by decide, by decide, by decide +kernel⟩, by decide⟩
def n_X0_lot : qMn := (yX0_lot, cX0_lot, 3, (some Jvm.ClassFile.FieldType.int), 0, 0)
theorem to_X0_lot : qTo n_X0_lot 2 := ⟨g875, g105, ⟨by decide, by decide, by decide +kernel⟩, by decide⟩
def n_X3_pop : qMn := (yX3_pop, cX3_pop, 2, (some Jvm.ClassFile.FieldType.boolean), 0, 0)
theorem to_X3_pop : qTo n_X3_pop 1 := ⟨g896, g108, ⟨by decide, by decide, by decide +kernel⟩, by decide⟩
def n_X8_titlesClash : qMn := (yX8_titlesClash, cX8_titlesClash, 6, (some Jvm.ClassFile.FieldType.boolean), 0, 0)
theorem to_X8_titlesClash : qTo n_X8_titlesClash 2 := ⟨g922, g97, ⟨by decide, by decide, by decide +kernel⟩, by decide⟩
def n_X4_keepOnly : qMn := (yX4_keepOnly, cX4_keepOnly, 3, none, 0, 0)
theorem to_X4_keepOnly : qTo n_X4_keepOnly 1 := ⟨g691, g107, ⟨by decide, by decide, by decide +kernel⟩, by decide⟩
def n_X8_tell : qMn := (yX8_tell, cX8_tell, 4, (some Jvm.ClassFile.FieldType.int), 0, 0)
theorem to_X8_tell : qTo n_X8_tell 3 := ⟨g1025, g97, ⟨by decide, by decide, by decide +kernel⟩, by decide⟩
def n_X7_common : qMn := (yX7_common, cX7_common, 5, (some Jvm.ClassFile.FieldType.int), 0, 0)
theorem to_X7_common : qTo n_X7_common 1 := ⟨g1066, g109, ⟨by decide, by decide, by decide +kernel⟩, by decide⟩
def n_X8_hold : qMn := (yX8_hold, cX8_hold, 2, (some Jvm.ClassFile.FieldType.boolean), 0, 0)
theorem to_X8_hold : qTo n_X8_hold 1 := ⟨g1083, g97, ⟨by decide, by decide, by decide +kernel⟩, by decide⟩
def n_X8_restore : qMn := (yX8_restore, cX8_restore, 2, (some Jvm.ClassFile.FieldType.boolean), 0, 0)
theorem to_X8_restore : qTo n_X8_restore 1 := ⟨g1087, g97, ⟨by decide, by decide, by decide +kernel⟩, by decide⟩
def n_X2_heat : qMn := (yX2_heat, cX2_heat, 2, (some Jvm.ClassFile.FieldType.int), 0, 0)
theorem to_X2_heat : qTo n_X2_heat 1 := ⟨g723, g106, ⟨by decide, by decide, by decide +kernel⟩, by decide⟩
def n_X2_isSeen : qMn := (yX2_isSeen, cX2_isSeen, 1, (some Jvm.ClassFile.FieldType.boolean), 0, 0)
theorem to_X2_isSeen : qTo n_X2_isSeen 0 := ⟨g759, g106, ⟨by decide, by decide, by decide +kernel⟩, by decide⟩
def n_X8_loan : qMn := (yX8_loan, cX8_loan, 5, (some Jvm.ClassFile.FieldType.int), 0, 0)
theorem to_X8_loan : qTo n_X8_loan 3 := ⟨g796, g97, ⟨by decide, by decide, by decide +kernel⟩, by decide⟩
def n_X2_moved : qMn := (yX2_moved, cX2_moved, 1, (some Jvm.ClassFile.FieldType.int), 0, 0)
theorem to_X2_moved : qTo n_X2_moved 0 := ⟨g815, g106, ⟨by decide, by decide, by decide +kernel⟩, by decide⟩
def n_X2_rent : qMn := (yX2_rent, cX2_rent, 2, (some Jvm.ClassFile.FieldType.int), 0, 0)
theorem to_X2_rent : qTo n_X2_rent 1 := ⟨g823, g106, ⟨by decide, by decide, by decide +kernel⟩, by decide⟩
def n_X2_interest : qMn := (yX2_interest, cX2_interest, 4, (some Jvm.ClassFile.FieldType.int), 0, 0)
theorem to_X2_interest : qTo n_X2_interest 3 := ⟨g827, g106, ⟨by decide, by decide, by decide +kernel⟩, by decide⟩
def n_X8_move : qMn := (yX8_move, cX8_move, 3, (some Jvm.ClassFile.FieldType.boolean), 0, 0)
theorem to_X8_move : qTo n_X8_move 2 := ⟨g857, g97, ⟨by decide, by decide, by decide +kernel⟩, by decide⟩
def n_X0_isWind : qMn := (yX0_isWind, cX0_isWind, 3, (some Jvm.ClassFile.FieldType.boolean), 0, 0)
theorem to_X0_isWind : qTo n_X0_isWind 3 := ⟨g872, g105, ⟨by decide, by decide, by decide +kernel⟩, by decide⟩
def n_X8_undo : qMn := (yX8_undo, cX8_undo, 1, (some Jvm.ClassFile.FieldType.boolean), 0, 0)
theorem to_X8_undo : qTo n_X8_undo 0 := ⟨g892, g97, ⟨by decide, by decide, by decide +kernel⟩, by decide⟩
def n_X4_wealth : qMn := (yX4_wealth, cX4_wealth, 2, (some Jvm.ClassFile.FieldType.int), 0, 0)
theorem to_X4_wealth : qTo n_X4_wealth 1 := ⟨g960, g107, ⟨by decide, by decide, by decide +kernel⟩, by decide⟩
def n_X4_begin : qMn := (yX4_begin, cX4_begin, 3, none, 0, 0)
theorem to_X4_begin : qTo n_X4_begin 1 := ⟨g687, g107, ⟨by decide, by decide, by decide +kernel⟩, by decide⟩
def n_X0_heat : qMn := (yX0_heat, cX0_heat, 2, (some Jvm.ClassFile.FieldType.int), 0, 0)
theorem to_X0_heat : qTo n_X0_heat 1 := ⟨g719, g105, ⟨by decide, by decide, by decide +kernel⟩, by decide⟩
def n_X0_isSeenFrom : qMn := (yX0_isSeenFrom, cX0_isSeenFrom, 5, (some Jvm.ClassFile.FieldType.boolean), 0, 0)
theorem to_X0_isSeenFrom : qTo n_X0_isSeenFrom 4 := ⟨g748, g105, ⟨by decide, by decide, by decide +kernel⟩, by decide⟩
def n_X0_movedFrom : qMn := (yX0_movedFrom, cX0_movedFrom, 5, (some Jvm.ClassFile.FieldType.int), 0, 0)
theorem to_X0_movedFrom : qTo n_X0_movedFrom 4 := ⟨g811, g105, ⟨by decide, by decide, by decide +kernel⟩, by decide⟩
def n_X0_rentFrom : qMn := (yX0_rentFrom, cX0_rentFrom, 6, (some Jvm.ClassFile.FieldType.int), 0, 0)
theorem to_X0_rentFrom : qTo n_X0_rentFrom 5 := ⟨g819, g105, ⟨by decide, by decide, by decide +kernel⟩, by decide⟩
def n_X0_passLoan : qMn := (yX0_passLoan, cX0_passLoan, 9, none, 0, 0)
theorem to_X0_passLoan : qTo n_X0_passLoan 5 := ⟨g883, g105, ⟨by decide, by decide, by decide +kernel⟩, by decide⟩
def n_X2_spot : qMn := (yX2_spot, cX2_spot, 2, (some Jvm.ClassFile.FieldType.int), 0, 0)
theorem to_X2_spot : qTo n_X2_spot 0 := ⟨g908, g106, ⟨by decide, by decide, by decide +kernel⟩, by decide⟩
def n_X8_beginAnew : qMn := (yX8_beginAnew, cX8_beginAnew, 2, none, 0, 0)
theorem to_X8_beginAnew : qTo n_X8_beginAnew 0 := ⟨g683, g97, ⟨by decide, by decide, by decide +kernel⟩, by decide⟩
def n_X8_seatsThatSee : qMn := (yX8_seatsThatSee, cX8_seatsThatSee, 5, (some Jvm.ClassFile.FieldType.int), 0, 0)
theorem to_X8_seatsThatSee : qTo n_X8_seatsThatSee 1 := ⟨g715, g97, ⟨by decide, by decide, by decide +kernel⟩, by decide⟩
def n_X0_thingsSeenFrom : qMn := (yX0_thingsSeenFrom, cX0_thingsSeenFrom, 6, (some Jvm.ClassFile.FieldType.int), 0, 0)
theorem to_X0_thingsSeenFrom : qTo n_X0_thingsSeenFrom 3 := ⟨g782, g105, ⟨by decide, by decide, by decide +kernel⟩, by decide⟩
def n_X8_tells : qMn := (yX8_tells, cX8_tells, 8, (some Jvm.ClassFile.FieldType.int), 0, 0)
theorem to_X8_tells : qTo n_X8_tells 4 := ⟨g804, g97, ⟨by decide, by decide, by decide +kernel⟩, by decide⟩
def n_X8_seesNow : qMn := (yX8_seesNow, cX8_seesNow, 3, (some Jvm.ClassFile.FieldType.boolean), 0, 0)
theorem to_X8_seesNow : qTo n_X8_seesNow 2 := ⟨g835, g97, ⟨by decide, by decide, by decide +kernel⟩, by decide⟩
def n_X0_pass : qMn := (yX0_pass, cX0_pass, 10, none, 0, 0)
theorem to_X0_pass : qTo n_X0_pass 4 := ⟨g868, g105, ⟨by decide, by decide, by decide +kernel⟩, by decide⟩
def n_X0_spotFrom : qMn := (yX0_spotFrom, cX0_spotFrom, 5, (some Jvm.ClassFile.FieldType.int), 0, 0)
theorem to_X0_spotFrom : qTo n_X0_spotFrom 4 := ⟨g904, g105, ⟨by decide, by decide, by decide +kernel⟩, by decide⟩
def n_X8_dawns : qMn := (yX8_dawns, cX8_dawns, 5, (some Jvm.ClassFile.FieldType.int), 0, 0)
theorem to_X8_dawns : qTo n_X8_dawns 2 := ⟨g938, g97, ⟨by decide, by decide, by decide +kernel⟩, by decide⟩
def n_X8_unseenOf : qMn := (yX8_unseenOf, cX8_unseenOf, 8, (some Jvm.ClassFile.FieldType.int), 0, 0)
theorem to_X8_unseenOf : qTo n_X8_unseenOf 3 := ⟨g998, g97, ⟨by decide, by decide, by decide +kernel⟩, by decide⟩
def n_X8_heatIn : qMn := (yX8_heatIn, cX8_heatIn, 2, (some Jvm.ClassFile.FieldType.int), 0, 0)
theorem to_X8_heatIn : qTo n_X8_heatIn 1 := ⟨g1013, g97, ⟨by decide, by decide, by decide +kernel⟩, by decide⟩
def n_X7_isSo : qMn := (yX7_isSo, cX7_isSo, 5, (some Jvm.ClassFile.FieldType.boolean), 0, 0)
theorem to_X7_isSo : qTo n_X7_isSo 4 := ⟨g1050, g109, ⟨by decide, by decide, by decide +kernel⟩, by decide⟩
def n_X7_worstLeft : qMn := (yX7_worstLeft, cX7_worstLeft, 8, (some Jvm.ClassFile.FieldType.int), 0, 0)
theorem to_X7_worstLeft : qTo n_X7_worstLeft 4 := ⟨g1078, g109, ⟨by decide, by decide, by decide +kernel⟩, by decide⟩
def n_X8_thing : qMn := (yX8_thing, cX8_thing, 3, (some Jvm.ClassFile.FieldType.int), 0, 0)
theorem to_X8_thing : qTo n_X8_thing 2 := ⟨g707, g97, ⟨by decide, by decide, by decide +kernel⟩, by decide⟩
def n_X8_thingsSeenFrom : qMn := (yX8_thingsSeenFrom, cX8_thingsSeenFrom, 3, (some Jvm.ClassFile.FieldType.int), 0, 0)
theorem to_X8_thingsSeenFrom : qTo n_X8_thingsSeenFrom 2 := ⟨g778, g97, ⟨by decide, by decide, by decide +kernel⟩, by decide⟩
def n_X8_lend : qMn := (yX8_lend, cX8_lend, 5, (some Jvm.ClassFile.FieldType.int), 0, 0)
theorem to_X8_lend : qTo n_X8_lend 3 := ⟨g831, g97, ⟨by decide, by decide, by decide +kernel⟩, by decide⟩
def n_X8_call : qMn := (yX8_call, cX8_call, 5, (some Jvm.ClassFile.FieldType.int), 0, 0)
theorem to_X8_call : qTo n_X8_call 2 := ⟨g851, g97, ⟨by decide, by decide, by decide +kernel⟩, by decide⟩
def n_X8_hours : qMn := (yX8_hours, cX8_hours, 2, (some Jvm.ClassFile.FieldType.int), 0, 0)
theorem to_X8_hours : qTo n_X8_hours 1 := ⟨g861, g97, ⟨by decide, by decide, by decide +kernel⟩, by decide⟩
def n_X8_sight : qMn := (yX8_sight, cX8_sight, 6, (some Jvm.ClassFile.FieldType.int), 0, 0)
theorem to_X8_sight : qTo n_X8_sight 3 := ⟨g900, g97, ⟨by decide, by decide, by decide +kernel⟩, by decide⟩
def n_X8_findSpotsLentOn : qMn := (yX8_findSpotsLentOn, cX8_findSpotsLentOn, 5, none, 0, 0)
theorem to_X8_findSpotsLentOn : qTo n_X8_findSpotsLentOn 0 := ⟨g918, g97, ⟨by decide, by decide, by decide +kernel⟩, by decide⟩
def n_X8_near : qMn := (yX8_near, cX8_near, 8, (some Jvm.ClassFile.FieldType.int), 0, 0)
theorem to_X8_near : qTo n_X8_near 2 := ⟨g942, g97, ⟨by decide, by decide, by decide +kernel⟩, by decide⟩
def n_X8_crowd : qMn := (yX8_crowd, cX8_crowd, 6, (some Jvm.ClassFile.FieldType.int), 0, 0)
theorem to_X8_crowd : qTo n_X8_crowd 1 := ⟨g947, g97, ⟨by decide, by decide, by decide +kernel⟩, by decide⟩
def n_X8_goAhead : qMn := (yX8_goAhead, cX8_goAhead, 2, none, 0, 0)
theorem to_X8_goAhead : qTo n_X8_goAhead 1 := ⟨g955, g97, ⟨by decide, by decide, by decide +kernel⟩, by decide⟩
def n_X8_worth : qMn := (yX8_worth, cX8_worth, 7, (some Jvm.ClassFile.FieldType.int), 0, 0)
theorem to_X8_worth : qTo n_X8_worth 4 := ⟨g984, g97, ⟨by decide, by decide, by decide +kernel⟩, by decide⟩
def n_X8_hidden : qMn := (yX8_hidden, cX8_hidden, 7, (some Jvm.ClassFile.FieldType.int), 0, 0)
theorem to_X8_hidden : qTo n_X8_hidden 3 := ⟨g994, g97, ⟨by decide, by decide, by decide +kernel⟩, by decide⟩
def n_X8_thingsSeen : qMn := (yX8_thingsSeen, cX8_thingsSeen, 5, (some Jvm.ClassFile.FieldType.int), 0, 0)
theorem to_X8_thingsSeen : qTo n_X8_thingsSeen 1 := ⟨g1009, g97, ⟨by decide, by decide, by decide +kernel⟩, by decide⟩
def n_X8_lentIn : qMn := (yX8_lentIn, cX8_lentIn, 5, (some Jvm.ClassFile.FieldType.int), 0, 0)
theorem to_X8_lentIn : qTo n_X8_lentIn 3 := ⟨g1017, g97, ⟨by decide, by decide, by decide +kernel⟩, by decide⟩
def n_X8_year : qMn := (yX8_year, cX8_year, 8, (some Jvm.ClassFile.FieldType.int), 0, 0)
theorem to_X8_year : qTo n_X8_year 4 := ⟨g1021, g97, ⟨by decide, by decide, by decide +kernel⟩, by decide⟩
def n_X7_sift : qMn := (yX7_sift, cX7_sift, 7, (some Jvm.ClassFile.FieldType.int), 0, 0)
theorem to_X7_sift : qTo n_X7_sift 2 := ⟨g1045, g109, ⟨by decide, by decide, by decide +kernel⟩, by decide⟩
def n_X7_lookFrom : qMn := (yX7_lookFrom, cX7_lookFrom, 8, (some Jvm.ClassFile.FieldType.int), 0, 0)
theorem to_X7_lookFrom : qTo n_X7_lookFrom 2 := ⟨g1074, g109, ⟨by decide, by decide, by decide +kernel⟩, by decide⟩
def n_X8_seat : qMn := (yX8_seat, cX8_seat, 3, (some Jvm.ClassFile.FieldType.int), 0, 0)
theorem to_X8_seat : qTo n_X8_seat 2 := ⟨g770, g97, ⟨by decide, by decide, by decide +kernel⟩, by decide⟩
def n_X8_clash : qMn := (yX8_clash, cX8_clash, 6, (some Jvm.ClassFile.FieldType.int), 0, 0)
theorem to_X8_clash : qTo n_X8_clash 1 := ⟨g914, g97, ⟨by decide, by decide, by decide +kernel⟩, by decide⟩
def n_X8_rich : qMn := (yX8_rich, cX8_rich, 5, (some Jvm.ClassFile.FieldType.int), 0, 0)
theorem to_X8_rich : qTo n_X8_rich 2 := ⟨g951, g97, ⟨by decide, by decide, by decide +kernel⟩, by decide⟩
def n_X8_book : qMn := (yX8_book, cX8_book, 3, (some Jvm.ClassFile.FieldType.int), 0, 0)
theorem to_X8_book : qTo n_X8_book 2 := ⟨g990, g97, ⟨by decide, by decide, by decide +kernel⟩, by decide⟩
def n_X8_cool : qMn := (yX8_cool, cX8_cool, 2, (some Jvm.ClassFile.FieldType.int), 0, 0)
theorem to_X8_cool : qTo n_X8_cool 0 := ⟨g1005, g97, ⟨by decide, by decide, by decide +kernel⟩, by decide⟩
def n_X8_stands : qMn := (yX8_stands, cX8_stands, 2, (some Jvm.ClassFile.FieldType.int), 0, 0)
theorem to_X8_stands : qTo n_X8_stands 1 := ⟨g1037, g97, ⟨by decide, by decide, by decide +kernel⟩, by decide⟩
def n_X8_sure : qMn := (yX8_sure, cX8_sure, 3, (some Jvm.ClassFile.FieldType.int), 0, 0)
theorem to_X8_sure : qTo n_X8_sure 2 := ⟨g1062, g97, ⟨by decide, by decide, by decide +kernel⟩, by decide⟩
def n_X8_look : qMn := (yX8_look, cX8_look, 3, (some Jvm.ClassFile.FieldType.int), 0, 0)
theorem to_X8_look : qTo n_X8_look 2 := ⟨g1070, g97, ⟨by decide, by decide, by decide +kernel⟩, by decide⟩
def n_X8_count : qMn := (yX8_count, cX8_count, 2, (some Jvm.ClassFile.FieldType.int), 0, 0)
theorem to_X8_count : qTo n_X8_count 1 := ⟨g1091, g97, ⟨by decide, by decide, by decide +kernel⟩, by decide⟩
def n_X9_bits : qMn := (yX9_bits, cX9_bits, 3, (some Jvm.ClassFile.FieldType.int), 0, 0)
theorem to_X9_bits : qTo n_X9_bits 1 := ⟨g1635, g110, ⟨by decide, by decide, by decide +kernel⟩, by decide⟩
def n_J6_bitCount_0f7a4 : qMn := (yJ6_bitCount_0f7a4, cJ6_bitCount_0f7a4, 1, (some Jvm.ClassFile.FieldType.int), 0, 0)
theorem to_J6_bitCount_0f7a4 : qTo n_J6_bitCount_0f7a4 1 := ⟨g972, g114, ⟨by decide, by decide, by decide +kernel⟩, by decide⟩
def n_X8_nextPitch : qMn := (yX8_nextPitch, cX8_nextPitch, 4, (some Jvm.ClassFile.FieldType.boolean), 0, 0)
theorem to_X8_nextPitch : qTo n_X8_nextPitch 1 := ⟨g980, g97, ⟨by decide, by decide, by decide +kernel⟩, by decide⟩
def n_X9_tries : qMn := (yX9_tries, cX9_tries, 6, none, 0, 0)
theorem to_X9_tries : qTo n_X9_tries 4 := ⟨g1632, g110, ⟨by decide, by decide, by decide +kernel⟩, by decide⟩
def n_X8_longFrom : qMn := (yX8_longFrom, cX8_longFrom, 6, (some Jvm.ClassFile.FieldType.int), 0, 0)
theorem to_X8_longFrom : qTo n_X8_longFrom 3 := ⟨g926, g97, ⟨by decide, by decide, by decide +kernel⟩, by decide⟩
def n_X8_tallySeenHours : qMn := (yX8_tallySeenHours, cX8_tallySeenHours, 6, none, 0, 0)
theorem to_X8_tallySeenHours : qTo n_X8_tallySeenHours 2 := ⟨g934, g97, ⟨by decide, by decide, by decide +kernel⟩, by decide⟩
def n_X5_init : qMn := (yX5_init, cX5_init, 1, none, 1, 2000)
theorem to_X5_init : qTo n_X5_init 0 := ⟨g127, g98, ⟨by decide, by decide, by decide +kernel⟩, by decide⟩
def n_J3_checkIndex_8e157 : qMn := (yJ3_checkIndex_8e157, cJ3_checkIndex_8e157, 3, (some Jvm.ClassFile.FieldType.int), 0, 0)
theorem to_J3_checkIndex_8e157 : qTo n_J3_checkIndex_8e157 3 := ⟨g180, g103, ⟨by decide, by decide, by decide +kernel⟩, by decide⟩
def n_J0_checkIndex_df160 : qMn := (yJ0_checkIndex_df160, cJ0_checkIndex_df160, 2, none, 0, 0)
theorem to_J0_checkIndex_df160 : qTo n_J0_checkIndex_df160 2 := ⟨g175, g101, ⟨by decide, by decide, by decide +kernel⟩, by decide⟩
def n_J1_charAt_3b067 : qMn := (yJ1_charAt_3b067, cJ1_charAt_3b067, 2, (some Jvm.ClassFile.FieldType.char), 0, 0)
theorem to_J1_charAt_3b067 : qTo n_J1_charAt_3b067 2 := ⟨g172, g102, ⟨by decide, by decide, by decide +kernel⟩, by decide⟩
def n_J0_charAt_5068e : qMn := (yJ0_charAt_5068e, cJ0_charAt_5068e, 2, (some Jvm.ClassFile.FieldType.char), 0, 0)
theorem to_J0_charAt_5068e : qTo n_J0_charAt_5068e 1 := ⟨g165, g101, ⟨by decide, by decide, by decide +kernel⟩, by decide⟩
def n_X6_init : qMn := (yX6_init, cX6_init, 6, none, 4, 1226)
theorem to_X6_init : qTo n_X6_init 0 := ⟨g149, g100, ⟨by decide, by decide, by decide +kernel⟩, by decide⟩
def n_X2_init : qMn := (yX2_init, cX2_init, 1, none, 5, 874)
theorem to_X2_init : qTo n_X2_init 0 := ⟨g235, g106, ⟨by decide, by decide, by decide +kernel⟩, by decide⟩
def n_X0_init : qMn := (yX0_init, cX0_init, 1, none, 11, 916)
theorem to_X0_init : qTo n_X0_init 0 := ⟨g229, g105, ⟨by decide, by decide, by decide +kernel⟩, by decide⟩
def n_X1_init : qMn := (yX1_init, cX1_init, 1, none, 17, 2160)
theorem to_X1_init : qTo n_X1_init 0 := ⟨g143, g99, ⟨by decide, by decide, by decide +kernel⟩, by decide⟩
def n_X4_init : qMn := (yX4_init, cX4_init, 1, none, 6, 96)
theorem to_X4_init : qTo n_X4_init 0 := ⟨g365, g107, ⟨by decide, by decide, by decide +kernel⟩, by decide⟩
def n_X3_init : qMn := (yX3_init, cX3_init, 2, none, 211, 3120)
theorem to_X3_init : qTo n_X3_init 0 := ⟨g407, g108, ⟨by decide, by decide, by decide +kernel⟩, by decide⟩
def n_X7_init : qMn := (yX7_init, cX7_init, 1, none, 5, 261)
theorem to_X7_init : qTo n_X7_init 0 := ⟨g427, g109, ⟨by decide, by decide, by decide +kernel⟩, by decide⟩
def n_X8_init : qMn := (yX8_init, cX8_init, 2, none, 291, 9072)
theorem to_X8_init : qTo n_X8_init 0 := ⟨g119, g97, ⟨by decide, by decide, by decide +kernel⟩, by decide⟩
def n_X9_word : qMn := (yX9_word, cX9_word, 7, (some Jvm.ClassFile.FieldType.long), 0, 0)
theorem to_X9_word : qTo n_X9_word 7 := ⟨g1116, g110, ⟨by decide, by decide, by decide +kernel⟩, by decide⟩
def n_X9_init : qMn := (yX9_init, cX9_init, 1, none, 43, 13125)
theorem to_X9_init : qTo n_X9_init 0 := ⟨g1108, g110, ⟨by decide, by decide, by decide +kernel⟩, by decide⟩
def n_X8_best : qMn := (yX8_best, cX8_best, 6, (some Jvm.ClassFile.FieldType.int), 0, 0)
theorem to_X8_best : qTo n_X8_best 3 := ⟨g930, g97, ⟨by decide, by decide, by decide +kernel⟩, by decide⟩
def n_X9_fillsSeen : qMn := (yX9_fillsSeen, cX9_fillsSeen, 3, none, 0, 0)
theorem to_X9_fillsSeen : qTo n_X9_fillsSeen 0 := ⟨g1628, g110, ⟨by decide, by decide, by decide +kernel⟩, by decide⟩
def n_X8_pitchUmbrellas : qMn := (yX8_pitchUmbrellas, cX8_pitchUmbrellas, 8, (some Jvm.ClassFile.FieldType.int), 0, 0)
theorem to_X8_pitchUmbrellas : qTo n_X8_pitchUmbrellas 1 := ⟨g969, g97, ⟨by decide, by decide, by decide +kernel⟩, by decide⟩
def n_X9_umbrellas : qMn := (yX9_umbrellas, cX9_umbrellas, 6, (some Jvm.ClassFile.FieldType.int), 0, 0)
theorem to_X9_umbrellas : qTo n_X9_umbrellas 2 := ⟨g1624, g110, ⟨by decide, by decide, by decide +kernel⟩, by decide⟩
def n_X8_umbrellas : qMn := (yX8_umbrellas, cX8_umbrellas, 4, (some Jvm.ClassFile.FieldType.int), 0, 0)
theorem to_X8_umbrellas : qTo n_X8_umbrellas 2 := ⟨g965, g97, ⟨by decide, by decide, by decide +kernel⟩, by decide⟩
