theorem g31 : Cond.selects "MirageLoans" yX8_tallySeenHours yX8_tallySeenHours ∈ gw := gw_at 31 (by decide +kernel) (by decide +kernel)
theorem g33 : Cond.selects "MirageLoans" yX8_pitchUmbrellas yX8_pitchUmbrellas ∈ gw := gw_at 33 (by decide +kernel) (by decide +kernel)
theorem g34 : Cond.selects "MirageLoans" yX8_nextPitch yX8_nextPitch ∈ gw := gw_at 34 (by decide +kernel) (by decide +kernel)
theorem g91 : Cond.selects "MirageLoansModel" yX9_fillsSeen yX9_fillsSeen ∈ gw := gw_at 91 (by decide +kernel) (by decide +kernel)
theorem g92 : Cond.selects "MirageLoansModel" yX9_tries yX9_tries ∈ gw := gw_at 92 (by decide +kernel) (by decide +kernel)
theorem g114 : Cond.initialized "java/lang/Integer" ∈ gw := gw_at 114 (by decide +kernel) (by decide +kernel)
theorem g460 : Cond.fieldLink "MirageLoans" 55 "MirageLoans" "tally" "[I" ∈ gw := gw_at 460 (by decide +kernel) (by decide +kernel)
theorem g462 : Cond.fieldLink "MirageLoans" 62 "MirageLoans" "pitch" "[I" ∈ gw := gw_at 462 (by decide +kernel) (by decide +kernel)
theorem g463 : Cond.fieldLink "MirageLoans" 65 "MirageLoans" "bestPitch" "[I" ∈ gw := gw_at 463 (by decide +kernel) (by decide +kernel)
set_option maxRecDepth 100000 in
theorem g926 : Cond.code yX8_longFrom prog_1_method_20_code 6 (some Jvm.ClassFile.FieldType.int) ∈ gw := gw_at 926 rfl (by decide +kernel)
set_option maxRecDepth 100000 in
theorem g930 : Cond.code yX8_best prog_1_method_21_code 6 (some Jvm.ClassFile.FieldType.int) ∈ gw := gw_at 930 rfl (by decide +kernel)
theorem g931 : Cond.methodLink "MirageLoans" 243 yX8_tallySeenHours ∈ gw := gw_at 931 (by decide +kernel) (by decide +kernel)
theorem g933 : Cond.instanceMethod yX8_tallySeenHours ∈ gw := gw_at 933 (by decide +kernel) (by decide +kernel)
set_option maxRecDepth 100000 in
theorem g934 : Cond.code yX8_tallySeenHours prog_1_method_22_code 6 none ∈ gw := gw_at 934 rfl (by decide +kernel)
set_option maxRecDepth 100000 in
theorem g965 : Cond.code yX8_umbrellas prog_1_method_28_code 4 (some Jvm.ClassFile.FieldType.int) ∈ gw := gw_at 965 rfl (by decide +kernel)
theorem g966 : Cond.methodLink "MirageLoans" 261 yX8_pitchUmbrellas ∈ gw := gw_at 966 (by decide +kernel) (by decide +kernel)
theorem g968 : Cond.instanceMethod yX8_pitchUmbrellas ∈ gw := gw_at 968 (by decide +kernel) (by decide +kernel)
set_option maxRecDepth 100000 in
theorem g969 : Cond.code yX8_pitchUmbrellas prog_1_method_29_code 8 (some Jvm.ClassFile.FieldType.int) ∈ gw := gw_at 969 rfl (by decide +kernel)
theorem g970 : Cond.methodLink "MirageLoans" 264 yJ6_bitCount_0f7a4 ∈ gw := gw_at 970 (by decide +kernel) (by decide +kernel)
theorem g971 : Cond.static yJ6_bitCount_0f7a4 ∈ gw := gw_at 971 (by decide +kernel) (by decide +kernel)
set_option maxRecDepth 100000 in
theorem g972 : Cond.code yJ6_bitCount_0f7a4 prog_13_method_49_code 1 (some Jvm.ClassFile.FieldType.int) ∈ gw := gw_at 972 rfl (by decide +kernel)
theorem g973 : Cond.constant "java/lang/Integer" 265 (1431655765 : Int32) ∈ gw := gw_at 973 (by decide +kernel) (by decide +kernel)
theorem g974 : Cond.constant "java/lang/Integer" 266 (858993459 : Int32) ∈ gw := gw_at 974 (by decide +kernel) (by decide +kernel)
theorem g975 : Cond.constant "java/lang/Integer" 267 (252645135 : Int32) ∈ gw := gw_at 975 (by decide +kernel) (by decide +kernel)
theorem g976 : Cond.methodLink "MirageLoans" 269 arraycopyName ∈ gw := gw_at 976 (by decide +kernel) (by decide +kernel)
theorem g977 : Cond.methodLink "MirageLoans" 275 yX8_nextPitch ∈ gw := gw_at 977 (by decide +kernel) (by decide +kernel)
theorem g979 : Cond.instanceMethod yX8_nextPitch ∈ gw := gw_at 979 (by decide +kernel) (by decide +kernel)
set_option maxRecDepth 100000 in
theorem g980 : Cond.code yX8_nextPitch prog_1_method_30_code 4 (some Jvm.ClassFile.FieldType.boolean) ∈ gw := gw_at 980 rfl (by decide +kernel)
theorem g1181 : Cond.fieldLink "MirageLoansModel" 119 "MirageLoansModel" "seenFrom" "[I" ∈ gw := gw_at 1181 (by decide +kernel) (by decide +kernel)
theorem g1182 : Cond.fieldLink "MirageLoansModel" 122 "MirageLoansModel" "umbrellaAt" "[I" ∈ gw := gw_at 1182 (by decide +kernel) (by decide +kernel)
theorem g1183 : Cond.fieldLink "MirageLoansModel" 415 "MirageLoansModel" "umbrellaMost" "I" ∈ gw := gw_at 1183 (by decide +kernel) (by decide +kernel)
set_option maxRecDepth 100000 in
theorem g1624 : Cond.code yX9_umbrellas prog_11_method_87_code 6 (some Jvm.ClassFile.FieldType.int) ∈ gw := gw_at 1624 rfl (by decide +kernel)
theorem g1625 : Cond.methodLink "MirageLoansModel" 418 yX9_fillsSeen ∈ gw := gw_at 1625 (by decide +kernel) (by decide +kernel)
theorem g1627 : Cond.instanceMethod yX9_fillsSeen ∈ gw := gw_at 1627 (by decide +kernel) (by decide +kernel)
set_option maxRecDepth 100000 in
theorem g1628 : Cond.code yX9_fillsSeen prog_11_method_85_code 3 none ∈ gw := gw_at 1628 rfl (by decide +kernel)
theorem g1629 : Cond.methodLink "MirageLoansModel" 421 yX9_tries ∈ gw := gw_at 1629 (by decide +kernel) (by decide +kernel)
theorem g1631 : Cond.instanceMethod yX9_tries ∈ gw := gw_at 1631 (by decide +kernel) (by decide +kernel)
set_option maxRecDepth 100000 in
theorem g1632 : Cond.code yX9_tries prog_11_method_86_code 6 none ∈ gw := gw_at 1632 rfl (by decide +kernel)
theorem g1633 : Cond.methodLink "MirageLoansModel" 412 yX9_bits ∈ gw := gw_at 1633 (by decide +kernel) (by decide +kernel)
theorem g1634 : Cond.static yX9_bits ∈ gw := gw_at 1634 (by decide +kernel) (by decide +kernel)
set_option maxRecDepth 100000 in
theorem g1635 : Cond.code yX9_bits prog_11_method_37_code 3 (some Jvm.ClassFile.FieldType.int) ∈ gw := gw_at 1635 rfl (by decide +kernel)
def zk121 : Nat := 53919893359409686643416379304542508478680847812388732209940456931434
def zk122 : Nat := 53919893359409686643416379304542508478680847812388732209940456800362
def zk123 : Nat := 27670116106269491312
def zk124 : Nat := 27670116106269360240
def zk125 : Nat := 37662610406474078034711971967035618231138265851374963130474
def zk126 : Nat := 37662610406474078034711971967035618231138265851374962999402
