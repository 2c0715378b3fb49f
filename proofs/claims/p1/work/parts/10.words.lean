theorem zj {l : Launch} {G : qG} {gh : zGh} {d : Nat} {K : zKr} {M : qMn} {p q : Nat} {f : zK} (h : zS l G gh d K M p f) (e : p = q) : zS l G gh d K M q f := e ▸ h
def zdec (c : ByteArray) (pc : Nat) (i : Instr) (n : Nat) : Bool := decide (decode c pc = .ok (i, n))
theorem zd {c : ByteArray} {pc : Nat} {i : Instr} {n : Nat} (h : zdec c pc i n = true) : decode c pc = .ok (i, n) := of_decide_eq_true h
theorem g0 : Cond.selects "MirageLoans$Laws" yX2_openWithVar yX2_openWithVar ∈ gw := gw_at 0 (by decide +kernel) (by decide +kernel)
theorem g1 : Cond.selects "MirageLoans$Tokens" yX6_skipBlanks yX6_skipBlanks ∈ gw := gw_at 1 (by decide +kernel) (by decide +kernel)
theorem g16 : Cond.selects "MirageLoans" yX8_beginAnew yX8_beginAnew ∈ gw := gw_at 16 (by decide +kernel) (by decide +kernel)
theorem g17 : Cond.selects "MirageLoans" yX8_isThing yX8_isThing ∈ gw := gw_at 17 (by decide +kernel) (by decide +kernel)
theorem g19 : Cond.selects "MirageLoans$Laws" yX2_clearVars yX2_clearVars ∈ gw := gw_at 19 (by decide +kernel) (by decide +kernel)
theorem g20 : Cond.selects "MirageLoans$Laws" yX2_reckon yX2_reckon ∈ gw := gw_at 20 (by decide +kernel) (by decide +kernel)
theorem g21 : Cond.selects "MirageLoans$Laws" yX2_variable yX2_variable ∈ gw := gw_at 21 (by decide +kernel) (by decide +kernel)
theorem g23 : Cond.selects "MirageLoans" yX8_isSeat yX8_isSeat ∈ gw := gw_at 23 (by decide +kernel) (by decide +kernel)
theorem g24 : Cond.selects "MirageLoans" yX8_thingsSeenFrom yX8_thingsSeenFrom ∈ gw := gw_at 24 (by decide +kernel) (by decide +kernel)
theorem g26 : Cond.selects "MirageLoans" yX8_isPair yX8_isPair ∈ gw := gw_at 26 (by decide +kernel) (by decide +kernel)
theorem g29 : Cond.selects "MirageLoans" yX8_findSpotsLentOn yX8_findSpotsLentOn ∈ gw := gw_at 29 (by decide +kernel) (by decide +kernel)
theorem g33 : Cond.selects "MirageLoans" yX8_pitchUmbrellas yX8_pitchUmbrellas ∈ gw := gw_at 33 (by decide +kernel) (by decide +kernel)
theorem g34 : Cond.selects "MirageLoans" yX8_nextPitch yX8_nextPitch ∈ gw := gw_at 34 (by decide +kernel) (by decide +kernel)
theorem g35 : Cond.selects "MirageLoans" yX8_unseenOf yX8_unseenOf ∈ gw := gw_at 35 (by decide +kernel) (by decide +kernel)
theorem g36 : Cond.selects "MirageLoans" yX8_thingsSeen yX8_thingsSeen ∈ gw := gw_at 36 (by decide +kernel) (by decide +kernel)
theorem g37 : Cond.selects "MirageLoans" yX8_isKnown yX8_isKnown ∈ gw := gw_at 37 (by decide +kernel) (by decide +kernel)
theorem g39 : Cond.selects "MirageLoans$Told" yX7_worstLeft yX7_worstLeft ∈ gw := gw_at 39 (by decide +kernel) (by decide +kernel)
theorem g40 : Cond.selects "MirageLoans" yX8_heldSlots yX8_heldSlots ∈ gw := gw_at 40 (by decide +kernel) (by decide +kernel)
theorem g41 : Cond.selects "MirageLoansModel" yX9_plain yX9_plain ∈ gw := gw_at 41 (by decide +kernel) (by decide +kernel)
theorem g42 : Cond.selects "MirageLoansModel" yX9_begins yX9_begins ∈ gw := gw_at 42 (by decide +kernel) (by decide +kernel)
theorem g43 : Cond.selects "MirageLoansModel" yX9_keepsRow yX9_keepsRow ∈ gw := gw_at 43 (by decide +kernel) (by decide +kernel)
theorem g44 : Cond.selects "MirageLoansModel" yX9_put yX9_put ∈ gw := gw_at 44 (by decide +kernel) (by decide +kernel)
theorem g45 : Cond.selects "MirageLoansModel" yX9_cut yX9_cut ∈ gw := gw_at 45 (by decide +kernel) (by decide +kernel)
theorem g46 : Cond.selects "MirageLoansModel" yX9_byteAt yX9_byteAt ∈ gw := gw_at 46 (by decide +kernel) (by decide +kernel)
theorem g47 : Cond.selects "MirageLoansModel" yX9_token yX9_token ∈ gw := gw_at 47 (by decide +kernel) (by decide +kernel)
theorem g49 : Cond.selects "MirageLoansModel" yX9_is yX9_is ∈ gw := gw_at 49 (by decide +kernel) (by decide +kernel)
theorem g66 : Cond.selects "MirageLoansModel" yX9_isThing yX9_isThing ∈ gw := gw_at 66 (by decide +kernel) (by decide +kernel)
theorem g67 : Cond.selects "MirageLoansModel" yX9_copies yX9_copies ∈ gw := gw_at 67 (by decide +kernel) (by decide +kernel)
theorem g69 : Cond.selects "MirageLoansModel" yX9_isSeen yX9_isSeen ∈ gw := gw_at 69 (by decide +kernel) (by decide +kernel)
theorem g70 : Cond.selects "MirageLoansModel" yX9_looksAt yX9_looksAt ∈ gw := gw_at 70 (by decide +kernel) (by decide +kernel)
theorem g71 : Cond.selects "MirageLoansModel" yX9_heatAt yX9_heatAt ∈ gw := gw_at 71 (by decide +kernel) (by decide +kernel)
theorem g72 : Cond.selects "MirageLoansModel" yX9_looks yX9_looks ∈ gw := gw_at 72 (by decide +kernel) (by decide +kernel)
theorem g73 : Cond.selects "MirageLoansModel" yX9_lawTells yX9_lawTells ∈ gw := gw_at 73 (by decide +kernel) (by decide +kernel)
theorem g75 : Cond.selects "MirageLoansModel" yX9_isSeat yX9_isSeat ∈ gw := gw_at 75 (by decide +kernel) (by decide +kernel)
theorem g78 : Cond.selects "MirageLoansModel" yX9_movedBy yX9_movedBy ∈ gw := gw_at 78 (by decide +kernel) (by decide +kernel)
theorem g80 : Cond.selects "MirageLoansModel" yX9_interestOf yX9_interestOf ∈ gw := gw_at 80 (by decide +kernel) (by decide +kernel)
theorem g81 : Cond.selects "MirageLoansModel" yX9_records yX9_records ∈ gw := gw_at 81 (by decide +kernel) (by decide +kernel)
theorem g82 : Cond.selects "MirageLoansModel" yX9_goes yX9_goes ∈ gw := gw_at 82 (by decide +kernel) (by decide +kernel)
theorem g83 : Cond.selects "MirageLoansModel" yX9_hourGoes yX9_hourGoes ∈ gw := gw_at 83 (by decide +kernel) (by decide +kernel)
theorem g84 : Cond.selects "MirageLoansModel" yX9_isWind yX9_isWind ∈ gw := gw_at 84 (by decide +kernel) (by decide +kernel)
theorem g88 : Cond.selects "MirageLoansModel" yX9_seenAt yX9_seenAt ∈ gw := gw_at 88 (by decide +kernel) (by decide +kernel)
theorem g91 : Cond.selects "MirageLoansModel" yX9_fillsSeen yX9_fillsSeen ∈ gw := gw_at 91 (by decide +kernel) (by decide +kernel)
theorem g92 : Cond.selects "MirageLoansModel" yX9_tries yX9_tries ∈ gw := gw_at 92 (by decide +kernel) (by decide +kernel)
theorem g93 : Cond.selects "MirageLoansModel" yX9_isWatched yX9_isWatched ∈ gw := gw_at 93 (by decide +kernel) (by decide +kernel)
theorem g94 : Cond.selects "MirageLoansModel" yX9_isSo yX9_isSo ∈ gw := gw_at 94 (by decide +kernel) (by decide +kernel)
theorem g95 : Cond.selects "MirageLoansModel" yX9_sumNow yX9_sumNow ∈ gw := gw_at 95 (by decide +kernel) (by decide +kernel)
theorem g97 : Cond.initialized "MirageLoans" ∈ gw := gw_at 97 (by decide +kernel) (by decide +kernel)
theorem g98 : Cond.initialized "MirageLoans$Tape" ∈ gw := gw_at 98 (by decide +kernel) (by decide +kernel)
theorem g99 : Cond.initialized "MirageLoans$Grammar" ∈ gw := gw_at 99 (by decide +kernel) (by decide +kernel)
theorem g100 : Cond.initialized "MirageLoans$Tokens" ∈ gw := gw_at 100 (by decide +kernel) (by decide +kernel)
theorem g101 : Cond.initialized "java/lang/String" ∈ gw := gw_at 101 (by decide +kernel) (by decide +kernel)
theorem g102 : Cond.initialized "java/lang/StringLatin1" ∈ gw := gw_at 102 (by decide +kernel) (by decide +kernel)
theorem g103 : Cond.initialized "jdk/internal/util/Preconditions" ∈ gw := gw_at 103 (by decide +kernel) (by decide +kernel)
theorem g105 : Cond.initialized "MirageLoans$Flat" ∈ gw := gw_at 105 (by decide +kernel) (by decide +kernel)
theorem g106 : Cond.initialized "MirageLoans$Laws" ∈ gw := gw_at 106 (by decide +kernel) (by decide +kernel)
theorem g107 : Cond.initialized "MirageLoans$State" ∈ gw := gw_at 107 (by decide +kernel) (by decide +kernel)
theorem g108 : Cond.initialized "MirageLoans$Past" ∈ gw := gw_at 108 (by decide +kernel) (by decide +kernel)
theorem g109 : Cond.initialized "MirageLoans$Told" ∈ gw := gw_at 109 (by decide +kernel) (by decide +kernel)
theorem g110 : Cond.initialized "MirageLoansModel" ∈ gw := gw_at 110 (by decide +kernel) (by decide +kernel)
theorem g111 : Cond.initialized "java/lang/Math" ∈ gw := gw_at 111 (by decide +kernel) (by decide +kernel)
theorem g113 : Cond.initialized "java/lang/System" ∈ gw := gw_at 113 (by decide +kernel) (by decide +kernel)
theorem g114 : Cond.initialized "java/lang/Integer" ∈ gw := gw_at 114 (by decide +kernel) (by decide +kernel)
set_option maxRecDepth 100000 in
theorem g119 : Cond.code yX8_init prog_1_method_1_code 2 none ∈ gw := gw_at 119 rfl (by decide +kernel)
theorem g120 : Cond.methodLink "MirageLoans" 3 Lib.objectInit ∈ gw := gw_at 120 (by decide +kernel) (by decide +kernel)
theorem g121 : Cond.instanceMethod Lib.objectInit ∈ gw := gw_at 121 (by decide +kernel) (by decide +kernel)
set_option maxRecDepth 100000 in
theorem g122 : Cond.code Lib.objectInit object_method_1_code 1 none ∈ gw := gw_at 122 rfl (by decide +kernel)
theorem g123 : Cond.classLink "MirageLoans" 9 "MirageLoans$Tape" ∈ gw := gw_at 123 (by decide +kernel) (by decide +kernel)
theorem g124 : Cond.instantiable "MirageLoans$Tape" 2 ∈ gw := gw_at 124 (by decide +kernel) (by decide +kernel)
theorem g126 : Cond.instanceMethod yX5_init ∈ gw := gw_at 126 (by decide +kernel) (by decide +kernel)
set_option maxRecDepth 100000 in
theorem g127 : Cond.code yX5_init prog_7_method_1_code 1 none ∈ gw := gw_at 127 rfl (by decide +kernel)
theorem g128 : Cond.methodLink "MirageLoans$Tape" 3 Lib.objectInit ∈ gw := gw_at 128 (by decide +kernel) (by decide +kernel)
theorem g129 : Cond.fieldLink "MirageLoans$Tape" 11 "MirageLoans$Tape" "bytes" "[B" ∈ gw := gw_at 129 (by decide +kernel) (by decide +kernel)
theorem g130 : Cond.fieldLink "MirageLoans$Tape" 15 "MirageLoans$Tape" "size" "I" ∈ gw := gw_at 130 (by decide +kernel) (by decide +kernel)
theorem g131 : Cond.fieldLink "MirageLoans" 87 "MirageLoans$Tape" "size" "I" ∈ gw := gw_at 131 (by decide +kernel) (by decide +kernel)
theorem g132 : Cond.fieldLink "MirageLoans$Tokens" 76 "MirageLoans$Tape" "size" "I" ∈ gw := gw_at 132 (by decide +kernel) (by decide +kernel)
theorem g138 : Cond.arrayClass FieldType.byte ∈ gw := gw_at 138 (by decide +kernel) (by decide +kernel)
theorem g139 : Cond.classLink "MirageLoans" 16 "MirageLoans$Grammar" ∈ gw := gw_at 139 (by decide +kernel) (by decide +kernel)
theorem g140 : Cond.instantiable "MirageLoans$Grammar" 8 ∈ gw := gw_at 140 (by decide +kernel) (by decide +kernel)
theorem g142 : Cond.instanceMethod yX1_init ∈ gw := gw_at 142 (by decide +kernel) (by decide +kernel)
set_option maxRecDepth 100000 in
theorem g143 : Cond.code yX1_init prog_3_method_1_code 1 none ∈ gw := gw_at 143 rfl (by decide +kernel)
theorem g144 : Cond.methodLink "MirageLoans$Grammar" 3 Lib.objectInit ∈ gw := gw_at 144 (by decide +kernel) (by decide +kernel)
theorem g145 : Cond.classLink "MirageLoans$Grammar" 9 "MirageLoans$Tokens" ∈ gw := gw_at 145 (by decide +kernel) (by decide +kernel)
theorem g146 : Cond.instantiable "MirageLoans$Tokens" 5 ∈ gw := gw_at 146 (by decide +kernel) (by decide +kernel)
theorem g147 : Cond.methodLink "MirageLoans$Grammar" 11 yX6_init ∈ gw := gw_at 147 (by decide +kernel) (by decide +kernel)
theorem g148 : Cond.instanceMethod yX6_init ∈ gw := gw_at 148 (by decide +kernel) (by decide +kernel)
set_option maxRecDepth 100000 in
theorem g149 : Cond.code yX6_init prog_8_method_1_code 6 none ∈ gw := gw_at 149 rfl (by decide +kernel)
theorem g150 : Cond.methodLink "MirageLoans$Tokens" 3 Lib.objectInit ∈ gw := gw_at 150 (by decide +kernel) (by decide +kernel)
theorem g152 : Cond.methodLink "MirageLoans$Tokens" 31 yJ0_length_8abf5 ∈ gw := gw_at 152 (by decide +kernel) (by decide +kernel)
theorem g153 : Cond.instanceMethod yJ0_length_8abf5 ∈ gw := gw_at 153 (by decide +kernel) (by decide +kernel)
theorem g154 : Cond.selects "java/lang/String" yJ0_length_8abf5 yJ0_length_8abf5 ∈ gw := gw_at 154 (by decide +kernel) (by decide +kernel)
set_option maxRecDepth 100000 in
theorem g155 : Cond.code yJ0_length_8abf5 prog_15_method_54_code 1 (some Jvm.ClassFile.FieldType.int) ∈ gw := gw_at 155 rfl (by decide +kernel)
theorem g156 : Cond.methodLink "java/lang/String" 335 yJ0_coder_7d493 ∈ gw := gw_at 156 (by decide +kernel) (by decide +kernel)
theorem g157 : Cond.instanceMethod yJ0_coder_7d493 ∈ gw := gw_at 157 (by decide +kernel) (by decide +kernel)
theorem g158 : Cond.selects "java/lang/String" yJ0_coder_7d493 yJ0_coder_7d493 ∈ gw := gw_at 158 (by decide +kernel) (by decide +kernel)
set_option maxRecDepth 100000 in
theorem g159 : Cond.code yJ0_coder_7d493 prog_15_method_152_code 1 (some Jvm.ClassFile.FieldType.byte) ∈ gw := gw_at 159 rfl (by decide +kernel)
theorem g160 : Cond.fieldLink "java/lang/String" 38 "java/lang/String" "COMPACT_STRINGS" "Z" ∈ gw := gw_at 160 (by decide +kernel) (by decide +kernel)
theorem g162 : Cond.methodLink "MirageLoans$Tokens" 37 yJ0_charAt_5068e ∈ gw := gw_at 162 (by decide +kernel) (by decide +kernel)
theorem g163 : Cond.instanceMethod yJ0_charAt_5068e ∈ gw := gw_at 163 (by decide +kernel) (by decide +kernel)
theorem g164 : Cond.selects "java/lang/String" yJ0_charAt_5068e yJ0_charAt_5068e ∈ gw := gw_at 164 (by decide +kernel) (by decide +kernel)
set_option maxRecDepth 100000 in
theorem g165 : Cond.code yJ0_charAt_5068e prog_15_method_56_code 2 (some Jvm.ClassFile.FieldType.char) ∈ gw := gw_at 165 rfl (by decide +kernel)
theorem g166 : Cond.methodLink "java/lang/String" 492 yJ0_isLatin1_aae02 ∈ gw := gw_at 166 (by decide +kernel) (by decide +kernel)
theorem g167 : Cond.instanceMethod yJ0_isLatin1_aae02 ∈ gw := gw_at 167 (by decide +kernel) (by decide +kernel)
theorem g168 : Cond.selects "java/lang/String" yJ0_isLatin1_aae02 yJ0_isLatin1_aae02 ∈ gw := gw_at 168 (by decide +kernel) (by decide +kernel)
set_option maxRecDepth 100000 in
theorem g169 : Cond.code yJ0_isLatin1_aae02 prog_15_method_154_code 1 (some Jvm.ClassFile.FieldType.boolean) ∈ gw := gw_at 169 rfl (by decide +kernel)
theorem g170 : Cond.methodLink "java/lang/String" 495 yJ1_charAt_3b067 ∈ gw := gw_at 170 (by decide +kernel) (by decide +kernel)
theorem g171 : Cond.static yJ1_charAt_3b067 ∈ gw := gw_at 171 (by decide +kernel) (by decide +kernel)
set_option maxRecDepth 100000 in
theorem g172 : Cond.code yJ1_charAt_3b067 prog_16_method_2_code 2 (some Jvm.ClassFile.FieldType.char) ∈ gw := gw_at 172 rfl (by decide +kernel)
theorem g173 : Cond.methodLink "java/lang/StringLatin1" 9 yJ0_checkIndex_df160 ∈ gw := gw_at 173 (by decide +kernel) (by decide +kernel)
theorem g174 : Cond.static yJ0_checkIndex_df160 ∈ gw := gw_at 174 (by decide +kernel) (by decide +kernel)
set_option maxRecDepth 100000 in
theorem g175 : Cond.code yJ0_checkIndex_df160 prog_15_method_155_code 2 none ∈ gw := gw_at 175 rfl (by decide +kernel)
theorem g176 : Cond.fieldLink "java/lang/String" 1053 "jdk/internal/util/Preconditions" "SIOOBE_FORMATTER" "Ljava/util/function/BiFunction;" ∈ gw := gw_at 176 (by decide +kernel) (by decide +kernel)
theorem g178 : Cond.methodLink "java/lang/String" 1059 yJ3_checkIndex_8e157 ∈ gw := gw_at 178 (by decide +kernel) (by decide +kernel)
theorem g179 : Cond.static yJ3_checkIndex_8e157 ∈ gw := gw_at 179 (by decide +kernel) (by decide +kernel)
set_option maxRecDepth 100000 in
theorem g180 : Cond.code yJ3_checkIndex_8e157 prog_19_method_11_code 3 (some Jvm.ClassFile.FieldType.int) ∈ gw := gw_at 180 rfl (by decide +kernel)
theorem g200 : Cond.methodLink "MirageLoans$Tokens" 41 yX6_withLetter ∈ gw := gw_at 200 (by decide +kernel) (by decide +kernel)
theorem g201 : Cond.static yX6_withLetter ∈ gw := gw_at 201 (by decide +kernel) (by decide +kernel)
set_option maxRecDepth 100000 in
theorem g202 : Cond.code yX6_withLetter prog_8_method_2_code 3 (some Jvm.ClassFile.FieldType.long) ∈ gw := gw_at 202 rfl (by decide +kernel)
theorem g203 : Cond.constantLong "MirageLoans$Tokens" 45 (27 : Int64) ∈ gw := gw_at 203 (by decide +kernel) (by decide +kernel)
theorem g204 : Cond.fieldLink "MirageLoans$Tokens" 9 "MirageLoans$Tokens" "words" "[J" ∈ gw := gw_at 204 (by decide +kernel) (by decide +kernel)
theorem g205 : Cond.fieldLink "MirageLoans$Tokens" 15 "MirageLoans$Tokens" "kinds" "[I" ∈ gw := gw_at 205 (by decide +kernel) (by decide +kernel)
theorem g206 : Cond.fieldLink "MirageLoans$Grammar" 51 "MirageLoans$Tokens" "kinds" "[I" ∈ gw := gw_at 206 (by decide +kernel) (by decide +kernel)
theorem g207 : Cond.fieldLink "MirageLoans$Tokens" 19 "MirageLoans$Tokens" "starts" "[I" ∈ gw := gw_at 207 (by decide +kernel) (by decide +kernel)
theorem g209 : Cond.fieldLink "MirageLoans$Tokens" 22 "MirageLoans$Tokens" "values" "[J" ∈ gw := gw_at 209 (by decide +kernel) (by decide +kernel)
theorem g211 : Cond.fieldLink "MirageLoans$Tokens" 25 "MirageLoans$Tokens" "next" "I" ∈ gw := gw_at 211 (by decide +kernel) (by decide +kernel)
theorem g223 : Cond.arrayClass FieldType.long ∈ gw := gw_at 223 (by decide +kernel) (by decide +kernel)
theorem g224 : Cond.arrayClass FieldType.int ∈ gw := gw_at 224 (by decide +kernel) (by decide +kernel)
theorem g225 : Cond.classLink "MirageLoans$Grammar" 18 "MirageLoans$Flat" ∈ gw := gw_at 225 (by decide +kernel) (by decide +kernel)
theorem g226 : Cond.instantiable "MirageLoans$Flat" 13 ∈ gw := gw_at 226 (by decide +kernel) (by decide +kernel)
theorem g227 : Cond.methodLink "MirageLoans$Grammar" 20 yX0_init ∈ gw := gw_at 227 (by decide +kernel) (by decide +kernel)
theorem g228 : Cond.instanceMethod yX0_init ∈ gw := gw_at 228 (by decide +kernel) (by decide +kernel)
set_option maxRecDepth 100000 in
theorem g229 : Cond.code yX0_init prog_2_method_1_code 1 none ∈ gw := gw_at 229 rfl (by decide +kernel)
theorem g230 : Cond.methodLink "MirageLoans$Flat" 3 Lib.objectInit ∈ gw := gw_at 230 (by decide +kernel) (by decide +kernel)
theorem g231 : Cond.classLink "MirageLoans$Flat" 50 "MirageLoans$Laws" ∈ gw := gw_at 231 (by decide +kernel) (by decide +kernel)
theorem g232 : Cond.instantiable "MirageLoans$Laws" 6 ∈ gw := gw_at 232 (by decide +kernel) (by decide +kernel)
theorem g234 : Cond.instanceMethod yX2_init ∈ gw := gw_at 234 (by decide +kernel) (by decide +kernel)
set_option maxRecDepth 100000 in
theorem g235 : Cond.code yX2_init prog_4_method_1_code 1 none ∈ gw := gw_at 235 rfl (by decide +kernel)
theorem g236 : Cond.methodLink "MirageLoans$Laws" 3 Lib.objectInit ∈ gw := gw_at 236 (by decide +kernel) (by decide +kernel)
theorem g237 : Cond.fieldLink "MirageLoans$Laws" 11 "MirageLoans$Laws" "steps" "[I" ∈ gw := gw_at 237 (by decide +kernel) (by decide +kernel)
theorem g238 : Cond.fieldLink "MirageLoans$Laws" 15 "MirageLoans$Laws" "values" "[I" ∈ gw := gw_at 238 (by decide +kernel) (by decide +kernel)
theorem g239 : Cond.fieldLink "MirageLoans$Laws" 18 "MirageLoans$Laws" "size" "I" ∈ gw := gw_at 239 (by decide +kernel) (by decide +kernel)
theorem g240 : Cond.fieldLink "MirageLoans$Laws" 22 "MirageLoans$Laws" "from" "[I" ∈ gw := gw_at 240 (by decide +kernel) (by decide +kernel)
theorem g241 : Cond.fieldLink "MirageLoans$Laws" 25 "MirageLoans$Laws" "vars" "[I" ∈ gw := gw_at 241 (by decide +kernel) (by decide +kernel)
theorem g242 : Cond.fieldLink "MirageLoans$Laws" 28 "MirageLoans$Laws" "stack" "[I" ∈ gw := gw_at 242 (by decide +kernel) (by decide +kernel)
theorem g256 : Cond.methodLink "MirageLoans$Flat" 57 yX0_clear ∈ gw := gw_at 256 (by decide +kernel) (by decide +kernel)
theorem g257 : Cond.instanceMethod yX0_clear ∈ gw := gw_at 257 (by decide +kernel) (by decide +kernel)
theorem g258 : Cond.selects "MirageLoans$Flat" yX0_clear yX0_clear ∈ gw := gw_at 258 (by decide +kernel) (by decide +kernel)
set_option maxRecDepth 100000 in
theorem g259 : Cond.code yX0_clear prog_2_method_2_code 1 none ∈ gw := gw_at 259 rfl (by decide +kernel)
theorem g260 : Cond.methodLink "MirageLoans$Flat" 60 yX2_clear ∈ gw := gw_at 260 (by decide +kernel) (by decide +kernel)
theorem g261 : Cond.instanceMethod yX2_clear ∈ gw := gw_at 261 (by decide +kernel) (by decide +kernel)
theorem g262 : Cond.selects "MirageLoans$Laws" yX2_clear yX2_clear ∈ gw := gw_at 262 (by decide +kernel) (by decide +kernel)
set_option maxRecDepth 100000 in
theorem g263 : Cond.code yX2_clear prog_4_method_2_code 1 none ∈ gw := gw_at 263 rfl (by decide +kernel)
theorem g264 : Cond.methodLink "MirageLoans$Laws" 31 yX2_openWithVar ∈ gw := gw_at 264 (by decide +kernel) (by decide +kernel)
theorem g266 : Cond.instanceMethod yX2_openWithVar ∈ gw := gw_at 266 (by decide +kernel) (by decide +kernel)
set_option maxRecDepth 100000 in
theorem g267 : Cond.code yX2_openWithVar prog_4_method_3_code 3 none ∈ gw := gw_at 267 rfl (by decide +kernel)
theorem g268 : Cond.methodLink "MirageLoans$Laws" 35 yX2_open ∈ gw := gw_at 268 (by decide +kernel) (by decide +kernel)
theorem g269 : Cond.instanceMethod yX2_open ∈ gw := gw_at 269 (by decide +kernel) (by decide +kernel)
theorem g270 : Cond.selects "MirageLoans$Laws" yX2_open yX2_open ∈ gw := gw_at 270 (by decide +kernel) (by decide +kernel)
set_option maxRecDepth 100000 in
theorem g271 : Cond.code yX2_open prog_4_method_4_code 2 none ∈ gw := gw_at 271 rfl (by decide +kernel)
theorem g272 : Cond.methodLink "MirageLoans$Laws" 39 yX2_emit ∈ gw := gw_at 272 (by decide +kernel) (by decide +kernel)
theorem g273 : Cond.instanceMethod yX2_emit ∈ gw := gw_at 273 (by decide +kernel) (by decide +kernel)
theorem g274 : Cond.selects "MirageLoans$Laws" yX2_emit yX2_emit ∈ gw := gw_at 274 (by decide +kernel) (by decide +kernel)
set_option maxRecDepth 100000 in
theorem g275 : Cond.code yX2_emit prog_4_method_5_code 3 (some Jvm.ClassFile.FieldType.int) ∈ gw := gw_at 275 rfl (by decide +kernel)
theorem g276 : Cond.fieldLink "MirageLoans$Flat" 9 "MirageLoans$Flat" "names" "[J" ∈ gw := gw_at 276 (by decide +kernel) (by decide +kernel)
theorem g277 : Cond.fieldLink "MirageLoans$Flat" 15 "MirageLoans$Flat" "nameCount" "I" ∈ gw := gw_at 277 (by decide +kernel) (by decide +kernel)
theorem g278 : Cond.fieldLink "MirageLoans$Flat" 19 "MirageLoans$Flat" "things" "I" ∈ gw := gw_at 278 (by decide +kernel) (by decide +kernel)
theorem g280 : Cond.fieldLink "MirageLoans" 236 "MirageLoans$Flat" "things" "I" ∈ gw := gw_at 280 (by decide +kernel) (by decide +kernel)
theorem g281 : Cond.fieldLink "MirageLoans$Flat" 22 "MirageLoans$Flat" "thingX" "[I" ∈ gw := gw_at 281 (by decide +kernel) (by decide +kernel)
theorem g283 : Cond.fieldLink "MirageLoans$Flat" 26 "MirageLoans$Flat" "tall" "[I" ∈ gw := gw_at 283 (by decide +kernel) (by decide +kernel)
theorem g285 : Cond.fieldLink "MirageLoans$Flat" 29 "MirageLoans$Flat" "seats" "I" ∈ gw := gw_at 285 (by decide +kernel) (by decide +kernel)
theorem g286 : Cond.fieldLink "MirageLoans$State" 39 "MirageLoans$Flat" "seats" "I" ∈ gw := gw_at 286 (by decide +kernel) (by decide +kernel)
theorem g288 : Cond.fieldLink "MirageLoans" 230 "MirageLoans$Flat" "seats" "I" ∈ gw := gw_at 288 (by decide +kernel) (by decide +kernel)
theorem g289 : Cond.fieldLink "MirageLoans$Flat" 32 "MirageLoans$Flat" "seatX" "[I" ∈ gw := gw_at 289 (by decide +kernel) (by decide +kernel)
theorem g291 : Cond.fieldLink "MirageLoans$Flat" 35 "MirageLoans$Flat" "coins" "[I" ∈ gw := gw_at 291 (by decide +kernel) (by decide +kernel)
theorem g293 : Cond.fieldLink "MirageLoans$Flat" 38 "MirageLoans$Flat" "grace" "I" ∈ gw := gw_at 293 (by decide +kernel) (by decide +kernel)
theorem g295 : Cond.fieldLink "MirageLoans$Flat" 41 "MirageLoans$Flat" "winds" "I" ∈ gw := gw_at 295 (by decide +kernel) (by decide +kernel)
theorem g297 : Cond.fieldLink "MirageLoans" 213 "MirageLoans$Flat" "winds" "I" ∈ gw := gw_at 297 (by decide +kernel) (by decide +kernel)
theorem g298 : Cond.fieldLink "MirageLoans$Flat" 44 "MirageLoans$Flat" "begins" "I" ∈ gw := gw_at 298 (by decide +kernel) (by decide +kernel)
theorem g299 : Cond.fieldLink "MirageLoans$State" 34 "MirageLoans$Flat" "begins" "I" ∈ gw := gw_at 299 (by decide +kernel) (by decide +kernel)
theorem g301 : Cond.fieldLink "MirageLoans$Flat" 47 "MirageLoans$Flat" "seed" "I" ∈ gw := gw_at 301 (by decide +kernel) (by decide +kernel)
theorem g303 : Cond.fieldLink "MirageLoans" 210 "MirageLoans$Flat" "seed" "I" ∈ gw := gw_at 303 (by decide +kernel) (by decide +kernel)
theorem g304 : Cond.fieldLink "MirageLoans$Flat" 53 "MirageLoans$Flat" "laws" "LMirageLoans$Laws;" ∈ gw := gw_at 304 (by decide +kernel) (by decide +kernel)
theorem g305 : Cond.fieldLink "MirageLoans$Told" 42 "MirageLoans$Flat" "laws" "LMirageLoans$Laws;" ∈ gw := gw_at 305 (by decide +kernel) (by decide +kernel)
theorem g306 : Cond.fieldLink "MirageLoans" 186 "MirageLoans$Flat" "laws" "LMirageLoans$Laws;" ∈ gw := gw_at 306 (by decide +kernel) (by decide +kernel)
theorem g335 : Cond.fieldLink "MirageLoans$Grammar" 12 "MirageLoans$Grammar" "tokens" "LMirageLoans$Tokens;" ∈ gw := gw_at 335 (by decide +kernel) (by decide +kernel)
theorem g336 : Cond.fieldLink "MirageLoans$Grammar" 21 "MirageLoans$Grammar" "draft" "LMirageLoans$Flat;" ∈ gw := gw_at 336 (by decide +kernel) (by decide +kernel)
theorem g337 : Cond.fieldLink "MirageLoans$Grammar" 25 "MirageLoans$Grammar" "at" "I" ∈ gw := gw_at 337 (by decide +kernel) (by decide +kernel)
theorem g338 : Cond.fieldLink "MirageLoans$Grammar" 29 "MirageLoans$Grammar" "kind" "I" ∈ gw := gw_at 338 (by decide +kernel) (by decide +kernel)
theorem g339 : Cond.fieldLink "MirageLoans$Grammar" 32 "MirageLoans$Grammar" "fault" "I" ∈ gw := gw_at 339 (by decide +kernel) (by decide +kernel)
theorem g340 : Cond.fieldLink "MirageLoans$Grammar" 35 "MirageLoans$Grammar" "place" "I" ∈ gw := gw_at 340 (by decide +kernel) (by decide +kernel)
theorem g341 : Cond.fieldLink "MirageLoans" 97 "MirageLoans$Grammar" "place" "I" ∈ gw := gw_at 341 (by decide +kernel) (by decide +kernel)
theorem g342 : Cond.fieldLink "MirageLoans$Grammar" 38 "MirageLoans$Grammar" "slip" "I" ∈ gw := gw_at 342 (by decide +kernel) (by decide +kernel)
theorem g343 : Cond.fieldLink "MirageLoans$Grammar" 41 "MirageLoans$Grammar" "slipPlace" "I" ∈ gw := gw_at 343 (by decide +kernel) (by decide +kernel)
theorem g361 : Cond.classLink "MirageLoans" 23 "MirageLoans$State" ∈ gw := gw_at 361 (by decide +kernel) (by decide +kernel)
theorem g362 : Cond.instantiable "MirageLoans$State" 7 ∈ gw := gw_at 362 (by decide +kernel) (by decide +kernel)
theorem g364 : Cond.instanceMethod yX4_init ∈ gw := gw_at 364 (by decide +kernel) (by decide +kernel)
set_option maxRecDepth 100000 in
theorem g365 : Cond.code yX4_init prog_6_method_1_code 1 none ∈ gw := gw_at 365 rfl (by decide +kernel)
theorem g366 : Cond.methodLink "MirageLoans$State" 3 Lib.objectInit ∈ gw := gw_at 366 (by decide +kernel) (by decide +kernel)
theorem g367 : Cond.fieldLink "MirageLoans$State" 9 "MirageLoans$State" "hour" "I" ∈ gw := gw_at 367 (by decide +kernel) (by decide +kernel)
theorem g368 : Cond.fieldLink "MirageLoans" 140 "MirageLoans$State" "hour" "I" ∈ gw := gw_at 368 (by decide +kernel) (by decide +kernel)
theorem g369 : Cond.fieldLink "MirageLoans$Flat" 95 "MirageLoans$State" "hour" "I" ∈ gw := gw_at 369 (by decide +kernel) (by decide +kernel)
theorem g370 : Cond.fieldLink "MirageLoans$State" 15 "MirageLoans$State" "x" "[I" ∈ gw := gw_at 370 (by decide +kernel) (by decide +kernel)
theorem g373 : Cond.fieldLink "MirageLoans$State" 19 "MirageLoans$State" "coins" "[I" ∈ gw := gw_at 373 (by decide +kernel) (by decide +kernel)
theorem g374 : Cond.fieldLink "MirageLoans" 137 "MirageLoans$State" "coins" "[I" ∈ gw := gw_at 374 (by decide +kernel) (by decide +kernel)
theorem g376 : Cond.fieldLink "MirageLoans$State" 22 "MirageLoans$State" "gone" "[I" ∈ gw := gw_at 376 (by decide +kernel) (by decide +kernel)
theorem g377 : Cond.fieldLink "MirageLoans" 156 "MirageLoans$State" "gone" "[I" ∈ gw := gw_at 377 (by decide +kernel) (by decide +kernel)
theorem g379 : Cond.fieldLink "MirageLoans$State" 25 "MirageLoans$State" "rent" "[I" ∈ gw := gw_at 379 (by decide +kernel) (by decide +kernel)
theorem g380 : Cond.fieldLink "MirageLoans" 159 "MirageLoans$State" "rent" "[I" ∈ gw := gw_at 380 (by decide +kernel) (by decide +kernel)
theorem g382 : Cond.fieldLink "MirageLoans$State" 28 "MirageLoans$State" "lent" "[I" ∈ gw := gw_at 382 (by decide +kernel) (by decide +kernel)
theorem g383 : Cond.fieldLink "MirageLoans" 169 "MirageLoans$State" "lent" "[I" ∈ gw := gw_at 383 (by decide +kernel) (by decide +kernel)
theorem g385 : Cond.fieldLink "MirageLoans$State" 31 "MirageLoans$State" "unseen" "[I" ∈ gw := gw_at 385 (by decide +kernel) (by decide +kernel)
theorem g403 : Cond.classLink "MirageLoans" 33 "MirageLoans$Past" ∈ gw := gw_at 403 (by decide +kernel) (by decide +kernel)
theorem g404 : Cond.instantiable "MirageLoans$Past" 3 ∈ gw := gw_at 404 (by decide +kernel) (by decide +kernel)
theorem g405 : Cond.methodLink "MirageLoans" 35 yX3_init ∈ gw := gw_at 405 (by decide +kernel) (by decide +kernel)
theorem g406 : Cond.instanceMethod yX3_init ∈ gw := gw_at 406 (by decide +kernel) (by decide +kernel)
set_option maxRecDepth 100000 in
theorem g407 : Cond.code yX3_init prog_5_method_1_code 2 none ∈ gw := gw_at 407 rfl (by decide +kernel)
theorem g408 : Cond.methodLink "MirageLoans$Past" 1 Lib.objectInit ∈ gw := gw_at 408 (by decide +kernel) (by decide +kernel)
theorem g409 : Cond.classLink "MirageLoans$Past" 9 "MirageLoans$State" ∈ gw := gw_at 409 (by decide +kernel) (by decide +kernel)
theorem g412 : Cond.fieldLink "MirageLoans$Past" 11 "MirageLoans$Past" "rows" "[LMirageLoans$State;" ∈ gw := gw_at 412 (by decide +kernel) (by decide +kernel)
theorem g413 : Cond.fieldLink "MirageLoans$Past" 15 "MirageLoans$Past" "next" "I" ∈ gw := gw_at 413 (by decide +kernel) (by decide +kernel)
theorem g414 : Cond.fieldLink "MirageLoans$Past" 19 "MirageLoans$Past" "size" "I" ∈ gw := gw_at 414 (by decide +kernel) (by decide +kernel)
theorem g415 : Cond.fieldLink "MirageLoans" 322 "MirageLoans$Past" "size" "I" ∈ gw := gw_at 415 (by decide +kernel) (by decide +kernel)
theorem g423 : Cond.classLink "MirageLoans" 48 "MirageLoans$Told" ∈ gw := gw_at 423 (by decide +kernel) (by decide +kernel)
theorem g424 : Cond.instantiable "MirageLoans$Told" 6 ∈ gw := gw_at 424 (by decide +kernel) (by decide +kernel)
theorem g426 : Cond.instanceMethod yX7_init ∈ gw := gw_at 426 (by decide +kernel) (by decide +kernel)
set_option maxRecDepth 100000 in
theorem g427 : Cond.code yX7_init prog_9_method_1_code 1 none ∈ gw := gw_at 427 rfl (by decide +kernel)
theorem g428 : Cond.methodLink "MirageLoans$Told" 3 Lib.objectInit ∈ gw := gw_at 428 (by decide +kernel) (by decide +kernel)
theorem g429 : Cond.fieldLink "MirageLoans$Told" 9 "MirageLoans$Told" "size" "I" ∈ gw := gw_at 429 (by decide +kernel) (by decide +kernel)
theorem g430 : Cond.fieldLink "MirageLoans" 114 "MirageLoans$Told" "size" "I" ∈ gw := gw_at 430 (by decide +kernel) (by decide +kernel)
theorem g431 : Cond.fieldLink "MirageLoans$Told" 15 "MirageLoans$Told" "x" "[I" ∈ gw := gw_at 431 (by decide +kernel) (by decide +kernel)
theorem g432 : Cond.fieldLink "MirageLoans$Told" 19 "MirageLoans$Told" "at" "[I" ∈ gw := gw_at 432 (by decide +kernel) (by decide +kernel)
theorem g433 : Cond.fieldLink "MirageLoans$Told" 22 "MirageLoans$Told" "hour" "[I" ∈ gw := gw_at 433 (by decide +kernel) (by decide +kernel)
theorem g434 : Cond.fieldLink "MirageLoans$Told" 25 "MirageLoans$Told" "isLeft" "[Z" ∈ gw := gw_at 434 (by decide +kernel) (by decide +kernel)
theorem g435 : Cond.fieldLink "MirageLoans$Told" 29 "MirageLoans$Told" "split" "[I" ∈ gw := gw_at 435 (by decide +kernel) (by decide +kernel)
theorem g449 : Cond.arrayClass FieldType.boolean ∈ gw := gw_at 449 (by decide +kernel) (by decide +kernel)
theorem g450 : Cond.classLink "MirageLoans" 68 "MirageLoans$Flat" ∈ gw := gw_at 450 (by decide +kernel) (by decide +kernel)
theorem g451 : Cond.methodLink "MirageLoans" 70 yX0_init ∈ gw := gw_at 451 (by decide +kernel) (by decide +kernel)
theorem g452 : Cond.fieldLink "MirageLoans" 12 "MirageLoans" "tape" "LMirageLoans$Tape;" ∈ gw := gw_at 452 (by decide +kernel) (by decide +kernel)
theorem g453 : Cond.fieldLink "MirageLoans" 19 "MirageLoans" "grammar" "LMirageLoans$Grammar;" ∈ gw := gw_at 453 (by decide +kernel) (by decide +kernel)
theorem g454 : Cond.fieldLink "MirageLoans" 26 "MirageLoans" "now" "LMirageLoans$State;" ∈ gw := gw_at 454 (by decide +kernel) (by decide +kernel)
theorem g455 : Cond.fieldLink "MirageLoans" 30 "MirageLoans" "ahead" "LMirageLoans$State;" ∈ gw := gw_at 455 (by decide +kernel) (by decide +kernel)
theorem g456 : Cond.fieldLink "MirageLoans" 36 "MirageLoans" "past" "LMirageLoans$Past;" ∈ gw := gw_at 456 (by decide +kernel) (by decide +kernel)
theorem g457 : Cond.fieldLink "MirageLoans" 40 "MirageLoans" "slots" "[LMirageLoans$State;" ∈ gw := gw_at 457 (by decide +kernel) (by decide +kernel)
theorem g458 : Cond.fieldLink "MirageLoans" 44 "MirageLoans" "held" "[Z" ∈ gw := gw_at 458 (by decide +kernel) (by decide +kernel)
theorem g459 : Cond.fieldLink "MirageLoans" 51 "MirageLoans" "told" "LMirageLoans$Told;" ∈ gw := gw_at 459 (by decide +kernel) (by decide +kernel)
theorem g460 : Cond.fieldLink "MirageLoans" 55 "MirageLoans" "tally" "[I" ∈ gw := gw_at 460 (by decide +kernel) (by decide +kernel)
theorem g461 : Cond.fieldLink "MirageLoans" 59 "MirageLoans" "spots" "[I" ∈ gw := gw_at 461 (by decide +kernel) (by decide +kernel)
theorem g462 : Cond.fieldLink "MirageLoans" 62 "MirageLoans" "pitch" "[I" ∈ gw := gw_at 462 (by decide +kernel) (by decide +kernel)
theorem g463 : Cond.fieldLink "MirageLoans" 65 "MirageLoans" "bestPitch" "[I" ∈ gw := gw_at 463 (by decide +kernel) (by decide +kernel)
theorem g464 : Cond.fieldLink "MirageLoans" 71 "MirageLoans" "flat" "LMirageLoans$Flat;" ∈ gw := gw_at 464 (by decide +kernel) (by decide +kernel)
theorem g465 : Cond.fieldLink "MirageLoans" 75 "MirageLoans" "faultPlace" "I" ∈ gw := gw_at 465 (by decide +kernel) (by decide +kernel)
set_option maxRecDepth 100000 in
theorem g498 : Cond.code yX8_feed prog_1_method_2_code 6 (some Jvm.ClassFile.FieldType.int) ∈ gw := gw_at 498 rfl (by decide +kernel)
theorem g499 : Cond.methodLink "MirageLoans" 79 yX5_hasRoom ∈ gw := gw_at 499 (by decide +kernel) (by decide +kernel)
theorem g500 : Cond.instanceMethod yX5_hasRoom ∈ gw := gw_at 500 (by decide +kernel) (by decide +kernel)
theorem g501 : Cond.selects "MirageLoans$Tape" yX5_hasRoom yX5_hasRoom ∈ gw := gw_at 501 (by decide +kernel) (by decide +kernel)
set_option maxRecDepth 100000 in
theorem g502 : Cond.code yX5_hasRoom prog_7_method_2_code 2 (some Jvm.ClassFile.FieldType.boolean) ∈ gw := gw_at 502 rfl (by decide +kernel)
theorem g503 : Cond.methodLink "MirageLoans" 83 yX5_putWord ∈ gw := gw_at 503 (by decide +kernel) (by decide +kernel)
theorem g504 : Cond.instanceMethod yX5_putWord ∈ gw := gw_at 504 (by decide +kernel) (by decide +kernel)
theorem g505 : Cond.selects "MirageLoans$Tape" yX5_putWord yX5_putWord ∈ gw := gw_at 505 (by decide +kernel) (by decide +kernel)
set_option maxRecDepth 100000 in
theorem g506 : Cond.code yX5_putWord prog_7_method_3_code 3 none ∈ gw := gw_at 506 rfl (by decide +kernel)
set_option maxRecDepth 100000 in
theorem g510 : Cond.code yX8_back prog_1_method_3_code 2 (some Jvm.ClassFile.FieldType.int) ∈ gw := gw_at 510 rfl (by decide +kernel)
theorem g511 : Cond.methodLink "MirageLoans" 90 yX5_drop ∈ gw := gw_at 511 (by decide +kernel) (by decide +kernel)
theorem g512 : Cond.instanceMethod yX5_drop ∈ gw := gw_at 512 (by decide +kernel) (by decide +kernel)
theorem g513 : Cond.selects "MirageLoans$Tape" yX5_drop yX5_drop ∈ gw := gw_at 513 (by decide +kernel) (by decide +kernel)
set_option maxRecDepth 100000 in
theorem g514 : Cond.code yX5_drop prog_7_method_4_code 2 (some Jvm.ClassFile.FieldType.boolean) ∈ gw := gw_at 514 rfl (by decide +kernel)
set_option maxRecDepth 100000 in
theorem g518 : Cond.code yX8_read prog_1_method_4_code 2 (some Jvm.ClassFile.FieldType.int) ∈ gw := gw_at 518 rfl (by decide +kernel)
theorem g519 : Cond.methodLink "MirageLoans" 93 yX1_parse ∈ gw := gw_at 519 (by decide +kernel) (by decide +kernel)
theorem g520 : Cond.instanceMethod yX1_parse ∈ gw := gw_at 520 (by decide +kernel) (by decide +kernel)
theorem g521 : Cond.selects "MirageLoans$Grammar" yX1_parse yX1_parse ∈ gw := gw_at 521 (by decide +kernel) (by decide +kernel)
set_option maxRecDepth 100000 in
theorem g522 : Cond.code yX1_parse prog_3_method_2_code 3 (some Jvm.ClassFile.FieldType.int) ∈ gw := gw_at 522 rfl (by decide +kernel)
theorem g523 : Cond.methodLink "MirageLoans$Grammar" 44 yX0_clear ∈ gw := gw_at 523 (by decide +kernel) (by decide +kernel)
theorem g524 : Cond.methodLink "MirageLoans$Grammar" 47 yX6_scan ∈ gw := gw_at 524 (by decide +kernel) (by decide +kernel)
theorem g525 : Cond.instanceMethod yX6_scan ∈ gw := gw_at 525 (by decide +kernel) (by decide +kernel)
theorem g526 : Cond.selects "MirageLoans$Tokens" yX6_scan yX6_scan ∈ gw := gw_at 526 (by decide +kernel) (by decide +kernel)
set_option maxRecDepth 100000 in
theorem g527 : Cond.code yX6_scan prog_8_method_3_code 4 none ∈ gw := gw_at 527 rfl (by decide +kernel)
theorem g528 : Cond.methodLink "MirageLoans$Tokens" 47 yX6_skipBlanks ∈ gw := gw_at 528 (by decide +kernel) (by decide +kernel)
theorem g530 : Cond.instanceMethod yX6_skipBlanks ∈ gw := gw_at 530 (by decide +kernel) (by decide +kernel)
set_option maxRecDepth 100000 in
theorem g531 : Cond.code yX6_skipBlanks prog_8_method_4_code 2 none ∈ gw := gw_at 531 rfl (by decide +kernel)
theorem g532 : Cond.methodLink "MirageLoans$Tokens" 51 yX5_byteAt ∈ gw := gw_at 532 (by decide +kernel) (by decide +kernel)
theorem g533 : Cond.instanceMethod yX5_byteAt ∈ gw := gw_at 533 (by decide +kernel) (by decide +kernel)
theorem g534 : Cond.selects "MirageLoans$Tape" yX5_byteAt yX5_byteAt ∈ gw := gw_at 534 (by decide +kernel) (by decide +kernel)
set_option maxRecDepth 100000 in
theorem g535 : Cond.code yX5_byteAt prog_7_method_5_code 2 (some Jvm.ClassFile.FieldType.int) ∈ gw := gw_at 535 rfl (by decide +kernel)
theorem g575 : Cond.static Lib.Math.max.name ∈ gw := gw_at 575 (by decide +kernel) (by decide +kernel)
set_option maxRecDepth 100000 in
theorem g576 : Cond.code Lib.Math.max.name prog_14_method_65_code 2 (some Jvm.ClassFile.FieldType.int) ∈ gw := gw_at 576 rfl (by decide +kernel)
theorem g578 : Cond.static Lib.Math.min.name ∈ gw := gw_at 578 (by decide +kernel) (by decide +kernel)
set_option maxRecDepth 100000 in
theorem g579 : Cond.code Lib.Math.min.name prog_14_method_69_code 2 (some Jvm.ClassFile.FieldType.int) ∈ gw := gw_at 579 rfl (by decide +kernel)
theorem g676 : Cond.methodLink "MirageLoans" 100 yX1_handOver ∈ gw := gw_at 676 (by decide +kernel) (by decide +kernel)
theorem g677 : Cond.instanceMethod yX1_handOver ∈ gw := gw_at 677 (by decide +kernel) (by decide +kernel)
theorem g678 : Cond.selects "MirageLoans$Grammar" yX1_handOver yX1_handOver ∈ gw := gw_at 678 (by decide +kernel) (by decide +kernel)
set_option maxRecDepth 100000 in
theorem g679 : Cond.code yX1_handOver prog_3_method_3_code 3 (some (Jvm.ClassFile.FieldType.object "MirageLoans$Flat")) ∈ gw := gw_at 679 rfl (by decide +kernel)
theorem g680 : Cond.methodLink "MirageLoans" 104 yX8_beginAnew ∈ gw := gw_at 680 (by decide +kernel) (by decide +kernel)
theorem g682 : Cond.instanceMethod yX8_beginAnew ∈ gw := gw_at 682 (by decide +kernel) (by decide +kernel)
set_option maxRecDepth 100000 in
theorem g683 : Cond.code yX8_beginAnew prog_1_method_5_code 2 none ∈ gw := gw_at 683 rfl (by decide +kernel)
theorem g684 : Cond.methodLink "MirageLoans" 107 yX4_begin ∈ gw := gw_at 684 (by decide +kernel) (by decide +kernel)
theorem g685 : Cond.instanceMethod yX4_begin ∈ gw := gw_at 685 (by decide +kernel) (by decide +kernel)
theorem g686 : Cond.selects "MirageLoans$State" yX4_begin yX4_begin ∈ gw := gw_at 686 (by decide +kernel) (by decide +kernel)
set_option maxRecDepth 100000 in
theorem g687 : Cond.code yX4_begin prog_6_method_2_code 3 none ∈ gw := gw_at 687 rfl (by decide +kernel)
theorem g688 : Cond.methodLink "MirageLoans$State" 46 yX4_keepOnly ∈ gw := gw_at 688 (by decide +kernel) (by decide +kernel)
theorem g689 : Cond.instanceMethod yX4_keepOnly ∈ gw := gw_at 689 (by decide +kernel) (by decide +kernel)
theorem g690 : Cond.selects "MirageLoans$State" yX4_keepOnly yX4_keepOnly ∈ gw := gw_at 690 (by decide +kernel) (by decide +kernel)
set_option maxRecDepth 100000 in
theorem g691 : Cond.code yX4_keepOnly prog_6_method_5_code 3 none ∈ gw := gw_at 691 rfl (by decide +kernel)
theorem g692 : Cond.methodLink "MirageLoans$State" 56 yX4_end ∈ gw := gw_at 692 (by decide +kernel) (by decide +kernel)
theorem g693 : Cond.instanceMethod yX4_end ∈ gw := gw_at 693 (by decide +kernel) (by decide +kernel)
theorem g694 : Cond.selects "MirageLoans$State" yX4_end yX4_end ∈ gw := gw_at 694 (by decide +kernel) (by decide +kernel)
set_option maxRecDepth 100000 in
theorem g695 : Cond.code yX4_end prog_6_method_4_code 2 none ∈ gw := gw_at 695 rfl (by decide +kernel)
theorem g696 : Cond.methodLink "MirageLoans" 111 yX3_clear ∈ gw := gw_at 696 (by decide +kernel) (by decide +kernel)
theorem g697 : Cond.instanceMethod yX3_clear ∈ gw := gw_at 697 (by decide +kernel) (by decide +kernel)
theorem g698 : Cond.selects "MirageLoans$Past" yX3_clear yX3_clear ∈ gw := gw_at 698 (by decide +kernel) (by decide +kernel)
set_option maxRecDepth 100000 in
theorem g699 : Cond.code yX3_clear prog_5_method_2_code 1 none ∈ gw := gw_at 699 rfl (by decide +kernel)
set_option maxRecDepth 100000 in
theorem g703 : Cond.code yX8_place prog_1_method_6_code 1 (some Jvm.ClassFile.FieldType.int) ∈ gw := gw_at 703 rfl (by decide +kernel)
set_option maxRecDepth 100000 in
theorem g707 : Cond.code yX8_thing prog_1_method_7_code 3 (some Jvm.ClassFile.FieldType.int) ∈ gw := gw_at 707 rfl (by decide +kernel)
theorem g708 : Cond.methodLink "MirageLoans" 115 yX8_isThing ∈ gw := gw_at 708 (by decide +kernel) (by decide +kernel)
theorem g710 : Cond.instanceMethod yX8_isThing ∈ gw := gw_at 710 (by decide +kernel) (by decide +kernel)
set_option maxRecDepth 100000 in
theorem g711 : Cond.code yX8_isThing prog_1_method_50_code 2 (some Jvm.ClassFile.FieldType.boolean) ∈ gw := gw_at 711 rfl (by decide +kernel)
theorem g716 : Cond.methodLink "MirageLoans" 143 yX0_heat ∈ gw := gw_at 716 (by decide +kernel) (by decide +kernel)
theorem g717 : Cond.instanceMethod yX0_heat ∈ gw := gw_at 717 (by decide +kernel) (by decide +kernel)
theorem g718 : Cond.selects "MirageLoans$Flat" yX0_heat yX0_heat ∈ gw := gw_at 718 (by decide +kernel) (by decide +kernel)
set_option maxRecDepth 100000 in
theorem g719 : Cond.code yX0_heat prog_2_method_5_code 2 (some Jvm.ClassFile.FieldType.int) ∈ gw := gw_at 719 rfl (by decide +kernel)
theorem g720 : Cond.methodLink "MirageLoans$Flat" 61 yX2_heat ∈ gw := gw_at 720 (by decide +kernel) (by decide +kernel)
theorem g721 : Cond.instanceMethod yX2_heat ∈ gw := gw_at 721 (by decide +kernel) (by decide +kernel)
theorem g722 : Cond.selects "MirageLoans$Laws" yX2_heat yX2_heat ∈ gw := gw_at 722 (by decide +kernel) (by decide +kernel)
set_option maxRecDepth 100000 in
theorem g723 : Cond.code yX2_heat prog_4_method_7_code 2 (some Jvm.ClassFile.FieldType.int) ∈ gw := gw_at 723 rfl (by decide +kernel)
theorem g724 : Cond.methodLink "MirageLoans$Laws" 43 yX2_clearVars ∈ gw := gw_at 724 (by decide +kernel) (by decide +kernel)
theorem g726 : Cond.instanceMethod yX2_clearVars ∈ gw := gw_at 726 (by decide +kernel) (by decide +kernel)
set_option maxRecDepth 100000 in
theorem g727 : Cond.code yX2_clearVars prog_4_method_9_code 3 none ∈ gw := gw_at 727 rfl (by decide +kernel)
theorem g728 : Cond.methodLink "MirageLoans$Laws" 46 yX2_reckon ∈ gw := gw_at 728 (by decide +kernel) (by decide +kernel)
theorem g730 : Cond.instanceMethod yX2_reckon ∈ gw := gw_at 730 (by decide +kernel) (by decide +kernel)
set_option maxRecDepth 100000 in
theorem g731 : Cond.code yX2_reckon prog_4_method_15_code 6 (some Jvm.ClassFile.FieldType.int) ∈ gw := gw_at 731 rfl (by decide +kernel)
theorem g732 : Cond.methodLink "MirageLoans$Laws" 67 yX2_variable ∈ gw := gw_at 732 (by decide +kernel) (by decide +kernel)
theorem g734 : Cond.instanceMethod yX2_variable ∈ gw := gw_at 734 (by decide +kernel) (by decide +kernel)
set_option maxRecDepth 100000 in
theorem g735 : Cond.code yX2_variable prog_4_method_16_code 2 (some Jvm.ClassFile.FieldType.int) ∈ gw := gw_at 735 rfl (by decide +kernel)
theorem g737 : Cond.methodLink "MirageLoans$Laws" 73 yX2_joined ∈ gw := gw_at 737 (by decide +kernel) (by decide +kernel)
theorem g738 : Cond.static yX2_joined ∈ gw := gw_at 738 (by decide +kernel) (by decide +kernel)
set_option maxRecDepth 100000 in
theorem g739 : Cond.code yX2_joined prog_4_method_17_code 3 (some Jvm.ClassFile.FieldType.int) ∈ gw := gw_at 739 rfl (by decide +kernel)
theorem g741 : Cond.static yX8_within ∈ gw := gw_at 741 (by decide +kernel) (by decide +kernel)
set_option maxRecDepth 100000 in
theorem g742 : Cond.code yX8_within prog_1_method_56_code 3 (some Jvm.ClassFile.FieldType.int) ∈ gw := gw_at 742 rfl (by decide +kernel)
theorem g743 : Cond.methodLink "MirageLoans" 330 Lib.Math.min.name ∈ gw := gw_at 743 (by decide +kernel) (by decide +kernel)
theorem g744 : Cond.methodLink "MirageLoans" 333 Lib.Math.max.name ∈ gw := gw_at 744 (by decide +kernel) (by decide +kernel)
theorem g750 : Cond.instanceMethod yX2_aim ∈ gw := gw_at 750 (by decide +kernel) (by decide +kernel)
theorem g751 : Cond.selects "MirageLoans$Laws" yX2_aim yX2_aim ∈ gw := gw_at 751 (by decide +kernel) (by decide +kernel)
set_option maxRecDepth 100000 in
theorem g752 : Cond.code yX2_aim prog_4_method_10_code 6 none ∈ gw := gw_at 752 rfl (by decide +kernel)
theorem g753 : Cond.methodLink "MirageLoans$Laws" 54 Lib.Math.abs.name ∈ gw := gw_at 753 (by decide +kernel) (by decide +kernel)
theorem g754 : Cond.static Lib.Math.abs.name ∈ gw := gw_at 754 (by decide +kernel) (by decide +kernel)
set_option maxRecDepth 100000 in
theorem g755 : Cond.code Lib.Math.abs.name prog_14_method_59_code 1 (some Jvm.ClassFile.FieldType.int) ∈ gw := gw_at 755 rfl (by decide +kernel)
theorem g757 : Cond.instanceMethod yX2_isSeen ∈ gw := gw_at 757 (by decide +kernel) (by decide +kernel)
theorem g758 : Cond.selects "MirageLoans$Laws" yX2_isSeen yX2_isSeen ∈ gw := gw_at 758 (by decide +kernel) (by decide +kernel)
set_option maxRecDepth 100000 in
theorem g759 : Cond.code yX2_isSeen prog_4_method_11_code 1 (some Jvm.ClassFile.FieldType.boolean) ∈ gw := gw_at 759 rfl (by decide +kernel)
set_option maxRecDepth 100000 in
theorem g770 : Cond.code yX8_seat prog_1_method_8_code 3 (some Jvm.ClassFile.FieldType.int) ∈ gw := gw_at 770 rfl (by decide +kernel)
theorem g771 : Cond.methodLink "MirageLoans" 131 yX8_isSeat ∈ gw := gw_at 771 (by decide +kernel) (by decide +kernel)
theorem g773 : Cond.instanceMethod yX8_isSeat ∈ gw := gw_at 773 (by decide +kernel) (by decide +kernel)
set_option maxRecDepth 100000 in
theorem g774 : Cond.code yX8_isSeat prog_1_method_51_code 2 (some Jvm.ClassFile.FieldType.boolean) ∈ gw := gw_at 774 rfl (by decide +kernel)
theorem g775 : Cond.methodLink "MirageLoans" 146 yX8_thingsSeenFrom ∈ gw := gw_at 775 (by decide +kernel) (by decide +kernel)
theorem g777 : Cond.instanceMethod yX8_thingsSeenFrom ∈ gw := gw_at 777 (by decide +kernel) (by decide +kernel)
set_option maxRecDepth 100000 in
theorem g778 : Cond.code yX8_thingsSeenFrom prog_1_method_61_code 3 (some Jvm.ClassFile.FieldType.int) ∈ gw := gw_at 778 rfl (by decide +kernel)
theorem g779 : Cond.methodLink "MirageLoans" 336 yX0_thingsSeenFrom ∈ gw := gw_at 779 (by decide +kernel) (by decide +kernel)
theorem g780 : Cond.instanceMethod yX0_thingsSeenFrom ∈ gw := gw_at 780 (by decide +kernel) (by decide +kernel)
theorem g781 : Cond.selects "MirageLoans$Flat" yX0_thingsSeenFrom yX0_thingsSeenFrom ∈ gw := gw_at 781 (by decide +kernel) (by decide +kernel)
set_option maxRecDepth 100000 in
theorem g782 : Cond.code yX0_thingsSeenFrom prog_2_method_10_code 6 (some Jvm.ClassFile.FieldType.int) ∈ gw := gw_at 782 rfl (by decide +kernel)
set_option maxRecDepth 100000 in
theorem g796 : Cond.code yX8_loan prog_1_method_9_code 5 (some Jvm.ClassFile.FieldType.int) ∈ gw := gw_at 796 rfl (by decide +kernel)
theorem g797 : Cond.methodLink "MirageLoans" 162 yX8_isPair ∈ gw := gw_at 797 (by decide +kernel) (by decide +kernel)
theorem g799 : Cond.instanceMethod yX8_isPair ∈ gw := gw_at 799 (by decide +kernel) (by decide +kernel)
set_option maxRecDepth 100000 in
theorem g800 : Cond.code yX8_isPair prog_1_method_52_code 3 (some Jvm.ClassFile.FieldType.boolean) ∈ gw := gw_at 800 rfl (by decide +kernel)
set_option maxRecDepth 100000 in
theorem g804 : Cond.code yX8_tells prog_1_method_10_code 8 (some Jvm.ClassFile.FieldType.int) ∈ gw := gw_at 804 rfl (by decide +kernel)
theorem g805 : Cond.methodLink "MirageLoans" 175 yX8_isX ∈ gw := gw_at 805 (by decide +kernel) (by decide +kernel)
theorem g806 : Cond.static yX8_isX ∈ gw := gw_at 806 (by decide +kernel) (by decide +kernel)
set_option maxRecDepth 100000 in
theorem g807 : Cond.code yX8_isX prog_1_method_48_code 1 (some Jvm.ClassFile.FieldType.boolean) ∈ gw := gw_at 807 rfl (by decide +kernel)
theorem g813 : Cond.instanceMethod yX2_moved ∈ gw := gw_at 813 (by decide +kernel) (by decide +kernel)
theorem g814 : Cond.selects "MirageLoans$Laws" yX2_moved yX2_moved ∈ gw := gw_at 814 (by decide +kernel) (by decide +kernel)
set_option maxRecDepth 100000 in
theorem g815 : Cond.code yX2_moved prog_4_method_12_code 1 (some Jvm.ClassFile.FieldType.int) ∈ gw := gw_at 815 rfl (by decide +kernel)
theorem g824 : Cond.methodLink "MirageLoans" 190 yX2_interest ∈ gw := gw_at 824 (by decide +kernel) (by decide +kernel)
theorem g825 : Cond.instanceMethod yX2_interest ∈ gw := gw_at 825 (by decide +kernel) (by decide +kernel)
theorem g826 : Cond.selects "MirageLoans$Laws" yX2_interest yX2_interest ∈ gw := gw_at 826 (by decide +kernel) (by decide +kernel)
set_option maxRecDepth 100000 in
theorem g827 : Cond.code yX2_interest prog_4_method_8_code 4 (some Jvm.ClassFile.FieldType.int) ∈ gw := gw_at 827 rfl (by decide +kernel)
set_option maxRecDepth 100000 in
theorem g831 : Cond.code yX8_lend prog_1_method_11_code 5 (some Jvm.ClassFile.FieldType.int) ∈ gw := gw_at 831 rfl (by decide +kernel)
theorem g836 : Cond.methodLink "MirageLoans" 199 yX3_push ∈ gw := gw_at 836 (by decide +kernel) (by decide +kernel)
theorem g837 : Cond.instanceMethod yX3_push ∈ gw := gw_at 837 (by decide +kernel) (by decide +kernel)
theorem g838 : Cond.selects "MirageLoans$Past" yX3_push yX3_push ∈ gw := gw_at 838 (by decide +kernel) (by decide +kernel)
set_option maxRecDepth 100000 in
theorem g839 : Cond.code yX3_push prog_5_method_3_code 2 none ∈ gw := gw_at 839 rfl (by decide +kernel)
theorem g840 : Cond.methodLink "MirageLoans$Past" 23 yX4_copy ∈ gw := gw_at 840 (by decide +kernel) (by decide +kernel)
theorem g841 : Cond.instanceMethod yX4_copy ∈ gw := gw_at 841 (by decide +kernel) (by decide +kernel)
theorem g842 : Cond.selects "MirageLoans$State" yX4_copy yX4_copy ∈ gw := gw_at 842 (by decide +kernel) (by decide +kernel)
set_option maxRecDepth 100000 in
theorem g843 : Cond.code yX4_copy prog_6_method_3_code 2 none ∈ gw := gw_at 843 rfl (by decide +kernel)
theorem g844 : Cond.methodLink "MirageLoans$State" 50 arraycopyName ∈ gw := gw_at 844 (by decide +kernel) (by decide +kernel)
theorem g845 : Cond.static arraycopyName ∈ gw := gw_at 845 (by decide +kernel) (by decide +kernel)
theorem g846 : Cond.native arraycopyName ∈ gw := gw_at 846 (by decide +kernel) (by decide +kernel)
theorem g847 : Cond.methodLink "MirageLoans$Past" 27 Lib.Math.min.name ∈ gw := gw_at 847 (by decide +kernel) (by decide +kernel)
set_option maxRecDepth 100000 in
theorem g851 : Cond.code yX8_call prog_1_method_12_code 5 (some Jvm.ClassFile.FieldType.int) ∈ gw := gw_at 851 rfl (by decide +kernel)
set_option maxRecDepth 100000 in
theorem g857 : Cond.code yX8_move prog_1_method_13_code 3 (some Jvm.ClassFile.FieldType.boolean) ∈ gw := gw_at 857 rfl (by decide +kernel)
set_option maxRecDepth 100000 in
theorem g861 : Cond.code yX8_hours prog_1_method_14_code 2 (some Jvm.ClassFile.FieldType.int) ∈ gw := gw_at 861 rfl (by decide +kernel)
theorem g862 : Cond.methodLink "MirageLoans" 207 yX8_isAhead ∈ gw := gw_at 862 (by decide +kernel) (by decide +kernel)
theorem g863 : Cond.static yX8_isAhead ∈ gw := gw_at 863 (by decide +kernel) (by decide +kernel)
set_option maxRecDepth 100000 in
theorem g864 : Cond.code yX8_isAhead prog_1_method_49_code 1 (some Jvm.ClassFile.FieldType.boolean) ∈ gw := gw_at 864 rfl (by decide +kernel)
theorem g865 : Cond.methodLink "MirageLoans" 216 yX0_pass ∈ gw := gw_at 865 (by decide +kernel) (by decide +kernel)
theorem g866 : Cond.instanceMethod yX0_pass ∈ gw := gw_at 866 (by decide +kernel) (by decide +kernel)
theorem g867 : Cond.selects "MirageLoans$Flat" yX0_pass yX0_pass ∈ gw := gw_at 867 (by decide +kernel) (by decide +kernel)
set_option maxRecDepth 100000 in
theorem g868 : Cond.code yX0_pass prog_2_method_14_code 10 none ∈ gw := gw_at 868 rfl (by decide +kernel)
theorem g869 : Cond.methodLink "MirageLoans$Flat" 100 yX0_heat ∈ gw := gw_at 869 (by decide +kernel) (by decide +kernel)
theorem g870 : Cond.methodLink "MirageLoans$Flat" 101 yX0_isWind ∈ gw := gw_at 870 (by decide +kernel) (by decide +kernel)
theorem g871 : Cond.static yX0_isWind ∈ gw := gw_at 871 (by decide +kernel) (by decide +kernel)
set_option maxRecDepth 100000 in
theorem g872 : Cond.code yX0_isWind prog_2_method_11_code 3 (some Jvm.ClassFile.FieldType.boolean) ∈ gw := gw_at 872 rfl (by decide +kernel)
theorem g873 : Cond.methodLink "MirageLoans$Flat" 87 yX0_lot ∈ gw := gw_at 873 (by decide +kernel) (by decide +kernel)
theorem g874 : Cond.static yX0_lot ∈ gw := gw_at 874 (by decide +kernel) (by decide +kernel)
set_option maxRecDepth 100000 in
theorem g875 : Cond.code yX0_lot prog_2_method_12_code 3 (some Jvm.ClassFile.FieldType.int) ∈ gw := gw_at 875 rfl (by decide +kernel)
theorem g876 : Cond.methodLink "MirageLoans$Flat" 91 yX0_stirred ∈ gw := gw_at 876 (by decide +kernel) (by decide +kernel)
theorem g877 : Cond.static yX0_stirred ∈ gw := gw_at 877 (by decide +kernel) (by decide +kernel)
set_option maxRecDepth 100000 in
theorem g878 : Cond.code yX0_stirred prog_2_method_13_code 3 (some Jvm.ClassFile.FieldType.int) ∈ gw := gw_at 878 rfl (by decide +kernel)
theorem g879 : Cond.constant "MirageLoans$Flat" 94 (1103515245 : Int32) ∈ gw := gw_at 879 (by decide +kernel) (by decide +kernel)
set_option maxRecDepth 100000 in
theorem g892 : Cond.code yX8_undo prog_1_method_15_code 1 (some Jvm.ClassFile.FieldType.boolean) ∈ gw := gw_at 892 rfl (by decide +kernel)
theorem g893 : Cond.methodLink "MirageLoans" 220 yX3_pop ∈ gw := gw_at 893 (by decide +kernel) (by decide +kernel)
theorem g894 : Cond.instanceMethod yX3_pop ∈ gw := gw_at 894 (by decide +kernel) (by decide +kernel)
theorem g895 : Cond.selects "MirageLoans$Past" yX3_pop yX3_pop ∈ gw := gw_at 895 (by decide +kernel) (by decide +kernel)
set_option maxRecDepth 100000 in
theorem g896 : Cond.code yX3_pop prog_5_method_4_code 2 (some Jvm.ClassFile.FieldType.boolean) ∈ gw := gw_at 896 rfl (by decide +kernel)
set_option maxRecDepth 100000 in
theorem g900 : Cond.code yX8_sight prog_1_method_16_code 6 (some Jvm.ClassFile.FieldType.int) ∈ gw := gw_at 900 rfl (by decide +kernel)
theorem g906 : Cond.instanceMethod yX2_spot ∈ gw := gw_at 906 (by decide +kernel) (by decide +kernel)
theorem g907 : Cond.selects "MirageLoans$Laws" yX2_spot yX2_spot ∈ gw := gw_at 907 (by decide +kernel) (by decide +kernel)
set_option maxRecDepth 100000 in
theorem g908 : Cond.code yX2_spot prog_4_method_13_code 2 (some Jvm.ClassFile.FieldType.int) ∈ gw := gw_at 908 rfl (by decide +kernel)
theorem g909 : Cond.methodLink "MirageLoans$Laws" 59 yX2_isSeen ∈ gw := gw_at 909 (by decide +kernel) (by decide +kernel)
theorem g910 : Cond.methodLink "MirageLoans$Laws" 63 yX2_moved ∈ gw := gw_at 910 (by decide +kernel) (by decide +kernel)
set_option maxRecDepth 100000 in
theorem g914 : Cond.code yX8_clash prog_1_method_17_code 6 (some Jvm.ClassFile.FieldType.int) ∈ gw := gw_at 914 rfl (by decide +kernel)
theorem g915 : Cond.methodLink "MirageLoans" 227 yX8_findSpotsLentOn ∈ gw := gw_at 915 (by decide +kernel) (by decide +kernel)
theorem g917 : Cond.instanceMethod yX8_findSpotsLentOn ∈ gw := gw_at 917 (by decide +kernel) (by decide +kernel)
set_option maxRecDepth 100000 in
theorem g918 : Cond.code yX8_findSpotsLentOn prog_1_method_18_code 5 none ∈ gw := gw_at 918 rfl (by decide +kernel)
set_option maxRecDepth 100000 in
theorem g926 : Cond.code yX8_longFrom prog_1_method_20_code 6 (some Jvm.ClassFile.FieldType.int) ∈ gw := gw_at 926 rfl (by decide +kernel)
set_option maxRecDepth 100000 in
theorem g930 : Cond.code yX8_best prog_1_method_21_code 6 (some Jvm.ClassFile.FieldType.int) ∈ gw := gw_at 930 rfl (by decide +kernel)
set_option maxRecDepth 100000 in
theorem g938 : Cond.code yX8_dawns prog_1_method_23_code 5 (some Jvm.ClassFile.FieldType.int) ∈ gw := gw_at 938 rfl (by decide +kernel)
set_option maxRecDepth 100000 in
theorem g942 : Cond.code yX8_near prog_1_method_24_code 8 (some Jvm.ClassFile.FieldType.int) ∈ gw := gw_at 942 rfl (by decide +kernel)
set_option maxRecDepth 100000 in
theorem g947 : Cond.code yX8_crowd prog_1_method_25_code 6 (some Jvm.ClassFile.FieldType.int) ∈ gw := gw_at 947 rfl (by decide +kernel)
set_option maxRecDepth 100000 in
theorem g951 : Cond.code yX8_rich prog_1_method_26_code 5 (some Jvm.ClassFile.FieldType.int) ∈ gw := gw_at 951 rfl (by decide +kernel)
theorem g956 : Cond.methodLink "MirageLoans" 258 yX4_copy ∈ gw := gw_at 956 (by decide +kernel) (by decide +kernel)
set_option maxRecDepth 100000 in
theorem g965 : Cond.code yX8_umbrellas prog_1_method_28_code 4 (some Jvm.ClassFile.FieldType.int) ∈ gw := gw_at 965 rfl (by decide +kernel)
theorem g966 : Cond.methodLink "MirageLoans" 261 yX8_pitchUmbrellas ∈ gw := gw_at 966 (by decide +kernel) (by decide +kernel)
theorem g968 : Cond.instanceMethod yX8_pitchUmbrellas ∈ gw := gw_at 968 (by decide +kernel) (by decide +kernel)
set_option maxRecDepth 100000 in
theorem g969 : Cond.code yX8_pitchUmbrellas prog_1_method_29_code 8 (some Jvm.ClassFile.FieldType.int) ∈ gw := gw_at 969 rfl (by decide +kernel)
theorem g970 : Cond.methodLink "MirageLoans" 264 yJ6_bitCount_0f7a4 ∈ gw := gw_at 970 (by decide +kernel) (by decide +kernel)
theorem g971 : Cond.static yJ6_bitCount_0f7a4 ∈ gw := gw_at 971 (by decide +kernel) (by decide +kernel)
set_option maxRecDepth 100000 in
theorem g972 : Cond.code yJ6_bitCount_0f7a4 prog_13_method_49_code 1 (some Jvm.ClassFile.FieldType.int) ∈ gw := gw_at 972 rfl (by decide +kernel)
theorem g973 : Cond.constant "java/lang/Integer" 265 (1431655765 : Int32) ∈ gw := gw_at 973 (by decide +kernel) (by decide +kernel)
theorem g974 : Cond.constant "java/lang/Integer" 266 (858993459 : Int32) ∈ gw := gw_at 974 (by decide +kernel) (by decide +kernel)
theorem g975 : Cond.constant "java/lang/Integer" 267 (252645135 : Int32) ∈ gw := gw_at 975 (by decide +kernel) (by decide +kernel)
theorem g976 : Cond.methodLink "MirageLoans" 269 arraycopyName ∈ gw := gw_at 976 (by decide +kernel) (by decide +kernel)
theorem g977 : Cond.methodLink "MirageLoans" 275 yX8_nextPitch ∈ gw := gw_at 977 (by decide +kernel) (by decide +kernel)
theorem g979 : Cond.instanceMethod yX8_nextPitch ∈ gw := gw_at 979 (by decide +kernel) (by decide +kernel)
set_option maxRecDepth 100000 in
theorem g980 : Cond.code yX8_nextPitch prog_1_method_30_code 4 (some Jvm.ClassFile.FieldType.boolean) ∈ gw := gw_at 980 rfl (by decide +kernel)
set_option maxRecDepth 100000 in
theorem g984 : Cond.code yX8_worth prog_1_method_31_code 7 (some Jvm.ClassFile.FieldType.int) ∈ gw := gw_at 984 rfl (by decide +kernel)
theorem g985 : Cond.constant "MirageLoans" 278 (-100000 : Int32) ∈ gw := gw_at 985 (by decide +kernel) (by decide +kernel)
set_option maxRecDepth 100000 in
theorem g990 : Cond.code yX8_book prog_1_method_32_code 3 (some Jvm.ClassFile.FieldType.int) ∈ gw := gw_at 990 rfl (by decide +kernel)
set_option maxRecDepth 100000 in
theorem g994 : Cond.code yX8_hidden prog_1_method_33_code 7 (some Jvm.ClassFile.FieldType.int) ∈ gw := gw_at 994 rfl (by decide +kernel)
theorem g995 : Cond.methodLink "MirageLoans" 282 yX8_unseenOf ∈ gw := gw_at 995 (by decide +kernel) (by decide +kernel)
theorem g997 : Cond.instanceMethod yX8_unseenOf ∈ gw := gw_at 997 (by decide +kernel) (by decide +kernel)
set_option maxRecDepth 100000 in
theorem g998 : Cond.code yX8_unseenOf prog_1_method_34_code 8 (some Jvm.ClassFile.FieldType.int) ∈ gw := gw_at 998 rfl (by decide +kernel)
theorem g1001 : Cond.constant "MirageLoans" 285 (1048575 : Int32) ∈ gw := gw_at 1001 (by decide +kernel) (by decide +kernel)
set_option maxRecDepth 100000 in
theorem g1005 : Cond.code yX8_cool prog_1_method_35_code 2 (some Jvm.ClassFile.FieldType.int) ∈ gw := gw_at 1005 rfl (by decide +kernel)
theorem g1006 : Cond.methodLink "MirageLoans" 294 yX8_thingsSeen ∈ gw := gw_at 1006 (by decide +kernel) (by decide +kernel)
theorem g1008 : Cond.instanceMethod yX8_thingsSeen ∈ gw := gw_at 1008 (by decide +kernel) (by decide +kernel)
set_option maxRecDepth 100000 in
theorem g1009 : Cond.code yX8_thingsSeen prog_1_method_62_code 5 (some Jvm.ClassFile.FieldType.int) ∈ gw := gw_at 1009 rfl (by decide +kernel)
set_option maxRecDepth 100000 in
theorem g1013 : Cond.code yX8_heatIn prog_1_method_36_code 2 (some Jvm.ClassFile.FieldType.int) ∈ gw := gw_at 1013 rfl (by decide +kernel)
set_option maxRecDepth 100000 in
theorem g1017 : Cond.code yX8_lentIn prog_1_method_37_code 5 (some Jvm.ClassFile.FieldType.int) ∈ gw := gw_at 1017 rfl (by decide +kernel)
set_option maxRecDepth 100000 in
theorem g1021 : Cond.code yX8_year prog_1_method_38_code 8 (some Jvm.ClassFile.FieldType.int) ∈ gw := gw_at 1021 rfl (by decide +kernel)
set_option maxRecDepth 100000 in
theorem g1025 : Cond.code yX8_tell prog_1_method_39_code 4 (some Jvm.ClassFile.FieldType.int) ∈ gw := gw_at 1025 rfl (by decide +kernel)
theorem g1026 : Cond.methodLink "MirageLoans" 297 yX7_put ∈ gw := gw_at 1026 (by decide +kernel) (by decide +kernel)
theorem g1027 : Cond.instanceMethod yX7_put ∈ gw := gw_at 1027 (by decide +kernel) (by decide +kernel)
theorem g1028 : Cond.selects "MirageLoans$Told" yX7_put yX7_put ∈ gw := gw_at 1028 (by decide +kernel) (by decide +kernel)
set_option maxRecDepth 100000 in
theorem g1029 : Cond.code yX7_put prog_9_method_2_code 4 (some Jvm.ClassFile.FieldType.int) ∈ gw := gw_at 1029 rfl (by decide +kernel)
set_option maxRecDepth 100000 in
theorem g1033 : Cond.code yX8_forget prog_1_method_40_code 2 (some Jvm.ClassFile.FieldType.int) ∈ gw := gw_at 1033 rfl (by decide +kernel)
set_option maxRecDepth 100000 in
theorem g1037 : Cond.code yX8_stands prog_1_method_41_code 2 (some Jvm.ClassFile.FieldType.int) ∈ gw := gw_at 1037 rfl (by decide +kernel)
theorem g1038 : Cond.methodLink "MirageLoans" 300 yX8_isKnown ∈ gw := gw_at 1038 (by decide +kernel) (by decide +kernel)
theorem g1040 : Cond.instanceMethod yX8_isKnown ∈ gw := gw_at 1040 (by decide +kernel) (by decide +kernel)
set_option maxRecDepth 100000 in
theorem g1041 : Cond.code yX8_isKnown prog_1_method_53_code 2 (some Jvm.ClassFile.FieldType.boolean) ∈ gw := gw_at 1041 rfl (by decide +kernel)
theorem g1042 : Cond.methodLink "MirageLoans" 303 yX7_sift ∈ gw := gw_at 1042 (by decide +kernel) (by decide +kernel)
theorem g1043 : Cond.instanceMethod yX7_sift ∈ gw := gw_at 1043 (by decide +kernel) (by decide +kernel)
theorem g1044 : Cond.selects "MirageLoans$Told" yX7_sift yX7_sift ∈ gw := gw_at 1044 (by decide +kernel) (by decide +kernel)
set_option maxRecDepth 100000 in
theorem g1045 : Cond.code yX7_sift prog_9_method_5_code 7 (some Jvm.ClassFile.FieldType.int) ∈ gw := gw_at 1045 rfl (by decide +kernel)
theorem g1046 : Cond.methodLink "MirageLoans$Told" 32 yX0_heat ∈ gw := gw_at 1046 (by decide +kernel) (by decide +kernel)
theorem g1051 : Cond.methodLink "MirageLoans$Told" 46 yX7_xOf ∈ gw := gw_at 1051 (by decide +kernel) (by decide +kernel)
theorem g1052 : Cond.static yX7_xOf ∈ gw := gw_at 1052 (by decide +kernel) (by decide +kernel)
set_option maxRecDepth 100000 in
theorem g1053 : Cond.code yX7_xOf prog_9_method_3_code 1 (some Jvm.ClassFile.FieldType.int) ∈ gw := gw_at 1053 rfl (by decide +kernel)
theorem g1054 : Cond.methodLink "MirageLoans$Told" 49 yX7_tallOf ∈ gw := gw_at 1054 (by decide +kernel) (by decide +kernel)
theorem g1055 : Cond.static yX7_tallOf ∈ gw := gw_at 1055 (by decide +kernel) (by decide +kernel)
set_option maxRecDepth 100000 in
theorem g1056 : Cond.code yX7_tallOf prog_9_method_4_code 1 (some Jvm.ClassFile.FieldType.int) ∈ gw := gw_at 1056 rfl (by decide +kernel)
theorem g1057 : Cond.methodLink "MirageLoans$Told" 52 yX2_aim ∈ gw := gw_at 1057 (by decide +kernel) (by decide +kernel)
theorem g1058 : Cond.methodLink "MirageLoans$Told" 58 yX2_spot ∈ gw := gw_at 1058 (by decide +kernel) (by decide +kernel)
set_option maxRecDepth 100000 in
theorem g1062 : Cond.code yX8_sure prog_1_method_42_code 3 (some Jvm.ClassFile.FieldType.int) ∈ gw := gw_at 1062 rfl (by decide +kernel)
theorem g1063 : Cond.methodLink "MirageLoans" 307 yX7_common ∈ gw := gw_at 1063 (by decide +kernel) (by decide +kernel)
theorem g1064 : Cond.instanceMethod yX7_common ∈ gw := gw_at 1064 (by decide +kernel) (by decide +kernel)
theorem g1065 : Cond.selects "MirageLoans$Told" yX7_common yX7_common ∈ gw := gw_at 1065 (by decide +kernel) (by decide +kernel)
set_option maxRecDepth 100000 in
theorem g1066 : Cond.code yX7_common prog_9_method_7_code 5 (some Jvm.ClassFile.FieldType.int) ∈ gw := gw_at 1066 rfl (by decide +kernel)
set_option maxRecDepth 100000 in
theorem g1070 : Cond.code yX8_look prog_1_method_43_code 3 (some Jvm.ClassFile.FieldType.int) ∈ gw := gw_at 1070 rfl (by decide +kernel)
theorem g1071 : Cond.methodLink "MirageLoans" 311 yX7_lookFrom ∈ gw := gw_at 1071 (by decide +kernel) (by decide +kernel)
theorem g1072 : Cond.instanceMethod yX7_lookFrom ∈ gw := gw_at 1072 (by decide +kernel) (by decide +kernel)
theorem g1073 : Cond.selects "MirageLoans$Told" yX7_lookFrom yX7_lookFrom ∈ gw := gw_at 1073 (by decide +kernel) (by decide +kernel)
set_option maxRecDepth 100000 in
theorem g1074 : Cond.code yX7_lookFrom prog_9_method_8_code 8 (some Jvm.ClassFile.FieldType.int) ∈ gw := gw_at 1074 rfl (by decide +kernel)
theorem g1075 : Cond.methodLink "MirageLoans$Told" 62 yX7_worstLeft ∈ gw := gw_at 1075 (by decide +kernel) (by decide +kernel)
theorem g1077 : Cond.instanceMethod yX7_worstLeft ∈ gw := gw_at 1077 (by decide +kernel) (by decide +kernel)
set_option maxRecDepth 100000 in
theorem g1078 : Cond.code yX7_worstLeft prog_9_method_9_code 8 (some Jvm.ClassFile.FieldType.int) ∈ gw := gw_at 1078 rfl (by decide +kernel)
theorem g1079 : Cond.methodLink "MirageLoans$Told" 66 Lib.Math.max.name ∈ gw := gw_at 1079 (by decide +kernel) (by decide +kernel)
set_option maxRecDepth 100000 in
theorem g1083 : Cond.code yX8_hold prog_1_method_44_code 2 (some Jvm.ClassFile.FieldType.boolean) ∈ gw := gw_at 1083 rfl (by decide +kernel)
set_option maxRecDepth 100000 in
theorem g1087 : Cond.code yX8_restore prog_1_method_45_code 2 (some Jvm.ClassFile.FieldType.boolean) ∈ gw := gw_at 1087 rfl (by decide +kernel)
set_option maxRecDepth 100000 in
theorem g1091 : Cond.code yX8_count prog_1_method_46_code 2 (some Jvm.ClassFile.FieldType.int) ∈ gw := gw_at 1091 rfl (by decide +kernel)
theorem g1092 : Cond.methodLink "MirageLoans" 314 yX4_loans ∈ gw := gw_at 1092 (by decide +kernel) (by decide +kernel)
theorem g1093 : Cond.instanceMethod yX4_loans ∈ gw := gw_at 1093 (by decide +kernel) (by decide +kernel)
theorem g1094 : Cond.selects "MirageLoans$State" yX4_loans yX4_loans ∈ gw := gw_at 1094 (by decide +kernel) (by decide +kernel)
set_option maxRecDepth 100000 in
theorem g1095 : Cond.code yX4_loans prog_6_method_6_code 6 (some Jvm.ClassFile.FieldType.int) ∈ gw := gw_at 1095 rfl (by decide +kernel)
theorem g1096 : Cond.methodLink "MirageLoans" 318 yX8_sum ∈ gw := gw_at 1096 (by decide +kernel) (by decide +kernel)
theorem g1097 : Cond.static yX8_sum ∈ gw := gw_at 1097 (by decide +kernel) (by decide +kernel)
set_option maxRecDepth 100000 in
theorem g1098 : Cond.code yX8_sum prog_1_method_55_code 6 (some Jvm.ClassFile.FieldType.int) ∈ gw := gw_at 1098 rfl (by decide +kernel)
theorem g1099 : Cond.methodLink "MirageLoans" 323 yX8_heldSlots ∈ gw := gw_at 1099 (by decide +kernel) (by decide +kernel)
theorem g1101 : Cond.instanceMethod yX8_heldSlots ∈ gw := gw_at 1101 (by decide +kernel) (by decide +kernel)
set_option maxRecDepth 100000 in
theorem g1102 : Cond.code yX8_heldSlots prog_1_method_47_code 3 (some Jvm.ClassFile.FieldType.int) ∈ gw := gw_at 1102 rfl (by decide +kernel)
theorem g1103 : Cond.methodLink "MirageLoans" 326 yX0_isWind ∈ gw := gw_at 1103 (by decide +kernel) (by decide +kernel)
set_option maxRecDepth 100000 in
theorem g1108 : Cond.code yX9_init prog_11_method_2_code 1 none ∈ gw := gw_at 1108 rfl (by decide +kernel)
theorem g1109 : Cond.methodLink "MirageLoansModel" 7 Lib.objectInit ∈ gw := gw_at 1109 (by decide +kernel) (by decide +kernel)
theorem g1110 : Cond.methodLink "MirageLoansModel" 149 yX9_plain ∈ gw := gw_at 1110 (by decide +kernel) (by decide +kernel)
theorem g1112 : Cond.instanceMethod yX9_plain ∈ gw := gw_at 1112 (by decide +kernel) (by decide +kernel)
set_option maxRecDepth 100000 in
theorem g1113 : Cond.code yX9_plain prog_11_method_19_code 3 none ∈ gw := gw_at 1113 rfl (by decide +kernel)
theorem g1114 : Cond.methodLink "MirageLoansModel" 153 yX9_word ∈ gw := gw_at 1114 (by decide +kernel) (by decide +kernel)
theorem g1115 : Cond.static yX9_word ∈ gw := gw_at 1115 (by decide +kernel) (by decide +kernel)
set_option maxRecDepth 100000 in
theorem g1116 : Cond.code yX9_word prog_11_method_10_code 7 (some Jvm.ClassFile.FieldType.long) ∈ gw := gw_at 1116 rfl (by decide +kernel)
theorem g1117 : Cond.methodLink "MirageLoansModel" 157 yX9_appends ∈ gw := gw_at 1117 (by decide +kernel) (by decide +kernel)
theorem g1118 : Cond.static yX9_appends ∈ gw := gw_at 1118 (by decide +kernel) (by decide +kernel)
set_option maxRecDepth 100000 in
theorem g1119 : Cond.code yX9_appends prog_11_method_9_code 3 (some Jvm.ClassFile.FieldType.long) ∈ gw := gw_at 1119 rfl (by decide +kernel)
theorem g1120 : Cond.constantLong "MirageLoansModel" 176 (27 : Int64) ∈ gw := gw_at 1120 (by decide +kernel) (by decide +kernel)
theorem g1121 : Cond.methodLink "MirageLoansModel" 161 yX9_begins ∈ gw := gw_at 1121 (by decide +kernel) (by decide +kernel)
theorem g1123 : Cond.instanceMethod yX9_begins ∈ gw := gw_at 1123 (by decide +kernel) (by decide +kernel)
set_option maxRecDepth 100000 in
theorem g1124 : Cond.code yX9_begins prog_11_method_42_code 2 none ∈ gw := gw_at 1124 rfl (by decide +kernel)
theorem g1125 : Cond.methodLink "MirageLoansModel" 164 yX9_keepsRow ∈ gw := gw_at 1125 (by decide +kernel) (by decide +kernel)
theorem g1127 : Cond.instanceMethod yX9_keepsRow ∈ gw := gw_at 1127 (by decide +kernel) (by decide +kernel)
set_option maxRecDepth 100000 in
theorem g1128 : Cond.code yX9_keepsRow prog_11_method_43_code 2 none ∈ gw := gw_at 1128 rfl (by decide +kernel)
theorem g1129 : Cond.fieldLink "MirageLoansModel" 13 "MirageLoansModel" "tape" "[B" ∈ gw := gw_at 1129 (by decide +kernel) (by decide +kernel)
theorem g1130 : Cond.fieldLink "MirageLoansModel" 167 "MirageLoansModel" "taped" "I" ∈ gw := gw_at 1130 (by decide +kernel) (by decide +kernel)
theorem g1131 : Cond.fieldLink "MirageLoansModel" 17 "MirageLoansModel" "text" "[B" ∈ gw := gw_at 1131 (by decide +kernel) (by decide +kernel)
theorem g1132 : Cond.fieldLink "MirageLoansModel" 173 "MirageLoansModel" "size" "I" ∈ gw := gw_at 1132 (by decide +kernel) (by decide +kernel)
theorem g1133 : Cond.fieldLink "MirageLoansModel" 20 "MirageLoansModel" "tKind" "[I" ∈ gw := gw_at 1133 (by decide +kernel) (by decide +kernel)
theorem g1134 : Cond.fieldLink "MirageLoansModel" 24 "MirageLoansModel" "tPlace" "[I" ∈ gw := gw_at 1134 (by decide +kernel) (by decide +kernel)
theorem g1135 : Cond.fieldLink "MirageLoansModel" 27 "MirageLoansModel" "tValue" "[I" ∈ gw := gw_at 1135 (by decide +kernel) (by decide +kernel)
theorem g1136 : Cond.fieldLink "MirageLoansModel" 30 "MirageLoansModel" "tName" "[J" ∈ gw := gw_at 1136 (by decide +kernel) (by decide +kernel)
theorem g1137 : Cond.fieldLink "MirageLoansModel" 34 "MirageLoansModel" "keys" "[J" ∈ gw := gw_at 1137 (by decide +kernel) (by decide +kernel)
theorem g1138 : Cond.fieldLink "MirageLoansModel" 178 "MirageLoansModel" "tokens" "I" ∈ gw := gw_at 1138 (by decide +kernel) (by decide +kernel)
theorem g1139 : Cond.fieldLink "MirageLoansModel" 203 "MirageLoansModel" "t" "I" ∈ gw := gw_at 1139 (by decide +kernel) (by decide +kernel)
theorem g1140 : Cond.fieldLink "MirageLoansModel" 227 "MirageLoansModel" "open" "I" ∈ gw := gw_at 1140 (by decide +kernel) (by decide +kernel)
theorem g1141 : Cond.fieldLink "MirageLoansModel" 200 "MirageLoansModel" "fault" "I" ∈ gw := gw_at 1141 (by decide +kernel) (by decide +kernel)
theorem g1143 : Cond.fieldLink "MirageLoansModel" 209 "MirageLoansModel" "worst" "I" ∈ gw := gw_at 1143 (by decide +kernel) (by decide +kernel)
theorem g1145 : Cond.fieldLink "MirageLoansModel" 37 "MirageLoansModel" "place" "I" ∈ gw := gw_at 1145 (by decide +kernel) (by decide +kernel)
theorem g1146 : Cond.fieldLink "MirageLoansModel" 230 "MirageLoansModel" "live" "I" ∈ gw := gw_at 1146 (by decide +kernel) (by decide +kernel)
theorem g1147 : Cond.fieldLink "MirageLoansModel" 233 "MirageLoansModel" "side" "I" ∈ gw := gw_at 1147 (by decide +kernel) (by decide +kernel)
theorem g1148 : Cond.fieldLink "MirageLoansModel" 236 "MirageLoansModel" "names" "I" ∈ gw := gw_at 1148 (by decide +kernel) (by decide +kernel)
theorem g1149 : Cond.fieldLink "MirageLoansModel" 40 "MirageLoansModel" "nameOf" "[J" ∈ gw := gw_at 1149 (by decide +kernel) (by decide +kernel)
theorem g1150 : Cond.fieldLink "MirageLoansModel" 43 "MirageLoansModel" "things" "[I" ∈ gw := gw_at 1150 (by decide +kernel) (by decide +kernel)
theorem g1151 : Cond.fieldLink "MirageLoansModel" 46 "MirageLoansModel" "xOf" "[I" ∈ gw := gw_at 1151 (by decide +kernel) (by decide +kernel)
theorem g1152 : Cond.fieldLink "MirageLoansModel" 49 "MirageLoansModel" "tallOf" "[I" ∈ gw := gw_at 1152 (by decide +kernel) (by decide +kernel)
theorem g1153 : Cond.fieldLink "MirageLoansModel" 52 "MirageLoansModel" "seats" "[I" ∈ gw := gw_at 1153 (by decide +kernel) (by decide +kernel)
theorem g1154 : Cond.fieldLink "MirageLoansModel" 55 "MirageLoansModel" "seatTold" "[I" ∈ gw := gw_at 1154 (by decide +kernel) (by decide +kernel)
theorem g1155 : Cond.fieldLink "MirageLoansModel" 58 "MirageLoansModel" "coinsTold" "[I" ∈ gw := gw_at 1155 (by decide +kernel) (by decide +kernel)
theorem g1156 : Cond.fieldLink "MirageLoansModel" 61 "MirageLoansModel" "grace" "[I" ∈ gw := gw_at 1156 (by decide +kernel) (by decide +kernel)
theorem g1157 : Cond.fieldLink "MirageLoansModel" 64 "MirageLoansModel" "winds" "[I" ∈ gw := gw_at 1157 (by decide +kernel) (by decide +kernel)
theorem g1158 : Cond.fieldLink "MirageLoansModel" 67 "MirageLoansModel" "startsAt" "[I" ∈ gw := gw_at 1158 (by decide +kernel) (by decide +kernel)
theorem g1159 : Cond.fieldLink "MirageLoansModel" 70 "MirageLoansModel" "seed" "[I" ∈ gw := gw_at 1159 (by decide +kernel) (by decide +kernel)
theorem g1160 : Cond.fieldLink "MirageLoansModel" 73 "MirageLoansModel" "lawFirst" "[I" ∈ gw := gw_at 1160 (by decide +kernel) (by decide +kernel)
theorem g1161 : Cond.fieldLink "MirageLoansModel" 76 "MirageLoansModel" "lawLast" "[I" ∈ gw := gw_at 1161 (by decide +kernel) (by decide +kernel)
theorem g1162 : Cond.fieldLink "MirageLoansModel" 239 "MirageLoansModel" "branches" "I" ∈ gw := gw_at 1162 (by decide +kernel) (by decide +kernel)
theorem g1163 : Cond.fieldLink "MirageLoansModel" 79 "MirageLoansModel" "hasTest" "[Z" ∈ gw := gw_at 1163 (by decide +kernel) (by decide +kernel)
theorem g1164 : Cond.fieldLink "MirageLoansModel" 83 "MirageLoansModel" "testFrom" "[I" ∈ gw := gw_at 1164 (by decide +kernel) (by decide +kernel)
theorem g1165 : Cond.fieldLink "MirageLoansModel" 86 "MirageLoansModel" "testMid" "[I" ∈ gw := gw_at 1165 (by decide +kernel) (by decide +kernel)
theorem g1166 : Cond.fieldLink "MirageLoansModel" 89 "MirageLoansModel" "testTo" "[I" ∈ gw := gw_at 1166 (by decide +kernel) (by decide +kernel)
theorem g1167 : Cond.fieldLink "MirageLoansModel" 92 "MirageLoansModel" "termTo" "[I" ∈ gw := gw_at 1167 (by decide +kernel) (by decide +kernel)
theorem g1168 : Cond.fieldLink "MirageLoansModel" 242 "MirageLoansModel" "codes" "I" ∈ gw := gw_at 1168 (by decide +kernel) (by decide +kernel)
theorem g1169 : Cond.fieldLink "MirageLoansModel" 95 "MirageLoansModel" "code" "[I" ∈ gw := gw_at 1169 (by decide +kernel) (by decide +kernel)
theorem g1170 : Cond.fieldLink "MirageLoansModel" 98 "MirageLoansModel" "codeInt" "[I" ∈ gw := gw_at 1170 (by decide +kernel) (by decide +kernel)
theorem g1171 : Cond.fieldLink "MirageLoansModel" 101 "MirageLoansModel" "waits" "[I" ∈ gw := gw_at 1171 (by decide +kernel) (by decide +kernel)
theorem g1173 : Cond.fieldLink "MirageLoansModel" 104 "MirageLoansModel" "variables" "[I" ∈ gw := gw_at 1173 (by decide +kernel) (by decide +kernel)
theorem g1174 : Cond.fieldLink "MirageLoansModel" 107 "MirageLoansModel" "pile" "[I" ∈ gw := gw_at 1174 (by decide +kernel) (by decide +kernel)
theorem g1176 : Cond.fieldLink "MirageLoansModel" 110 "MirageLoansModel" "now" "[I" ∈ gw := gw_at 1176 (by decide +kernel) (by decide +kernel)
theorem g1177 : Cond.fieldLink "MirageLoansModel" 113 "MirageLoansModel" "row" "[I" ∈ gw := gw_at 1177 (by decide +kernel) (by decide +kernel)
theorem g1178 : Cond.fieldLink "MirageLoansModel" 308 "MirageLoansModel" "lots" "I" ∈ gw := gw_at 1178 (by decide +kernel) (by decide +kernel)
theorem g1179 : Cond.fieldLink "MirageLoansModel" 248 "MirageLoansModel" "undos" "I" ∈ gw := gw_at 1179 (by decide +kernel) (by decide +kernel)
theorem g1180 : Cond.fieldLink "MirageLoansModel" 116 "MirageLoansModel" "history" "[I" ∈ gw := gw_at 1180 (by decide +kernel) (by decide +kernel)
theorem g1181 : Cond.fieldLink "MirageLoansModel" 119 "MirageLoansModel" "seenFrom" "[I" ∈ gw := gw_at 1181 (by decide +kernel) (by decide +kernel)
theorem g1182 : Cond.fieldLink "MirageLoansModel" 122 "MirageLoansModel" "umbrellaAt" "[I" ∈ gw := gw_at 1182 (by decide +kernel) (by decide +kernel)
theorem g1183 : Cond.fieldLink "MirageLoansModel" 415 "MirageLoansModel" "umbrellaMost" "I" ∈ gw := gw_at 1183 (by decide +kernel) (by decide +kernel)
theorem g1184 : Cond.fieldLink "MirageLoansModel" 125 "MirageLoansModel" "isThere" "[Z" ∈ gw := gw_at 1184 (by decide +kernel) (by decide +kernel)
theorem g1185 : Cond.fieldLink "MirageLoansModel" 128 "MirageLoansModel" "isThen" "[Z" ∈ gw := gw_at 1185 (by decide +kernel) (by decide +kernel)
theorem g1186 : Cond.fieldLink "MirageLoansModel" 251 "MirageLoansModel" "tolds" "I" ∈ gw := gw_at 1186 (by decide +kernel) (by decide +kernel)
theorem g1187 : Cond.fieldLink "MirageLoansModel" 131 "MirageLoansModel" "toldFrom" "[I" ∈ gw := gw_at 1187 (by decide +kernel) (by decide +kernel)
theorem g1188 : Cond.fieldLink "MirageLoansModel" 134 "MirageLoansModel" "toldAt" "[I" ∈ gw := gw_at 1188 (by decide +kernel) (by decide +kernel)
theorem g1189 : Cond.fieldLink "MirageLoansModel" 137 "MirageLoansModel" "toldHours" "[I" ∈ gw := gw_at 1189 (by decide +kernel) (by decide +kernel)
theorem g1190 : Cond.fieldLink "MirageLoansModel" 140 "MirageLoansModel" "waysBy" "[I" ∈ gw := gw_at 1190 (by decide +kernel) (by decide +kernel)
theorem g1191 : Cond.fieldLink "MirageLoansModel" 143 "MirageLoansModel" "isHeld" "[Z" ∈ gw := gw_at 1191 (by decide +kernel) (by decide +kernel)
theorem g1192 : Cond.fieldLink "MirageLoansModel" 146 "MirageLoansModel" "heldRows" "[I" ∈ gw := gw_at 1192 (by decide +kernel) (by decide +kernel)
set_option maxRecDepth 100000 in
theorem g1327 : Cond.code yX9_feed prog_11_method_3_code 6 (some Jvm.ClassFile.FieldType.int) ∈ gw := gw_at 1327 rfl (by decide +kernel)
theorem g1328 : Cond.methodLink "MirageLoansModel" 170 yX9_put ∈ gw := gw_at 1328 (by decide +kernel) (by decide +kernel)
theorem g1330 : Cond.instanceMethod yX9_put ∈ gw := gw_at 1330 (by decide +kernel) (by decide +kernel)
set_option maxRecDepth 100000 in
theorem g1331 : Cond.code yX9_put prog_11_method_4_code 3 none ∈ gw := gw_at 1331 rfl (by decide +kernel)
set_option maxRecDepth 100000 in
theorem g1335 : Cond.code yX9_back prog_11_method_5_code 2 (some Jvm.ClassFile.FieldType.int) ∈ gw := gw_at 1335 rfl (by decide +kernel)
set_option maxRecDepth 100000 in
theorem g1339 : Cond.code yX9_read prog_11_method_20_code 2 (some Jvm.ClassFile.FieldType.int) ∈ gw := gw_at 1339 rfl (by decide +kernel)
theorem g1340 : Cond.methodLink "MirageLoansModel" 224 yX9_cut ∈ gw := gw_at 1340 (by decide +kernel) (by decide +kernel)
theorem g1342 : Cond.instanceMethod yX9_cut ∈ gw := gw_at 1342 (by decide +kernel) (by decide +kernel)
set_option maxRecDepth 100000 in
theorem g1343 : Cond.code yX9_cut prog_11_method_12_code 8 none ∈ gw := gw_at 1343 rfl (by decide +kernel)
theorem g1344 : Cond.methodLink "MirageLoansModel" 181 yX9_byteAt ∈ gw := gw_at 1344 (by decide +kernel) (by decide +kernel)
theorem g1346 : Cond.instanceMethod yX9_byteAt ∈ gw := gw_at 1346 (by decide +kernel) (by decide +kernel)
set_option maxRecDepth 100000 in
theorem g1347 : Cond.code yX9_byteAt prog_11_method_6_code 2 (some Jvm.ClassFile.FieldType.int) ∈ gw := gw_at 1347 rfl (by decide +kernel)
theorem g1348 : Cond.methodLink "MirageLoansModel" 185 yX9_token ∈ gw := gw_at 1348 (by decide +kernel) (by decide +kernel)
theorem g1350 : Cond.instanceMethod yX9_token ∈ gw := gw_at 1350 (by decide +kernel) (by decide +kernel)
set_option maxRecDepth 100000 in
theorem g1351 : Cond.code yX9_token prog_11_method_11_code 6 none ∈ gw := gw_at 1351 rfl (by decide +kernel)
theorem g1362 : Cond.methodLink "MirageLoansModel" 218 yX9_is ∈ gw := gw_at 1362 (by decide +kernel) (by decide +kernel)
theorem g1364 : Cond.instanceMethod yX9_is ∈ gw := gw_at 1364 (by decide +kernel) (by decide +kernel)
set_option maxRecDepth 100000 in
theorem g1365 : Cond.code yX9_is prog_11_method_14_code 2 (some Jvm.ClassFile.FieldType.boolean) ∈ gw := gw_at 1365 rfl (by decide +kernel)
set_option maxRecDepth 100000 in
theorem g1433 : Cond.code yX9_place prog_11_method_21_code 1 (some Jvm.ClassFile.FieldType.int) ∈ gw := gw_at 1433 rfl (by decide +kernel)
set_option maxRecDepth 100000 in
theorem g1437 : Cond.code yX9_thing prog_11_method_63_code 5 (some Jvm.ClassFile.FieldType.int) ∈ gw := gw_at 1437 rfl (by decide +kernel)
theorem g1438 : Cond.methodLink "MirageLoansModel" 372 yX9_isThing ∈ gw := gw_at 1438 (by decide +kernel) (by decide +kernel)
theorem g1440 : Cond.instanceMethod yX9_isThing ∈ gw := gw_at 1440 (by decide +kernel) (by decide +kernel)
set_option maxRecDepth 100000 in
theorem g1441 : Cond.code yX9_isThing prog_11_method_39_code 2 (some Jvm.ClassFile.FieldType.boolean) ∈ gw := gw_at 1441 rfl (by decide +kernel)
theorem g1442 : Cond.methodLink "MirageLoansModel" 304 yX9_in ∈ gw := gw_at 1442 (by decide +kernel) (by decide +kernel)
theorem g1443 : Cond.static yX9_in ∈ gw := gw_at 1443 (by decide +kernel) (by decide +kernel)
set_option maxRecDepth 100000 in
theorem g1444 : Cond.code yX9_in prog_11_method_35_code 3 (some Jvm.ClassFile.FieldType.boolean) ∈ gw := gw_at 1444 rfl (by decide +kernel)
theorem g1445 : Cond.methodLink "MirageLoansModel" 375 yX9_copies ∈ gw := gw_at 1445 (by decide +kernel) (by decide +kernel)
theorem g1447 : Cond.instanceMethod yX9_copies ∈ gw := gw_at 1447 (by decide +kernel) (by decide +kernel)
set_option maxRecDepth 100000 in
theorem g1448 : Cond.code yX9_copies prog_11_method_44_code 2 none ∈ gw := gw_at 1448 rfl (by decide +kernel)
theorem g1453 : Cond.methodLink "MirageLoansModel" 337 yX9_isSeen ∈ gw := gw_at 1453 (by decide +kernel) (by decide +kernel)
theorem g1455 : Cond.instanceMethod yX9_isSeen ∈ gw := gw_at 1455 (by decide +kernel) (by decide +kernel)
set_option maxRecDepth 100000 in
theorem g1456 : Cond.code yX9_isSeen prog_11_method_51_code 5 (some Jvm.ClassFile.FieldType.boolean) ∈ gw := gw_at 1456 rfl (by decide +kernel)
theorem g1457 : Cond.methodLink "MirageLoansModel" 333 yX9_looksAt ∈ gw := gw_at 1457 (by decide +kernel) (by decide +kernel)
theorem g1459 : Cond.instanceMethod yX9_looksAt ∈ gw := gw_at 1459 (by decide +kernel) (by decide +kernel)
set_option maxRecDepth 100000 in
theorem g1460 : Cond.code yX9_looksAt prog_11_method_50_code 6 none ∈ gw := gw_at 1460 rfl (by decide +kernel)
theorem g1461 : Cond.methodLink "MirageLoansModel" 327 yX9_heatAt ∈ gw := gw_at 1461 (by decide +kernel) (by decide +kernel)
theorem g1463 : Cond.instanceMethod yX9_heatAt ∈ gw := gw_at 1463 (by decide +kernel) (by decide +kernel)
set_option maxRecDepth 100000 in
theorem g1464 : Cond.code yX9_heatAt prog_11_method_49_code 2 (some Jvm.ClassFile.FieldType.int) ∈ gw := gw_at 1464 rfl (by decide +kernel)
theorem g1465 : Cond.methodLink "MirageLoansModel" 318 yX9_looks ∈ gw := gw_at 1465 (by decide +kernel) (by decide +kernel)
theorem g1467 : Cond.instanceMethod yX9_looks ∈ gw := gw_at 1467 (by decide +kernel) (by decide +kernel)
set_option maxRecDepth 100000 in
theorem g1468 : Cond.code yX9_looks prog_11_method_47_code 3 none ∈ gw := gw_at 1468 rfl (by decide +kernel)
theorem g1469 : Cond.methodLink "MirageLoansModel" 321 yX9_lawTells ∈ gw := gw_at 1469 (by decide +kernel) (by decide +kernel)
theorem g1471 : Cond.instanceMethod yX9_lawTells ∈ gw := gw_at 1471 (by decide +kernel) (by decide +kernel)
set_option maxRecDepth 100000 in
theorem g1472 : Cond.code yX9_lawTells prog_11_method_48_code 7 (some Jvm.ClassFile.FieldType.int) ∈ gw := gw_at 1472 rfl (by decide +kernel)
theorem g1477 : Cond.methodLink "MirageLoansModel" 324 yX9_held ∈ gw := gw_at 1477 (by decide +kernel) (by decide +kernel)
theorem g1478 : Cond.static yX9_held ∈ gw := gw_at 1478 (by decide +kernel) (by decide +kernel)
set_option maxRecDepth 100000 in
theorem g1479 : Cond.code yX9_held prog_11_method_36_code 3 (some Jvm.ClassFile.FieldType.int) ∈ gw := gw_at 1479 rfl (by decide +kernel)
theorem g1480 : Cond.methodLink "MirageLoansModel" 330 yX9_off ∈ gw := gw_at 1480 (by decide +kernel) (by decide +kernel)
theorem g1481 : Cond.static yX9_off ∈ gw := gw_at 1481 (by decide +kernel) (by decide +kernel)
set_option maxRecDepth 100000 in
theorem g1482 : Cond.code yX9_off prog_11_method_38_code 2 (some Jvm.ClassFile.FieldType.int) ∈ gw := gw_at 1482 rfl (by decide +kernel)
set_option maxRecDepth 100000 in
theorem g1486 : Cond.code yX9_seat prog_11_method_65_code 5 (some Jvm.ClassFile.FieldType.int) ∈ gw := gw_at 1486 rfl (by decide +kernel)
theorem g1487 : Cond.methodLink "MirageLoansModel" 378 yX9_isSeat ∈ gw := gw_at 1487 (by decide +kernel) (by decide +kernel)
theorem g1489 : Cond.instanceMethod yX9_isSeat ∈ gw := gw_at 1489 (by decide +kernel) (by decide +kernel)
set_option maxRecDepth 100000 in
theorem g1490 : Cond.code yX9_isSeat prog_11_method_40_code 2 (some Jvm.ClassFile.FieldType.boolean) ∈ gw := gw_at 1490 rfl (by decide +kernel)
set_option maxRecDepth 100000 in
theorem g1502 : Cond.code yX9_loan prog_11_method_66_code 4 (some Jvm.ClassFile.FieldType.int) ∈ gw := gw_at 1502 rfl (by decide +kernel)
set_option maxRecDepth 100000 in
theorem g1506 : Cond.code yX9_tells prog_11_method_67_code 7 (some Jvm.ClassFile.FieldType.int) ∈ gw := gw_at 1506 rfl (by decide +kernel)
theorem g1507 : Cond.methodLink "MirageLoansModel" 387 yX9_isX ∈ gw := gw_at 1507 (by decide +kernel) (by decide +kernel)
theorem g1508 : Cond.static yX9_isX ∈ gw := gw_at 1508 (by decide +kernel) (by decide +kernel)
set_option maxRecDepth 100000 in
theorem g1509 : Cond.code yX9_isX prog_11_method_41_code 1 (some Jvm.ClassFile.FieldType.boolean) ∈ gw := gw_at 1509 rfl (by decide +kernel)
theorem g1510 : Cond.methodLink "MirageLoansModel" 341 yX9_movedBy ∈ gw := gw_at 1510 (by decide +kernel) (by decide +kernel)
theorem g1512 : Cond.instanceMethod yX9_movedBy ∈ gw := gw_at 1512 (by decide +kernel) (by decide +kernel)
set_option maxRecDepth 100000 in
theorem g1513 : Cond.code yX9_movedBy prog_11_method_52_code 5 (some Jvm.ClassFile.FieldType.int) ∈ gw := gw_at 1513 rfl (by decide +kernel)
theorem g1518 : Cond.methodLink "MirageLoansModel" 348 yX9_interestOf ∈ gw := gw_at 1518 (by decide +kernel) (by decide +kernel)
theorem g1520 : Cond.instanceMethod yX9_interestOf ∈ gw := gw_at 1520 (by decide +kernel) (by decide +kernel)
set_option maxRecDepth 100000 in
theorem g1521 : Cond.code yX9_interestOf prog_11_method_57_code 4 (some Jvm.ClassFile.FieldType.int) ∈ gw := gw_at 1521 rfl (by decide +kernel)
set_option maxRecDepth 100000 in
theorem g1525 : Cond.code yX9_lend prog_11_method_69_code 5 (some Jvm.ClassFile.FieldType.int) ∈ gw := gw_at 1525 rfl (by decide +kernel)
theorem g1526 : Cond.methodLink "MirageLoansModel" 390 yX9_records ∈ gw := gw_at 1526 (by decide +kernel) (by decide +kernel)
theorem g1528 : Cond.instanceMethod yX9_records ∈ gw := gw_at 1528 (by decide +kernel) (by decide +kernel)
set_option maxRecDepth 100000 in
theorem g1529 : Cond.code yX9_records prog_11_method_68_code 2 none ∈ gw := gw_at 1529 rfl (by decide +kernel)
set_option maxRecDepth 100000 in
theorem g1533 : Cond.code yX9_call prog_11_method_70_code 5 (some Jvm.ClassFile.FieldType.int) ∈ gw := gw_at 1533 rfl (by decide +kernel)
set_option maxRecDepth 100000 in
theorem g1538 : Cond.code yX9_move prog_11_method_71_code 3 (some Jvm.ClassFile.FieldType.boolean) ∈ gw := gw_at 1538 rfl (by decide +kernel)
set_option maxRecDepth 100000 in
theorem g1542 : Cond.code yX9_hours prog_11_method_72_code 2 (some Jvm.ClassFile.FieldType.int) ∈ gw := gw_at 1542 rfl (by decide +kernel)
theorem g1543 : Cond.methodLink "MirageLoansModel" 393 yX9_isLong ∈ gw := gw_at 1543 (by decide +kernel) (by decide +kernel)
theorem g1544 : Cond.static yX9_isLong ∈ gw := gw_at 1544 (by decide +kernel) (by decide +kernel)
set_option maxRecDepth 100000 in
theorem g1545 : Cond.code yX9_isLong prog_11_method_74_code 1 (some Jvm.ClassFile.FieldType.boolean) ∈ gw := gw_at 1545 rfl (by decide +kernel)
theorem g1546 : Cond.methodLink "MirageLoansModel" 396 yX9_goes ∈ gw := gw_at 1546 (by decide +kernel) (by decide +kernel)
theorem g1548 : Cond.instanceMethod yX9_goes ∈ gw := gw_at 1548 (by decide +kernel) (by decide +kernel)
set_option maxRecDepth 100000 in
theorem g1549 : Cond.code yX9_goes prog_11_method_61_code 3 none ∈ gw := gw_at 1549 rfl (by decide +kernel)
theorem g1550 : Cond.methodLink "MirageLoansModel" 369 yX9_hourGoes ∈ gw := gw_at 1550 (by decide +kernel) (by decide +kernel)
theorem g1552 : Cond.instanceMethod yX9_hourGoes ∈ gw := gw_at 1552 (by decide +kernel) (by decide +kernel)
set_option maxRecDepth 100000 in
theorem g1553 : Cond.code yX9_hourGoes prog_11_method_60_code 4 none ∈ gw := gw_at 1553 rfl (by decide +kernel)
theorem g1554 : Cond.methodLink "MirageLoansModel" 361 yX9_isWind ∈ gw := gw_at 1554 (by decide +kernel) (by decide +kernel)
theorem g1556 : Cond.instanceMethod yX9_isWind ∈ gw := gw_at 1556 (by decide +kernel) (by decide +kernel)
set_option maxRecDepth 100000 in
theorem g1557 : Cond.code yX9_isWind prog_11_method_46_code 1 (some Jvm.ClassFile.FieldType.boolean) ∈ gw := gw_at 1557 rfl (by decide +kernel)
theorem g1558 : Cond.methodLink "MirageLoansModel" 312 yX9_mixed ∈ gw := gw_at 1558 (by decide +kernel) (by decide +kernel)
theorem g1559 : Cond.static yX9_mixed ∈ gw := gw_at 1559 (by decide +kernel) (by decide +kernel)
set_option maxRecDepth 100000 in
theorem g1560 : Cond.code yX9_mixed prog_11_method_45_code 3 (some Jvm.ClassFile.FieldType.int) ∈ gw := gw_at 1560 rfl (by decide +kernel)
theorem g1561 : Cond.constant "MirageLoansModel" 311 (1103515245 : Int32) ∈ gw := gw_at 1561 (by decide +kernel) (by decide +kernel)
set_option maxRecDepth 100000 in
theorem g1573 : Cond.code yX9_undo prog_11_method_73_code 2 (some Jvm.ClassFile.FieldType.boolean) ∈ gw := gw_at 1573 rfl (by decide +kernel)
set_option maxRecDepth 100000 in
theorem g1577 : Cond.code yX9_sight prog_11_method_76_code 4 (some Jvm.ClassFile.FieldType.int) ∈ gw := gw_at 1577 rfl (by decide +kernel)
theorem g1582 : Cond.methodLink "MirageLoansModel" 345 yX9_seenAt ∈ gw := gw_at 1582 (by decide +kernel) (by decide +kernel)
theorem g1584 : Cond.instanceMethod yX9_seenAt ∈ gw := gw_at 1584 (by decide +kernel) (by decide +kernel)
set_option maxRecDepth 100000 in
theorem g1585 : Cond.code yX9_seenAt prog_11_method_53_code 6 (some Jvm.ClassFile.FieldType.int) ∈ gw := gw_at 1585 rfl (by decide +kernel)
set_option maxRecDepth 100000 in
theorem g1589 : Cond.code yX9_clash prog_11_method_78_code 6 (some Jvm.ClassFile.FieldType.int) ∈ gw := gw_at 1589 rfl (by decide +kernel)
set_option maxRecDepth 100000 in
theorem g1597 : Cond.code yX9_longFrom prog_11_method_80_code 4 (some Jvm.ClassFile.FieldType.int) ∈ gw := gw_at 1597 rfl (by decide +kernel)
set_option maxRecDepth 100000 in
theorem g1608 : Cond.code yX9_best prog_11_method_81_code 8 (some Jvm.ClassFile.FieldType.int) ∈ gw := gw_at 1608 rfl (by decide +kernel)
set_option maxRecDepth 100000 in
theorem g1612 : Cond.code yX9_dawns prog_11_method_82_code 4 (some Jvm.ClassFile.FieldType.int) ∈ gw := gw_at 1612 rfl (by decide +kernel)
set_option maxRecDepth 100000 in
theorem g1616 : Cond.code yX9_near prog_11_method_83_code 7 (some Jvm.ClassFile.FieldType.int) ∈ gw := gw_at 1616 rfl (by decide +kernel)
set_option maxRecDepth 100000 in
theorem g1620 : Cond.code yX9_crowd prog_11_method_84_code 5 (some Jvm.ClassFile.FieldType.int) ∈ gw := gw_at 1620 rfl (by decide +kernel)
set_option maxRecDepth 100000 in
theorem g1624 : Cond.code yX9_umbrellas prog_11_method_87_code 6 (some Jvm.ClassFile.FieldType.int) ∈ gw := gw_at 1624 rfl (by decide +kernel)
theorem g1625 : Cond.methodLink "MirageLoansModel" 418 yX9_fillsSeen ∈ gw := gw_at 1625 (by decide +kernel) (by decide +kernel)
theorem g1627 : Cond.instanceMethod yX9_fillsSeen ∈ gw := gw_at 1627 (by decide +kernel) (by decide +kernel)
set_option maxRecDepth 100000 in
theorem g1628 : Cond.code yX9_fillsSeen prog_11_method_85_code 3 none ∈ gw := gw_at 1628 rfl (by decide +kernel)
theorem g1629 : Cond.methodLink "MirageLoansModel" 421 yX9_tries ∈ gw := gw_at 1629 (by decide +kernel) (by decide +kernel)
theorem g1631 : Cond.instanceMethod yX9_tries ∈ gw := gw_at 1631 (by decide +kernel) (by decide +kernel)
set_option maxRecDepth 100000 in
theorem g1632 : Cond.code yX9_tries prog_11_method_86_code 6 none ∈ gw := gw_at 1632 rfl (by decide +kernel)
theorem g1633 : Cond.methodLink "MirageLoansModel" 412 yX9_bits ∈ gw := gw_at 1633 (by decide +kernel) (by decide +kernel)
theorem g1634 : Cond.static yX9_bits ∈ gw := gw_at 1634 (by decide +kernel) (by decide +kernel)
set_option maxRecDepth 100000 in
theorem g1635 : Cond.code yX9_bits prog_11_method_37_code 3 (some Jvm.ClassFile.FieldType.int) ∈ gw := gw_at 1635 rfl (by decide +kernel)
set_option maxRecDepth 100000 in
theorem g1639 : Cond.code yX9_worth prog_11_method_88_code 10 (some Jvm.ClassFile.FieldType.int) ∈ gw := gw_at 1639 rfl (by decide +kernel)
theorem g1640 : Cond.constant "MirageLoansModel" 424 (-100000 : Int32) ∈ gw := gw_at 1640 (by decide +kernel) (by decide +kernel)
set_option maxRecDepth 100000 in
theorem g1644 : Cond.code yX9_book prog_11_method_89_code 3 (some Jvm.ClassFile.FieldType.int) ∈ gw := gw_at 1644 rfl (by decide +kernel)
set_option maxRecDepth 100000 in
theorem g1648 : Cond.code yX9_rich prog_11_method_90_code 7 (some Jvm.ClassFile.FieldType.int) ∈ gw := gw_at 1648 rfl (by decide +kernel)
set_option maxRecDepth 100000 in
theorem g1652 : Cond.code yX9_hidden prog_11_method_92_code 6 (some Jvm.ClassFile.FieldType.int) ∈ gw := gw_at 1652 rfl (by decide +kernel)
theorem g1653 : Cond.methodLink "MirageLoansModel" 425 yX9_isWatched ∈ gw := gw_at 1653 (by decide +kernel) (by decide +kernel)
theorem g1655 : Cond.instanceMethod yX9_isWatched ∈ gw := gw_at 1655 (by decide +kernel) (by decide +kernel)
set_option maxRecDepth 100000 in
theorem g1656 : Cond.code yX9_isWatched prog_11_method_91_code 5 (some Jvm.ClassFile.FieldType.boolean) ∈ gw := gw_at 1656 rfl (by decide +kernel)
set_option maxRecDepth 100000 in
theorem g1660 : Cond.code yX9_cool prog_11_method_93_code 5 (some Jvm.ClassFile.FieldType.int) ∈ gw := gw_at 1660 rfl (by decide +kernel)
set_option maxRecDepth 100000 in
theorem g1664 : Cond.code yX9_heatIn prog_11_method_94_code 2 (some Jvm.ClassFile.FieldType.int) ∈ gw := gw_at 1664 rfl (by decide +kernel)
set_option maxRecDepth 100000 in
theorem g1668 : Cond.code yX9_lentIn prog_11_method_95_code 4 (some Jvm.ClassFile.FieldType.int) ∈ gw := gw_at 1668 rfl (by decide +kernel)
set_option maxRecDepth 100000 in
theorem g1672 : Cond.code yX9_year prog_11_method_96_code 7 (some Jvm.ClassFile.FieldType.int) ∈ gw := gw_at 1672 rfl (by decide +kernel)
set_option maxRecDepth 100000 in
theorem g1676 : Cond.code yX9_tell prog_11_method_97_code 4 (some Jvm.ClassFile.FieldType.int) ∈ gw := gw_at 1676 rfl (by decide +kernel)
set_option maxRecDepth 100000 in
theorem g1680 : Cond.code yX9_forget prog_11_method_98_code 2 (some Jvm.ClassFile.FieldType.int) ∈ gw := gw_at 1680 rfl (by decide +kernel)
set_option maxRecDepth 100000 in
theorem g1684 : Cond.code yX9_stands prog_11_method_100_code 4 (some Jvm.ClassFile.FieldType.int) ∈ gw := gw_at 1684 rfl (by decide +kernel)
theorem g1685 : Cond.methodLink "MirageLoansModel" 428 yX9_isSo ∈ gw := gw_at 1685 (by decide +kernel) (by decide +kernel)
theorem g1687 : Cond.instanceMethod yX9_isSo ∈ gw := gw_at 1687 (by decide +kernel) (by decide +kernel)
set_option maxRecDepth 100000 in
theorem g1688 : Cond.code yX9_isSo prog_11_method_99_code 4 (some Jvm.ClassFile.FieldType.boolean) ∈ gw := gw_at 1688 rfl (by decide +kernel)
set_option maxRecDepth 100000 in
theorem g1692 : Cond.code yX9_sure prog_11_method_101_code 6 (some Jvm.ClassFile.FieldType.int) ∈ gw := gw_at 1692 rfl (by decide +kernel)
set_option maxRecDepth 100000 in
theorem g1696 : Cond.code yX9_look prog_11_method_102_code 9 (some Jvm.ClassFile.FieldType.int) ∈ gw := gw_at 1696 rfl (by decide +kernel)
set_option maxRecDepth 100000 in
theorem g1700 : Cond.code yX9_hold prog_11_method_103_code 3 (some Jvm.ClassFile.FieldType.boolean) ∈ gw := gw_at 1700 rfl (by decide +kernel)
set_option maxRecDepth 100000 in
theorem g1704 : Cond.code yX9_restore prog_11_method_104_code 3 (some Jvm.ClassFile.FieldType.boolean) ∈ gw := gw_at 1704 rfl (by decide +kernel)
set_option maxRecDepth 100000 in
theorem g1708 : Cond.code yX9_count prog_11_method_106_code 4 (some Jvm.ClassFile.FieldType.int) ∈ gw := gw_at 1708 rfl (by decide +kernel)
theorem g1709 : Cond.methodLink "MirageLoansModel" 431 yX9_sumNow ∈ gw := gw_at 1709 (by decide +kernel) (by decide +kernel)
theorem g1711 : Cond.instanceMethod yX9_sumNow ∈ gw := gw_at 1711 (by decide +kernel) (by decide +kernel)
set_option maxRecDepth 100000 in
theorem g1712 : Cond.code yX9_sumNow prog_11_method_105_code 5 (some Jvm.ClassFile.FieldType.int) ∈ gw := gw_at 1712 rfl (by decide +kernel)
theorem g1713 : Cond.fieldLink "java/lang/String" 9 "java/lang/String" "value" "[B" ∈ gw := gw_at 1713 (by decide +kernel) (by decide +kernel)
theorem g1714 : Cond.fieldLink "java/lang/String" 15 "java/lang/String" "coder" "B" ∈ gw := gw_at 1714 (by decide +kernel) (by decide +kernel)
