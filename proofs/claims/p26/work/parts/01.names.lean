-- ===== PART A: goes FIRST, ahead of the names: the tables' words, and 'selects' of the private methods out of them =====
/-- a private method of a class that the tables say can be made, by its rows of tables_1 -/
def lw_okq (q : MethodName × Nat) : Prop := (q.1.cls ≠ "java/lang/invoke/MethodHandle" ∧ q.1.cls ≠ "java/lang/invoke/VarHandle") ∧ Cond.instantiable q.1.cls q.2 ∈ tables_1 ∧ Cond.privateMethod q.1 ∈ tables_1 ∧ Cond.instanceMethod q.1 ∈ tables_1
theorem tb_1 {w : Cond} (h : w ∈ tables_1_1) : w ∈ tables_1 := List.mem_append_left _ h
theorem tb_2 {w : Cond} (h : w ∈ tables_1_2) : w ∈ tables_1 := List.mem_append_right _ (List.mem_append_left _ h)
theorem tb_3 {w : Cond} (h : w ∈ tables_1_3) : w ∈ tables_1 := List.mem_append_right _ (List.mem_append_right _ (List.mem_append_left _ h))
theorem tb_4 {w : Cond} (h : w ∈ tables_1_4) : w ∈ tables_1 := List.mem_append_right _ (List.mem_append_right _ (List.mem_append_right _ (List.mem_append_left _ h)))
theorem tb_5 {w : Cond} (h : w ∈ tables_1_5) : w ∈ tables_1 := List.mem_append_right _ (List.mem_append_right _ (List.mem_append_right _ (List.mem_append_right _ (List.mem_append_left _ h))))
theorem tb_6 {w : Cond} (h : w ∈ tables_1_6) : w ∈ tables_1 := List.mem_append_right _ (List.mem_append_right _ (List.mem_append_right _ (List.mem_append_right _ (List.mem_append_right _ (List.mem_append_left _ h)))))
theorem tb_7 {w : Cond} (h : w ∈ tables_1_7) : w ∈ tables_1 := List.mem_append_right _ (List.mem_append_right _ (List.mem_append_right _ (List.mem_append_right _ (List.mem_append_right _ (List.mem_append_right _ h)))))
theorem lw_p0 : lw_okq (⟨"MirageLoans$Laws", "openWithVar", "(II)V"⟩, 6) := ⟨⟨by decide +kernel, by decide +kernel⟩, (tb_1 (List.mem_of_getElem? (i := 136) (by decide +kernel))), (tb_1 (List.mem_of_getElem? (i := 169) (by decide +kernel))), (tb_1 (List.mem_of_getElem? (i := 170) (by decide +kernel)))⟩
theorem lw_p1 : lw_okq (⟨"MirageLoans$Tokens", "skipBlanks", "(LMirageLoans$Tape;)V"⟩, 5) := ⟨⟨by decide +kernel, by decide +kernel⟩, (tb_1 (List.mem_of_getElem? (i := 50) (by decide +kernel))), (tb_2 (List.mem_of_getElem? (i := 193) (by decide +kernel))), (tb_2 (List.mem_of_getElem? (i := 194) (by decide +kernel)))⟩
theorem lw_p2 : lw_okq (⟨"MirageLoans$Tokens", "scanLetters", "(LMirageLoans$Tape;I)V"⟩, 5) := ⟨⟨by decide +kernel, by decide +kernel⟩, (tb_1 (List.mem_of_getElem? (i := 50) (by decide +kernel))), (tb_2 (List.mem_of_getElem? (i := 207) (by decide +kernel))), (tb_2 (List.mem_of_getElem? (i := 208) (by decide +kernel)))⟩
theorem lw_p3 : lw_okq (⟨"MirageLoans$Tokens", "kindOf", "(J)I"⟩, 5) := ⟨⟨by decide +kernel, by decide +kernel⟩, (tb_1 (List.mem_of_getElem? (i := 50) (by decide +kernel))), (tb_2 (List.mem_of_getElem? (i := 211) (by decide +kernel))), (tb_2 (List.mem_of_getElem? (i := 212) (by decide +kernel)))⟩
theorem lw_p4 : lw_okq (⟨"MirageLoans$Tokens", "scanDigits", "(LMirageLoans$Tape;I)V"⟩, 5) := ⟨⟨by decide +kernel, by decide +kernel⟩, (tb_1 (List.mem_of_getElem? (i := 50) (by decide +kernel))), (tb_2 (List.mem_of_getElem? (i := 218) (by decide +kernel))), (tb_2 (List.mem_of_getElem? (i := 219) (by decide +kernel)))⟩
theorem lw_p5 : lw_okq (⟨"MirageLoans$Grammar", "takeTell", "()V"⟩, 8) := ⟨⟨by decide +kernel, by decide +kernel⟩, (tb_1 (List.mem_of_getElem? (i := 44) (by decide +kernel))), (tb_3 (List.mem_of_getElem? (i := 43) (by decide +kernel))), (tb_3 (List.mem_of_getElem? (i := 44) (by decide +kernel)))⟩
theorem lw_p6 : lw_okq (⟨"MirageLoans$Grammar", "fail", "(I)V"⟩, 8) := ⟨⟨by decide +kernel, by decide +kernel⟩, (tb_1 (List.mem_of_getElem? (i := 44) (by decide +kernel))), (tb_3 (List.mem_of_getElem? (i := 47) (by decide +kernel))), (tb_3 (List.mem_of_getElem? (i := 48) (by decide +kernel)))⟩
theorem lw_p7 : lw_okq (⟨"MirageLoans$Grammar", "take", "(Z)V"⟩, 8) := ⟨⟨by decide +kernel, by decide +kernel⟩, (tb_1 (List.mem_of_getElem? (i := 44) (by decide +kernel))), (tb_3 (List.mem_of_getElem? (i := 51) (by decide +kernel))), (tb_3 (List.mem_of_getElem? (i := 52) (by decide +kernel)))⟩
theorem lw_p8 : lw_okq (⟨"MirageLoans$Grammar", "takeStander", "(Z)V"⟩, 8) := ⟨⟨by decide +kernel, by decide +kernel⟩, (tb_1 (List.mem_of_getElem? (i := 44) (by decide +kernel))), (tb_3 (List.mem_of_getElem? (i := 55) (by decide +kernel))), (tb_3 (List.mem_of_getElem? (i := 56) (by decide +kernel)))⟩
theorem lw_p9 : lw_okq (⟨"MirageLoans$Grammar", "note", "(II)V"⟩, 8) := ⟨⟨by decide +kernel, by decide +kernel⟩, (tb_1 (List.mem_of_getElem? (i := 44) (by decide +kernel))), (tb_3 (List.mem_of_getElem? (i := 63) (by decide +kernel))), (tb_3 (List.mem_of_getElem? (i := 64) (by decide +kernel)))⟩
theorem lw_p10 : lw_okq (⟨"MirageLoans$Grammar", "takeInt", "(II)I"⟩, 8) := ⟨⟨by decide +kernel, by decide +kernel⟩, (tb_1 (List.mem_of_getElem? (i := 44) (by decide +kernel))), (tb_3 (List.mem_of_getElem? (i := 67) (by decide +kernel))), (tb_3 (List.mem_of_getElem? (i := 68) (by decide +kernel)))⟩
theorem lw_p11 : lw_okq (⟨"MirageLoans$Grammar", "takeLaw", "(I)V"⟩, 8) := ⟨⟨by decide +kernel, by decide +kernel⟩, (tb_1 (List.mem_of_getElem? (i := 44) (by decide +kernel))), (tb_3 (List.mem_of_getElem? (i := 75) (by decide +kernel))), (tb_3 (List.mem_of_getElem? (i := 76) (by decide +kernel)))⟩
theorem lw_p12 : lw_okq (⟨"MirageLoans$Grammar", "takeSum", "(I)V"⟩, 8) := ⟨⟨by decide +kernel, by decide +kernel⟩, (tb_1 (List.mem_of_getElem? (i := 44) (by decide +kernel))), (tb_3 (List.mem_of_getElem? (i := 80) (by decide +kernel))), (tb_3 (List.mem_of_getElem? (i := 81) (by decide +kernel)))⟩
theorem lw_p13 : lw_okq (⟨"MirageLoans$Grammar", "takeProduct", "(I)V"⟩, 8) := ⟨⟨by decide +kernel, by decide +kernel⟩, (tb_1 (List.mem_of_getElem? (i := 44) (by decide +kernel))), (tb_3 (List.mem_of_getElem? (i := 84) (by decide +kernel))), (tb_3 (List.mem_of_getElem? (i := 85) (by decide +kernel)))⟩
theorem lw_p14 : lw_okq (⟨"MirageLoans$Grammar", "takeUnit", "(I)V"⟩, 8) := ⟨⟨by decide +kernel, by decide +kernel⟩, (tb_1 (List.mem_of_getElem? (i := 44) (by decide +kernel))), (tb_3 (List.mem_of_getElem? (i := 88) (by decide +kernel))), (tb_3 (List.mem_of_getElem? (i := 89) (by decide +kernel)))⟩
theorem lw_p15 : lw_okq (⟨"MirageLoans$Grammar", "takeSetting", "(I)V"⟩, 8) := ⟨⟨by decide +kernel, by decide +kernel⟩, (tb_1 (List.mem_of_getElem? (i := 44) (by decide +kernel))), (tb_3 (List.mem_of_getElem? (i := 97) (by decide +kernel))), (tb_3 (List.mem_of_getElem? (i := 98) (by decide +kernel)))⟩
def lw_privs_1 : List (MethodName × Nat) := [(⟨"MirageLoans$Laws", "openWithVar", "(II)V"⟩, 6), (⟨"MirageLoans$Tokens", "skipBlanks", "(LMirageLoans$Tape;)V"⟩, 5), (⟨"MirageLoans$Tokens", "scanLetters", "(LMirageLoans$Tape;I)V"⟩, 5), (⟨"MirageLoans$Tokens", "kindOf", "(J)I"⟩, 5), (⟨"MirageLoans$Tokens", "scanDigits", "(LMirageLoans$Tape;I)V"⟩, 5), (⟨"MirageLoans$Grammar", "takeTell", "()V"⟩, 8), (⟨"MirageLoans$Grammar", "fail", "(I)V"⟩, 8), (⟨"MirageLoans$Grammar", "take", "(Z)V"⟩, 8), (⟨"MirageLoans$Grammar", "takeStander", "(Z)V"⟩, 8), (⟨"MirageLoans$Grammar", "note", "(II)V"⟩, 8), (⟨"MirageLoans$Grammar", "takeInt", "(II)I"⟩, 8), (⟨"MirageLoans$Grammar", "takeLaw", "(I)V"⟩, 8), (⟨"MirageLoans$Grammar", "takeSum", "(I)V"⟩, 8), (⟨"MirageLoans$Grammar", "takeProduct", "(I)V"⟩, 8), (⟨"MirageLoans$Grammar", "takeUnit", "(I)V"⟩, 8), (⟨"MirageLoans$Grammar", "takeSetting", "(I)V"⟩, 8)]
theorem lw_r1 : ∀ q ∈ lw_privs_1, lw_okq q := List.forall_mem_cons.mpr ⟨lw_p0, List.forall_mem_cons.mpr ⟨lw_p1, List.forall_mem_cons.mpr ⟨lw_p2, List.forall_mem_cons.mpr ⟨lw_p3, List.forall_mem_cons.mpr ⟨lw_p4, List.forall_mem_cons.mpr ⟨lw_p5, List.forall_mem_cons.mpr ⟨lw_p6, List.forall_mem_cons.mpr ⟨lw_p7, List.forall_mem_cons.mpr ⟨lw_p8, List.forall_mem_cons.mpr ⟨lw_p9, List.forall_mem_cons.mpr ⟨lw_p10, List.forall_mem_cons.mpr ⟨lw_p11, List.forall_mem_cons.mpr ⟨lw_p12, List.forall_mem_cons.mpr ⟨lw_p13, List.forall_mem_cons.mpr ⟨lw_p14, List.forall_mem_cons.mpr ⟨lw_p15, fun _ h => absurd h List.not_mem_nil⟩⟩⟩⟩⟩⟩⟩⟩⟩⟩⟩⟩⟩⟩⟩⟩
theorem lw_p16 : lw_okq (⟨"MirageLoans", "beginAnew", "()V"⟩, 14) := ⟨⟨by decide +kernel, by decide +kernel⟩, (tb_1 (List.mem_of_getElem? (i := 20) (by decide +kernel))), (tb_3 (List.mem_of_getElem? (i := 105) (by decide +kernel))), (tb_3 (List.mem_of_getElem? (i := 106) (by decide +kernel)))⟩
theorem lw_p17 : lw_okq (⟨"MirageLoans", "isThing", "(I)Z"⟩, 14) := ⟨⟨by decide +kernel, by decide +kernel⟩, (tb_1 (List.mem_of_getElem? (i := 20) (by decide +kernel))), (tb_3 (List.mem_of_getElem? (i := 133) (by decide +kernel))), (tb_3 (List.mem_of_getElem? (i := 134) (by decide +kernel)))⟩
theorem lw_p18 : lw_okq (⟨"MirageLoans", "seatsThatSee", "(I)I"⟩, 14) := ⟨⟨by decide +kernel, by decide +kernel⟩, (tb_1 (List.mem_of_getElem? (i := 20) (by decide +kernel))), (tb_3 (List.mem_of_getElem? (i := 137) (by decide +kernel))), (tb_3 (List.mem_of_getElem? (i := 138) (by decide +kernel)))⟩
theorem lw_p19 : lw_okq (⟨"MirageLoans$Laws", "clearVars", "(I)V"⟩, 6) := ⟨⟨by decide +kernel, by decide +kernel⟩, (tb_1 (List.mem_of_getElem? (i := 136) (by decide +kernel))), (tb_3 (List.mem_of_getElem? (i := 149) (by decide +kernel))), (tb_3 (List.mem_of_getElem? (i := 150) (by decide +kernel)))⟩
theorem lw_p20 : lw_okq (⟨"MirageLoans$Laws", "reckon", "(I)I"⟩, 6) := ⟨⟨by decide +kernel, by decide +kernel⟩, (tb_1 (List.mem_of_getElem? (i := 136) (by decide +kernel))), (tb_3 (List.mem_of_getElem? (i := 153) (by decide +kernel))), (tb_3 (List.mem_of_getElem? (i := 154) (by decide +kernel)))⟩
theorem lw_p21 : lw_okq (⟨"MirageLoans$Laws", "variable", "(I)I"⟩, 6) := ⟨⟨by decide +kernel, by decide +kernel⟩, (tb_1 (List.mem_of_getElem? (i := 136) (by decide +kernel))), (tb_3 (List.mem_of_getElem? (i := 157) (by decide +kernel))), (tb_3 (List.mem_of_getElem? (i := 158) (by decide +kernel)))⟩
theorem lw_p22 : lw_okq (⟨"MirageLoans", "seatsThatLent", "(I)I"⟩, 14) := ⟨⟨by decide +kernel, by decide +kernel⟩, (tb_1 (List.mem_of_getElem? (i := 20) (by decide +kernel))), (tb_3 (List.mem_of_getElem? (i := 185) (by decide +kernel))), (tb_3 (List.mem_of_getElem? (i := 186) (by decide +kernel)))⟩
theorem lw_p23 : lw_okq (⟨"MirageLoans", "isSeat", "(I)Z"⟩, 14) := ⟨⟨by decide +kernel, by decide +kernel⟩, (tb_1 (List.mem_of_getElem? (i := 20) (by decide +kernel))), (tb_3 (List.mem_of_getElem? (i := 196) (by decide +kernel))), (tb_3 (List.mem_of_getElem? (i := 197) (by decide +kernel)))⟩
theorem lw_p24 : lw_okq (⟨"MirageLoans", "thingsSeenFrom", "(II)I"⟩, 14) := ⟨⟨by decide +kernel, by decide +kernel⟩, (tb_1 (List.mem_of_getElem? (i := 20) (by decide +kernel))), (tb_3 (List.mem_of_getElem? (i := 200) (by decide +kernel))), (tb_3 (List.mem_of_getElem? (i := 201) (by decide +kernel)))⟩
theorem lw_p25 : lw_okq (⟨"MirageLoans", "thingsLentOn", "(I)I"⟩, 14) := ⟨⟨by decide +kernel, by decide +kernel⟩, (tb_1 (List.mem_of_getElem? (i := 20) (by decide +kernel))), (tb_3 (List.mem_of_getElem? (i := 209) (by decide +kernel))), (tb_3 (List.mem_of_getElem? (i := 210) (by decide +kernel)))⟩
theorem lw_p26 : lw_okq (⟨"MirageLoans", "isPair", "(II)Z"⟩, 14) := ⟨⟨by decide +kernel, by decide +kernel⟩, (tb_1 (List.mem_of_getElem? (i := 20) (by decide +kernel))), (tb_3 (List.mem_of_getElem? (i := 222) (by decide +kernel))), (tb_3 (List.mem_of_getElem? (i := 223) (by decide +kernel)))⟩
theorem lw_p27 : lw_okq (⟨"MirageLoans", "seesNow", "(II)Z"⟩, 14) := ⟨⟨by decide +kernel, by decide +kernel⟩, (tb_1 (List.mem_of_getElem? (i := 20) (by decide +kernel))), (tb_4 (List.mem_of_getElem? (i := 17) (by decide +kernel))), (tb_4 (List.mem_of_getElem? (i := 18) (by decide +kernel)))⟩
theorem lw_p28 : lw_okq (⟨"MirageLoans$Flat", "passLoan", "(LMirageLoans$State;IIIZ)V"⟩, 13) := ⟨⟨by decide +kernel, by decide +kernel⟩, (tb_1 (List.mem_of_getElem? (i := 130) (by decide +kernel))), (tb_4 (List.mem_of_getElem? (i := 65) (by decide +kernel))), (tb_4 (List.mem_of_getElem? (i := 66) (by decide +kernel)))⟩
theorem lw_p29 : lw_okq (⟨"MirageLoans", "findSpotsLentOn", "()V"⟩, 14) := ⟨⟨by decide +kernel, by decide +kernel⟩, (tb_1 (List.mem_of_getElem? (i := 20) (by decide +kernel))), (tb_4 (List.mem_of_getElem? (i := 100) (by decide +kernel))), (tb_4 (List.mem_of_getElem? (i := 101) (by decide +kernel)))⟩
theorem lw_p30 : lw_okq (⟨"MirageLoans", "titlesClash", "(II)Z"⟩, 14) := ⟨⟨by decide +kernel, by decide +kernel⟩, (tb_1 (List.mem_of_getElem? (i := 20) (by decide +kernel))), (tb_4 (List.mem_of_getElem? (i := 104) (by decide +kernel))), (tb_4 (List.mem_of_getElem? (i := 105) (by decide +kernel)))⟩
theorem lw_p31 : lw_okq (⟨"MirageLoans", "tallySeenHours", "(II)V"⟩, 14) := ⟨⟨by decide +kernel, by decide +kernel⟩, (tb_1 (List.mem_of_getElem? (i := 20) (by decide +kernel))), (tb_4 (List.mem_of_getElem? (i := 116) (by decide +kernel))), (tb_4 (List.mem_of_getElem? (i := 117) (by decide +kernel)))⟩
def lw_privs_2 : List (MethodName × Nat) := [(⟨"MirageLoans", "beginAnew", "()V"⟩, 14), (⟨"MirageLoans", "isThing", "(I)Z"⟩, 14), (⟨"MirageLoans", "seatsThatSee", "(I)I"⟩, 14), (⟨"MirageLoans$Laws", "clearVars", "(I)V"⟩, 6), (⟨"MirageLoans$Laws", "reckon", "(I)I"⟩, 6), (⟨"MirageLoans$Laws", "variable", "(I)I"⟩, 6), (⟨"MirageLoans", "seatsThatLent", "(I)I"⟩, 14), (⟨"MirageLoans", "isSeat", "(I)Z"⟩, 14), (⟨"MirageLoans", "thingsSeenFrom", "(II)I"⟩, 14), (⟨"MirageLoans", "thingsLentOn", "(I)I"⟩, 14), (⟨"MirageLoans", "isPair", "(II)Z"⟩, 14), (⟨"MirageLoans", "seesNow", "(II)Z"⟩, 14), (⟨"MirageLoans$Flat", "passLoan", "(LMirageLoans$State;IIIZ)V"⟩, 13), (⟨"MirageLoans", "findSpotsLentOn", "()V"⟩, 14), (⟨"MirageLoans", "titlesClash", "(II)Z"⟩, 14), (⟨"MirageLoans", "tallySeenHours", "(II)V"⟩, 14)]
theorem lw_r2 : ∀ q ∈ lw_privs_2, lw_okq q := List.forall_mem_cons.mpr ⟨lw_p16, List.forall_mem_cons.mpr ⟨lw_p17, List.forall_mem_cons.mpr ⟨lw_p18, List.forall_mem_cons.mpr ⟨lw_p19, List.forall_mem_cons.mpr ⟨lw_p20, List.forall_mem_cons.mpr ⟨lw_p21, List.forall_mem_cons.mpr ⟨lw_p22, List.forall_mem_cons.mpr ⟨lw_p23, List.forall_mem_cons.mpr ⟨lw_p24, List.forall_mem_cons.mpr ⟨lw_p25, List.forall_mem_cons.mpr ⟨lw_p26, List.forall_mem_cons.mpr ⟨lw_p27, List.forall_mem_cons.mpr ⟨lw_p28, List.forall_mem_cons.mpr ⟨lw_p29, List.forall_mem_cons.mpr ⟨lw_p30, List.forall_mem_cons.mpr ⟨lw_p31, fun _ h => absurd h List.not_mem_nil⟩⟩⟩⟩⟩⟩⟩⟩⟩⟩⟩⟩⟩⟩⟩⟩
theorem lw_p32 : lw_okq (⟨"MirageLoans", "goAhead", "(I)V"⟩, 14) := ⟨⟨by decide +kernel, by decide +kernel⟩, (tb_1 (List.mem_of_getElem? (i := 20) (by decide +kernel))), (tb_4 (List.mem_of_getElem? (i := 137) (by decide +kernel))), (tb_4 (List.mem_of_getElem? (i := 138) (by decide +kernel)))⟩
theorem lw_p33 : lw_okq (⟨"MirageLoans", "pitchUmbrellas", "(I)I"⟩, 14) := ⟨⟨by decide +kernel, by decide +kernel⟩, (tb_1 (List.mem_of_getElem? (i := 20) (by decide +kernel))), (tb_4 (List.mem_of_getElem? (i := 151) (by decide +kernel))), (tb_4 (List.mem_of_getElem? (i := 152) (by decide +kernel)))⟩
theorem lw_p34 : lw_okq (⟨"MirageLoans", "nextPitch", "(I)Z"⟩, 14) := ⟨⟨by decide +kernel, by decide +kernel⟩, (tb_1 (List.mem_of_getElem? (i := 20) (by decide +kernel))), (tb_4 (List.mem_of_getElem? (i := 162) (by decide +kernel))), (tb_4 (List.mem_of_getElem? (i := 163) (by decide +kernel)))⟩
theorem lw_p35 : lw_okq (⟨"MirageLoans", "unseenOf", "(III)I"⟩, 14) := ⟨⟨by decide +kernel, by decide +kernel⟩, (tb_1 (List.mem_of_getElem? (i := 20) (by decide +kernel))), (tb_4 (List.mem_of_getElem? (i := 180) (by decide +kernel))), (tb_4 (List.mem_of_getElem? (i := 181) (by decide +kernel)))⟩
theorem lw_p36 : lw_okq (⟨"MirageLoans", "thingsSeen", "(I)I"⟩, 14) := ⟨⟨by decide +kernel, by decide +kernel⟩, (tb_1 (List.mem_of_getElem? (i := 20) (by decide +kernel))), (tb_4 (List.mem_of_getElem? (i := 191) (by decide +kernel))), (tb_4 (List.mem_of_getElem? (i := 192) (by decide +kernel)))⟩
theorem lw_p37 : lw_okq (⟨"MirageLoans", "isKnown", "(I)Z"⟩, 14) := ⟨⟨by decide +kernel, by decide +kernel⟩, (tb_1 (List.mem_of_getElem? (i := 20) (by decide +kernel))), (tb_4 (List.mem_of_getElem? (i := 223) (by decide +kernel))), (tb_4 (List.mem_of_getElem? (i := 224) (by decide +kernel)))⟩
theorem lw_p38 : lw_okq (⟨"MirageLoans$Told", "isSo", "(LMirageLoans$Flat;III)Z"⟩, 6) := ⟨⟨by decide +kernel, by decide +kernel⟩, (tb_2 (List.mem_of_getElem? (i := 88) (by decide +kernel))), (tb_4 (List.mem_of_getElem? (i := 232) (by decide +kernel))), (tb_4 (List.mem_of_getElem? (i := 233) (by decide +kernel)))⟩
theorem lw_p39 : lw_okq (⟨"MirageLoans$Told", "worstLeft", "(LMirageLoans$Flat;III)I"⟩, 6) := ⟨⟨by decide +kernel, by decide +kernel⟩, (tb_2 (List.mem_of_getElem? (i := 88) (by decide +kernel))), (tb_5 (List.mem_of_getElem? (i := 20) (by decide +kernel))), (tb_5 (List.mem_of_getElem? (i := 21) (by decide +kernel)))⟩
theorem lw_p40 : lw_okq (⟨"MirageLoans", "heldSlots", "()I"⟩, 14) := ⟨⟨by decide +kernel, by decide +kernel⟩, (tb_1 (List.mem_of_getElem? (i := 20) (by decide +kernel))), (tb_5 (List.mem_of_getElem? (i := 44) (by decide +kernel))), (tb_5 (List.mem_of_getElem? (i := 45) (by decide +kernel)))⟩
theorem lw_p41 : lw_okq (⟨"MirageLoansModel", "plain", "(I)V"⟩, 65) := ⟨⟨by decide +kernel, by decide +kernel⟩, (tb_5 (List.mem_of_getElem? (i := 49) (by decide +kernel))), (tb_5 (List.mem_of_getElem? (i := 55) (by decide +kernel))), (tb_5 (List.mem_of_getElem? (i := 56) (by decide +kernel)))⟩
theorem lw_p42 : lw_okq (⟨"MirageLoansModel", "begins", "()V"⟩, 65) := ⟨⟨by decide +kernel, by decide +kernel⟩, (tb_5 (List.mem_of_getElem? (i := 49) (by decide +kernel))), (tb_5 (List.mem_of_getElem? (i := 66) (by decide +kernel))), (tb_5 (List.mem_of_getElem? (i := 67) (by decide +kernel)))⟩
theorem lw_p43 : lw_okq (⟨"MirageLoansModel", "keepsRow", "()V"⟩, 65) := ⟨⟨by decide +kernel, by decide +kernel⟩, (tb_5 (List.mem_of_getElem? (i := 49) (by decide +kernel))), (tb_5 (List.mem_of_getElem? (i := 70) (by decide +kernel))), (tb_5 (List.mem_of_getElem? (i := 71) (by decide +kernel)))⟩
theorem lw_p44 : lw_okq (⟨"MirageLoansModel", "put", "(I)V"⟩, 65) := ⟨⟨by decide +kernel, by decide +kernel⟩, (tb_5 (List.mem_of_getElem? (i := 49) (by decide +kernel))), (tb_6 (List.mem_of_getElem? (i := 33) (by decide +kernel))), (tb_6 (List.mem_of_getElem? (i := 34) (by decide +kernel)))⟩
theorem lw_p45 : lw_okq (⟨"MirageLoansModel", "cut", "()V"⟩, 65) := ⟨⟨by decide +kernel, by decide +kernel⟩, (tb_5 (List.mem_of_getElem? (i := 49) (by decide +kernel))), (tb_6 (List.mem_of_getElem? (i := 45) (by decide +kernel))), (tb_6 (List.mem_of_getElem? (i := 46) (by decide +kernel)))⟩
theorem lw_p46 : lw_okq (⟨"MirageLoansModel", "byteAt", "(I)I"⟩, 65) := ⟨⟨by decide +kernel, by decide +kernel⟩, (tb_5 (List.mem_of_getElem? (i := 49) (by decide +kernel))), (tb_6 (List.mem_of_getElem? (i := 49) (by decide +kernel))), (tb_6 (List.mem_of_getElem? (i := 50) (by decide +kernel)))⟩
theorem lw_p47 : lw_okq (⟨"MirageLoansModel", "token", "(IIIJ)V"⟩, 65) := ⟨⟨by decide +kernel, by decide +kernel⟩, (tb_5 (List.mem_of_getElem? (i := 49) (by decide +kernel))), (tb_6 (List.mem_of_getElem? (i := 53) (by decide +kernel))), (tb_6 (List.mem_of_getElem? (i := 54) (by decide +kernel)))⟩
def lw_privs_3 : List (MethodName × Nat) := [(⟨"MirageLoans", "goAhead", "(I)V"⟩, 14), (⟨"MirageLoans", "pitchUmbrellas", "(I)I"⟩, 14), (⟨"MirageLoans", "nextPitch", "(I)Z"⟩, 14), (⟨"MirageLoans", "unseenOf", "(III)I"⟩, 14), (⟨"MirageLoans", "thingsSeen", "(I)I"⟩, 14), (⟨"MirageLoans", "isKnown", "(I)Z"⟩, 14), (⟨"MirageLoans$Told", "isSo", "(LMirageLoans$Flat;III)Z"⟩, 6), (⟨"MirageLoans$Told", "worstLeft", "(LMirageLoans$Flat;III)I"⟩, 6), (⟨"MirageLoans", "heldSlots", "()I"⟩, 14), (⟨"MirageLoansModel", "plain", "(I)V"⟩, 65), (⟨"MirageLoansModel", "begins", "()V"⟩, 65), (⟨"MirageLoansModel", "keepsRow", "()V"⟩, 65), (⟨"MirageLoansModel", "put", "(I)V"⟩, 65), (⟨"MirageLoansModel", "cut", "()V"⟩, 65), (⟨"MirageLoansModel", "byteAt", "(I)I"⟩, 65), (⟨"MirageLoansModel", "token", "(IIIJ)V"⟩, 65)]
theorem lw_r3 : ∀ q ∈ lw_privs_3, lw_okq q := List.forall_mem_cons.mpr ⟨lw_p32, List.forall_mem_cons.mpr ⟨lw_p33, List.forall_mem_cons.mpr ⟨lw_p34, List.forall_mem_cons.mpr ⟨lw_p35, List.forall_mem_cons.mpr ⟨lw_p36, List.forall_mem_cons.mpr ⟨lw_p37, List.forall_mem_cons.mpr ⟨lw_p38, List.forall_mem_cons.mpr ⟨lw_p39, List.forall_mem_cons.mpr ⟨lw_p40, List.forall_mem_cons.mpr ⟨lw_p41, List.forall_mem_cons.mpr ⟨lw_p42, List.forall_mem_cons.mpr ⟨lw_p43, List.forall_mem_cons.mpr ⟨lw_p44, List.forall_mem_cons.mpr ⟨lw_p45, List.forall_mem_cons.mpr ⟨lw_p46, List.forall_mem_cons.mpr ⟨lw_p47, fun _ h => absurd h List.not_mem_nil⟩⟩⟩⟩⟩⟩⟩⟩⟩⟩⟩⟩⟩⟩⟩⟩
theorem lw_p48 : lw_okq (⟨"MirageLoansModel", "sign", "(III)I"⟩, 65) := ⟨⟨by decide +kernel, by decide +kernel⟩, (tb_5 (List.mem_of_getElem? (i := 49) (by decide +kernel))), (tb_6 (List.mem_of_getElem? (i := 63) (by decide +kernel))), (tb_6 (List.mem_of_getElem? (i := 64) (by decide +kernel)))⟩
theorem lw_p49 : lw_okq (⟨"MirageLoansModel", "is", "(I)Z"⟩, 65) := ⟨⟨by decide +kernel, by decide +kernel⟩, (tb_5 (List.mem_of_getElem? (i := 49) (by decide +kernel))), (tb_6 (List.mem_of_getElem? (i := 67) (by decide +kernel))), (tb_6 (List.mem_of_getElem? (i := 68) (by decide +kernel)))⟩
theorem lw_p50 : lw_okq (⟨"MirageLoansModel", "tellOne", "()V"⟩, 65) := ⟨⟨by decide +kernel, by decide +kernel⟩, (tb_5 (List.mem_of_getElem? (i := 49) (by decide +kernel))), (tb_6 (List.mem_of_getElem? (i := 71) (by decide +kernel))), (tb_6 (List.mem_of_getElem? (i := 72) (by decide +kernel)))⟩
theorem lw_p51 : lw_okq (⟨"MirageLoansModel", "roomFor", "(II)V"⟩, 65) := ⟨⟨by decide +kernel, by decide +kernel⟩, (tb_5 (List.mem_of_getElem? (i := 49) (by decide +kernel))), (tb_6 (List.mem_of_getElem? (i := 75) (by decide +kernel))), (tb_6 (List.mem_of_getElem? (i := 76) (by decide +kernel)))⟩
theorem lw_p52 : lw_okq (⟨"MirageLoansModel", "fail", "(I)V"⟩, 65) := ⟨⟨by decide +kernel, by decide +kernel⟩, (tb_5 (List.mem_of_getElem? (i := 49) (by decide +kernel))), (tb_6 (List.mem_of_getElem? (i := 79) (by decide +kernel))), (tb_6 (List.mem_of_getElem? (i := 80) (by decide +kernel)))⟩
theorem lw_p53 : lw_okq (⟨"MirageLoansModel", "goesOn", "()V"⟩, 65) := ⟨⟨by decide +kernel, by decide +kernel⟩, (tb_5 (List.mem_of_getElem? (i := 49) (by decide +kernel))), (tb_6 (List.mem_of_getElem? (i := 83) (by decide +kernel))), (tb_6 (List.mem_of_getElem? (i := 84) (by decide +kernel)))⟩
theorem lw_p54 : lw_okq (⟨"MirageLoansModel", "named", "()I"⟩, 65) := ⟨⟨by decide +kernel, by decide +kernel⟩, (tb_5 (List.mem_of_getElem? (i := 49) (by decide +kernel))), (tb_6 (List.mem_of_getElem? (i := 87) (by decide +kernel))), (tb_6 (List.mem_of_getElem? (i := 88) (by decide +kernel)))⟩
theorem lw_p55 : lw_okq (⟨"MirageLoansModel", "must", "(I)V"⟩, 65) := ⟨⟨by decide +kernel, by decide +kernel⟩, (tb_5 (List.mem_of_getElem? (i := 49) (by decide +kernel))), (tb_6 (List.mem_of_getElem? (i := 91) (by decide +kernel))), (tb_6 (List.mem_of_getElem? (i := 92) (by decide +kernel)))⟩
theorem lw_p56 : lw_okq (⟨"MirageLoansModel", "wrong", "(II)V"⟩, 65) := ⟨⟨by decide +kernel, by decide +kernel⟩, (tb_5 (List.mem_of_getElem? (i := 49) (by decide +kernel))), (tb_6 (List.mem_of_getElem? (i := 95) (by decide +kernel))), (tb_6 (List.mem_of_getElem? (i := 96) (by decide +kernel)))⟩
theorem lw_p57 : lw_okq (⟨"MirageLoansModel", "bounded", "(II)I"⟩, 65) := ⟨⟨by decide +kernel, by decide +kernel⟩, (tb_5 (List.mem_of_getElem? (i := 49) (by decide +kernel))), (tb_6 (List.mem_of_getElem? (i := 99) (by decide +kernel))), (tb_6 (List.mem_of_getElem? (i := 100) (by decide +kernel)))⟩
theorem lw_p58 : lw_okq (⟨"MirageLoansModel", "ends", "(I)V"⟩, 65) := ⟨⟨by decide +kernel, by decide +kernel⟩, (tb_5 (List.mem_of_getElem? (i := 49) (by decide +kernel))), (tb_6 (List.mem_of_getElem? (i := 103) (by decide +kernel))), (tb_6 (List.mem_of_getElem? (i := 104) (by decide +kernel)))⟩
theorem lw_p59 : lw_okq (⟨"MirageLoansModel", "toldInt", "(II)I"⟩, 65) := ⟨⟨by decide +kernel, by decide +kernel⟩, (tb_5 (List.mem_of_getElem? (i := 49) (by decide +kernel))), (tb_6 (List.mem_of_getElem? (i := 107) (by decide +kernel))), (tb_6 (List.mem_of_getElem? (i := 108) (by decide +kernel)))⟩
theorem lw_p60 : lw_okq (⟨"MirageLoansModel", "tellLaw", "(I)V"⟩, 65) := ⟨⟨by decide +kernel, by decide +kernel⟩, (tb_5 (List.mem_of_getElem? (i := 49) (by decide +kernel))), (tb_6 (List.mem_of_getElem? (i := 111) (by decide +kernel))), (tb_6 (List.mem_of_getElem? (i := 112) (by decide +kernel)))⟩
theorem lw_p61 : lw_okq (⟨"MirageLoansModel", "expression", "()V"⟩, 65) := ⟨⟨by decide +kernel, by decide +kernel⟩, (tb_5 (List.mem_of_getElem? (i := 49) (by decide +kernel))), (tb_6 (List.mem_of_getElem? (i := 115) (by decide +kernel))), (tb_6 (List.mem_of_getElem? (i := 116) (by decide +kernel)))⟩
theorem lw_p62 : lw_okq (⟨"MirageLoansModel", "unit", "()V"⟩, 65) := ⟨⟨by decide +kernel, by decide +kernel⟩, (tb_5 (List.mem_of_getElem? (i := 49) (by decide +kernel))), (tb_6 (List.mem_of_getElem? (i := 119) (by decide +kernel))), (tb_6 (List.mem_of_getElem? (i := 120) (by decide +kernel)))⟩
theorem lw_p63 : lw_okq (⟨"MirageLoansModel", "emit", "(II)V"⟩, 65) := ⟨⟨by decide +kernel, by decide +kernel⟩, (tb_5 (List.mem_of_getElem? (i := 49) (by decide +kernel))), (tb_6 (List.mem_of_getElem? (i := 123) (by decide +kernel))), (tb_6 (List.mem_of_getElem? (i := 124) (by decide +kernel)))⟩
def lw_privs_4 : List (MethodName × Nat) := [(⟨"MirageLoansModel", "sign", "(III)I"⟩, 65), (⟨"MirageLoansModel", "is", "(I)Z"⟩, 65), (⟨"MirageLoansModel", "tellOne", "()V"⟩, 65), (⟨"MirageLoansModel", "roomFor", "(II)V"⟩, 65), (⟨"MirageLoansModel", "fail", "(I)V"⟩, 65), (⟨"MirageLoansModel", "goesOn", "()V"⟩, 65), (⟨"MirageLoansModel", "named", "()I"⟩, 65), (⟨"MirageLoansModel", "must", "(I)V"⟩, 65), (⟨"MirageLoansModel", "wrong", "(II)V"⟩, 65), (⟨"MirageLoansModel", "bounded", "(II)I"⟩, 65), (⟨"MirageLoansModel", "ends", "(I)V"⟩, 65), (⟨"MirageLoansModel", "toldInt", "(II)I"⟩, 65), (⟨"MirageLoansModel", "tellLaw", "(I)V"⟩, 65), (⟨"MirageLoansModel", "expression", "()V"⟩, 65), (⟨"MirageLoansModel", "unit", "()V"⟩, 65), (⟨"MirageLoansModel", "emit", "(II)V"⟩, 65)]
theorem lw_r4 : ∀ q ∈ lw_privs_4, lw_okq q := List.forall_mem_cons.mpr ⟨lw_p48, List.forall_mem_cons.mpr ⟨lw_p49, List.forall_mem_cons.mpr ⟨lw_p50, List.forall_mem_cons.mpr ⟨lw_p51, List.forall_mem_cons.mpr ⟨lw_p52, List.forall_mem_cons.mpr ⟨lw_p53, List.forall_mem_cons.mpr ⟨lw_p54, List.forall_mem_cons.mpr ⟨lw_p55, List.forall_mem_cons.mpr ⟨lw_p56, List.forall_mem_cons.mpr ⟨lw_p57, List.forall_mem_cons.mpr ⟨lw_p58, List.forall_mem_cons.mpr ⟨lw_p59, List.forall_mem_cons.mpr ⟨lw_p60, List.forall_mem_cons.mpr ⟨lw_p61, List.forall_mem_cons.mpr ⟨lw_p62, List.forall_mem_cons.mpr ⟨lw_p63, fun _ h => absurd h List.not_mem_nil⟩⟩⟩⟩⟩⟩⟩⟩⟩⟩⟩⟩⟩⟩⟩⟩
theorem lw_p64 : lw_okq (⟨"MirageLoansModel", "comesOut", "(Z)V"⟩, 65) := ⟨⟨by decide +kernel, by decide +kernel⟩, (tb_5 (List.mem_of_getElem? (i := 49) (by decide +kernel))), (tb_6 (List.mem_of_getElem? (i := 127) (by decide +kernel))), (tb_6 (List.mem_of_getElem? (i := 128) (by decide +kernel)))⟩
theorem lw_p65 : lw_okq (⟨"MirageLoansModel", "term", "()V"⟩, 65) := ⟨⟨by decide +kernel, by decide +kernel⟩, (tb_5 (List.mem_of_getElem? (i := 49) (by decide +kernel))), (tb_6 (List.mem_of_getElem? (i := 131) (by decide +kernel))), (tb_6 (List.mem_of_getElem? (i := 132) (by decide +kernel)))⟩
theorem lw_p66 : lw_okq (⟨"MirageLoansModel", "isThing", "(I)Z"⟩, 65) := ⟨⟨by decide +kernel, by decide +kernel⟩, (tb_5 (List.mem_of_getElem? (i := 49) (by decide +kernel))), (tb_6 (List.mem_of_getElem? (i := 143) (by decide +kernel))), (tb_6 (List.mem_of_getElem? (i := 144) (by decide +kernel)))⟩
theorem lw_p67 : lw_okq (⟨"MirageLoansModel", "copies", "()V"⟩, 65) := ⟨⟨by decide +kernel, by decide +kernel⟩, (tb_5 (List.mem_of_getElem? (i := 49) (by decide +kernel))), (tb_6 (List.mem_of_getElem? (i := 150) (by decide +kernel))), (tb_6 (List.mem_of_getElem? (i := 151) (by decide +kernel)))⟩
theorem lw_p68 : lw_okq (⟨"MirageLoansModel", "sees", "(III)Z"⟩, 65) := ⟨⟨by decide +kernel, by decide +kernel⟩, (tb_5 (List.mem_of_getElem? (i := 49) (by decide +kernel))), (tb_6 (List.mem_of_getElem? (i := 154) (by decide +kernel))), (tb_6 (List.mem_of_getElem? (i := 155) (by decide +kernel)))⟩
theorem lw_p69 : lw_okq (⟨"MirageLoansModel", "isSeen", "(IIII)Z"⟩, 65) := ⟨⟨by decide +kernel, by decide +kernel⟩, (tb_5 (List.mem_of_getElem? (i := 49) (by decide +kernel))), (tb_6 (List.mem_of_getElem? (i := 158) (by decide +kernel))), (tb_6 (List.mem_of_getElem? (i := 159) (by decide +kernel)))⟩
theorem lw_p70 : lw_okq (⟨"MirageLoansModel", "looksAt", "(IIII)V"⟩, 65) := ⟨⟨by decide +kernel, by decide +kernel⟩, (tb_5 (List.mem_of_getElem? (i := 49) (by decide +kernel))), (tb_6 (List.mem_of_getElem? (i := 162) (by decide +kernel))), (tb_6 (List.mem_of_getElem? (i := 163) (by decide +kernel)))⟩
theorem lw_p71 : lw_okq (⟨"MirageLoansModel", "heatAt", "(I)I"⟩, 65) := ⟨⟨by decide +kernel, by decide +kernel⟩, (tb_5 (List.mem_of_getElem? (i := 49) (by decide +kernel))), (tb_6 (List.mem_of_getElem? (i := 166) (by decide +kernel))), (tb_6 (List.mem_of_getElem? (i := 167) (by decide +kernel)))⟩
theorem lw_p72 : lw_okq (⟨"MirageLoansModel", "looks", "(I)V"⟩, 65) := ⟨⟨by decide +kernel, by decide +kernel⟩, (tb_5 (List.mem_of_getElem? (i := 49) (by decide +kernel))), (tb_6 (List.mem_of_getElem? (i := 170) (by decide +kernel))), (tb_6 (List.mem_of_getElem? (i := 171) (by decide +kernel)))⟩
theorem lw_p73 : lw_okq (⟨"MirageLoansModel", "lawTells", "(II)I"⟩, 65) := ⟨⟨by decide +kernel, by decide +kernel⟩, (tb_5 (List.mem_of_getElem? (i := 49) (by decide +kernel))), (tb_6 (List.mem_of_getElem? (i := 174) (by decide +kernel))), (tb_6 (List.mem_of_getElem? (i := 175) (by decide +kernel)))⟩
theorem lw_p74 : lw_okq (⟨"MirageLoansModel", "termOf", "(II)I"⟩, 65) := ⟨⟨by decide +kernel, by decide +kernel⟩, (tb_5 (List.mem_of_getElem? (i := 49) (by decide +kernel))), (tb_6 (List.mem_of_getElem? (i := 178) (by decide +kernel))), (tb_6 (List.mem_of_getElem? (i := 179) (by decide +kernel)))⟩
theorem lw_p75 : lw_okq (⟨"MirageLoansModel", "isSeat", "(I)Z"⟩, 65) := ⟨⟨by decide +kernel, by decide +kernel⟩, (tb_5 (List.mem_of_getElem? (i := 49) (by decide +kernel))), (tb_6 (List.mem_of_getElem? (i := 192) (by decide +kernel))), (tb_6 (List.mem_of_getElem? (i := 193) (by decide +kernel)))⟩
theorem lw_p76 : lw_okq (⟨"MirageLoansModel", "seesBits", "(I)I"⟩, 65) := ⟨⟨by decide +kernel, by decide +kernel⟩, (tb_5 (List.mem_of_getElem? (i := 49) (by decide +kernel))), (tb_6 (List.mem_of_getElem? (i := 196) (by decide +kernel))), (tb_6 (List.mem_of_getElem? (i := 197) (by decide +kernel)))⟩
theorem lw_p77 : lw_okq (⟨"MirageLoansModel", "lentBy", "(I)I"⟩, 65) := ⟨⟨by decide +kernel, by decide +kernel⟩, (tb_5 (List.mem_of_getElem? (i := 49) (by decide +kernel))), (tb_6 (List.mem_of_getElem? (i := 200) (by decide +kernel))), (tb_6 (List.mem_of_getElem? (i := 201) (by decide +kernel)))⟩
theorem lw_p78 : lw_okq (⟨"MirageLoansModel", "movedBy", "(IIII)I"⟩, 65) := ⟨⟨by decide +kernel, by decide +kernel⟩, (tb_5 (List.mem_of_getElem? (i := 49) (by decide +kernel))), (tb_6 (List.mem_of_getElem? (i := 215) (by decide +kernel))), (tb_6 (List.mem_of_getElem? (i := 216) (by decide +kernel)))⟩
theorem lw_p79 : lw_okq (⟨"MirageLoansModel", "rentOf", "(IIII)I"⟩, 65) := ⟨⟨by decide +kernel, by decide +kernel⟩, (tb_5 (List.mem_of_getElem? (i := 49) (by decide +kernel))), (tb_6 (List.mem_of_getElem? (i := 219) (by decide +kernel))), (tb_6 (List.mem_of_getElem? (i := 220) (by decide +kernel)))⟩
def lw_privs_5 : List (MethodName × Nat) := [(⟨"MirageLoansModel", "comesOut", "(Z)V"⟩, 65), (⟨"MirageLoansModel", "term", "()V"⟩, 65), (⟨"MirageLoansModel", "isThing", "(I)Z"⟩, 65), (⟨"MirageLoansModel", "copies", "()V"⟩, 65), (⟨"MirageLoansModel", "sees", "(III)Z"⟩, 65), (⟨"MirageLoansModel", "isSeen", "(IIII)Z"⟩, 65), (⟨"MirageLoansModel", "looksAt", "(IIII)V"⟩, 65), (⟨"MirageLoansModel", "heatAt", "(I)I"⟩, 65), (⟨"MirageLoansModel", "looks", "(I)V"⟩, 65), (⟨"MirageLoansModel", "lawTells", "(II)I"⟩, 65), (⟨"MirageLoansModel", "termOf", "(II)I"⟩, 65), (⟨"MirageLoansModel", "isSeat", "(I)Z"⟩, 65), (⟨"MirageLoansModel", "seesBits", "(I)I"⟩, 65), (⟨"MirageLoansModel", "lentBy", "(I)I"⟩, 65), (⟨"MirageLoansModel", "movedBy", "(IIII)I"⟩, 65), (⟨"MirageLoansModel", "rentOf", "(IIII)I"⟩, 65)]
theorem lw_r5 : ∀ q ∈ lw_privs_5, lw_okq q := List.forall_mem_cons.mpr ⟨lw_p64, List.forall_mem_cons.mpr ⟨lw_p65, List.forall_mem_cons.mpr ⟨lw_p66, List.forall_mem_cons.mpr ⟨lw_p67, List.forall_mem_cons.mpr ⟨lw_p68, List.forall_mem_cons.mpr ⟨lw_p69, List.forall_mem_cons.mpr ⟨lw_p70, List.forall_mem_cons.mpr ⟨lw_p71, List.forall_mem_cons.mpr ⟨lw_p72, List.forall_mem_cons.mpr ⟨lw_p73, List.forall_mem_cons.mpr ⟨lw_p74, List.forall_mem_cons.mpr ⟨lw_p75, List.forall_mem_cons.mpr ⟨lw_p76, List.forall_mem_cons.mpr ⟨lw_p77, List.forall_mem_cons.mpr ⟨lw_p78, List.forall_mem_cons.mpr ⟨lw_p79, fun _ h => absurd h List.not_mem_nil⟩⟩⟩⟩⟩⟩⟩⟩⟩⟩⟩⟩⟩⟩⟩⟩
theorem lw_p80 : lw_okq (⟨"MirageLoansModel", "interestOf", "(II)I"⟩, 65) := ⟨⟨by decide +kernel, by decide +kernel⟩, (tb_5 (List.mem_of_getElem? (i := 49) (by decide +kernel))), (tb_6 (List.mem_of_getElem? (i := 223) (by decide +kernel))), (tb_6 (List.mem_of_getElem? (i := 224) (by decide +kernel)))⟩
theorem lw_p81 : lw_okq (⟨"MirageLoansModel", "records", "()V"⟩, 65) := ⟨⟨by decide +kernel, by decide +kernel⟩, (tb_5 (List.mem_of_getElem? (i := 49) (by decide +kernel))), (tb_6 (List.mem_of_getElem? (i := 231) (by decide +kernel))), (tb_6 (List.mem_of_getElem? (i := 232) (by decide +kernel)))⟩
theorem lw_p82 : lw_okq (⟨"MirageLoansModel", "goes", "(I)V"⟩, 65) := ⟨⟨by decide +kernel, by decide +kernel⟩, (tb_5 (List.mem_of_getElem? (i := 49) (by decide +kernel))), (tb_7 (List.mem_of_getElem? (i := 11) (by decide +kernel))), (tb_7 (List.mem_of_getElem? (i := 12) (by decide +kernel)))⟩
theorem lw_p83 : lw_okq (⟨"MirageLoansModel", "hourGoes", "()V"⟩, 65) := ⟨⟨by decide +kernel, by decide +kernel⟩, (tb_5 (List.mem_of_getElem? (i := 49) (by decide +kernel))), (tb_7 (List.mem_of_getElem? (i := 15) (by decide +kernel))), (tb_7 (List.mem_of_getElem? (i := 16) (by decide +kernel)))⟩
theorem lw_p84 : lw_okq (⟨"MirageLoansModel", "isWind", "()Z"⟩, 65) := ⟨⟨by decide +kernel, by decide +kernel⟩, (tb_5 (List.mem_of_getElem? (i := 49) (by decide +kernel))), (tb_7 (List.mem_of_getElem? (i := 19) (by decide +kernel))), (tb_7 (List.mem_of_getElem? (i := 20) (by decide +kernel)))⟩
theorem lw_p85 : lw_okq (⟨"MirageLoansModel", "loanGoes", "(IIZ)V"⟩, 65) := ⟨⟨by decide +kernel, by decide +kernel⟩, (tb_5 (List.mem_of_getElem? (i := 49) (by decide +kernel))), (tb_7 (List.mem_of_getElem? (i := 27) (by decide +kernel))), (tb_7 (List.mem_of_getElem? (i := 28) (by decide +kernel)))⟩
theorem lw_p86 : lw_okq (⟨"MirageLoansModel", "grows", "(II)I"⟩, 65) := ⟨⟨by decide +kernel, by decide +kernel⟩, (tb_5 (List.mem_of_getElem? (i := 49) (by decide +kernel))), (tb_7 (List.mem_of_getElem? (i := 31) (by decide +kernel))), (tb_7 (List.mem_of_getElem? (i := 32) (by decide +kernel)))⟩
theorem lw_p87 : lw_okq (⟨"MirageLoansModel", "sightOf", "(III)I"⟩, 65) := ⟨⟨by decide +kernel, by decide +kernel⟩, (tb_5 (List.mem_of_getElem? (i := 49) (by decide +kernel))), (tb_7 (List.mem_of_getElem? (i := 43) (by decide +kernel))), (tb_7 (List.mem_of_getElem? (i := 44) (by decide +kernel)))⟩
theorem lw_p88 : lw_okq (⟨"MirageLoansModel", "seenAt", "(IIII)I"⟩, 65) := ⟨⟨by decide +kernel, by decide +kernel⟩, (tb_5 (List.mem_of_getElem? (i := 49) (by decide +kernel))), (tb_7 (List.mem_of_getElem? (i := 47) (by decide +kernel))), (tb_7 (List.mem_of_getElem? (i := 48) (by decide +kernel)))⟩
theorem lw_p89 : lw_okq (⟨"MirageLoansModel", "doClash", "(II)Z"⟩, 65) := ⟨⟨by decide +kernel, by decide +kernel⟩, (tb_5 (List.mem_of_getElem? (i := 49) (by decide +kernel))), (tb_7 (List.mem_of_getElem? (i := 55) (by decide +kernel))), (tb_7 (List.mem_of_getElem? (i := 56) (by decide +kernel)))⟩
theorem lw_p90 : lw_okq (⟨"MirageLoansModel", "hoursFrom", "(III)I"⟩, 65) := ⟨⟨by decide +kernel, by decide +kernel⟩, (tb_5 (List.mem_of_getElem? (i := 49) (by decide +kernel))), (tb_7 (List.mem_of_getElem? (i := 66) (by decide +kernel))), (tb_7 (List.mem_of_getElem? (i := 67) (by decide +kernel)))⟩
theorem lw_p91 : lw_okq (⟨"MirageLoansModel", "fillsSeen", "()V"⟩, 65) := ⟨⟨by decide +kernel, by decide +kernel⟩, (tb_5 (List.mem_of_getElem? (i := 49) (by decide +kernel))), (tb_7 (List.mem_of_getElem? (i := 90) (by decide +kernel))), (tb_7 (List.mem_of_getElem? (i := 91) (by decide +kernel)))⟩
theorem lw_p92 : lw_okq (⟨"MirageLoansModel", "tries", "(IIII)V"⟩, 65) := ⟨⟨by decide +kernel, by decide +kernel⟩, (tb_5 (List.mem_of_getElem? (i := 49) (by decide +kernel))), (tb_7 (List.mem_of_getElem? (i := 94) (by decide +kernel))), (tb_7 (List.mem_of_getElem? (i := 95) (by decide +kernel)))⟩
theorem lw_p93 : lw_okq (⟨"MirageLoansModel", "isWatched", "(III)Z"⟩, 65) := ⟨⟨by decide +kernel, by decide +kernel⟩, (tb_5 (List.mem_of_getElem? (i := 49) (by decide +kernel))), (tb_7 (List.mem_of_getElem? (i := 118) (by decide +kernel))), (tb_7 (List.mem_of_getElem? (i := 119) (by decide +kernel)))⟩
theorem lw_p94 : lw_okq (⟨"MirageLoansModel", "isSo", "(II)Z"⟩, 65) := ⟨⟨by decide +kernel, by decide +kernel⟩, (tb_5 (List.mem_of_getElem? (i := 49) (by decide +kernel))), (tb_7 (List.mem_of_getElem? (i := 150) (by decide +kernel))), (tb_7 (List.mem_of_getElem? (i := 151) (by decide +kernel)))⟩
theorem lw_p95 : lw_okq (⟨"MirageLoansModel", "sumNow", "(II)I"⟩, 65) := ⟨⟨by decide +kernel, by decide +kernel⟩, (tb_5 (List.mem_of_getElem? (i := 49) (by decide +kernel))), (tb_7 (List.mem_of_getElem? (i := 174) (by decide +kernel))), (tb_7 (List.mem_of_getElem? (i := 175) (by decide +kernel)))⟩
def lw_privs_6 : List (MethodName × Nat) := [(⟨"MirageLoansModel", "interestOf", "(II)I"⟩, 65), (⟨"MirageLoansModel", "records", "()V"⟩, 65), (⟨"MirageLoansModel", "goes", "(I)V"⟩, 65), (⟨"MirageLoansModel", "hourGoes", "()V"⟩, 65), (⟨"MirageLoansModel", "isWind", "()Z"⟩, 65), (⟨"MirageLoansModel", "loanGoes", "(IIZ)V"⟩, 65), (⟨"MirageLoansModel", "grows", "(II)I"⟩, 65), (⟨"MirageLoansModel", "sightOf", "(III)I"⟩, 65), (⟨"MirageLoansModel", "seenAt", "(IIII)I"⟩, 65), (⟨"MirageLoansModel", "doClash", "(II)Z"⟩, 65), (⟨"MirageLoansModel", "hoursFrom", "(III)I"⟩, 65), (⟨"MirageLoansModel", "fillsSeen", "()V"⟩, 65), (⟨"MirageLoansModel", "tries", "(IIII)V"⟩, 65), (⟨"MirageLoansModel", "isWatched", "(III)Z"⟩, 65), (⟨"MirageLoansModel", "isSo", "(II)Z"⟩, 65), (⟨"MirageLoansModel", "sumNow", "(II)I"⟩, 65)]
theorem lw_r6 : ∀ q ∈ lw_privs_6, lw_okq q := List.forall_mem_cons.mpr ⟨lw_p80, List.forall_mem_cons.mpr ⟨lw_p81, List.forall_mem_cons.mpr ⟨lw_p82, List.forall_mem_cons.mpr ⟨lw_p83, List.forall_mem_cons.mpr ⟨lw_p84, List.forall_mem_cons.mpr ⟨lw_p85, List.forall_mem_cons.mpr ⟨lw_p86, List.forall_mem_cons.mpr ⟨lw_p87, List.forall_mem_cons.mpr ⟨lw_p88, List.forall_mem_cons.mpr ⟨lw_p89, List.forall_mem_cons.mpr ⟨lw_p90, List.forall_mem_cons.mpr ⟨lw_p91, List.forall_mem_cons.mpr ⟨lw_p92, List.forall_mem_cons.mpr ⟨lw_p93, List.forall_mem_cons.mpr ⟨lw_p94, List.forall_mem_cons.mpr ⟨lw_p95, fun _ h => absurd h List.not_mem_nil⟩⟩⟩⟩⟩⟩⟩⟩⟩⟩⟩⟩⟩⟩⟩⟩
def lw_privs : List (MethodName × Nat) := lw_privs_1 ++ (lw_privs_2 ++ (lw_privs_3 ++ (lw_privs_4 ++ (lw_privs_5 ++ (lw_privs_6)))))
def lw_tbl : List Cond := k2_sels lw_privs ++ tables_1
theorem lw_privs_ok : ∀ q ∈ lw_privs, lw_okq q := by
  show ∀ q ∈ lw_privs_1 ++ (lw_privs_2 ++ (lw_privs_3 ++ (lw_privs_4 ++ (lw_privs_5 ++ (lw_privs_6))))), lw_okq q
  exact List.forall_mem_append.mpr ⟨lw_r1, List.forall_mem_append.mpr ⟨lw_r2, List.forall_mem_append.mpr ⟨lw_r3, List.forall_mem_append.mpr ⟨lw_r4, List.forall_mem_append.mpr ⟨lw_r5, lw_r6⟩⟩⟩⟩⟩
def RX0 : String := "MirageLoans$Flat"
def TX0 : u_T := fun k => match k with
  | 0 => ("MirageLoans$Flat", "names", "[J", true)
  | 1 => ("MirageLoans$Flat", "nameCount", "I", false)
  | 2 => ("MirageLoans$Flat", "things", "I", false)
  | 3 => ("MirageLoans$Flat", "thingX", "[I", true)
  | 4 => ("MirageLoans$Flat", "tall", "[I", true)
  | 5 => ("MirageLoans$Flat", "seats", "I", false)
  | 6 => ("MirageLoans$Flat", "seatX", "[I", true)
  | 7 => ("MirageLoans$Flat", "coins", "[I", true)
  | 8 => ("MirageLoans$Flat", "grace", "I", false)
  | 9 => ("MirageLoans$Flat", "winds", "I", false)
  | 10 => ("MirageLoans$Flat", "begins", "I", false)
  | 11 => ("MirageLoans$Flat", "seed", "I", false)
  | _ => ("MirageLoans$Flat", "laws", "LMirageLoans$Laws;", true)
def tyX0 : Nat → FieldType := fun k => match k with
  | 0 => .array .long
  | 1 => .int
  | 2 => .int
  | 3 => .array .int
  | 4 => .array .int
  | 5 => .int
  | 6 => .array .int
  | 7 => .array .int
  | 8 => .int
  | 9 => .int
  | 10 => .int
  | 11 => .int
  | _ => .object "MirageLoans$Laws"
theorem nmX0 : ∀ a, a < 13 → ∀ b, b < 13 → a ≠ b → (TX0 a).2.1 ≠ (TX0 b).2.1 := by decide +kernel
theorem tyX0_ok : ∀ k, k < 13 → parseFieldDescriptor (TX0 k).2.2.1 = some (tyX0 k) := by decide +kernel
abbrev cX0_init : ByteArray := prog_2_method_1_code
def yX0_init : MethodName := ⟨RX0, "<init>", "()V"⟩
abbrev cX0_clear : ByteArray := prog_2_method_2_code
def yX0_clear : MethodName := ⟨RX0, "clear", "()V"⟩
abbrev cX0_addName : ByteArray := prog_2_method_3_code
def yX0_addName : MethodName := ⟨RX0, "addName", "(J)Z"⟩
abbrev cX0_addStander : ByteArray := prog_2_method_4_code
def yX0_addStander : MethodName := ⟨RX0, "addStander", "(ZII)V"⟩
abbrev cX0_heat : ByteArray := prog_2_method_5_code
def yX0_heat : MethodName := ⟨RX0, "heat", "(I)I"⟩
abbrev cX0_isSeenFrom : ByteArray := prog_2_method_6_code
def yX0_isSeenFrom : MethodName := ⟨RX0, "isSeenFrom", "(IIII)Z"⟩
abbrev cX0_spotFrom : ByteArray := prog_2_method_7_code
def yX0_spotFrom : MethodName := ⟨RX0, "spotFrom", "(IIII)I"⟩
abbrev cX0_movedFrom : ByteArray := prog_2_method_8_code
def yX0_movedFrom : MethodName := ⟨RX0, "movedFrom", "(IIII)I"⟩
abbrev cX0_rentFrom : ByteArray := prog_2_method_9_code
def yX0_rentFrom : MethodName := ⟨RX0, "rentFrom", "(IIIII)I"⟩
abbrev cX0_thingsSeenFrom : ByteArray := prog_2_method_10_code
def yX0_thingsSeenFrom : MethodName := ⟨RX0, "thingsSeenFrom", "(III)I"⟩
abbrev cX0_isWind : ByteArray := prog_2_method_11_code
def yX0_isWind : MethodName := ⟨RX0, "isWind", "(III)Z"⟩
abbrev cX0_lot : ByteArray := prog_2_method_12_code
def yX0_lot : MethodName := ⟨RX0, "lot", "(II)I"⟩
abbrev cX0_stirred : ByteArray := prog_2_method_13_code
def yX0_stirred : MethodName := ⟨RX0, "stirred", "(II)I"⟩
abbrev cX0_pass : ByteArray := prog_2_method_14_code
def yX0_pass : MethodName := ⟨RX0, "pass", "(LMirageLoans$State;III)V"⟩
abbrev cX0_passLoan : ByteArray := prog_2_method_15_code
def yX0_passLoan : MethodName := ⟨RX0, "passLoan", "(LMirageLoans$State;IIIZ)V"⟩
def RX1 : String := "MirageLoans$Grammar"
def TX1 : u_T := fun k => match k with
  | 0 => ("MirageLoans$Grammar", "tokens", "LMirageLoans$Tokens;", true)
  | 1 => ("MirageLoans$Grammar", "draft", "LMirageLoans$Flat;", false)
  | 2 => ("MirageLoans$Grammar", "at", "I", false)
  | 3 => ("MirageLoans$Grammar", "kind", "I", false)
  | 4 => ("MirageLoans$Grammar", "fault", "I", false)
  | 5 => ("MirageLoans$Grammar", "place", "I", false)
  | 6 => ("MirageLoans$Grammar", "slip", "I", false)
  | _ => ("MirageLoans$Grammar", "slipPlace", "I", false)
def tyX1 : Nat → FieldType := fun k => match k with
  | 0 => .object "MirageLoans$Tokens"
  | 1 => .object "MirageLoans$Flat"
  | 2 => .int
  | 3 => .int
  | 4 => .int
  | 5 => .int
  | 6 => .int
  | _ => .int
theorem nmX1 : ∀ a, a < 8 → ∀ b, b < 8 → a ≠ b → (TX1 a).2.1 ≠ (TX1 b).2.1 := by decide +kernel
theorem tyX1_ok : ∀ k, k < 8 → parseFieldDescriptor (TX1 k).2.2.1 = some (tyX1 k) := by decide +kernel
abbrev cX1_init : ByteArray := prog_3_method_1_code
def yX1_init : MethodName := ⟨RX1, "<init>", "()V"⟩
abbrev cX1_parse : ByteArray := prog_3_method_2_code
def yX1_parse : MethodName := ⟨RX1, "parse", "(LMirageLoans$Tape;)I"⟩
abbrev cX1_handOver : ByteArray := prog_3_method_3_code
def yX1_handOver : MethodName := ⟨RX1, "handOver", "(LMirageLoans$Flat;)LMirageLoans$Flat;"⟩
abbrev cX1_fail : ByteArray := prog_3_method_4_code
def yX1_fail : MethodName := ⟨RX1, "fail", "(I)V"⟩
abbrev cX1_note : ByteArray := prog_3_method_5_code
def yX1_note : MethodName := ⟨RX1, "note", "(II)V"⟩
abbrev cX1_take : ByteArray := prog_3_method_6_code
def yX1_take : MethodName := ⟨RX1, "take", "(Z)V"⟩
abbrev cX1_takeTell : ByteArray := prog_3_method_7_code
def yX1_takeTell : MethodName := ⟨RX1, "takeTell", "()V"⟩
abbrev cX1_takeStander : ByteArray := prog_3_method_8_code
def yX1_takeStander : MethodName := ⟨RX1, "takeStander", "(Z)V"⟩
abbrev cX1_takeInt : ByteArray := prog_3_method_9_code
def yX1_takeInt : MethodName := ⟨RX1, "takeInt", "(II)I"⟩
abbrev cX1_takeSetting : ByteArray := prog_3_method_10_code
def yX1_takeSetting : MethodName := ⟨RX1, "takeSetting", "(I)V"⟩
abbrev cX1_takeLaw : ByteArray := prog_3_method_11_code
def yX1_takeLaw : MethodName := ⟨RX1, "takeLaw", "(I)V"⟩
abbrev cX1_takeSum : ByteArray := prog_3_method_12_code
def yX1_takeSum : MethodName := ⟨RX1, "takeSum", "(I)V"⟩
abbrev cX1_takeProduct : ByteArray := prog_3_method_13_code
def yX1_takeProduct : MethodName := ⟨RX1, "takeProduct", "(I)V"⟩
abbrev cX1_takeUnit : ByteArray := prog_3_method_14_code
def yX1_takeUnit : MethodName := ⟨RX1, "takeUnit", "(I)V"⟩
def RX2 : String := "MirageLoans$Laws"
def TX2 : u_T := fun k => match k with
  | 0 => ("MirageLoans$Laws", "steps", "[I", true)
  | 1 => ("MirageLoans$Laws", "values", "[I", true)
  | 2 => ("MirageLoans$Laws", "size", "I", false)
  | 3 => ("MirageLoans$Laws", "from", "[I", true)
  | 4 => ("MirageLoans$Laws", "vars", "[I", true)
  | _ => ("MirageLoans$Laws", "stack", "[I", true)
def tyX2 : Nat → FieldType := fun k => match k with
  | 0 => .array .int
  | 1 => .array .int
  | 2 => .int
  | 3 => .array .int
  | 4 => .array .int
  | _ => .array .int
theorem nmX2 : ∀ a, a < 6 → ∀ b, b < 6 → a ≠ b → (TX2 a).2.1 ≠ (TX2 b).2.1 := by decide +kernel
theorem tyX2_ok : ∀ k, k < 6 → parseFieldDescriptor (TX2 k).2.2.1 = some (tyX2 k) := by decide +kernel
abbrev cX2_init : ByteArray := prog_4_method_1_code
def yX2_init : MethodName := ⟨RX2, "<init>", "()V"⟩
abbrev cX2_clear : ByteArray := prog_4_method_2_code
def yX2_clear : MethodName := ⟨RX2, "clear", "()V"⟩
abbrev cX2_openWithVar : ByteArray := prog_4_method_3_code
def yX2_openWithVar : MethodName := ⟨RX2, "openWithVar", "(II)V"⟩
abbrev cX2_open : ByteArray := prog_4_method_4_code
def yX2_open : MethodName := ⟨RX2, "open", "(I)V"⟩
abbrev cX2_emit : ByteArray := prog_4_method_5_code
def yX2_emit : MethodName := ⟨RX2, "emit", "(II)I"⟩
abbrev cX2_leadOnFrom : ByteArray := prog_4_method_6_code
def yX2_leadOnFrom : MethodName := ⟨RX2, "leadOnFrom", "(I)V"⟩
abbrev cX2_heat : ByteArray := prog_4_method_7_code
def yX2_heat : MethodName := ⟨RX2, "heat", "(I)I"⟩
abbrev cX2_interest : ByteArray := prog_4_method_8_code
def yX2_interest : MethodName := ⟨RX2, "interest", "(III)I"⟩
abbrev cX2_clearVars : ByteArray := prog_4_method_9_code
def yX2_clearVars : MethodName := ⟨RX2, "clearVars", "(I)V"⟩
abbrev cX2_aim : ByteArray := prog_4_method_10_code
def yX2_aim : MethodName := ⟨RX2, "aim", "(IIIII)V"⟩
abbrev cX2_isSeen : ByteArray := prog_4_method_11_code
def yX2_isSeen : MethodName := ⟨RX2, "isSeen", "()Z"⟩
abbrev cX2_moved : ByteArray := prog_4_method_12_code
def yX2_moved : MethodName := ⟨RX2, "moved", "()I"⟩
abbrev cX2_spot : ByteArray := prog_4_method_13_code
def yX2_spot : MethodName := ⟨RX2, "spot", "()I"⟩
abbrev cX2_rent : ByteArray := prog_4_method_14_code
def yX2_rent : MethodName := ⟨RX2, "rent", "(I)I"⟩
abbrev cX2_reckon : ByteArray := prog_4_method_15_code
def yX2_reckon : MethodName := ⟨RX2, "reckon", "(I)I"⟩
abbrev cX2_variable : ByteArray := prog_4_method_16_code
def yX2_variable : MethodName := ⟨RX2, "variable", "(I)I"⟩
abbrev cX2_joined : ByteArray := prog_4_method_17_code
def yX2_joined : MethodName := ⟨RX2, "joined", "(III)I"⟩
def RX3 : String := "MirageLoans$Past"
def TX3 : u_T := fun k => match k with
  | 0 => ("MirageLoans$Past", "rows", "[LMirageLoans$State;", true)
  | 1 => ("MirageLoans$Past", "next", "I", false)
  | _ => ("MirageLoans$Past", "size", "I", false)
def tyX3 : Nat → FieldType := fun k => match k with
  | 0 => .array (.object "MirageLoans$State")
  | 1 => .int
  | _ => .int
theorem nmX3 : ∀ a, a < 3 → ∀ b, b < 3 → a ≠ b → (TX3 a).2.1 ≠ (TX3 b).2.1 := by decide +kernel
theorem tyX3_ok : ∀ k, k < 3 → parseFieldDescriptor (TX3 k).2.2.1 = some (tyX3 k) := by decide +kernel
abbrev cX3_init : ByteArray := prog_5_method_1_code
def yX3_init : MethodName := ⟨RX3, "<init>", "()V"⟩
abbrev cX3_clear : ByteArray := prog_5_method_2_code
def yX3_clear : MethodName := ⟨RX3, "clear", "()V"⟩
abbrev cX3_push : ByteArray := prog_5_method_3_code
def yX3_push : MethodName := ⟨RX3, "push", "(LMirageLoans$State;)V"⟩
abbrev cX3_pop : ByteArray := prog_5_method_4_code
def yX3_pop : MethodName := ⟨RX3, "pop", "(LMirageLoans$State;)Z"⟩
def RX4 : String := "MirageLoans$State"
def TX4 : u_T := fun k => match k with
  | 0 => ("MirageLoans$State", "hour", "I", false)
  | 1 => ("MirageLoans$State", "x", "[I", true)
  | 2 => ("MirageLoans$State", "coins", "[I", true)
  | 3 => ("MirageLoans$State", "gone", "[I", true)
  | 4 => ("MirageLoans$State", "rent", "[I", true)
  | 5 => ("MirageLoans$State", "lent", "[I", true)
  | _ => ("MirageLoans$State", "unseen", "[I", true)
def tyX4 : Nat → FieldType := fun k => match k with
  | 0 => .int
  | 1 => .array .int
  | 2 => .array .int
  | 3 => .array .int
  | 4 => .array .int
  | 5 => .array .int
  | _ => .array .int
theorem nmX4 : ∀ a, a < 7 → ∀ b, b < 7 → a ≠ b → (TX4 a).2.1 ≠ (TX4 b).2.1 := by decide +kernel
theorem tyX4_ok : ∀ k, k < 7 → parseFieldDescriptor (TX4 k).2.2.1 = some (tyX4 k) := by decide +kernel
abbrev cX4_init : ByteArray := prog_6_method_1_code
def yX4_init : MethodName := ⟨RX4, "<init>", "()V"⟩
abbrev cX4_begin : ByteArray := prog_6_method_2_code
def yX4_begin : MethodName := ⟨RX4, "begin", "(LMirageLoans$Flat;)V"⟩
abbrev cX4_copy : ByteArray := prog_6_method_3_code
def yX4_copy : MethodName := ⟨RX4, "copy", "(LMirageLoans$State;)V"⟩
abbrev cX4_end : ByteArray := prog_6_method_4_code
def yX4_end : MethodName := ⟨RX4, "end", "(I)V"⟩
abbrev cX4_keepOnly : ByteArray := prog_6_method_5_code
def yX4_keepOnly : MethodName := ⟨RX4, "keepOnly", "(I)V"⟩
abbrev cX4_loans : ByteArray := prog_6_method_6_code
def yX4_loans : MethodName := ⟨RX4, "loans", "()I"⟩
abbrev cX4_lentBy : ByteArray := prog_6_method_7_code
def yX4_lentBy : MethodName := ⟨RX4, "lentBy", "(I)I"⟩
abbrev cX4_wealth : ByteArray := prog_6_method_8_code
def yX4_wealth : MethodName := ⟨RX4, "wealth", "(I)I"⟩
def RX5 : String := "MirageLoans$Tape"
def TX5 : u_T := fun k => match k with
  | 0 => ("MirageLoans$Tape", "bytes", "[B", true)
  | _ => ("MirageLoans$Tape", "size", "I", false)
def tyX5 : Nat → FieldType := fun k => match k with
  | 0 => .array .byte
  | _ => .int
theorem nmX5 : ∀ a, a < 2 → ∀ b, b < 2 → a ≠ b → (TX5 a).2.1 ≠ (TX5 b).2.1 := by decide +kernel
theorem tyX5_ok : ∀ k, k < 2 → parseFieldDescriptor (TX5 k).2.2.1 = some (tyX5 k) := by decide +kernel
abbrev cX5_init : ByteArray := prog_7_method_1_code
def yX5_init : MethodName := ⟨RX5, "<init>", "()V"⟩
abbrev cX5_hasRoom : ByteArray := prog_7_method_2_code
def yX5_hasRoom : MethodName := ⟨RX5, "hasRoom", "(I)Z"⟩
abbrev cX5_putWord : ByteArray := prog_7_method_3_code
def yX5_putWord : MethodName := ⟨RX5, "putWord", "(I)V"⟩
abbrev cX5_drop : ByteArray := prog_7_method_4_code
def yX5_drop : MethodName := ⟨RX5, "drop", "(I)Z"⟩
abbrev cX5_byteAt : ByteArray := prog_7_method_5_code
def yX5_byteAt : MethodName := ⟨RX5, "byteAt", "(I)I"⟩
def RX6 : String := "MirageLoans$Tokens"
def TX6 : u_T := fun k => match k with
  | 0 => ("MirageLoans$Tokens", "words", "[J", true)
  | 1 => ("MirageLoans$Tokens", "kinds", "[I", true)
  | 2 => ("MirageLoans$Tokens", "starts", "[I", true)
  | 3 => ("MirageLoans$Tokens", "values", "[J", true)
  | _ => ("MirageLoans$Tokens", "next", "I", false)
def tyX6 : Nat → FieldType := fun k => match k with
  | 0 => .array .long
  | 1 => .array .int
  | 2 => .array .int
  | 3 => .array .long
  | _ => .int
theorem nmX6 : ∀ a, a < 5 → ∀ b, b < 5 → a ≠ b → (TX6 a).2.1 ≠ (TX6 b).2.1 := by decide +kernel
theorem tyX6_ok : ∀ k, k < 5 → parseFieldDescriptor (TX6 k).2.2.1 = some (tyX6 k) := by decide +kernel
abbrev cX6_init : ByteArray := prog_8_method_1_code
def yX6_init : MethodName := ⟨RX6, "<init>", "()V"⟩
abbrev cX6_withLetter : ByteArray := prog_8_method_2_code
def yX6_withLetter : MethodName := ⟨RX6, "withLetter", "(JI)J"⟩
abbrev cX6_scan : ByteArray := prog_8_method_3_code
def yX6_scan : MethodName := ⟨RX6, "scan", "(LMirageLoans$Tape;)V"⟩
abbrev cX6_skipBlanks : ByteArray := prog_8_method_4_code
def yX6_skipBlanks : MethodName := ⟨RX6, "skipBlanks", "(LMirageLoans$Tape;)V"⟩
abbrev cX6_scanLetters : ByteArray := prog_8_method_5_code
def yX6_scanLetters : MethodName := ⟨RX6, "scanLetters", "(LMirageLoans$Tape;I)V"⟩
abbrev cX6_kindOf : ByteArray := prog_8_method_6_code
def yX6_kindOf : MethodName := ⟨RX6, "kindOf", "(J)I"⟩
abbrev cX6_scanDigits : ByteArray := prog_8_method_7_code
def yX6_scanDigits : MethodName := ⟨RX6, "scanDigits", "(LMirageLoans$Tape;I)V"⟩
abbrev cX6_isBlank : ByteArray := prog_8_method_8_code
def yX6_isBlank : MethodName := ⟨RX6, "isBlank", "(I)Z"⟩
abbrev cX6_isLetter : ByteArray := prog_8_method_9_code
def yX6_isLetter : MethodName := ⟨RX6, "isLetter", "(I)Z"⟩
abbrev cX6_isDigit : ByteArray := prog_8_method_10_code
def yX6_isDigit : MethodName := ⟨RX6, "isDigit", "(I)Z"⟩
def RX7 : String := "MirageLoans$Told"
def TX7 : u_T := fun k => match k with
  | 0 => ("MirageLoans$Told", "size", "I", false)
  | 1 => ("MirageLoans$Told", "x", "[I", true)
  | 2 => ("MirageLoans$Told", "at", "[I", true)
  | 3 => ("MirageLoans$Told", "hour", "[I", true)
  | 4 => ("MirageLoans$Told", "isLeft", "[Z", true)
  | _ => ("MirageLoans$Told", "split", "[I", true)
def tyX7 : Nat → FieldType := fun k => match k with
  | 0 => .int
  | 1 => .array .int
  | 2 => .array .int
  | 3 => .array .int
  | 4 => .array .boolean
  | _ => .array .int
theorem nmX7 : ∀ a, a < 6 → ∀ b, b < 6 → a ≠ b → (TX7 a).2.1 ≠ (TX7 b).2.1 := by decide +kernel
theorem tyX7_ok : ∀ k, k < 6 → parseFieldDescriptor (TX7 k).2.2.1 = some (tyX7 k) := by decide +kernel
abbrev cX7_init : ByteArray := prog_9_method_1_code
def yX7_init : MethodName := ⟨RX7, "<init>", "()V"⟩
abbrev cX7_put : ByteArray := prog_9_method_2_code
def yX7_put : MethodName := ⟨RX7, "put", "(III)I"⟩
abbrev cX7_xOf : ByteArray := prog_9_method_3_code
def yX7_xOf : MethodName := ⟨RX7, "xOf", "(I)I"⟩
abbrev cX7_tallOf : ByteArray := prog_9_method_4_code
def yX7_tallOf : MethodName := ⟨RX7, "tallOf", "(I)I"⟩
abbrev cX7_sift : ByteArray := prog_9_method_5_code
def yX7_sift : MethodName := ⟨RX7, "sift", "(LMirageLoans$Flat;I)I"⟩
abbrev cX7_isSo : ByteArray := prog_9_method_6_code
def yX7_isSo : MethodName := ⟨RX7, "isSo", "(LMirageLoans$Flat;III)Z"⟩
abbrev cX7_common : ByteArray := prog_9_method_7_code
def yX7_common : MethodName := ⟨RX7, "common", "(Z)I"⟩
abbrev cX7_lookFrom : ByteArray := prog_9_method_8_code
def yX7_lookFrom : MethodName := ⟨RX7, "lookFrom", "(LMirageLoans$Flat;I)I"⟩
abbrev cX7_worstLeft : ByteArray := prog_9_method_9_code
def yX7_worstLeft : MethodName := ⟨RX7, "worstLeft", "(LMirageLoans$Flat;III)I"⟩
def RX8 : String := "MirageLoans"
def TX8 : u_T := fun k => match k with
  | 0 => ("MirageLoans", "tape", "LMirageLoans$Tape;", true)
  | 1 => ("MirageLoans", "grammar", "LMirageLoans$Grammar;", true)
  | 2 => ("MirageLoans", "now", "LMirageLoans$State;", true)
  | 3 => ("MirageLoans", "ahead", "LMirageLoans$State;", true)
  | 4 => ("MirageLoans", "past", "LMirageLoans$Past;", true)
  | 5 => ("MirageLoans", "slots", "[LMirageLoans$State;", true)
  | 6 => ("MirageLoans", "held", "[Z", true)
  | 7 => ("MirageLoans", "told", "LMirageLoans$Told;", true)
  | 8 => ("MirageLoans", "tally", "[I", true)
  | 9 => ("MirageLoans", "spots", "[I", true)
  | 10 => ("MirageLoans", "pitch", "[I", true)
  | 11 => ("MirageLoans", "bestPitch", "[I", true)
  | 12 => ("MirageLoans", "flat", "LMirageLoans$Flat;", false)
  | _ => ("MirageLoans", "faultPlace", "I", false)
def tyX8 : Nat → FieldType := fun k => match k with
  | 0 => .object "MirageLoans$Tape"
  | 1 => .object "MirageLoans$Grammar"
  | 2 => .object "MirageLoans$State"
  | 3 => .object "MirageLoans$State"
  | 4 => .object "MirageLoans$Past"
  | 5 => .array (.object "MirageLoans$State")
  | 6 => .array .boolean
  | 7 => .object "MirageLoans$Told"
  | 8 => .array .int
  | 9 => .array .int
  | 10 => .array .int
  | 11 => .array .int
  | 12 => .object "MirageLoans$Flat"
  | _ => .int
theorem nmX8 : ∀ a, a < 14 → ∀ b, b < 14 → a ≠ b → (TX8 a).2.1 ≠ (TX8 b).2.1 := by decide +kernel
theorem tyX8_ok : ∀ k, k < 14 → parseFieldDescriptor (TX8 k).2.2.1 = some (tyX8 k) := by decide +kernel
abbrev cX8_init : ByteArray := prog_1_method_1_code
def yX8_init : MethodName := ⟨RX8, "<init>", "()V"⟩
abbrev cX8_feed : ByteArray := prog_1_method_2_code
def yX8_feed : MethodName := ⟨RX8, "feed", "(IIIII)I"⟩
abbrev cX8_back : ByteArray := prog_1_method_3_code
def yX8_back : MethodName := ⟨RX8, "back", "(I)I"⟩
abbrev cX8_read : ByteArray := prog_1_method_4_code
def yX8_read : MethodName := ⟨RX8, "read", "()I"⟩
abbrev cX8_beginAnew : ByteArray := prog_1_method_5_code
def yX8_beginAnew : MethodName := ⟨RX8, "beginAnew", "()V"⟩
abbrev cX8_place : ByteArray := prog_1_method_6_code
def yX8_place : MethodName := ⟨RX8, "place", "()I"⟩
abbrev cX8_thing : ByteArray := prog_1_method_7_code
def yX8_thing : MethodName := ⟨RX8, "thing", "(II)I"⟩
abbrev cX8_seat : ByteArray := prog_1_method_8_code
def yX8_seat : MethodName := ⟨RX8, "seat", "(II)I"⟩
abbrev cX8_loan : ByteArray := prog_1_method_9_code
def yX8_loan : MethodName := ⟨RX8, "loan", "(III)I"⟩
abbrev cX8_tells : ByteArray := prog_1_method_10_code
def yX8_tells : MethodName := ⟨RX8, "tells", "(IIII)I"⟩
abbrev cX8_lend : ByteArray := prog_1_method_11_code
def yX8_lend : MethodName := ⟨RX8, "lend", "(III)I"⟩
abbrev cX8_call : ByteArray := prog_1_method_12_code
def yX8_call : MethodName := ⟨RX8, "call", "(II)I"⟩
abbrev cX8_move : ByteArray := prog_1_method_13_code
def yX8_move : MethodName := ⟨RX8, "move", "(II)Z"⟩
abbrev cX8_hours : ByteArray := prog_1_method_14_code
def yX8_hours : MethodName := ⟨RX8, "hours", "(I)I"⟩
abbrev cX8_undo : ByteArray := prog_1_method_15_code
def yX8_undo : MethodName := ⟨RX8, "undo", "()Z"⟩
abbrev cX8_sight : ByteArray := prog_1_method_16_code
def yX8_sight : MethodName := ⟨RX8, "sight", "(III)I"⟩
abbrev cX8_clash : ByteArray := prog_1_method_17_code
def yX8_clash : MethodName := ⟨RX8, "clash", "(I)I"⟩
abbrev cX8_findSpotsLentOn : ByteArray := prog_1_method_18_code
def yX8_findSpotsLentOn : MethodName := ⟨RX8, "findSpotsLentOn", "()V"⟩
abbrev cX8_titlesClash : ByteArray := prog_1_method_19_code
def yX8_titlesClash : MethodName := ⟨RX8, "titlesClash", "(II)Z"⟩
abbrev cX8_longFrom : ByteArray := prog_1_method_20_code
def yX8_longFrom : MethodName := ⟨RX8, "longFrom", "(III)I"⟩
abbrev cX8_best : ByteArray := prog_1_method_21_code
def yX8_best : MethodName := ⟨RX8, "best", "(III)I"⟩
abbrev cX8_tallySeenHours : ByteArray := prog_1_method_22_code
def yX8_tallySeenHours : MethodName := ⟨RX8, "tallySeenHours", "(II)V"⟩
abbrev cX8_dawns : ByteArray := prog_1_method_23_code
def yX8_dawns : MethodName := ⟨RX8, "dawns", "(II)I"⟩
abbrev cX8_near : ByteArray := prog_1_method_24_code
def yX8_near : MethodName := ⟨RX8, "near", "(II)I"⟩
abbrev cX8_crowd : ByteArray := prog_1_method_25_code
def yX8_crowd : MethodName := ⟨RX8, "crowd", "(I)I"⟩
abbrev cX8_rich : ByteArray := prog_1_method_26_code
def yX8_rich : MethodName := ⟨RX8, "rich", "(II)I"⟩
abbrev cX8_goAhead : ByteArray := prog_1_method_27_code
def yX8_goAhead : MethodName := ⟨RX8, "goAhead", "(I)V"⟩
abbrev cX8_umbrellas : ByteArray := prog_1_method_28_code
def yX8_umbrellas : MethodName := ⟨RX8, "umbrellas", "(II)I"⟩
abbrev cX8_pitchUmbrellas : ByteArray := prog_1_method_29_code
def yX8_pitchUmbrellas : MethodName := ⟨RX8, "pitchUmbrellas", "(I)I"⟩
abbrev cX8_nextPitch : ByteArray := prog_1_method_30_code
def yX8_nextPitch : MethodName := ⟨RX8, "nextPitch", "(I)Z"⟩
abbrev cX8_worth : ByteArray := prog_1_method_31_code
def yX8_worth : MethodName := ⟨RX8, "worth", "(IIII)I"⟩
abbrev cX8_book : ByteArray := prog_1_method_32_code
def yX8_book : MethodName := ⟨RX8, "book", "(II)I"⟩
abbrev cX8_hidden : ByteArray := prog_1_method_33_code
def yX8_hidden : MethodName := ⟨RX8, "hidden", "(III)I"⟩
abbrev cX8_unseenOf : ByteArray := prog_1_method_34_code
def yX8_unseenOf : MethodName := ⟨RX8, "unseenOf", "(III)I"⟩
abbrev cX8_cool : ByteArray := prog_1_method_35_code
def yX8_cool : MethodName := ⟨RX8, "cool", "()I"⟩
abbrev cX8_heatIn : ByteArray := prog_1_method_36_code
def yX8_heatIn : MethodName := ⟨RX8, "heatIn", "(I)I"⟩
abbrev cX8_lentIn : ByteArray := prog_1_method_37_code
def yX8_lentIn : MethodName := ⟨RX8, "lentIn", "(III)I"⟩
abbrev cX8_year : ByteArray := prog_1_method_38_code
def yX8_year : MethodName := ⟨RX8, "year", "(IIII)I"⟩
abbrev cX8_tell : ByteArray := prog_1_method_39_code
def yX8_tell : MethodName := ⟨RX8, "tell", "(III)I"⟩
abbrev cX8_forget : ByteArray := prog_1_method_40_code
def yX8_forget : MethodName := ⟨RX8, "forget", "()I"⟩
abbrev cX8_stands : ByteArray := prog_1_method_41_code
def yX8_stands : MethodName := ⟨RX8, "stands", "(I)I"⟩
abbrev cX8_sure : ByteArray := prog_1_method_42_code
def yX8_sure : MethodName := ⟨RX8, "sure", "(II)I"⟩
abbrev cX8_look : ByteArray := prog_1_method_43_code
def yX8_look : MethodName := ⟨RX8, "look", "(II)I"⟩
abbrev cX8_hold : ByteArray := prog_1_method_44_code
def yX8_hold : MethodName := ⟨RX8, "hold", "(I)Z"⟩
abbrev cX8_restore : ByteArray := prog_1_method_45_code
def yX8_restore : MethodName := ⟨RX8, "restore", "(I)Z"⟩
abbrev cX8_count : ByteArray := prog_1_method_46_code
def yX8_count : MethodName := ⟨RX8, "count", "(I)I"⟩
abbrev cX8_heldSlots : ByteArray := prog_1_method_47_code
def yX8_heldSlots : MethodName := ⟨RX8, "heldSlots", "()I"⟩
abbrev cX8_isX : ByteArray := prog_1_method_48_code
def yX8_isX : MethodName := ⟨RX8, "isX", "(I)Z"⟩
abbrev cX8_isAhead : ByteArray := prog_1_method_49_code
def yX8_isAhead : MethodName := ⟨RX8, "isAhead", "(I)Z"⟩
abbrev cX8_isThing : ByteArray := prog_1_method_50_code
def yX8_isThing : MethodName := ⟨RX8, "isThing", "(I)Z"⟩
abbrev cX8_isSeat : ByteArray := prog_1_method_51_code
def yX8_isSeat : MethodName := ⟨RX8, "isSeat", "(I)Z"⟩
abbrev cX8_isPair : ByteArray := prog_1_method_52_code
def yX8_isPair : MethodName := ⟨RX8, "isPair", "(II)Z"⟩
abbrev cX8_isKnown : ByteArray := prog_1_method_53_code
def yX8_isKnown : MethodName := ⟨RX8, "isKnown", "(I)Z"⟩
abbrev cX8_loanOf : ByteArray := prog_1_method_54_code
def yX8_loanOf : MethodName := ⟨RX8, "loanOf", "(II)I"⟩
abbrev cX8_sum : ByteArray := prog_1_method_55_code
def yX8_sum : MethodName := ⟨RX8, "sum", "([I)I"⟩
abbrev cX8_within : ByteArray := prog_1_method_56_code
def yX8_within : MethodName := ⟨RX8, "within", "(III)I"⟩
abbrev cX8_seesNow : ByteArray := prog_1_method_57_code
def yX8_seesNow : MethodName := ⟨RX8, "seesNow", "(II)Z"⟩
abbrev cX8_seatsThatSee : ByteArray := prog_1_method_58_code
def yX8_seatsThatSee : MethodName := ⟨RX8, "seatsThatSee", "(I)I"⟩
abbrev cX8_seatsThatLent : ByteArray := prog_1_method_59_code
def yX8_seatsThatLent : MethodName := ⟨RX8, "seatsThatLent", "(I)I"⟩
abbrev cX8_thingsLentOn : ByteArray := prog_1_method_60_code
def yX8_thingsLentOn : MethodName := ⟨RX8, "thingsLentOn", "(I)I"⟩
abbrev cX8_thingsSeenFrom : ByteArray := prog_1_method_61_code
def yX8_thingsSeenFrom : MethodName := ⟨RX8, "thingsSeenFrom", "(II)I"⟩
abbrev cX8_thingsSeen : ByteArray := prog_1_method_62_code
def yX8_thingsSeen : MethodName := ⟨RX8, "thingsSeen", "(I)I"⟩
def RX9 : String := "MirageLoansModel"
def TX9 : u_T := fun k => match k with
  | 0 => ("MirageLoansModel", "thrown", "I", false)
  | 1 => ("MirageLoansModel", "tape", "[B", true)
  | 2 => ("MirageLoansModel", "taped", "I", false)
  | 3 => ("MirageLoansModel", "text", "[B", true)
  | 4 => ("MirageLoansModel", "size", "I", false)
  | 5 => ("MirageLoansModel", "tKind", "[I", true)
  | 6 => ("MirageLoansModel", "tPlace", "[I", true)
  | 7 => ("MirageLoansModel", "tValue", "[I", true)
  | 8 => ("MirageLoansModel", "tName", "[J", true)
  | 9 => ("MirageLoansModel", "keys", "[J", true)
  | 10 => ("MirageLoansModel", "tokens", "I", false)
  | 11 => ("MirageLoansModel", "t", "I", false)
  | 12 => ("MirageLoansModel", "open", "I", false)
  | 13 => ("MirageLoansModel", "fault", "I", false)
  | 14 => ("MirageLoansModel", "faultPlace", "I", false)
  | 15 => ("MirageLoansModel", "worst", "I", false)
  | 16 => ("MirageLoansModel", "worstPlace", "I", false)
  | 17 => ("MirageLoansModel", "place", "I", false)
  | 18 => ("MirageLoansModel", "live", "I", false)
  | 19 => ("MirageLoansModel", "side", "I", false)
  | 20 => ("MirageLoansModel", "names", "I", false)
  | 21 => ("MirageLoansModel", "nameOf", "[J", true)
  | 22 => ("MirageLoansModel", "things", "[I", true)
  | 23 => ("MirageLoansModel", "xOf", "[I", true)
  | 24 => ("MirageLoansModel", "tallOf", "[I", true)
  | 25 => ("MirageLoansModel", "seats", "[I", true)
  | 26 => ("MirageLoansModel", "seatTold", "[I", true)
  | 27 => ("MirageLoansModel", "coinsTold", "[I", true)
  | 28 => ("MirageLoansModel", "grace", "[I", true)
  | 29 => ("MirageLoansModel", "winds", "[I", true)
  | 30 => ("MirageLoansModel", "startsAt", "[I", true)
  | 31 => ("MirageLoansModel", "seed", "[I", true)
  | 32 => ("MirageLoansModel", "lawFirst", "[I", true)
  | 33 => ("MirageLoansModel", "lawLast", "[I", true)
  | 34 => ("MirageLoansModel", "branches", "I", false)
  | 35 => ("MirageLoansModel", "hasTest", "[Z", true)
  | 36 => ("MirageLoansModel", "testFrom", "[I", true)
  | 37 => ("MirageLoansModel", "testMid", "[I", true)
  | 38 => ("MirageLoansModel", "testTo", "[I", true)
  | 39 => ("MirageLoansModel", "termTo", "[I", true)
  | 40 => ("MirageLoansModel", "codes", "I", false)
  | 41 => ("MirageLoansModel", "code", "[I", true)
  | 42 => ("MirageLoansModel", "codeInt", "[I", true)
  | 43 => ("MirageLoansModel", "waits", "[I", true)
  | 44 => ("MirageLoansModel", "waiting", "I", false)
  | 45 => ("MirageLoansModel", "variables", "[I", true)
  | 46 => ("MirageLoansModel", "pile", "[I", true)
  | 47 => ("MirageLoansModel", "isBroken", "Z", false)
  | 48 => ("MirageLoansModel", "now", "[I", true)
  | 49 => ("MirageLoansModel", "row", "[I", true)
  | 50 => ("MirageLoansModel", "lots", "I", false)
  | 51 => ("MirageLoansModel", "undos", "I", false)
  | 52 => ("MirageLoansModel", "history", "[I", true)
  | 53 => ("MirageLoansModel", "seenFrom", "[I", true)
  | 54 => ("MirageLoansModel", "umbrellaAt", "[I", true)
  | 55 => ("MirageLoansModel", "umbrellaMost", "I", false)
  | 56 => ("MirageLoansModel", "isThere", "[Z", true)
  | 57 => ("MirageLoansModel", "isThen", "[Z", true)
  | 58 => ("MirageLoansModel", "tolds", "I", false)
  | 59 => ("MirageLoansModel", "toldFrom", "[I", true)
  | 60 => ("MirageLoansModel", "toldAt", "[I", true)
  | 61 => ("MirageLoansModel", "toldHours", "[I", true)
  | 62 => ("MirageLoansModel", "waysBy", "[I", true)
  | 63 => ("MirageLoansModel", "isHeld", "[Z", true)
  | _ => ("MirageLoansModel", "heldRows", "[I", true)
def tyX9 : Nat → FieldType := fun k => match k with
  | 0 => .int
  | 1 => .array .byte
  | 2 => .int
  | 3 => .array .byte
  | 4 => .int
  | 5 => .array .int
  | 6 => .array .int
  | 7 => .array .int
  | 8 => .array .long
  | 9 => .array .long
  | 10 => .int
  | 11 => .int
  | 12 => .int
  | 13 => .int
  | 14 => .int
  | 15 => .int
  | 16 => .int
  | 17 => .int
  | 18 => .int
  | 19 => .int
  | 20 => .int
  | 21 => .array .long
  | 22 => .array .int
  | 23 => .array .int
  | 24 => .array .int
  | 25 => .array .int
  | 26 => .array .int
  | 27 => .array .int
  | 28 => .array .int
  | 29 => .array .int
  | 30 => .array .int
  | 31 => .array .int
  | 32 => .array .int
  | 33 => .array .int
  | 34 => .int
  | 35 => .array .boolean
  | 36 => .array .int
  | 37 => .array .int
  | 38 => .array .int
  | 39 => .array .int
  | 40 => .int
  | 41 => .array .int
  | 42 => .array .int
  | 43 => .array .int
  | 44 => .int
  | 45 => .array .int
  | 46 => .array .int
  | 47 => .boolean
  | 48 => .array .int
  | 49 => .array .int
  | 50 => .int
  | 51 => .int
  | 52 => .array .int
  | 53 => .array .int
  | 54 => .array .int
  | 55 => .int
  | 56 => .array .boolean
  | 57 => .array .boolean
  | 58 => .int
  | 59 => .array .int
  | 60 => .array .int
  | 61 => .array .int
  | 62 => .array .int
  | 63 => .array .boolean
  | _ => .array .int
theorem nmX9 : ∀ a, a < 65 → ∀ b, b < 65 → a ≠ b → (TX9 a).2.1 ≠ (TX9 b).2.1 := by decide +kernel
theorem tyX9_ok : ∀ k, k < 65 → parseFieldDescriptor (TX9 k).2.2.1 = some (tyX9 k) := by decide +kernel
abbrev cX9_init : ByteArray := prog_11_method_2_code
def yX9_init : MethodName := ⟨RX9, "<init>", "()V"⟩
abbrev cX9_feed : ByteArray := prog_11_method_3_code
def yX9_feed : MethodName := ⟨RX9, "feed", "(IIIII)I"⟩
abbrev cX9_put : ByteArray := prog_11_method_4_code
def yX9_put : MethodName := ⟨RX9, "put", "(I)V"⟩
abbrev cX9_back : ByteArray := prog_11_method_5_code
def yX9_back : MethodName := ⟨RX9, "back", "(I)I"⟩
abbrev cX9_byteAt : ByteArray := prog_11_method_6_code
def yX9_byteAt : MethodName := ⟨RX9, "byteAt", "(I)I"⟩
abbrev cX9_isDigit : ByteArray := prog_11_method_7_code
def yX9_isDigit : MethodName := ⟨RX9, "isDigit", "(I)Z"⟩
abbrev cX9_isLetter : ByteArray := prog_11_method_8_code
def yX9_isLetter : MethodName := ⟨RX9, "isLetter", "(I)Z"⟩
abbrev cX9_appends : ByteArray := prog_11_method_9_code
def yX9_appends : MethodName := ⟨RX9, "appends", "(JI)J"⟩
abbrev cX9_word : ByteArray := prog_11_method_10_code
def yX9_word : MethodName := ⟨RX9, "word", "(IIIIIII)J"⟩
abbrev cX9_token : ByteArray := prog_11_method_11_code
def yX9_token : MethodName := ⟨RX9, "token", "(IIIJ)V"⟩
abbrev cX9_cut : ByteArray := prog_11_method_12_code
def yX9_cut : MethodName := ⟨RX9, "cut", "()V"⟩
abbrev cX9_sign : ByteArray := prog_11_method_13_code
def yX9_sign : MethodName := ⟨RX9, "sign", "(III)I"⟩
abbrev cX9_is : ByteArray := prog_11_method_14_code
def yX9_is : MethodName := ⟨RX9, "is", "(I)Z"⟩
abbrev cX9_fail : ByteArray := prog_11_method_15_code
def yX9_fail : MethodName := ⟨RX9, "fail", "(I)V"⟩
abbrev cX9_wrong : ByteArray := prog_11_method_16_code
def yX9_wrong : MethodName := ⟨RX9, "wrong", "(II)V"⟩
abbrev cX9_goesOn : ByteArray := prog_11_method_17_code
def yX9_goesOn : MethodName := ⟨RX9, "goesOn", "()V"⟩
abbrev cX9_must : ByteArray := prog_11_method_18_code
def yX9_must : MethodName := ⟨RX9, "must", "(I)V"⟩
abbrev cX9_plain : ByteArray := prog_11_method_19_code
def yX9_plain : MethodName := ⟨RX9, "plain", "(I)V"⟩
abbrev cX9_read : ByteArray := prog_11_method_20_code
def yX9_read : MethodName := ⟨RX9, "read", "()I"⟩
abbrev cX9_place : ByteArray := prog_11_method_21_code
def yX9_place : MethodName := ⟨RX9, "place", "()I"⟩
abbrev cX9_roomFor : ByteArray := prog_11_method_22_code
def yX9_roomFor : MethodName := ⟨RX9, "roomFor", "(II)V"⟩
abbrev cX9_toldInt : ByteArray := prog_11_method_23_code
def yX9_toldInt : MethodName := ⟨RX9, "toldInt", "(II)I"⟩
abbrev cX9_tellOne : ByteArray := prog_11_method_24_code
def yX9_tellOne : MethodName := ⟨RX9, "tellOne", "()V"⟩
abbrev cX9_named : ByteArray := prog_11_method_25_code
def yX9_named : MethodName := ⟨RX9, "named", "()I"⟩
abbrev cX9_ends : ByteArray := prog_11_method_26_code
def yX9_ends : MethodName := ⟨RX9, "ends", "(I)V"⟩
abbrev cX9_bounded : ByteArray := prog_11_method_27_code
def yX9_bounded : MethodName := ⟨RX9, "bounded", "(II)I"⟩
abbrev cX9_tellLaw : ByteArray := prog_11_method_28_code
def yX9_tellLaw : MethodName := ⟨RX9, "tellLaw", "(I)V"⟩
abbrev cX9_term : ByteArray := prog_11_method_29_code
def yX9_term : MethodName := ⟨RX9, "term", "()V"⟩
abbrev cX9_emit : ByteArray := prog_11_method_30_code
def yX9_emit : MethodName := ⟨RX9, "emit", "(II)V"⟩
abbrev cX9_comesOut : ByteArray := prog_11_method_31_code
def yX9_comesOut : MethodName := ⟨RX9, "comesOut", "(Z)V"⟩
abbrev cX9_expression : ByteArray := prog_11_method_32_code
def yX9_expression : MethodName := ⟨RX9, "expression", "()V"⟩
abbrev cX9_unit : ByteArray := prog_11_method_33_code
def yX9_unit : MethodName := ⟨RX9, "unit", "()V"⟩
abbrev cX9_termOf : ByteArray := prog_11_method_34_code
def yX9_termOf : MethodName := ⟨RX9, "termOf", "(II)I"⟩
abbrev cX9_in : ByteArray := prog_11_method_35_code
def yX9_in : MethodName := ⟨RX9, "in", "(III)Z"⟩
abbrev cX9_held : ByteArray := prog_11_method_36_code
def yX9_held : MethodName := ⟨RX9, "held", "(III)I"⟩
abbrev cX9_bits : ByteArray := prog_11_method_37_code
def yX9_bits : MethodName := ⟨RX9, "bits", "(I)I"⟩
abbrev cX9_off : ByteArray := prog_11_method_38_code
def yX9_off : MethodName := ⟨RX9, "off", "(II)I"⟩
abbrev cX9_isThing : ByteArray := prog_11_method_39_code
def yX9_isThing : MethodName := ⟨RX9, "isThing", "(I)Z"⟩
abbrev cX9_isSeat : ByteArray := prog_11_method_40_code
def yX9_isSeat : MethodName := ⟨RX9, "isSeat", "(I)Z"⟩
abbrev cX9_isX : ByteArray := prog_11_method_41_code
def yX9_isX : MethodName := ⟨RX9, "isX", "(I)Z"⟩
abbrev cX9_begins : ByteArray := prog_11_method_42_code
def yX9_begins : MethodName := ⟨RX9, "begins", "()V"⟩
abbrev cX9_keepsRow : ByteArray := prog_11_method_43_code
def yX9_keepsRow : MethodName := ⟨RX9, "keepsRow", "()V"⟩
abbrev cX9_copies : ByteArray := prog_11_method_44_code
def yX9_copies : MethodName := ⟨RX9, "copies", "()V"⟩
abbrev cX9_mixed : ByteArray := prog_11_method_45_code
def yX9_mixed : MethodName := ⟨RX9, "mixed", "(II)I"⟩
abbrev cX9_isWind : ByteArray := prog_11_method_46_code
def yX9_isWind : MethodName := ⟨RX9, "isWind", "()Z"⟩
abbrev cX9_looks : ByteArray := prog_11_method_47_code
def yX9_looks : MethodName := ⟨RX9, "looks", "(I)V"⟩
abbrev cX9_lawTells : ByteArray := prog_11_method_48_code
def yX9_lawTells : MethodName := ⟨RX9, "lawTells", "(II)I"⟩
abbrev cX9_heatAt : ByteArray := prog_11_method_49_code
def yX9_heatAt : MethodName := ⟨RX9, "heatAt", "(I)I"⟩
abbrev cX9_looksAt : ByteArray := prog_11_method_50_code
def yX9_looksAt : MethodName := ⟨RX9, "looksAt", "(IIII)V"⟩
abbrev cX9_isSeen : ByteArray := prog_11_method_51_code
def yX9_isSeen : MethodName := ⟨RX9, "isSeen", "(IIII)Z"⟩
abbrev cX9_movedBy : ByteArray := prog_11_method_52_code
def yX9_movedBy : MethodName := ⟨RX9, "movedBy", "(IIII)I"⟩
abbrev cX9_seenAt : ByteArray := prog_11_method_53_code
def yX9_seenAt : MethodName := ⟨RX9, "seenAt", "(IIII)I"⟩
abbrev cX9_sees : ByteArray := prog_11_method_54_code
def yX9_sees : MethodName := ⟨RX9, "sees", "(III)Z"⟩
abbrev cX9_sightOf : ByteArray := prog_11_method_55_code
def yX9_sightOf : MethodName := ⟨RX9, "sightOf", "(III)I"⟩
abbrev cX9_rentOf : ByteArray := prog_11_method_56_code
def yX9_rentOf : MethodName := ⟨RX9, "rentOf", "(IIII)I"⟩
abbrev cX9_interestOf : ByteArray := prog_11_method_57_code
def yX9_interestOf : MethodName := ⟨RX9, "interestOf", "(II)I"⟩
abbrev cX9_grows : ByteArray := prog_11_method_58_code
def yX9_grows : MethodName := ⟨RX9, "grows", "(II)I"⟩
abbrev cX9_loanGoes : ByteArray := prog_11_method_59_code
def yX9_loanGoes : MethodName := ⟨RX9, "loanGoes", "(IIZ)V"⟩
abbrev cX9_hourGoes : ByteArray := prog_11_method_60_code
def yX9_hourGoes : MethodName := ⟨RX9, "hourGoes", "()V"⟩
abbrev cX9_goes : ByteArray := prog_11_method_61_code
def yX9_goes : MethodName := ⟨RX9, "goes", "(I)V"⟩
abbrev cX9_seesBits : ByteArray := prog_11_method_62_code
def yX9_seesBits : MethodName := ⟨RX9, "seesBits", "(I)I"⟩
abbrev cX9_thing : ByteArray := prog_11_method_63_code
def yX9_thing : MethodName := ⟨RX9, "thing", "(II)I"⟩
abbrev cX9_lentBy : ByteArray := prog_11_method_64_code
def yX9_lentBy : MethodName := ⟨RX9, "lentBy", "(I)I"⟩
abbrev cX9_seat : ByteArray := prog_11_method_65_code
def yX9_seat : MethodName := ⟨RX9, "seat", "(II)I"⟩
abbrev cX9_loan : ByteArray := prog_11_method_66_code
def yX9_loan : MethodName := ⟨RX9, "loan", "(III)I"⟩
abbrev cX9_tells : ByteArray := prog_11_method_67_code
def yX9_tells : MethodName := ⟨RX9, "tells", "(IIII)I"⟩
abbrev cX9_records : ByteArray := prog_11_method_68_code
def yX9_records : MethodName := ⟨RX9, "records", "()V"⟩
abbrev cX9_lend : ByteArray := prog_11_method_69_code
def yX9_lend : MethodName := ⟨RX9, "lend", "(III)I"⟩
abbrev cX9_call : ByteArray := prog_11_method_70_code
def yX9_call : MethodName := ⟨RX9, "call", "(II)I"⟩
abbrev cX9_move : ByteArray := prog_11_method_71_code
def yX9_move : MethodName := ⟨RX9, "move", "(II)Z"⟩
abbrev cX9_hours : ByteArray := prog_11_method_72_code
def yX9_hours : MethodName := ⟨RX9, "hours", "(I)I"⟩
abbrev cX9_undo : ByteArray := prog_11_method_73_code
def yX9_undo : MethodName := ⟨RX9, "undo", "()Z"⟩
abbrev cX9_isLong : ByteArray := prog_11_method_74_code
def yX9_isLong : MethodName := ⟨RX9, "isLong", "(I)Z"⟩
abbrev cX9_isSome : ByteArray := prog_11_method_75_code
def yX9_isSome : MethodName := ⟨RX9, "isSome", "(I)Z"⟩
abbrev cX9_sight : ByteArray := prog_11_method_76_code
def yX9_sight : MethodName := ⟨RX9, "sight", "(III)I"⟩
abbrev cX9_doClash : ByteArray := prog_11_method_77_code
def yX9_doClash : MethodName := ⟨RX9, "doClash", "(II)Z"⟩
abbrev cX9_clash : ByteArray := prog_11_method_78_code
def yX9_clash : MethodName := ⟨RX9, "clash", "(I)I"⟩
abbrev cX9_hoursFrom : ByteArray := prog_11_method_79_code
def yX9_hoursFrom : MethodName := ⟨RX9, "hoursFrom", "(III)I"⟩
abbrev cX9_longFrom : ByteArray := prog_11_method_80_code
def yX9_longFrom : MethodName := ⟨RX9, "longFrom", "(III)I"⟩
abbrev cX9_best : ByteArray := prog_11_method_81_code
def yX9_best : MethodName := ⟨RX9, "best", "(III)I"⟩
abbrev cX9_dawns : ByteArray := prog_11_method_82_code
def yX9_dawns : MethodName := ⟨RX9, "dawns", "(II)I"⟩
abbrev cX9_near : ByteArray := prog_11_method_83_code
def yX9_near : MethodName := ⟨RX9, "near", "(II)I"⟩
abbrev cX9_crowd : ByteArray := prog_11_method_84_code
def yX9_crowd : MethodName := ⟨RX9, "crowd", "(I)I"⟩
abbrev cX9_fillsSeen : ByteArray := prog_11_method_85_code
def yX9_fillsSeen : MethodName := ⟨RX9, "fillsSeen", "()V"⟩
abbrev cX9_tries : ByteArray := prog_11_method_86_code
def yX9_tries : MethodName := ⟨RX9, "tries", "(IIII)V"⟩
abbrev cX9_umbrellas : ByteArray := prog_11_method_87_code
def yX9_umbrellas : MethodName := ⟨RX9, "umbrellas", "(II)I"⟩
abbrev cX9_worth : ByteArray := prog_11_method_88_code
def yX9_worth : MethodName := ⟨RX9, "worth", "(IIII)I"⟩
abbrev cX9_book : ByteArray := prog_11_method_89_code
def yX9_book : MethodName := ⟨RX9, "book", "(II)I"⟩
abbrev cX9_rich : ByteArray := prog_11_method_90_code
def yX9_rich : MethodName := ⟨RX9, "rich", "(II)I"⟩
abbrev cX9_isWatched : ByteArray := prog_11_method_91_code
def yX9_isWatched : MethodName := ⟨RX9, "isWatched", "(III)Z"⟩
abbrev cX9_hidden : ByteArray := prog_11_method_92_code
def yX9_hidden : MethodName := ⟨RX9, "hidden", "(III)I"⟩
abbrev cX9_cool : ByteArray := prog_11_method_93_code
def yX9_cool : MethodName := ⟨RX9, "cool", "()I"⟩
abbrev cX9_heatIn : ByteArray := prog_11_method_94_code
def yX9_heatIn : MethodName := ⟨RX9, "heatIn", "(I)I"⟩
abbrev cX9_lentIn : ByteArray := prog_11_method_95_code
def yX9_lentIn : MethodName := ⟨RX9, "lentIn", "(III)I"⟩
abbrev cX9_year : ByteArray := prog_11_method_96_code
def yX9_year : MethodName := ⟨RX9, "year", "(IIII)I"⟩
abbrev cX9_tell : ByteArray := prog_11_method_97_code
def yX9_tell : MethodName := ⟨RX9, "tell", "(III)I"⟩
abbrev cX9_forget : ByteArray := prog_11_method_98_code
def yX9_forget : MethodName := ⟨RX9, "forget", "()I"⟩
abbrev cX9_isSo : ByteArray := prog_11_method_99_code
def yX9_isSo : MethodName := ⟨RX9, "isSo", "(II)Z"⟩
abbrev cX9_stands : ByteArray := prog_11_method_100_code
def yX9_stands : MethodName := ⟨RX9, "stands", "(I)I"⟩
abbrev cX9_sure : ByteArray := prog_11_method_101_code
def yX9_sure : MethodName := ⟨RX9, "sure", "(II)I"⟩
abbrev cX9_look : ByteArray := prog_11_method_102_code
def yX9_look : MethodName := ⟨RX9, "look", "(II)I"⟩
abbrev cX9_hold : ByteArray := prog_11_method_103_code
def yX9_hold : MethodName := ⟨RX9, "hold", "(I)Z"⟩
abbrev cX9_restore : ByteArray := prog_11_method_104_code
def yX9_restore : MethodName := ⟨RX9, "restore", "(I)Z"⟩
abbrev cX9_sumNow : ByteArray := prog_11_method_105_code
def yX9_sumNow : MethodName := ⟨RX9, "sumNow", "(II)I"⟩
abbrev cX9_count : ByteArray := prog_11_method_106_code
def yX9_count : MethodName := ⟨RX9, "count", "(I)I"⟩
def RJ6 : String := "java/lang/Integer"
abbrev cJ6_bitCount_0f7a4 : ByteArray := prog_13_method_49_code
def yJ6_bitCount_0f7a4 : MethodName := ⟨RJ6, "bitCount", "(I)I"⟩
def RJ0 : String := "java/lang/String"
abbrev cJ0_length_8abf5 : ByteArray := prog_15_method_54_code
def yJ0_length_8abf5 : MethodName := ⟨RJ0, "length", "()I"⟩
abbrev cJ0_charAt_5068e : ByteArray := prog_15_method_56_code
def yJ0_charAt_5068e : MethodName := ⟨RJ0, "charAt", "(I)C"⟩
abbrev cJ0_indexOf_0f7a4 : ByteArray := prog_15_method_79_code
def yJ0_indexOf_0f7a4 : MethodName := ⟨RJ0, "indexOf", "(I)I"⟩
abbrev cJ0_indexOf_7cf53 : ByteArray := prog_15_method_80_code
def yJ0_indexOf_7cf53 : MethodName := ⟨RJ0, "indexOf", "(II)I"⟩
abbrev cJ0_coder_7d493 : ByteArray := prog_15_method_152_code
def yJ0_coder_7d493 : MethodName := ⟨RJ0, "coder", "()B"⟩
abbrev cJ0_isLatin1_aae02 : ByteArray := prog_15_method_154_code
def yJ0_isLatin1_aae02 : MethodName := ⟨RJ0, "isLatin1", "()Z"⟩
abbrev cJ0_checkIndex_df160 : ByteArray := prog_15_method_155_code
def yJ0_checkIndex_df160 : MethodName := ⟨RJ0, "checkIndex", "(II)V"⟩
def RJ1 : String := "java/lang/StringLatin1"
abbrev cJ1_charAt_3b067 : ByteArray := prog_16_method_2_code
def yJ1_charAt_3b067 : MethodName := ⟨RJ1, "charAt", "([BI)C"⟩
abbrev cJ1_canEncode_9a6ad : ByteArray := prog_16_method_4_code
def yJ1_canEncode_9a6ad : MethodName := ⟨RJ1, "canEncode", "(I)Z"⟩
abbrev cJ1_indexOf_4cfef : ByteArray := prog_16_method_22_code
def yJ1_indexOf_4cfef : MethodName := ⟨RJ1, "indexOf", "([BIII)I"⟩
abbrev cJ1_indexOfChar_4cfef : ByteArray := prog_16_method_23_code
def yJ1_indexOfChar_4cfef : MethodName := ⟨RJ1, "indexOfChar", "([BIII)I"⟩
def RJ3 : String := "jdk/internal/util/Preconditions"
abbrev cJ3_checkIndex_8e157 : ByteArray := prog_19_method_11_code
def yJ3_checkIndex_8e157 : MethodName := ⟨RJ3, "checkIndex", "(IILjava/util/function/BiFunction;)I"⟩
abbrev vwCl : List vw_C := [(RX0, TX0, 13), (RX1, TX1, 8), (RX2, TX2, 6), (RX3, TX3, 3), (RX4, TX4, 7), (RX5, TX5, 2), (RX6, TX6, 5), (RX7, TX7, 6), (RX8, TX8, 14), (RX9, TX9, 65)]
