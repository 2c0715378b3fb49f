section
variable {l : Launch} {G : qG} {gh : zGh}
def p_X5_init : List Nat := [0]
noncomputable def b_X5_init_0 : zBl := fun jp K => oAld 0 <| oObj <| oAld 0 <| oInt 2147485648 <| oNewa 11 1 2000 <| oPutR 5 0 <| oAld 0 <| oInt 2147483648 <| oPutI 5 1 <| oVret K
theorem s_X5_init_0 (d : Nat) : zPb l G gh (d + 1) n_X5_init p_X5_init 0 b_X5_init_0 := fun K jp hj =>
    z_aload_n (n := 0) (i := 0) (zd (i := .aload_n 0) (n := 1) (by decide +kernel)) rfl <|
    z_obj (idx := 3) (zd (i := .invokespecial 3) (n := 3) (by decide +kernel)) g128 g121 g122 <|
    z_aload_n (n := 0) (i := 0) (zd (i := .aload_n 0) (n := 1) (by decide +kernel)) rfl <|
    z_sipush (n := 2000) (zd (i := .sipush (2000)) (n := 3) (by decide +kernel)) (by decide +kernel) <|
    z_newI (ty := 11) (aty := .byte) 1 (zd (i := .newarray .byte) (n := 2) (by decide +kernel)) rfl (by decide +kernel) (by decide +kernel) rfl (fun _ _ h => h) (by decide +kernel) g138 rfl rfl <|
    z_putR (ci := 5) (j := 0) (idx := 11) (zd (i := .putfield 11) (n := 3) (by decide +kernel)) (by decide +kernel) (by decide +kernel) (fun r => by cases r <;> rfl) (fun r => by cases r <;> rfl) rfl g129 (Or.inr ⟨rfl, rfl⟩) <|
    z_aload_n (n := 0) (i := 0) (zd (i := .aload_n 0) (n := 1) (by decide +kernel)) rfl <|
    z_iconst (n := 0) (zd (i := .iconst (0)) (n := 1) (by decide +kernel)) (by decide +kernel) <|
    z_putI (ci := 5) (j := 1) (idx := 15) (zd (i := .putfield 15) (n := 3) (by decide +kernel)) (by decide +kernel) (by decide +kernel) rfl g130 (Or.inl rfl) <|
    z_vret (zd (i := .return_) (n := 1) (by decide +kernel)) rfl
noncomputable def f_X5_init : zMt := zmet 1 [b_X5_init_0]
theorem c_X5_init (d : Nat) : zC l G gh (d + 1) n_X5_init f_X5_init := zmet_ok (pcs := p_X5_init) (by decide) rfl rfl ⟨s_X5_init_0 d, trivial⟩
def p_J3_checkIndex_8e157 : List Nat := [0, 4, 16]
noncomputable def b_J3_checkIndex_8e157_0 : zBl := fun jp K => oIld 0 <| oIf zlt zge (oFail) (jp 1)
theorem s_J3_checkIndex_8e157_0 (d : Nat) : zPb l G gh (d + 1) n_J3_checkIndex_8e157 p_J3_checkIndex_8e157 0 b_J3_checkIndex_8e157_0 := fun K jp hj =>
    z_iload_n (n := 0) (i := 0) (zd (i := .iload_n 0) (n := 1) (by decide +kernel)) rfl <|
    z_if_lt (off := 8) (tgt := 9) (zd (i := .ifCond .lt (8)) (n := 3) (by decide +kernel)) (by decide +kernel) z_fail (zj (hj 1) (by decide +kernel))
noncomputable def b_J3_checkIndex_8e157_1 : zBl := fun jp K => oIld 0 <| oIld 1 <| oIc zlt zge (jp 2) (oFail)
theorem s_J3_checkIndex_8e157_1 (d : Nat) : zPb l G gh (d + 1) n_J3_checkIndex_8e157 p_J3_checkIndex_8e157 4 b_J3_checkIndex_8e157_1 := fun K jp hj =>
    z_iload_n (n := 0) (i := 0) (zd (i := .iload_n 0) (n := 1) (by decide +kernel)) rfl <|
    z_iload_n (n := 1) (i := 1) (zd (i := .iload_n 1) (n := 1) (by decide +kernel)) rfl <|
    z_icmp_lt (off := 10) (tgt := 16) (zd (i := .if_icmp .lt (10)) (n := 3) (by decide +kernel)) (by decide +kernel) (zj (hj 2) (by decide +kernel)) z_fail
noncomputable def b_J3_checkIndex_8e157_2 : zBl := fun jp K => oIld 0 <| oIret K
theorem s_J3_checkIndex_8e157_2 (d : Nat) : zPb l G gh (d + 1) n_J3_checkIndex_8e157 p_J3_checkIndex_8e157 16 b_J3_checkIndex_8e157_2 := fun K jp hj =>
    z_iload_n (n := 0) (i := 0) (zd (i := .iload_n 0) (n := 1) (by decide +kernel)) rfl <|
    z_iret (zd (i := .ireturn) (n := 1) (by decide +kernel)) rfl
noncomputable def f_J3_checkIndex_8e157 : zMt := zmet 3 [b_J3_checkIndex_8e157_0, b_J3_checkIndex_8e157_1, b_J3_checkIndex_8e157_2]
theorem c_J3_checkIndex_8e157 (d : Nat) : zC l G gh (d + 1) n_J3_checkIndex_8e157 f_J3_checkIndex_8e157 := zmet_ok (pcs := p_J3_checkIndex_8e157) (by decide) rfl rfl ⟨s_J3_checkIndex_8e157_0 d, s_J3_checkIndex_8e157_1 d, s_J3_checkIndex_8e157_2 d, trivial⟩
def p_J0_checkIndex_df160 : List Nat := [0]
noncomputable def b_J0_checkIndex_df160_0 : zBl := fun jp K => oIld 0 <| oIld 1 <| oTxt 4 <| oCs 3 f_J3_checkIndex_8e157 <| oPop <| oVret K
theorem s_J0_checkIndex_df160_0 (d : Nat) : zPb l G gh (d + 2) n_J0_checkIndex_df160 p_J0_checkIndex_df160 0 b_J0_checkIndex_df160_0 := fun K jp hj =>
    z_iload_n (n := 0) (i := 0) (zd (i := .iload_n 0) (n := 1) (by decide +kernel)) rfl <|
    z_iload_n (n := 1) (i := 1) (zd (i := .iload_n 1) (n := 1) (by decide +kernel)) rfl <|
    z_sFmt (idx := 1053) (zd (i := .getstatic 1053) (n := 3) (by decide +kernel)) g176 <|
    z_callS (idx := 1059) (N := n_J3_checkIndex_8e157) (zd (i := .invokestatic 1059) (n := 3) (by decide +kernel)) to_J3_checkIndex_8e157 g178 g179 rfl rfl (c_J3_checkIndex_8e157 (l := l) (G := G) (gh := gh) d) <|
    z_pop (zd (i := .pop) (n := 1) (by decide +kernel)) <|
    z_vret (zd (i := .return_) (n := 1) (by decide +kernel)) rfl
noncomputable def f_J0_checkIndex_df160 : zMt := zmet 2 [b_J0_checkIndex_df160_0]
theorem c_J0_checkIndex_df160 (d : Nat) : zC l G gh (d + 2) n_J0_checkIndex_df160 f_J0_checkIndex_df160 := zmet_ok (pcs := p_J0_checkIndex_df160) (by decide) rfl rfl ⟨s_J0_checkIndex_df160_0 d, trivial⟩
def p_J1_charAt_3b067 : List Nat := [0]
noncomputable def b_J1_charAt_3b067_0 : zBl := fun jp K => oIld 1 <| oAld 0 <| oSlen <| oCs 2 f_J0_checkIndex_df160 <| oAld 0 <| oIld 1 <| oSbal <| oInt 2147483903 <| oB2 ziand <| oU zi2c <| oNret .char K
theorem s_J1_charAt_3b067_0 (d : Nat) : zPb l G gh (d + 3) n_J1_charAt_3b067 p_J1_charAt_3b067 0 b_J1_charAt_3b067_0 := fun K jp hj =>
    z_iload_n (n := 1) (i := 1) (zd (i := .iload_n 1) (n := 1) (by decide +kernel)) rfl <|
    z_aload_n (n := 0) (i := 0) (zd (i := .aload_n 0) (n := 1) (by decide +kernel)) rfl <|
    z_sLen (zd (i := .arraylength) (n := 1) (by decide +kernel)) <|
    z_callS (idx := 9) (N := n_J0_checkIndex_df160) (zd (i := .invokestatic 9) (n := 3) (by decide +kernel)) to_J0_checkIndex_df160 g173 g174 rfl rfl (c_J0_checkIndex_df160 (l := l) (G := G) (gh := gh) d) <|
    z_aload_n (n := 0) (i := 0) (zd (i := .aload_n 0) (n := 1) (by decide +kernel)) rfl <|
    z_iload_n (n := 1) (i := 1) (zd (i := .iload_n 1) (n := 1) (by decide +kernel)) rfl <|
    z_sBal (zd (i := .baload) (n := 1) (by decide +kernel)) <|
    z_sipush (n := 255) (zd (i := .sipush (255)) (n := 3) (by decide +kernel)) (by decide +kernel) <|
    z_iand (zd (i := .iand) (n := 1) (by decide +kernel)) <|
    z_i2c (zd (i := .i2c) (n := 1) (by decide +kernel)) <|
    z_nret (ty := .char) (zd (i := .ireturn) (n := 1) (by decide +kernel)) rfl (fun _ => rfl)
noncomputable def f_J1_charAt_3b067 : zMt := zmet 2 [b_J1_charAt_3b067_0]
theorem c_J1_charAt_3b067 (d : Nat) : zC l G gh (d + 3) n_J1_charAt_3b067 f_J1_charAt_3b067 := zmet_ok (pcs := p_J1_charAt_3b067) (by decide) rfl rfl ⟨s_J1_charAt_3b067_0 d, trivial⟩
def p_J0_charAt_5068e : List Nat := [0, 7]
noncomputable def b_J0_charAt_5068e_0 : zBl := fun jp K => oAld 0 <| oCt 0 f_J0_isLatin1_aae02 <| oIf zeq zne (oFail) (jp 1)
theorem s_J0_charAt_5068e_0 (d : Nat) : zPb l G gh (d + 4) n_J0_charAt_5068e p_J0_charAt_5068e 0 b_J0_charAt_5068e_0 := fun K jp hj =>
    z_aload_n (n := 0) (i := 0) (zd (i := .aload_n 0) (n := 1) (by decide +kernel)) rfl <|
    z_callT (idx := 492) (N := n_J0_isLatin1_aae02) (zd (i := .invokevirtual 492) (n := 3) (by decide +kernel)) to_J0_isLatin1_aae02 g166 g167 g168 rfl rfl rfl (c_J0_isLatin1_aae02 (l := l) (G := G) (gh := gh) (d + 2)) <|
    z_if_eq (off := 12) (tgt := 16) (zd (i := .ifCond .eq (12)) (n := 3) (by decide +kernel)) (by decide +kernel) z_fail (zj (hj 1) (by decide +kernel))
noncomputable def b_J0_charAt_5068e_1 : zBl := fun jp K => oAld 0 <| oSval <| oIld 1 <| oCs 2 f_J1_charAt_3b067 <| oNret .char K
theorem s_J0_charAt_5068e_1 (d : Nat) : zPb l G gh (d + 4) n_J0_charAt_5068e p_J0_charAt_5068e 7 b_J0_charAt_5068e_1 := fun K jp hj =>
    z_aload_n (n := 0) (i := 0) (zd (i := .aload_n 0) (n := 1) (by decide +kernel)) rfl <|
    z_sVal (idx := 9) (zd (i := .getfield 9) (n := 3) (by decide +kernel)) g1713 <|
    z_iload_n (n := 1) (i := 1) (zd (i := .iload_n 1) (n := 1) (by decide +kernel)) rfl <|
    z_callS (idx := 495) (N := n_J1_charAt_3b067) (zd (i := .invokestatic 495) (n := 3) (by decide +kernel)) to_J1_charAt_3b067 g170 g171 rfl rfl (c_J1_charAt_3b067 (l := l) (G := G) (gh := gh) d) <|
    z_nret (ty := .char) (zd (i := .ireturn) (n := 1) (by decide +kernel)) rfl (fun _ => rfl)
noncomputable def f_J0_charAt_5068e : zMt := zmet 2 [b_J0_charAt_5068e_0, b_J0_charAt_5068e_1]
theorem c_J0_charAt_5068e (d : Nat) : zC l G gh (d + 4) n_J0_charAt_5068e f_J0_charAt_5068e := zmet_ok (pcs := p_J0_charAt_5068e) (by decide) rfl rfl ⟨s_J0_charAt_5068e_0 d, s_J0_charAt_5068e_1 d, trivial⟩
def pi_X6_withLetter : List Nat := [0]
noncomputable def bi_X6_withLetter_0 : zBl := fun jp K => oLld 0 <| oLng 27 <| oJ2 Int64.mul <| oIld 2 <| oInt 2147483745 <| oB2 zsub <| oInt 2147483649 <| oB2 zadd <| oI2l <| oJ2 Int64.add <| oLret K
theorem si_X6_withLetter_0 (d : Nat) : zPb l G gh (d + 1) n_X6_withLetter pi_X6_withLetter 0 bi_X6_withLetter_0 := fun K jp hj =>
    z_lload_n (n := 0) (i := 0) (zd (i := .lload_n 0) (n := 1) (by decide +kernel)) rfl <|
    z_ldc2 (n := 45) (zd (i := .ldc2_w 45) (n := 3) (by decide +kernel)) g203 <|
    z_lmul (zd (i := .lmul) (n := 1) (by decide +kernel)) <|
    z_iload_n (n := 2) (i := 2) (zd (i := .iload_n 2) (n := 1) (by decide +kernel)) rfl <|
    z_bipush (n := 97) (zd (i := .bipush (97)) (n := 2) (by decide +kernel)) (by decide +kernel) <|
    z_isub (zd (i := .isub) (n := 1) (by decide +kernel)) <|
    z_iconst (n := 1) (zd (i := .iconst (1)) (n := 1) (by decide +kernel)) (by decide +kernel) <|
    z_iadd (zd (i := .iadd) (n := 1) (by decide +kernel)) <|
    z_i2l (zd (i := .i2l) (n := 1) (by decide +kernel)) <|
    z_ladd (zd (i := .ladd) (n := 1) (by decide +kernel)) <|
    z_lret (zd (i := .lreturn) (n := 1) (by decide +kernel)) rfl
noncomputable def f_X6_withLetter : zMt := zmet 3 [bi_X6_withLetter_0]
theorem c_X6_withLetter (d : Nat) : zC l G gh (d + 1) n_X6_withLetter f_X6_withLetter := zmet_ok (pcs := pi_X6_withLetter) (by decide) rfl rfl ⟨si_X6_withLetter_0 d, trivial⟩
def p_X6_init : List Nat := [0, 51, 61, 67, 83, 98, 105, 111]
noncomputable def b_X6_init_0 : zBl := fun jp K => oAld 0 <| oObj <| oAld 0 <| oInt 2147483671 <| oNewa 13 4 1226 <| oPutR 6 0 <| oAld 0 <| oInt 2147484049 <| oNewa 10 4 1226 <| oPutR 6 1 <| oAld 0 <| oInt 2147484049 <| oNewa 10 4 1226 <| oPutR 6 2 <| oAld 0 <| oInt 2147484049 <| oNewa 13 4 1226 <| oPutR 6 3 <| oAld 0 <| oInt 2147483648 <| oPutI 6 4 <| oInt 2147483648 <| oIst 1 <| oLng 0 <| oLst 2 <| oInt 2147483648 <| oIst 4 <| jp 1
theorem s_X6_init_0 (d : Nat) : zPb l G gh (d + 5) n_X6_init p_X6_init 0 b_X6_init_0 := fun K jp hj =>
    z_aload_n (n := 0) (i := 0) (zd (i := .aload_n 0) (n := 1) (by decide +kernel)) rfl <|
    z_obj (idx := 3) (zd (i := .invokespecial 3) (n := 3) (by decide +kernel)) g150 g121 g122 <|
    z_aload_n (n := 0) (i := 0) (zd (i := .aload_n 0) (n := 1) (by decide +kernel)) rfl <|
    z_bipush (n := 23) (zd (i := .bipush (23)) (n := 2) (by decide +kernel)) (by decide +kernel) <|
    z_newL (zd (i := .newarray .long) (n := 2) (by decide +kernel)) g223 rfl rfl <|
    z_putR (ci := 6) (j := 0) (idx := 9) (zd (i := .putfield 9) (n := 3) (by decide +kernel)) (by decide +kernel) (by decide +kernel) (fun r => by cases r <;> rfl) (fun r => by cases r <;> rfl) rfl g204 (Or.inr ⟨rfl, rfl⟩) <|
    z_aload_n (n := 0) (i := 0) (zd (i := .aload_n 0) (n := 1) (by decide +kernel)) rfl <|
    z_sipush (n := 401) (zd (i := .sipush (401)) (n := 3) (by decide +kernel)) (by decide +kernel) <|
    z_newI (ty := 10) (aty := .int) 0 (zd (i := .newarray .int) (n := 2) (by decide +kernel)) rfl (by decide +kernel) (by decide +kernel) rfl (fun _ _ h => h) (by decide +kernel) g224 rfl rfl <|
    z_putR (ci := 6) (j := 1) (idx := 15) (zd (i := .putfield 15) (n := 3) (by decide +kernel)) (by decide +kernel) (by decide +kernel) (fun r => by cases r <;> rfl) (fun r => by cases r <;> rfl) rfl g205 (Or.inr ⟨rfl, rfl⟩) <|
    z_aload_n (n := 0) (i := 0) (zd (i := .aload_n 0) (n := 1) (by decide +kernel)) rfl <|
    z_sipush (n := 401) (zd (i := .sipush (401)) (n := 3) (by decide +kernel)) (by decide +kernel) <|
    z_newI (ty := 10) (aty := .int) 0 (zd (i := .newarray .int) (n := 2) (by decide +kernel)) rfl (by decide +kernel) (by decide +kernel) rfl (fun _ _ h => h) (by decide +kernel) g224 rfl rfl <|
    z_putR (ci := 6) (j := 2) (idx := 19) (zd (i := .putfield 19) (n := 3) (by decide +kernel)) (by decide +kernel) (by decide +kernel) (fun r => by cases r <;> rfl) (fun r => by cases r <;> rfl) rfl g207 (Or.inr ⟨rfl, rfl⟩) <|
    z_aload_n (n := 0) (i := 0) (zd (i := .aload_n 0) (n := 1) (by decide +kernel)) rfl <|
    z_sipush (n := 401) (zd (i := .sipush (401)) (n := 3) (by decide +kernel)) (by decide +kernel) <|
    z_newL (zd (i := .newarray .long) (n := 2) (by decide +kernel)) g223 rfl rfl <|
    z_putR (ci := 6) (j := 3) (idx := 22) (zd (i := .putfield 22) (n := 3) (by decide +kernel)) (by decide +kernel) (by decide +kernel) (fun r => by cases r <;> rfl) (fun r => by cases r <;> rfl) rfl g209 (Or.inr ⟨rfl, rfl⟩) <|
    z_aload_n (n := 0) (i := 0) (zd (i := .aload_n 0) (n := 1) (by decide +kernel)) rfl <|
    z_iconst (n := 0) (zd (i := .iconst (0)) (n := 1) (by decide +kernel)) (by decide +kernel) <|
    z_putI (ci := 6) (j := 4) (idx := 25) (zd (i := .putfield 25) (n := 3) (by decide +kernel)) (by decide +kernel) (by decide +kernel) rfl g211 (Or.inl rfl) <|
    z_iconst (n := 0) (zd (i := .iconst (0)) (n := 1) (by decide +kernel)) (by decide +kernel) <|
    z_istore_n (n := 1) (i := 1) (zd (i := .istore_n 1) (n := 1) (by decide +kernel)) rfl (by decide +kernel) <|
    z_lconst (n := 0) (zd (i := .lconst 0) (n := 1) (by decide +kernel)) rfl <|
    z_lstore_n (n := 2) (i := 2) (zd (i := .lstore_n 2) (n := 1) (by decide +kernel)) rfl (by decide +kernel) <|
    z_iconst (n := 0) (zd (i := .iconst (0)) (n := 1) (by decide +kernel)) (by decide +kernel) <|
    z_istore (i := 4) (zd (i := .istore 4) (n := 2) (by decide +kernel)) (by decide +kernel) <|
    (zj (hj 1) (by decide +kernel))
noncomputable def b_X6_init_1 : zBl := fun jp K => oIld 4 <| oTxt 0 <| oCt 0 f_J0_length_8abf5 <| oIc zge zlt (jp 7) (jp 2)
theorem s_X6_init_1 (d : Nat) : zPb l G gh (d + 5) n_X6_init p_X6_init 51 b_X6_init_1 := fun K jp hj =>
    z_iload (i := 4) (zd (i := .iload 4) (n := 2) (by decide +kernel)) <|
    z_ldcS (idx := 29) (zd (i := .ldc 29) (n := 2) (by decide +kernel)) rfl (Or.inl ⟨rfl, rfl⟩) <|
    z_callT (idx := 31) (N := n_J0_length_8abf5) (zd (i := .invokevirtual 31) (n := 3) (by decide +kernel)) to_J0_length_8abf5 g152 g153 g154 rfl rfl rfl (c_J0_length_8abf5 (l := l) (G := G) (gh := gh) (d + 2)) <|
    z_icmp_ge (off := 53) (tgt := 111) (zd (i := .if_icmp .ge (53)) (n := 3) (by decide +kernel)) (by decide +kernel) (zj (hj 7) (by decide +kernel)) (zj (hj 2) (by decide +kernel))
noncomputable def b_X6_init_2 : zBl := fun jp K => oIld 1 <| oInt 2147483671 <| oIc zge zlt (jp 7) (jp 3)
theorem s_X6_init_2 (d : Nat) : zPb l G gh (d + 5) n_X6_init p_X6_init 61 b_X6_init_2 := fun K jp hj =>
    z_iload_n (n := 1) (i := 1) (zd (i := .iload_n 1) (n := 1) (by decide +kernel)) rfl <|
    z_bipush (n := 23) (zd (i := .bipush (23)) (n := 2) (by decide +kernel)) (by decide +kernel) <|
    z_icmp_ge (off := 47) (tgt := 111) (zd (i := .if_icmp .ge (47)) (n := 3) (by decide +kernel)) (by decide +kernel) (zj (hj 7) (by decide +kernel)) (zj (hj 3) (by decide +kernel))
noncomputable def b_X6_init_3 : zBl := fun jp K => oTxt 0 <| oIld 4 <| oCt 1 f_J0_charAt_5068e <| oIst 5 <| oIld 5 <| oInt 2147483680 <| oIc zne zeq (jp 5) (jp 4)
theorem s_X6_init_3 (d : Nat) : zPb l G gh (d + 5) n_X6_init p_X6_init 67 b_X6_init_3 := fun K jp hj =>
    z_ldcS (idx := 29) (zd (i := .ldc 29) (n := 2) (by decide +kernel)) rfl (Or.inl ⟨rfl, rfl⟩) <|
    z_iload (i := 4) (zd (i := .iload 4) (n := 2) (by decide +kernel)) <|
    z_callT (idx := 37) (N := n_J0_charAt_5068e) (zd (i := .invokevirtual 37) (n := 3) (by decide +kernel)) to_J0_charAt_5068e g162 g163 g164 rfl rfl rfl (c_J0_charAt_5068e (l := l) (G := G) (gh := gh) d) <|
    z_istore (i := 5) (zd (i := .istore 5) (n := 2) (by decide +kernel)) (by decide +kernel) <|
    z_iload (i := 5) (zd (i := .iload 5) (n := 2) (by decide +kernel)) <|
    z_bipush (n := 32) (zd (i := .bipush (32)) (n := 2) (by decide +kernel)) (by decide +kernel) <|
    z_icmp_ne (off := 18) (tgt := 98) (zd (i := .if_icmp .ne (18)) (n := 3) (by decide +kernel)) (by decide +kernel) (zj (hj 5) (by decide +kernel)) (zj (hj 4) (by decide +kernel))
noncomputable def b_X6_init_4 : zBl := fun jp K => oAld 0 <| oGetR 6 0 <| oIld 1 <| oLld 2 <| oLast <| oInc 1 2147483649 <| oLng 0 <| oLst 2 <| jp 6
theorem s_X6_init_4 (d : Nat) : zPb l G gh (d + 5) n_X6_init p_X6_init 83 b_X6_init_4 := fun K jp hj =>
    z_aload_n (n := 0) (i := 0) (zd (i := .aload_n 0) (n := 1) (by decide +kernel)) rfl <|
    z_getR (ci := 6) (j := 0) (idx := 9) (zd (i := .getfield 9) (n := 3) (by decide +kernel)) (by decide +kernel) (by decide +kernel) rfl g204 <|
    z_iload_n (n := 1) (i := 1) (zd (i := .iload_n 1) (n := 1) (by decide +kernel)) rfl <|
    z_lload_n (n := 2) (i := 2) (zd (i := .lload_n 2) (n := 1) (by decide +kernel)) rfl <|
    z_last (zd (i := .lastore) (n := 1) (by decide +kernel)) <|
    z_iinc (i := 1) (n := 1) (zd (i := .iinc 1 (1)) (n := 3) (by decide +kernel)) (by decide +kernel) (by decide +kernel) <|
    z_lconst (n := 0) (zd (i := .lconst 0) (n := 1) (by decide +kernel)) rfl <|
    z_lstore_n (n := 2) (i := 2) (zd (i := .lstore_n 2) (n := 1) (by decide +kernel)) rfl (by decide +kernel) <|
    z_goto (off := 10) (tgt := 105) (zd (i := .goto (10)) (n := 3) (by decide +kernel)) (by decide +kernel) (zj (hj 6) (by decide +kernel))
noncomputable def b_X6_init_5 : zBl := fun jp K => oLld 2 <| oIld 5 <| oCs 2 f_X6_withLetter <| oLst 2 <| jp 6
theorem s_X6_init_5 (d : Nat) : zPb l G gh (d + 5) n_X6_init p_X6_init 98 b_X6_init_5 := fun K jp hj =>
    z_lload_n (n := 2) (i := 2) (zd (i := .lload_n 2) (n := 1) (by decide +kernel)) rfl <|
    z_iload (i := 5) (zd (i := .iload 5) (n := 2) (by decide +kernel)) <|
    z_callS (idx := 41) (N := n_X6_withLetter) (zd (i := .invokestatic 41) (n := 3) (by decide +kernel)) to_X6_withLetter g200 g201 rfl rfl (c_X6_withLetter (l := l) (G := G) (gh := gh) (d + 3)) <|
    z_lstore_n (n := 2) (i := 2) (zd (i := .lstore_n 2) (n := 1) (by decide +kernel)) rfl (by decide +kernel) <|
    (zj (hj 6) (by decide +kernel))
noncomputable def b_X6_init_6 : zBl := fun jp K => oInc 4 2147483649 <| jp 1
theorem s_X6_init_6 (d : Nat) : zPb l G gh (d + 5) n_X6_init p_X6_init 105 b_X6_init_6 := fun K jp hj =>
    z_iinc (i := 4) (n := 1) (zd (i := .iinc 4 (1)) (n := 3) (by decide +kernel)) (by decide +kernel) (by decide +kernel) <|
    z_goto (off := -57) (tgt := 51) (zd (i := .goto (-57)) (n := 3) (by decide +kernel)) (by decide +kernel) (zj (hj 1) (by decide +kernel))
noncomputable def b_X6_init_7 : zBl := fun jp K => oVret K
theorem s_X6_init_7 (d : Nat) : zPb l G gh (d + 5) n_X6_init p_X6_init 111 b_X6_init_7 := fun K jp hj =>
    z_vret (zd (i := .return_) (n := 1) (by decide +kernel)) rfl
noncomputable def f_X6_init : zMt := zmet 6 [b_X6_init_0, b_X6_init_1, b_X6_init_2, b_X6_init_3, b_X6_init_4, b_X6_init_5, b_X6_init_6, b_X6_init_7]
theorem c_X6_init (d : Nat) : zC l G gh (d + 5) n_X6_init f_X6_init := zmet_ok (pcs := p_X6_init) (by decide) rfl rfl ⟨s_X6_init_0 d, s_X6_init_1 d, s_X6_init_2 d, s_X6_init_3 d, s_X6_init_4 d, s_X6_init_5 d, s_X6_init_6 d, s_X6_init_7 d, trivial⟩
def p_X2_init : List Nat := [0]
noncomputable def b_X2_init_0 : zBl := fun jp K => oAld 0 <| oObj <| oAld 0 <| oInt 2147484068 <| oNewa 10 5 874 <| oPutR 2 0 <| oAld 0 <| oInt 2147484068 <| oNewa 10 5 874 <| oPutR 2 1 <| oAld 0 <| oInt 2147483648 <| oPutI 2 2 <| oAld 0 <| oInt 2147483653 <| oNewa 10 5 874 <| oPutR 2 3 <| oAld 0 <| oInt 2147483657 <| oNewa 10 5 874 <| oPutR 2 4 <| oAld 0 <| oInt 2147483668 <| oNewa 10 5 874 <| oPutR 2 5 <| oVret K
theorem s_X2_init_0 (d : Nat) : zPb l G gh (d + 1) n_X2_init p_X2_init 0 b_X2_init_0 := fun K jp hj =>
    z_aload_n (n := 0) (i := 0) (zd (i := .aload_n 0) (n := 1) (by decide +kernel)) rfl <|
    z_obj (idx := 3) (zd (i := .invokespecial 3) (n := 3) (by decide +kernel)) g236 g121 g122 <|
    z_aload_n (n := 0) (i := 0) (zd (i := .aload_n 0) (n := 1) (by decide +kernel)) rfl <|
    z_sipush (n := 420) (zd (i := .sipush (420)) (n := 3) (by decide +kernel)) (by decide +kernel) <|
    z_newI (ty := 10) (aty := .int) 0 (zd (i := .newarray .int) (n := 2) (by decide +kernel)) rfl (by decide +kernel) (by decide +kernel) rfl (fun _ _ h => h) (by decide +kernel) g224 rfl rfl <|
    z_putR (ci := 2) (j := 0) (idx := 11) (zd (i := .putfield 11) (n := 3) (by decide +kernel)) (by decide +kernel) (by decide +kernel) (fun r => by cases r <;> rfl) (fun r => by cases r <;> rfl) rfl g237 (Or.inr ⟨rfl, rfl⟩) <|
    z_aload_n (n := 0) (i := 0) (zd (i := .aload_n 0) (n := 1) (by decide +kernel)) rfl <|
    z_sipush (n := 420) (zd (i := .sipush (420)) (n := 3) (by decide +kernel)) (by decide +kernel) <|
    z_newI (ty := 10) (aty := .int) 0 (zd (i := .newarray .int) (n := 2) (by decide +kernel)) rfl (by decide +kernel) (by decide +kernel) rfl (fun _ _ h => h) (by decide +kernel) g224 rfl rfl <|
    z_putR (ci := 2) (j := 1) (idx := 15) (zd (i := .putfield 15) (n := 3) (by decide +kernel)) (by decide +kernel) (by decide +kernel) (fun r => by cases r <;> rfl) (fun r => by cases r <;> rfl) rfl g238 (Or.inr ⟨rfl, rfl⟩) <|
    z_aload_n (n := 0) (i := 0) (zd (i := .aload_n 0) (n := 1) (by decide +kernel)) rfl <|
    z_iconst (n := 0) (zd (i := .iconst (0)) (n := 1) (by decide +kernel)) (by decide +kernel) <|
    z_putI (ci := 2) (j := 2) (idx := 18) (zd (i := .putfield 18) (n := 3) (by decide +kernel)) (by decide +kernel) (by decide +kernel) rfl g239 (Or.inl rfl) <|
    z_aload_n (n := 0) (i := 0) (zd (i := .aload_n 0) (n := 1) (by decide +kernel)) rfl <|
    z_iconst (n := 5) (zd (i := .iconst (5)) (n := 1) (by decide +kernel)) (by decide +kernel) <|
    z_newI (ty := 10) (aty := .int) 0 (zd (i := .newarray .int) (n := 2) (by decide +kernel)) rfl (by decide +kernel) (by decide +kernel) rfl (fun _ _ h => h) (by decide +kernel) g224 rfl rfl <|
    z_putR (ci := 2) (j := 3) (idx := 22) (zd (i := .putfield 22) (n := 3) (by decide +kernel)) (by decide +kernel) (by decide +kernel) (fun r => by cases r <;> rfl) (fun r => by cases r <;> rfl) rfl g240 (Or.inr ⟨rfl, rfl⟩) <|
    z_aload_n (n := 0) (i := 0) (zd (i := .aload_n 0) (n := 1) (by decide +kernel)) rfl <|
    z_bipush (n := 9) (zd (i := .bipush (9)) (n := 2) (by decide +kernel)) (by decide +kernel) <|
    z_newI (ty := 10) (aty := .int) 0 (zd (i := .newarray .int) (n := 2) (by decide +kernel)) rfl (by decide +kernel) (by decide +kernel) rfl (fun _ _ h => h) (by decide +kernel) g224 rfl rfl <|
    z_putR (ci := 2) (j := 4) (idx := 25) (zd (i := .putfield 25) (n := 3) (by decide +kernel)) (by decide +kernel) (by decide +kernel) (fun r => by cases r <;> rfl) (fun r => by cases r <;> rfl) rfl g241 (Or.inr ⟨rfl, rfl⟩) <|
    z_aload_n (n := 0) (i := 0) (zd (i := .aload_n 0) (n := 1) (by decide +kernel)) rfl <|
    z_bipush (n := 20) (zd (i := .bipush (20)) (n := 2) (by decide +kernel)) (by decide +kernel) <|
    z_newI (ty := 10) (aty := .int) 0 (zd (i := .newarray .int) (n := 2) (by decide +kernel)) rfl (by decide +kernel) (by decide +kernel) rfl (fun _ _ h => h) (by decide +kernel) g224 rfl rfl <|
    z_putR (ci := 2) (j := 5) (idx := 28) (zd (i := .putfield 28) (n := 3) (by decide +kernel)) (by decide +kernel) (by decide +kernel) (fun r => by cases r <;> rfl) (fun r => by cases r <;> rfl) rfl g242 (Or.inr ⟨rfl, rfl⟩) <|
    z_vret (zd (i := .return_) (n := 1) (by decide +kernel)) rfl
noncomputable def f_X2_init : zMt := zmet 1 [b_X2_init_0]
theorem c_X2_init (d : Nat) : zC l G gh (d + 1) n_X2_init f_X2_init := zmet_ok (pcs := p_X2_init) (by decide) rfl rfl ⟨s_X2_init_0 d, trivial⟩
def pi_X2_open : List Nat := [0, 4, 9, 19]
noncomputable def bi_X2_open_0 : zBl := fun jp K => oIld 1 <| oIf zlt zge (jp 3) (jp 1)
theorem si_X2_open_0 (d : Nat) : zPb l G gh (d + 1) n_X2_open pi_X2_open 0 bi_X2_open_0 := fun K jp hj =>
    z_iload_n (n := 1) (i := 1) (zd (i := .iload_n 1) (n := 1) (by decide +kernel)) rfl <|
    z_if_lt (off := 18) (tgt := 19) (zd (i := .ifCond .lt (18)) (n := 3) (by decide +kernel)) (by decide +kernel) (zj (hj 3) (by decide +kernel)) (zj (hj 1) (by decide +kernel))
noncomputable def bi_X2_open_1 : zBl := fun jp K => oIld 1 <| oInt 2147483653 <| oIc zge zlt (jp 3) (jp 2)
theorem si_X2_open_1 (d : Nat) : zPb l G gh (d + 1) n_X2_open pi_X2_open 4 bi_X2_open_1 := fun K jp hj =>
    z_iload_n (n := 1) (i := 1) (zd (i := .iload_n 1) (n := 1) (by decide +kernel)) rfl <|
    z_iconst (n := 5) (zd (i := .iconst (5)) (n := 1) (by decide +kernel)) (by decide +kernel) <|
    z_icmp_ge (off := 13) (tgt := 19) (zd (i := .if_icmp .ge (13)) (n := 3) (by decide +kernel)) (by decide +kernel) (zj (hj 3) (by decide +kernel)) (zj (hj 2) (by decide +kernel))
noncomputable def bi_X2_open_2 : zBl := fun jp K => oAld 0 <| oGetR 2 3 <| oIld 1 <| oAld 0 <| oGetI 2 2 <| oXast 10 zid <| jp 3
theorem si_X2_open_2 (d : Nat) : zPb l G gh (d + 1) n_X2_open pi_X2_open 9 bi_X2_open_2 := fun K jp hj =>
    z_aload_n (n := 0) (i := 0) (zd (i := .aload_n 0) (n := 1) (by decide +kernel)) rfl <|
    z_getR (ci := 2) (j := 3) (idx := 22) (zd (i := .getfield 22) (n := 3) (by decide +kernel)) (by decide +kernel) (by decide +kernel) rfl g240 <|
    z_iload_n (n := 1) (i := 1) (zd (i := .iload_n 1) (n := 1) (by decide +kernel)) rfl <|
    z_aload_n (n := 0) (i := 0) (zd (i := .aload_n 0) (n := 1) (by decide +kernel)) rfl <|
    z_getI (ci := 2) (j := 2) (idx := 18) (zd (i := .getfield 18) (n := 3) (by decide +kernel)) (by decide +kernel) (by decide +kernel) rfl g239 <|
    z_iast (zd (i := .iastore) (n := 1) (by decide +kernel)) <|
    (zj (hj 3) (by decide +kernel))
noncomputable def bi_X2_open_3 : zBl := fun jp K => oVret K
theorem si_X2_open_3 (d : Nat) : zPb l G gh (d + 1) n_X2_open pi_X2_open 19 bi_X2_open_3 := fun K jp hj =>
    z_vret (zd (i := .return_) (n := 1) (by decide +kernel)) rfl
noncomputable def f_X2_open : zMt := zmet 2 [bi_X2_open_0, bi_X2_open_1, bi_X2_open_2, bi_X2_open_3]
theorem c_X2_open (d : Nat) : zC l G gh (d + 1) n_X2_open f_X2_open := zmet_ok (pcs := pi_X2_open) (by decide) rfl rfl ⟨si_X2_open_0 d, si_X2_open_1 d, si_X2_open_2 d, si_X2_open_3 d, trivial⟩
def pi_X2_emit : List Nat := [0, 10, 40]
noncomputable def bi_X2_emit_0 : zBl := fun jp K => oAld 0 <| oGetI 2 2 <| oInt 2147484068 <| oIc zge zlt (jp 2) (jp 1)
theorem si_X2_emit_0 (d : Nat) : zPb l G gh (d + 1) n_X2_emit pi_X2_emit 0 bi_X2_emit_0 := fun K jp hj =>
    z_aload_n (n := 0) (i := 0) (zd (i := .aload_n 0) (n := 1) (by decide +kernel)) rfl <|
    z_getI (ci := 2) (j := 2) (idx := 18) (zd (i := .getfield 18) (n := 3) (by decide +kernel)) (by decide +kernel) (by decide +kernel) rfl g239 <|
    z_sipush (n := 420) (zd (i := .sipush (420)) (n := 3) (by decide +kernel)) (by decide +kernel) <|
    z_icmp_ge (off := 33) (tgt := 40) (zd (i := .if_icmp .ge (33)) (n := 3) (by decide +kernel)) (by decide +kernel) (zj (hj 2) (by decide +kernel)) (zj (hj 1) (by decide +kernel))
noncomputable def bi_X2_emit_1 : zBl := fun jp K => oAld 0 <| oGetR 2 0 <| oAld 0 <| oGetI 2 2 <| oIld 1 <| oXast 10 zid <| oAld 0 <| oGetR 2 1 <| oAld 0 <| oGetI 2 2 <| oIld 2 <| oXast 10 zid <| oAld 0 <| oDup <| oGetI 2 2 <| oInt 2147483649 <| oB2 zadd <| oPutI 2 2 <| jp 2
theorem si_X2_emit_1 (d : Nat) : zPb l G gh (d + 1) n_X2_emit pi_X2_emit 10 bi_X2_emit_1 := fun K jp hj =>
    z_aload_n (n := 0) (i := 0) (zd (i := .aload_n 0) (n := 1) (by decide +kernel)) rfl <|
    z_getR (ci := 2) (j := 0) (idx := 11) (zd (i := .getfield 11) (n := 3) (by decide +kernel)) (by decide +kernel) (by decide +kernel) rfl g237 <|
    z_aload_n (n := 0) (i := 0) (zd (i := .aload_n 0) (n := 1) (by decide +kernel)) rfl <|
    z_getI (ci := 2) (j := 2) (idx := 18) (zd (i := .getfield 18) (n := 3) (by decide +kernel)) (by decide +kernel) (by decide +kernel) rfl g239 <|
    z_iload_n (n := 1) (i := 1) (zd (i := .iload_n 1) (n := 1) (by decide +kernel)) rfl <|
    z_iast (zd (i := .iastore) (n := 1) (by decide +kernel)) <|
    z_aload_n (n := 0) (i := 0) (zd (i := .aload_n 0) (n := 1) (by decide +kernel)) rfl <|
    z_getR (ci := 2) (j := 1) (idx := 15) (zd (i := .getfield 15) (n := 3) (by decide +kernel)) (by decide +kernel) (by decide +kernel) rfl g238 <|
    z_aload_n (n := 0) (i := 0) (zd (i := .aload_n 0) (n := 1) (by decide +kernel)) rfl <|
    z_getI (ci := 2) (j := 2) (idx := 18) (zd (i := .getfield 18) (n := 3) (by decide +kernel)) (by decide +kernel) (by decide +kernel) rfl g239 <|
    z_iload_n (n := 2) (i := 2) (zd (i := .iload_n 2) (n := 1) (by decide +kernel)) rfl <|
    z_iast (zd (i := .iastore) (n := 1) (by decide +kernel)) <|
    z_aload_n (n := 0) (i := 0) (zd (i := .aload_n 0) (n := 1) (by decide +kernel)) rfl <|
    z_dup (zd (i := .dup) (n := 1) (by decide +kernel)) <|
    z_getI (ci := 2) (j := 2) (idx := 18) (zd (i := .getfield 18) (n := 3) (by decide +kernel)) (by decide +kernel) (by decide +kernel) rfl g239 <|
    z_iconst (n := 1) (zd (i := .iconst (1)) (n := 1) (by decide +kernel)) (by decide +kernel) <|
    z_iadd (zd (i := .iadd) (n := 1) (by decide +kernel)) <|
    z_putI (ci := 2) (j := 2) (idx := 18) (zd (i := .putfield 18) (n := 3) (by decide +kernel)) (by decide +kernel) (by decide +kernel) rfl g239 (Or.inl rfl) <|
    (zj (hj 2) (by decide +kernel))
noncomputable def bi_X2_emit_2 : zBl := fun jp K => oAld 0 <| oGetI 2 2 <| oInt 2147483649 <| oB2 zsub <| oIret K
theorem si_X2_emit_2 (d : Nat) : zPb l G gh (d + 1) n_X2_emit pi_X2_emit 40 bi_X2_emit_2 := fun K jp hj =>
    z_aload_n (n := 0) (i := 0) (zd (i := .aload_n 0) (n := 1) (by decide +kernel)) rfl <|
    z_getI (ci := 2) (j := 2) (idx := 18) (zd (i := .getfield 18) (n := 3) (by decide +kernel)) (by decide +kernel) (by decide +kernel) rfl g239 <|
    z_iconst (n := 1) (zd (i := .iconst (1)) (n := 1) (by decide +kernel)) (by decide +kernel) <|
    z_isub (zd (i := .isub) (n := 1) (by decide +kernel)) <|
    z_iret (zd (i := .ireturn) (n := 1) (by decide +kernel)) rfl
noncomputable def f_X2_emit : zMt := zmet 3 [bi_X2_emit_0, bi_X2_emit_1, bi_X2_emit_2]
theorem c_X2_emit (d : Nat) : zC l G gh (d + 1) n_X2_emit f_X2_emit := zmet_ok (pcs := pi_X2_emit) (by decide) rfl rfl ⟨si_X2_emit_0 d, si_X2_emit_1 d, si_X2_emit_2 d, trivial⟩
def pi_X2_openWithVar : List Nat := [0]
noncomputable def bi_X2_openWithVar_0 : zBl := fun jp K => oAld 0 <| oIld 1 <| oCv 2 1 f_X2_open <| oAld 0 <| oInt 2147483649 <| oIld 2 <| oCv 2 2 f_X2_emit <| oPop <| oAld 0 <| oInt 2147483655 <| oInt 2147483648 <| oCv 2 2 f_X2_emit <| oPop <| oVret K
theorem si_X2_openWithVar_0 (d : Nat) : zPb l G gh (d + 2) n_X2_openWithVar pi_X2_openWithVar 0 bi_X2_openWithVar_0 := fun K jp hj =>
    z_aload_n (n := 0) (i := 0) (zd (i := .aload_n 0) (n := 1) (by decide +kernel)) rfl <|
    z_iload_n (n := 1) (i := 1) (zd (i := .iload_n 1) (n := 1) (by decide +kernel)) rfl <|
    z_callV (idx := 35) (ci := 2) (N := n_X2_open) (zd (i := .invokevirtual 35) (n := 3) (by decide +kernel)) to_X2_open g268 g269 g270 (by decide +kernel) rfl rfl rfl (c_X2_open (l := l) (G := G) (gh := gh) d) <|
    z_aload_n (n := 0) (i := 0) (zd (i := .aload_n 0) (n := 1) (by decide +kernel)) rfl <|
    z_iconst (n := 1) (zd (i := .iconst (1)) (n := 1) (by decide +kernel)) (by decide +kernel) <|
    z_iload_n (n := 2) (i := 2) (zd (i := .iload_n 2) (n := 1) (by decide +kernel)) rfl <|
    z_callV (idx := 39) (ci := 2) (N := n_X2_emit) (zd (i := .invokevirtual 39) (n := 3) (by decide +kernel)) to_X2_emit g272 g273 g274 (by decide +kernel) rfl rfl rfl (c_X2_emit (l := l) (G := G) (gh := gh) d) <|
    z_pop (zd (i := .pop) (n := 1) (by decide +kernel)) <|
    z_aload_n (n := 0) (i := 0) (zd (i := .aload_n 0) (n := 1) (by decide +kernel)) rfl <|
    z_bipush (n := 7) (zd (i := .bipush (7)) (n := 2) (by decide +kernel)) (by decide +kernel) <|
    z_iconst (n := 0) (zd (i := .iconst (0)) (n := 1) (by decide +kernel)) (by decide +kernel) <|
    z_callV (idx := 39) (ci := 2) (N := n_X2_emit) (zd (i := .invokevirtual 39) (n := 3) (by decide +kernel)) to_X2_emit g272 g273 g274 (by decide +kernel) rfl rfl rfl (c_X2_emit (l := l) (G := G) (gh := gh) d) <|
    z_pop (zd (i := .pop) (n := 1) (by decide +kernel)) <|
    z_vret (zd (i := .return_) (n := 1) (by decide +kernel)) rfl
noncomputable def f_X2_openWithVar : zMt := zmet 3 [bi_X2_openWithVar_0]
theorem c_X2_openWithVar (d : Nat) : zC l G gh (d + 2) n_X2_openWithVar f_X2_openWithVar := zmet_ok (pcs := pi_X2_openWithVar) (by decide) rfl rfl ⟨si_X2_openWithVar_0 d, trivial⟩
def pi_X2_clear : List Nat := [0, 53]
noncomputable def bi_X2_clear_0 : zBl := fun jp K => oAld 0 <| oInt 2147483648 <| oPutI 2 2 <| oAld 0 <| oInt 2147483648 <| oInt 2147483648 <| oCv 2 2 f_X2_openWithVar <| oAld 0 <| oInt 2147483649 <| oCv 2 1 f_X2_open <| oAld 0 <| oInt 2147483649 <| oInt 2147483650 <| oCv 2 2 f_X2_emit <| oPop <| oAld 0 <| oInt 2147483649 <| oInt 2147483651 <| oCv 2 2 f_X2_emit <| oPop <| oAld 0 <| oInt 2147483651 <| oInt 2147483648 <| oCv 2 2 f_X2_emit <| oPop <| oAld 0 <| oInt 2147483655 <| oInt 2147483648 <| oCv 2 2 f_X2_emit <| oPop <| oAld 0 <| oInt 2147483650 <| oCv 2 1 f_X2_open <| oAld 0 <| oInt 2147483648 <| oInt 2147483648 <| jp 1
theorem si_X2_clear_0 (d : Nat) : zPb l G gh (d + 3) n_X2_clear pi_X2_clear 0 bi_X2_clear_0 := fun K jp hj =>
    z_aload_n (n := 0) (i := 0) (zd (i := .aload_n 0) (n := 1) (by decide +kernel)) rfl <|
    z_iconst (n := 0) (zd (i := .iconst (0)) (n := 1) (by decide +kernel)) (by decide +kernel) <|
    z_putI (ci := 2) (j := 2) (idx := 18) (zd (i := .putfield 18) (n := 3) (by decide +kernel)) (by decide +kernel) (by decide +kernel) rfl g239 (Or.inl rfl) <|
    z_aload_n (n := 0) (i := 0) (zd (i := .aload_n 0) (n := 1) (by decide +kernel)) rfl <|
    z_iconst (n := 0) (zd (i := .iconst (0)) (n := 1) (by decide +kernel)) (by decide +kernel) <|
    z_iconst (n := 0) (zd (i := .iconst (0)) (n := 1) (by decide +kernel)) (by decide +kernel) <|
    z_callV (idx := 31) (ci := 2) (N := n_X2_openWithVar) (zd (i := .invokevirtual 31) (n := 3) (by decide +kernel)) to_X2_openWithVar g264 g266 g0 (by decide +kernel) rfl rfl rfl (c_X2_openWithVar (l := l) (G := G) (gh := gh) d) <|
    z_aload_n (n := 0) (i := 0) (zd (i := .aload_n 0) (n := 1) (by decide +kernel)) rfl <|
    z_iconst (n := 1) (zd (i := .iconst (1)) (n := 1) (by decide +kernel)) (by decide +kernel) <|
    z_callV (idx := 35) (ci := 2) (N := n_X2_open) (zd (i := .invokevirtual 35) (n := 3) (by decide +kernel)) to_X2_open g268 g269 g270 (by decide +kernel) rfl rfl rfl (c_X2_open (l := l) (G := G) (gh := gh) (d + 1)) <|
    z_aload_n (n := 0) (i := 0) (zd (i := .aload_n 0) (n := 1) (by decide +kernel)) rfl <|
    z_iconst (n := 1) (zd (i := .iconst (1)) (n := 1) (by decide +kernel)) (by decide +kernel) <|
    z_iconst (n := 2) (zd (i := .iconst (2)) (n := 1) (by decide +kernel)) (by decide +kernel) <|
    z_callV (idx := 39) (ci := 2) (N := n_X2_emit) (zd (i := .invokevirtual 39) (n := 3) (by decide +kernel)) to_X2_emit g272 g273 g274 (by decide +kernel) rfl rfl rfl (c_X2_emit (l := l) (G := G) (gh := gh) (d + 1)) <|
    z_pop (zd (i := .pop) (n := 1) (by decide +kernel)) <|
    z_aload_n (n := 0) (i := 0) (zd (i := .aload_n 0) (n := 1) (by decide +kernel)) rfl <|
    z_iconst (n := 1) (zd (i := .iconst (1)) (n := 1) (by decide +kernel)) (by decide +kernel) <|
    z_iconst (n := 3) (zd (i := .iconst (3)) (n := 1) (by decide +kernel)) (by decide +kernel) <|
    z_callV (idx := 39) (ci := 2) (N := n_X2_emit) (zd (i := .invokevirtual 39) (n := 3) (by decide +kernel)) to_X2_emit g272 g273 g274 (by decide +kernel) rfl rfl rfl (c_X2_emit (l := l) (G := G) (gh := gh) (d + 1)) <|
    z_pop (zd (i := .pop) (n := 1) (by decide +kernel)) <|
    z_aload_n (n := 0) (i := 0) (zd (i := .aload_n 0) (n := 1) (by decide +kernel)) rfl <|
    z_iconst (n := 3) (zd (i := .iconst (3)) (n := 1) (by decide +kernel)) (by decide +kernel) <|
    z_iconst (n := 0) (zd (i := .iconst (0)) (n := 1) (by decide +kernel)) (by decide +kernel) <|
    z_callV (idx := 39) (ci := 2) (N := n_X2_emit) (zd (i := .invokevirtual 39) (n := 3) (by decide +kernel)) to_X2_emit g272 g273 g274 (by decide +kernel) rfl rfl rfl (c_X2_emit (l := l) (G := G) (gh := gh) (d + 1)) <|
    z_pop (zd (i := .pop) (n := 1) (by decide +kernel)) <|
    z_aload_n (n := 0) (i := 0) (zd (i := .aload_n 0) (n := 1) (by decide +kernel)) rfl <|
    z_bipush (n := 7) (zd (i := .bipush (7)) (n := 2) (by decide +kernel)) (by decide +kernel) <|
    z_iconst (n := 0) (zd (i := .iconst (0)) (n := 1) (by decide +kernel)) (by decide +kernel) <|
    z_callV (idx := 39) (ci := 2) (N := n_X2_emit) (zd (i := .invokevirtual 39) (n := 3) (by decide +kernel)) to_X2_emit g272 g273 g274 (by decide +kernel) rfl rfl rfl (c_X2_emit (l := l) (G := G) (gh := gh) (d + 1)) <|
    z_pop (zd (i := .pop) (n := 1) (by decide +kernel)) <|
    z_aload_n (n := 0) (i := 0) (zd (i := .aload_n 0) (n := 1) (by decide +kernel)) rfl <|
    z_iconst (n := 2) (zd (i := .iconst (2)) (n := 1) (by decide +kernel)) (by decide +kernel) <|
    z_callV (idx := 35) (ci := 2) (N := n_X2_open) (zd (i := .invokevirtual 35) (n := 3) (by decide +kernel)) to_X2_open g268 g269 g270 (by decide +kernel) rfl rfl rfl (c_X2_open (l := l) (G := G) (gh := gh) (d + 1)) <|
    z_aload_n (n := 0) (i := 0) (zd (i := .aload_n 0) (n := 1) (by decide +kernel)) rfl <|
    z_iconst (n := 0) (zd (i := .iconst (0)) (n := 1) (by decide +kernel)) (by decide +kernel) <|
    z_iconst (n := 0) (zd (i := .iconst (0)) (n := 1) (by decide +kernel)) (by decide +kernel) <|
    (zj (hj 1) (by decide +kernel))
noncomputable def bi_X2_clear_1 : zBl := fun jp K => oCv 2 2 f_X2_emit <| oPop <| oAld 0 <| oInt 2147483655 <| oInt 2147483648 <| oCv 2 2 f_X2_emit <| oPop <| oAld 0 <| oInt 2147483651 <| oInt 2147483652 <| oCv 2 2 f_X2_openWithVar <| oAld 0 <| oInt 2147483652 <| oCv 2 1 f_X2_open <| oAld 0 <| oInt 2147483648 <| oInt 2147483648 <| oCv 2 2 f_X2_emit <| oPop <| oAld 0 <| oInt 2147483655 <| oInt 2147483648 <| oCv 2 2 f_X2_emit <| oPop <| oVret K
theorem si_X2_clear_1 (d : Nat) : zPb l G gh (d + 3) n_X2_clear pi_X2_clear 53 bi_X2_clear_1 := fun K jp hj =>
    z_callV (idx := 39) (ci := 2) (N := n_X2_emit) (zd (i := .invokevirtual 39) (n := 3) (by decide +kernel)) to_X2_emit g272 g273 g274 (by decide +kernel) rfl rfl rfl (c_X2_emit (l := l) (G := G) (gh := gh) (d + 1)) <|
    z_pop (zd (i := .pop) (n := 1) (by decide +kernel)) <|
    z_aload_n (n := 0) (i := 0) (zd (i := .aload_n 0) (n := 1) (by decide +kernel)) rfl <|
    z_bipush (n := 7) (zd (i := .bipush (7)) (n := 2) (by decide +kernel)) (by decide +kernel) <|
    z_iconst (n := 0) (zd (i := .iconst (0)) (n := 1) (by decide +kernel)) (by decide +kernel) <|
    z_callV (idx := 39) (ci := 2) (N := n_X2_emit) (zd (i := .invokevirtual 39) (n := 3) (by decide +kernel)) to_X2_emit g272 g273 g274 (by decide +kernel) rfl rfl rfl (c_X2_emit (l := l) (G := G) (gh := gh) (d + 1)) <|
    z_pop (zd (i := .pop) (n := 1) (by decide +kernel)) <|
    z_aload_n (n := 0) (i := 0) (zd (i := .aload_n 0) (n := 1) (by decide +kernel)) rfl <|
    z_iconst (n := 3) (zd (i := .iconst (3)) (n := 1) (by decide +kernel)) (by decide +kernel) <|
    z_iconst (n := 4) (zd (i := .iconst (4)) (n := 1) (by decide +kernel)) (by decide +kernel) <|
    z_callV (idx := 31) (ci := 2) (N := n_X2_openWithVar) (zd (i := .invokevirtual 31) (n := 3) (by decide +kernel)) to_X2_openWithVar g264 g266 g0 (by decide +kernel) rfl rfl rfl (c_X2_openWithVar (l := l) (G := G) (gh := gh) d) <|
    z_aload_n (n := 0) (i := 0) (zd (i := .aload_n 0) (n := 1) (by decide +kernel)) rfl <|
    z_iconst (n := 4) (zd (i := .iconst (4)) (n := 1) (by decide +kernel)) (by decide +kernel) <|
    z_callV (idx := 35) (ci := 2) (N := n_X2_open) (zd (i := .invokevirtual 35) (n := 3) (by decide +kernel)) to_X2_open g268 g269 g270 (by decide +kernel) rfl rfl rfl (c_X2_open (l := l) (G := G) (gh := gh) (d + 1)) <|
    z_aload_n (n := 0) (i := 0) (zd (i := .aload_n 0) (n := 1) (by decide +kernel)) rfl <|
    z_iconst (n := 0) (zd (i := .iconst (0)) (n := 1) (by decide +kernel)) (by decide +kernel) <|
    z_iconst (n := 0) (zd (i := .iconst (0)) (n := 1) (by decide +kernel)) (by decide +kernel) <|
    z_callV (idx := 39) (ci := 2) (N := n_X2_emit) (zd (i := .invokevirtual 39) (n := 3) (by decide +kernel)) to_X2_emit g272 g273 g274 (by decide +kernel) rfl rfl rfl (c_X2_emit (l := l) (G := G) (gh := gh) (d + 1)) <|
    z_pop (zd (i := .pop) (n := 1) (by decide +kernel)) <|
    z_aload_n (n := 0) (i := 0) (zd (i := .aload_n 0) (n := 1) (by decide +kernel)) rfl <|
    z_bipush (n := 7) (zd (i := .bipush (7)) (n := 2) (by decide +kernel)) (by decide +kernel) <|
    z_iconst (n := 0) (zd (i := .iconst (0)) (n := 1) (by decide +kernel)) (by decide +kernel) <|
    z_callV (idx := 39) (ci := 2) (N := n_X2_emit) (zd (i := .invokevirtual 39) (n := 3) (by decide +kernel)) to_X2_emit g272 g273 g274 (by decide +kernel) rfl rfl rfl (c_X2_emit (l := l) (G := G) (gh := gh) (d + 1)) <|
    z_pop (zd (i := .pop) (n := 1) (by decide +kernel)) <|
    z_vret (zd (i := .return_) (n := 1) (by decide +kernel)) rfl
noncomputable def f_X2_clear : zMt := zmet 1 [bi_X2_clear_0, bi_X2_clear_1]
theorem c_X2_clear (d : Nat) : zC l G gh (d + 3) n_X2_clear f_X2_clear := zmet_ok (pcs := pi_X2_clear) (by decide) rfl rfl ⟨si_X2_clear_0 d, si_X2_clear_1 d, trivial⟩
def pi_X0_clear : List Nat := [0]
noncomputable def bi_X0_clear_0 : zBl := fun jp K => oAld 0 <| oInt 2147483648 <| oPutI 0 1 <| oAld 0 <| oInt 2147483648 <| oPutI 0 2 <| oAld 0 <| oInt 2147483648 <| oPutI 0 5 <| oAld 0 <| oInt 2147483672 <| oPutI 0 8 <| oAld 0 <| oInt 2147483648 <| oPutI 0 9 <| oAld 0 <| oInt 2147483648 <| oPutI 0 10 <| oAld 0 <| oInt 2147483648 <| oPutI 0 11 <| oAld 0 <| oGetR 0 12 <| oCv 2 0 f_X2_clear <| oVret K
theorem si_X0_clear_0 (d : Nat) : zPb l G gh (d + 4) n_X0_clear pi_X0_clear 0 bi_X0_clear_0 := fun K jp hj =>
    z_aload_n (n := 0) (i := 0) (zd (i := .aload_n 0) (n := 1) (by decide +kernel)) rfl <|
    z_iconst (n := 0) (zd (i := .iconst (0)) (n := 1) (by decide +kernel)) (by decide +kernel) <|
    z_putI (ci := 0) (j := 1) (idx := 15) (zd (i := .putfield 15) (n := 3) (by decide +kernel)) (by decide +kernel) (by decide +kernel) rfl g277 (Or.inl rfl) <|
    z_aload_n (n := 0) (i := 0) (zd (i := .aload_n 0) (n := 1) (by decide +kernel)) rfl <|
    z_iconst (n := 0) (zd (i := .iconst (0)) (n := 1) (by decide +kernel)) (by decide +kernel) <|
    z_putI (ci := 0) (j := 2) (idx := 19) (zd (i := .putfield 19) (n := 3) (by decide +kernel)) (by decide +kernel) (by decide +kernel) rfl g278 (Or.inl rfl) <|
    z_aload_n (n := 0) (i := 0) (zd (i := .aload_n 0) (n := 1) (by decide +kernel)) rfl <|
    z_iconst (n := 0) (zd (i := .iconst (0)) (n := 1) (by decide +kernel)) (by decide +kernel) <|
    z_putI (ci := 0) (j := 5) (idx := 29) (zd (i := .putfield 29) (n := 3) (by decide +kernel)) (by decide +kernel) (by decide +kernel) rfl g285 (Or.inl rfl) <|
    z_aload_n (n := 0) (i := 0) (zd (i := .aload_n 0) (n := 1) (by decide +kernel)) rfl <|
    z_bipush (n := 24) (zd (i := .bipush (24)) (n := 2) (by decide +kernel)) (by decide +kernel) <|
    z_putI (ci := 0) (j := 8) (idx := 38) (zd (i := .putfield 38) (n := 3) (by decide +kernel)) (by decide +kernel) (by decide +kernel) rfl g293 (Or.inl rfl) <|
    z_aload_n (n := 0) (i := 0) (zd (i := .aload_n 0) (n := 1) (by decide +kernel)) rfl <|
    z_iconst (n := 0) (zd (i := .iconst (0)) (n := 1) (by decide +kernel)) (by decide +kernel) <|
    z_putI (ci := 0) (j := 9) (idx := 41) (zd (i := .putfield 41) (n := 3) (by decide +kernel)) (by decide +kernel) (by decide +kernel) rfl g295 (Or.inl rfl) <|
    z_aload_n (n := 0) (i := 0) (zd (i := .aload_n 0) (n := 1) (by decide +kernel)) rfl <|
    z_iconst (n := 0) (zd (i := .iconst (0)) (n := 1) (by decide +kernel)) (by decide +kernel) <|
    z_putI (ci := 0) (j := 10) (idx := 44) (zd (i := .putfield 44) (n := 3) (by decide +kernel)) (by decide +kernel) (by decide +kernel) rfl g298 (Or.inl rfl) <|
    z_aload_n (n := 0) (i := 0) (zd (i := .aload_n 0) (n := 1) (by decide +kernel)) rfl <|
    z_iconst (n := 0) (zd (i := .iconst (0)) (n := 1) (by decide +kernel)) (by decide +kernel) <|
    z_putI (ci := 0) (j := 11) (idx := 47) (zd (i := .putfield 47) (n := 3) (by decide +kernel)) (by decide +kernel) (by decide +kernel) rfl g301 (Or.inl rfl) <|
    z_aload_n (n := 0) (i := 0) (zd (i := .aload_n 0) (n := 1) (by decide +kernel)) rfl <|
    z_getR (ci := 0) (j := 12) (idx := 53) (zd (i := .getfield 53) (n := 3) (by decide +kernel)) (by decide +kernel) (by decide +kernel) rfl g304 <|
    z_callV (idx := 60) (ci := 2) (N := n_X2_clear) (zd (i := .invokevirtual 60) (n := 3) (by decide +kernel)) to_X2_clear g260 g261 g262 (by decide +kernel) rfl rfl rfl (c_X2_clear (l := l) (G := G) (gh := gh) d) <|
    z_vret (zd (i := .return_) (n := 1) (by decide +kernel)) rfl
noncomputable def f_X0_clear : zMt := zmet 1 [bi_X0_clear_0]
theorem c_X0_clear (d : Nat) : zC l G gh (d + 4) n_X0_clear f_X0_clear := zmet_ok (pcs := pi_X0_clear) (by decide) rfl rfl ⟨si_X0_clear_0 d, trivial⟩
def p_X0_init : List Nat := [0, 66]
noncomputable def b_X0_init_0 : zBl := fun jp K => oAld 0 <| oObj <| oAld 0 <| oInt 2147483660 <| oNewa 13 11 916 <| oPutR 0 0 <| oAld 0 <| oInt 2147483648 <| oPutI 0 1 <| oAld 0 <| oInt 2147483648 <| oPutI 0 2 <| oAld 0 <| oInt 2147483654 <| oNewa 10 11 916 <| oPutR 0 3 <| oAld 0 <| oInt 2147483654 <| oNewa 10 11 916 <| oPutR 0 4 <| oAld 0 <| oInt 2147483648 <| oPutI 0 5 <| oAld 0 <| oInt 2147483654 <| oNewa 10 11 916 <| oPutR 0 6 <| oAld 0 <| oInt 2147483654 <| oNewa 10 11 916 <| oPutR 0 7 <| oAld 0 <| oInt 2147483648 <| oPutI 0 8 <| oAld 0 <| oInt 2147483648 <| jp 1
theorem s_X0_init_0 (d : Nat) : zPb l G gh (d + 5) n_X0_init p_X0_init 0 b_X0_init_0 := fun K jp hj =>
    z_aload_n (n := 0) (i := 0) (zd (i := .aload_n 0) (n := 1) (by decide +kernel)) rfl <|
    z_obj (idx := 3) (zd (i := .invokespecial 3) (n := 3) (by decide +kernel)) g230 g121 g122 <|
    z_aload_n (n := 0) (i := 0) (zd (i := .aload_n 0) (n := 1) (by decide +kernel)) rfl <|
    z_bipush (n := 12) (zd (i := .bipush (12)) (n := 2) (by decide +kernel)) (by decide +kernel) <|
    z_newL (zd (i := .newarray .long) (n := 2) (by decide +kernel)) g223 rfl rfl <|
    z_putR (ci := 0) (j := 0) (idx := 9) (zd (i := .putfield 9) (n := 3) (by decide +kernel)) (by decide +kernel) (by decide +kernel) (fun r => by cases r <;> rfl) (fun r => by cases r <;> rfl) rfl g276 (Or.inr ⟨rfl, rfl⟩) <|
    z_aload_n (n := 0) (i := 0) (zd (i := .aload_n 0) (n := 1) (by decide +kernel)) rfl <|
    z_iconst (n := 0) (zd (i := .iconst (0)) (n := 1) (by decide +kernel)) (by decide +kernel) <|
    z_putI (ci := 0) (j := 1) (idx := 15) (zd (i := .putfield 15) (n := 3) (by decide +kernel)) (by decide +kernel) (by decide +kernel) rfl g277 (Or.inl rfl) <|
    z_aload_n (n := 0) (i := 0) (zd (i := .aload_n 0) (n := 1) (by decide +kernel)) rfl <|
    z_iconst (n := 0) (zd (i := .iconst (0)) (n := 1) (by decide +kernel)) (by decide +kernel) <|
    z_putI (ci := 0) (j := 2) (idx := 19) (zd (i := .putfield 19) (n := 3) (by decide +kernel)) (by decide +kernel) (by decide +kernel) rfl g278 (Or.inl rfl) <|
    z_aload_n (n := 0) (i := 0) (zd (i := .aload_n 0) (n := 1) (by decide +kernel)) rfl <|
    z_bipush (n := 6) (zd (i := .bipush (6)) (n := 2) (by decide +kernel)) (by decide +kernel) <|
    z_newI (ty := 10) (aty := .int) 0 (zd (i := .newarray .int) (n := 2) (by decide +kernel)) rfl (by decide +kernel) (by decide +kernel) rfl (fun _ _ h => h) (by decide +kernel) g224 rfl rfl <|
    z_putR (ci := 0) (j := 3) (idx := 22) (zd (i := .putfield 22) (n := 3) (by decide +kernel)) (by decide +kernel) (by decide +kernel) (fun r => by cases r <;> rfl) (fun r => by cases r <;> rfl) rfl g281 (Or.inr ⟨rfl, rfl⟩) <|
    z_aload_n (n := 0) (i := 0) (zd (i := .aload_n 0) (n := 1) (by decide +kernel)) rfl <|
    z_bipush (n := 6) (zd (i := .bipush (6)) (n := 2) (by decide +kernel)) (by decide +kernel) <|
    z_newI (ty := 10) (aty := .int) 0 (zd (i := .newarray .int) (n := 2) (by decide +kernel)) rfl (by decide +kernel) (by decide +kernel) rfl (fun _ _ h => h) (by decide +kernel) g224 rfl rfl <|
    z_putR (ci := 0) (j := 4) (idx := 26) (zd (i := .putfield 26) (n := 3) (by decide +kernel)) (by decide +kernel) (by decide +kernel) (fun r => by cases r <;> rfl) (fun r => by cases r <;> rfl) rfl g283 (Or.inr ⟨rfl, rfl⟩) <|
    z_aload_n (n := 0) (i := 0) (zd (i := .aload_n 0) (n := 1) (by decide +kernel)) rfl <|
    z_iconst (n := 0) (zd (i := .iconst (0)) (n := 1) (by decide +kernel)) (by decide +kernel) <|
    z_putI (ci := 0) (j := 5) (idx := 29) (zd (i := .putfield 29) (n := 3) (by decide +kernel)) (by decide +kernel) (by decide +kernel) rfl g285 (Or.inl rfl) <|
    z_aload_n (n := 0) (i := 0) (zd (i := .aload_n 0) (n := 1) (by decide +kernel)) rfl <|
    z_bipush (n := 6) (zd (i := .bipush (6)) (n := 2) (by decide +kernel)) (by decide +kernel) <|
    z_newI (ty := 10) (aty := .int) 0 (zd (i := .newarray .int) (n := 2) (by decide +kernel)) rfl (by decide +kernel) (by decide +kernel) rfl (fun _ _ h => h) (by decide +kernel) g224 rfl rfl <|
    z_putR (ci := 0) (j := 6) (idx := 32) (zd (i := .putfield 32) (n := 3) (by decide +kernel)) (by decide +kernel) (by decide +kernel) (fun r => by cases r <;> rfl) (fun r => by cases r <;> rfl) rfl g289 (Or.inr ⟨rfl, rfl⟩) <|
    z_aload_n (n := 0) (i := 0) (zd (i := .aload_n 0) (n := 1) (by decide +kernel)) rfl <|
    z_bipush (n := 6) (zd (i := .bipush (6)) (n := 2) (by decide +kernel)) (by decide +kernel) <|
    z_newI (ty := 10) (aty := .int) 0 (zd (i := .newarray .int) (n := 2) (by decide +kernel)) rfl (by decide +kernel) (by decide +kernel) rfl (fun _ _ h => h) (by decide +kernel) g224 rfl rfl <|
    z_putR (ci := 0) (j := 7) (idx := 35) (zd (i := .putfield 35) (n := 3) (by decide +kernel)) (by decide +kernel) (by decide +kernel) (fun r => by cases r <;> rfl) (fun r => by cases r <;> rfl) rfl g291 (Or.inr ⟨rfl, rfl⟩) <|
    z_aload_n (n := 0) (i := 0) (zd (i := .aload_n 0) (n := 1) (by decide +kernel)) rfl <|
    z_iconst (n := 0) (zd (i := .iconst (0)) (n := 1) (by decide +kernel)) (by decide +kernel) <|
    z_putI (ci := 0) (j := 8) (idx := 38) (zd (i := .putfield 38) (n := 3) (by decide +kernel)) (by decide +kernel) (by decide +kernel) rfl g293 (Or.inl rfl) <|
    z_aload_n (n := 0) (i := 0) (zd (i := .aload_n 0) (n := 1) (by decide +kernel)) rfl <|
    z_iconst (n := 0) (zd (i := .iconst (0)) (n := 1) (by decide +kernel)) (by decide +kernel) <|
    (zj (hj 1) (by decide +kernel))
noncomputable def b_X0_init_1 : zBl := fun jp K => oPutI 0 9 <| oAld 0 <| oInt 2147483648 <| oPutI 0 10 <| oAld 0 <| oInt 2147483648 <| oPutI 0 11 <| oAld 0 <| oNew 2 6 11 916 <| oDup <| oCi 5 874 11 916 f_X2_init <| oPutR 0 12 <| oAld 0 <| oCv 0 0 f_X0_clear <| oVret K
theorem s_X0_init_1 (d : Nat) : zPb l G gh (d + 5) n_X0_init p_X0_init 66 b_X0_init_1 := fun K jp hj =>
    z_putI (ci := 0) (j := 9) (idx := 41) (zd (i := .putfield 41) (n := 3) (by decide +kernel)) (by decide +kernel) (by decide +kernel) rfl g295 (Or.inl rfl) <|
    z_aload_n (n := 0) (i := 0) (zd (i := .aload_n 0) (n := 1) (by decide +kernel)) rfl <|
    z_iconst (n := 0) (zd (i := .iconst (0)) (n := 1) (by decide +kernel)) (by decide +kernel) <|
    z_putI (ci := 0) (j := 10) (idx := 44) (zd (i := .putfield 44) (n := 3) (by decide +kernel)) (by decide +kernel) (by decide +kernel) rfl g298 (Or.inl rfl) <|
    z_aload_n (n := 0) (i := 0) (zd (i := .aload_n 0) (n := 1) (by decide +kernel)) rfl <|
    z_iconst (n := 0) (zd (i := .iconst (0)) (n := 1) (by decide +kernel)) (by decide +kernel) <|
    z_putI (ci := 0) (j := 11) (idx := 47) (zd (i := .putfield 47) (n := 3) (by decide +kernel)) (by decide +kernel) (by decide +kernel) rfl g301 (Or.inl rfl) <|
    z_aload_n (n := 0) (i := 0) (zd (i := .aload_n 0) (n := 1) (by decide +kernel)) rfl <|
    z_new (idx := 50) (ci := 2) (zd (i := .new 50) (n := 3) (by decide +kernel)) (by decide +kernel) rfl (by decide +kernel) g231 g232 g106 rfl rfl <|
    z_dup (zd (i := .dup) (n := 1) (by decide +kernel)) <|
    z_callI (idx := 52) (zd (i := .invokespecial 52) (n := 3) (by decide +kernel)) to_X2_init (Or.inr ⟨"MirageLoans", (by decide +kernel)⟩) g234 rfl rfl rfl (c_X2_init (l := l) (G := G) (gh := gh) (d + 3)) <|
    z_putR (ci := 0) (j := 12) (idx := 53) (zd (i := .putfield 53) (n := 3) (by decide +kernel)) (by decide +kernel) (by decide +kernel) (fun r => by cases r <;> rfl) (fun r => by cases r <;> rfl) rfl g304 (Or.inr ⟨rfl, rfl⟩) <|
    z_aload_n (n := 0) (i := 0) (zd (i := .aload_n 0) (n := 1) (by decide +kernel)) rfl <|
    z_callV (idx := 57) (ci := 0) (N := n_X0_clear) (zd (i := .invokevirtual 57) (n := 3) (by decide +kernel)) to_X0_clear g256 g257 g258 (by decide +kernel) rfl rfl rfl (c_X0_clear (l := l) (G := G) (gh := gh) d) <|
    z_vret (zd (i := .return_) (n := 1) (by decide +kernel)) rfl
noncomputable def f_X0_init : zMt := zmet 1 [b_X0_init_0, b_X0_init_1]
theorem c_X0_init (d : Nat) : zC l G gh (d + 5) n_X0_init f_X0_init := zmet_ok (pcs := p_X0_init) (by decide) rfl rfl ⟨s_X0_init_0 d, s_X0_init_1 d, trivial⟩
def p_X1_init : List Nat := [0]
noncomputable def b_X1_init_0 : zBl := fun jp K => oAld 0 <| oObj <| oAld 0 <| oNew 6 5 17 2160 <| oDup <| oCi 4 1226 17 2160 f_X6_init <| oPutR 1 0 <| oAld 0 <| oNew 0 13 17 2160 <| oDup <| oCi 11 916 17 2160 f_X0_init <| oPutR 1 1 <| oAld 0 <| oInt 2147483648 <| oPutI 1 2 <| oAld 0 <| oInt 2147483648 <| oPutI 1 3 <| oAld 0 <| oInt 2147483648 <| oPutI 1 4 <| oAld 0 <| oInt 2147483647 <| oPutI 1 5 <| oAld 0 <| oInt 2147483648 <| oPutI 1 6 <| oAld 0 <| oInt 2147483647 <| oPutI 1 7 <| oVret K
theorem s_X1_init_0 (d : Nat) : zPb l G gh (d + 6) n_X1_init p_X1_init 0 b_X1_init_0 := fun K jp hj =>
    z_aload_n (n := 0) (i := 0) (zd (i := .aload_n 0) (n := 1) (by decide +kernel)) rfl <|
    z_obj (idx := 3) (zd (i := .invokespecial 3) (n := 3) (by decide +kernel)) g144 g121 g122 <|
    z_aload_n (n := 0) (i := 0) (zd (i := .aload_n 0) (n := 1) (by decide +kernel)) rfl <|
    z_new (idx := 9) (ci := 6) (zd (i := .new 9) (n := 3) (by decide +kernel)) (by decide +kernel) rfl (by decide +kernel) g145 g146 g100 rfl rfl <|
    z_dup (zd (i := .dup) (n := 1) (by decide +kernel)) <|
    z_callI (idx := 11) (zd (i := .invokespecial 11) (n := 3) (by decide +kernel)) to_X6_init (Or.inl g147) g148 rfl rfl rfl (c_X6_init (l := l) (G := G) (gh := gh) d) <|
    z_putR (ci := 1) (j := 0) (idx := 12) (zd (i := .putfield 12) (n := 3) (by decide +kernel)) (by decide +kernel) (by decide +kernel) (fun r => by cases r <;> rfl) (fun r => by cases r <;> rfl) rfl g335 (Or.inr ⟨rfl, rfl⟩) <|
    z_aload_n (n := 0) (i := 0) (zd (i := .aload_n 0) (n := 1) (by decide +kernel)) rfl <|
    z_new (idx := 18) (ci := 0) (zd (i := .new 18) (n := 3) (by decide +kernel)) (by decide +kernel) rfl (by decide +kernel) g225 g226 g105 rfl rfl <|
    z_dup (zd (i := .dup) (n := 1) (by decide +kernel)) <|
    z_callI (idx := 20) (zd (i := .invokespecial 20) (n := 3) (by decide +kernel)) to_X0_init (Or.inl g227) g228 rfl rfl rfl (c_X0_init (l := l) (G := G) (gh := gh) d) <|
    z_putR (ci := 1) (j := 1) (idx := 21) (zd (i := .putfield 21) (n := 3) (by decide +kernel)) (by decide +kernel) (by decide +kernel) (fun r => by cases r <;> rfl) (fun r => by cases r <;> rfl) rfl g336 (Or.inl rfl) <|
    z_aload_n (n := 0) (i := 0) (zd (i := .aload_n 0) (n := 1) (by decide +kernel)) rfl <|
    z_iconst (n := 0) (zd (i := .iconst (0)) (n := 1) (by decide +kernel)) (by decide +kernel) <|
    z_putI (ci := 1) (j := 2) (idx := 25) (zd (i := .putfield 25) (n := 3) (by decide +kernel)) (by decide +kernel) (by decide +kernel) rfl g337 (Or.inl rfl) <|
    z_aload_n (n := 0) (i := 0) (zd (i := .aload_n 0) (n := 1) (by decide +kernel)) rfl <|
    z_iconst (n := 0) (zd (i := .iconst (0)) (n := 1) (by decide +kernel)) (by decide +kernel) <|
    z_putI (ci := 1) (j := 3) (idx := 29) (zd (i := .putfield 29) (n := 3) (by decide +kernel)) (by decide +kernel) (by decide +kernel) rfl g338 (Or.inl rfl) <|
    z_aload_n (n := 0) (i := 0) (zd (i := .aload_n 0) (n := 1) (by decide +kernel)) rfl <|
    z_iconst (n := 0) (zd (i := .iconst (0)) (n := 1) (by decide +kernel)) (by decide +kernel) <|
    z_putI (ci := 1) (j := 4) (idx := 32) (zd (i := .putfield 32) (n := 3) (by decide +kernel)) (by decide +kernel) (by decide +kernel) rfl g339 (Or.inl rfl) <|
    z_aload_n (n := 0) (i := 0) (zd (i := .aload_n 0) (n := 1) (by decide +kernel)) rfl <|
    z_iconst (n := -1) (zd (i := .iconst (-1)) (n := 1) (by decide +kernel)) (by decide +kernel) <|
    z_putI (ci := 1) (j := 5) (idx := 35) (zd (i := .putfield 35) (n := 3) (by decide +kernel)) (by decide +kernel) (by decide +kernel) rfl g340 (Or.inl rfl) <|
    z_aload_n (n := 0) (i := 0) (zd (i := .aload_n 0) (n := 1) (by decide +kernel)) rfl <|
    z_iconst (n := 0) (zd (i := .iconst (0)) (n := 1) (by decide +kernel)) (by decide +kernel) <|
    z_putI (ci := 1) (j := 6) (idx := 38) (zd (i := .putfield 38) (n := 3) (by decide +kernel)) (by decide +kernel) (by decide +kernel) rfl g342 (Or.inl rfl) <|
    z_aload_n (n := 0) (i := 0) (zd (i := .aload_n 0) (n := 1) (by decide +kernel)) rfl <|
    z_iconst (n := -1) (zd (i := .iconst (-1)) (n := 1) (by decide +kernel)) (by decide +kernel) <|
    z_putI (ci := 1) (j := 7) (idx := 41) (zd (i := .putfield 41) (n := 3) (by decide +kernel)) (by decide +kernel) (by decide +kernel) rfl g343 (Or.inl rfl) <|
    z_vret (zd (i := .return_) (n := 1) (by decide +kernel)) rfl
noncomputable def f_X1_init : zMt := zmet 1 [b_X1_init_0]
theorem c_X1_init (d : Nat) : zC l G gh (d + 6) n_X1_init f_X1_init := zmet_ok (pcs := p_X1_init) (by decide) rfl rfl ⟨s_X1_init_0 d, trivial⟩
def p_X4_init : List Nat := [0]
noncomputable def b_X4_init_0 : zBl := fun jp K => oAld 0 <| oObj <| oAld 0 <| oInt 2147483648 <| oPutI 4 0 <| oAld 0 <| oInt 2147483654 <| oNewa 10 6 96 <| oPutR 4 1 <| oAld 0 <| oInt 2147483654 <| oNewa 10 6 96 <| oPutR 4 2 <| oAld 0 <| oInt 2147483654 <| oNewa 10 6 96 <| oPutR 4 3 <| oAld 0 <| oInt 2147483654 <| oNewa 10 6 96 <| oPutR 4 4 <| oAld 0 <| oInt 2147483684 <| oNewa 10 6 96 <| oPutR 4 5 <| oAld 0 <| oInt 2147483684 <| oNewa 10 6 96 <| oPutR 4 6 <| oVret K
theorem s_X4_init_0 (d : Nat) : zPb l G gh (d + 1) n_X4_init p_X4_init 0 b_X4_init_0 := fun K jp hj =>
    z_aload_n (n := 0) (i := 0) (zd (i := .aload_n 0) (n := 1) (by decide +kernel)) rfl <|
    z_obj (idx := 3) (zd (i := .invokespecial 3) (n := 3) (by decide +kernel)) g366 g121 g122 <|
    z_aload_n (n := 0) (i := 0) (zd (i := .aload_n 0) (n := 1) (by decide +kernel)) rfl <|
    z_iconst (n := 0) (zd (i := .iconst (0)) (n := 1) (by decide +kernel)) (by decide +kernel) <|
    z_putI (ci := 4) (j := 0) (idx := 9) (zd (i := .putfield 9) (n := 3) (by decide +kernel)) (by decide +kernel) (by decide +kernel) rfl g367 (Or.inl rfl) <|
    z_aload_n (n := 0) (i := 0) (zd (i := .aload_n 0) (n := 1) (by decide +kernel)) rfl <|
    z_bipush (n := 6) (zd (i := .bipush (6)) (n := 2) (by decide +kernel)) (by decide +kernel) <|
    z_newI (ty := 10) (aty := .int) 0 (zd (i := .newarray .int) (n := 2) (by decide +kernel)) rfl (by decide +kernel) (by decide +kernel) rfl (fun _ _ h => h) (by decide +kernel) g224 rfl rfl <|
    z_putR (ci := 4) (j := 1) (idx := 15) (zd (i := .putfield 15) (n := 3) (by decide +kernel)) (by decide +kernel) (by decide +kernel) (fun r => by cases r <;> rfl) (fun r => by cases r <;> rfl) rfl g370 (Or.inr ⟨rfl, rfl⟩) <|
    z_aload_n (n := 0) (i := 0) (zd (i := .aload_n 0) (n := 1) (by decide +kernel)) rfl <|
    z_bipush (n := 6) (zd (i := .bipush (6)) (n := 2) (by decide +kernel)) (by decide +kernel) <|
    z_newI (ty := 10) (aty := .int) 0 (zd (i := .newarray .int) (n := 2) (by decide +kernel)) rfl (by decide +kernel) (by decide +kernel) rfl (fun _ _ h => h) (by decide +kernel) g224 rfl rfl <|
    z_putR (ci := 4) (j := 2) (idx := 19) (zd (i := .putfield 19) (n := 3) (by decide +kernel)) (by decide +kernel) (by decide +kernel) (fun r => by cases r <;> rfl) (fun r => by cases r <;> rfl) rfl g373 (Or.inr ⟨rfl, rfl⟩) <|
    z_aload_n (n := 0) (i := 0) (zd (i := .aload_n 0) (n := 1) (by decide +kernel)) rfl <|
    z_bipush (n := 6) (zd (i := .bipush (6)) (n := 2) (by decide +kernel)) (by decide +kernel) <|
    z_newI (ty := 10) (aty := .int) 0 (zd (i := .newarray .int) (n := 2) (by decide +kernel)) rfl (by decide +kernel) (by decide +kernel) rfl (fun _ _ h => h) (by decide +kernel) g224 rfl rfl <|
    z_putR (ci := 4) (j := 3) (idx := 22) (zd (i := .putfield 22) (n := 3) (by decide +kernel)) (by decide +kernel) (by decide +kernel) (fun r => by cases r <;> rfl) (fun r => by cases r <;> rfl) rfl g376 (Or.inr ⟨rfl, rfl⟩) <|
    z_aload_n (n := 0) (i := 0) (zd (i := .aload_n 0) (n := 1) (by decide +kernel)) rfl <|
    z_bipush (n := 6) (zd (i := .bipush (6)) (n := 2) (by decide +kernel)) (by decide +kernel) <|
    z_newI (ty := 10) (aty := .int) 0 (zd (i := .newarray .int) (n := 2) (by decide +kernel)) rfl (by decide +kernel) (by decide +kernel) rfl (fun _ _ h => h) (by decide +kernel) g224 rfl rfl <|
    z_putR (ci := 4) (j := 4) (idx := 25) (zd (i := .putfield 25) (n := 3) (by decide +kernel)) (by decide +kernel) (by decide +kernel) (fun r => by cases r <;> rfl) (fun r => by cases r <;> rfl) rfl g379 (Or.inr ⟨rfl, rfl⟩) <|
    z_aload_n (n := 0) (i := 0) (zd (i := .aload_n 0) (n := 1) (by decide +kernel)) rfl <|
    z_bipush (n := 36) (zd (i := .bipush (36)) (n := 2) (by decide +kernel)) (by decide +kernel) <|
    z_newI (ty := 10) (aty := .int) 0 (zd (i := .newarray .int) (n := 2) (by decide +kernel)) rfl (by decide +kernel) (by decide +kernel) rfl (fun _ _ h => h) (by decide +kernel) g224 rfl rfl <|
    z_putR (ci := 4) (j := 5) (idx := 28) (zd (i := .putfield 28) (n := 3) (by decide +kernel)) (by decide +kernel) (by decide +kernel) (fun r => by cases r <;> rfl) (fun r => by cases r <;> rfl) rfl g382 (Or.inr ⟨rfl, rfl⟩) <|
    z_aload_n (n := 0) (i := 0) (zd (i := .aload_n 0) (n := 1) (by decide +kernel)) rfl <|
    z_bipush (n := 36) (zd (i := .bipush (36)) (n := 2) (by decide +kernel)) (by decide +kernel) <|
    z_newI (ty := 10) (aty := .int) 0 (zd (i := .newarray .int) (n := 2) (by decide +kernel)) rfl (by decide +kernel) (by decide +kernel) rfl (fun _ _ h => h) (by decide +kernel) g224 rfl rfl <|
    z_putR (ci := 4) (j := 6) (idx := 31) (zd (i := .putfield 31) (n := 3) (by decide +kernel)) (by decide +kernel) (by decide +kernel) (fun r => by cases r <;> rfl) (fun r => by cases r <;> rfl) rfl g385 (Or.inr ⟨rfl, rfl⟩) <|
    z_vret (zd (i := .return_) (n := 1) (by decide +kernel)) rfl
noncomputable def f_X4_init : zMt := zmet 1 [b_X4_init_0]
theorem c_X4_init (d : Nat) : zC l G gh (d + 1) n_X4_init f_X4_init := zmet_ok (pcs := p_X4_init) (by decide) rfl rfl ⟨s_X4_init_0 d, trivial⟩
def p_X3_init : List Nat := [0, 25, 31, 50]
noncomputable def b_X3_init_0 : zBl := fun jp K => oAld 0 <| oObj <| oAld 0 <| oInt 2147483678 <| oNewa 14 211 3120 <| oPutR 3 0 <| oAld 0 <| oInt 2147483648 <| oPutI 3 1 <| oAld 0 <| oInt 2147483648 <| oPutI 3 2 <| oInt 2147483648 <| oIst 1 <| jp 1
theorem s_X3_init_0 (d : Nat) : zPb l G gh (d + 2) n_X3_init p_X3_init 0 b_X3_init_0 := fun K jp hj =>
    z_aload_n (n := 0) (i := 0) (zd (i := .aload_n 0) (n := 1) (by decide +kernel)) rfl <|
    z_obj (idx := 1) (zd (i := .invokespecial 1) (n := 3) (by decide +kernel)) g408 g121 g122 <|
    z_aload_n (n := 0) (i := 0) (zd (i := .aload_n 0) (n := 1) (by decide +kernel)) rfl <|
    z_bipush (n := 30) (zd (i := .bipush (30)) (n := 2) (by decide +kernel)) (by decide +kernel) <|
    z_newR (idx := 9) (zd (i := .anewarray 9) (n := 3) (by decide +kernel)) g409 rfl rfl <|
    z_putR (ci := 3) (j := 0) (idx := 11) (zd (i := .putfield 11) (n := 3) (by decide +kernel)) (by decide +kernel) (by decide +kernel) (fun r => by cases r <;> rfl) (fun r => by cases r <;> rfl) rfl g412 (Or.inr ⟨rfl, rfl⟩) <|
    z_aload_n (n := 0) (i := 0) (zd (i := .aload_n 0) (n := 1) (by decide +kernel)) rfl <|
    z_iconst (n := 0) (zd (i := .iconst (0)) (n := 1) (by decide +kernel)) (by decide +kernel) <|
    z_putI (ci := 3) (j := 1) (idx := 15) (zd (i := .putfield 15) (n := 3) (by decide +kernel)) (by decide +kernel) (by decide +kernel) rfl g413 (Or.inl rfl) <|
    z_aload_n (n := 0) (i := 0) (zd (i := .aload_n 0) (n := 1) (by decide +kernel)) rfl <|
    z_iconst (n := 0) (zd (i := .iconst (0)) (n := 1) (by decide +kernel)) (by decide +kernel) <|
    z_putI (ci := 3) (j := 2) (idx := 19) (zd (i := .putfield 19) (n := 3) (by decide +kernel)) (by decide +kernel) (by decide +kernel) rfl g414 (Or.inl rfl) <|
    z_iconst (n := 0) (zd (i := .iconst (0)) (n := 1) (by decide +kernel)) (by decide +kernel) <|
    z_istore_n (n := 1) (i := 1) (zd (i := .istore_n 1) (n := 1) (by decide +kernel)) rfl (by decide +kernel) <|
    (zj (hj 1) (by decide +kernel))
noncomputable def b_X3_init_1 : zBl := fun jp K => oIld 1 <| oInt 2147483678 <| oIc zge zlt (jp 3) (jp 2)
theorem s_X3_init_1 (d : Nat) : zPb l G gh (d + 2) n_X3_init p_X3_init 25 b_X3_init_1 := fun K jp hj =>
    z_iload_n (n := 1) (i := 1) (zd (i := .iload_n 1) (n := 1) (by decide +kernel)) rfl <|
    z_bipush (n := 30) (zd (i := .bipush (30)) (n := 2) (by decide +kernel)) (by decide +kernel) <|
    z_icmp_ge (off := 22) (tgt := 50) (zd (i := .if_icmp .ge (22)) (n := 3) (by decide +kernel)) (by decide +kernel) (zj (hj 3) (by decide +kernel)) (zj (hj 2) (by decide +kernel))
noncomputable def b_X3_init_2 : zBl := fun jp K => oAld 0 <| oGetR 3 0 <| oIld 1 <| oNew 4 7 211 3120 <| oDup <| oCi 6 96 211 3120 f_X4_init <| oAast <| oInc 1 2147483649 <| jp 1
theorem s_X3_init_2 (d : Nat) : zPb l G gh (d + 2) n_X3_init p_X3_init 31 b_X3_init_2 := fun K jp hj =>
    z_aload_n (n := 0) (i := 0) (zd (i := .aload_n 0) (n := 1) (by decide +kernel)) rfl <|
    z_getR (ci := 3) (j := 0) (idx := 11) (zd (i := .getfield 11) (n := 3) (by decide +kernel)) (by decide +kernel) (by decide +kernel) rfl g412 <|
    z_iload_n (n := 1) (i := 1) (zd (i := .iload_n 1) (n := 1) (by decide +kernel)) rfl <|
    z_new (idx := 9) (ci := 4) (zd (i := .new 9) (n := 3) (by decide +kernel)) (by decide +kernel) rfl (by decide +kernel) g409 g362 g107 rfl rfl <|
    z_dup (zd (i := .dup) (n := 1) (by decide +kernel)) <|
    z_callI (idx := 22) (zd (i := .invokespecial 22) (n := 3) (by decide +kernel)) to_X4_init (Or.inr ⟨"MirageLoans", (by decide +kernel)⟩) g364 rfl rfl rfl (c_X4_init (l := l) (G := G) (gh := gh) d) <|
    z_aast (zd (i := .aastore) (n := 1) (by decide +kernel)) <|
    z_iinc (i := 1) (n := 1) (zd (i := .iinc 1 (1)) (n := 3) (by decide +kernel)) (by decide +kernel) (by decide +kernel) <|
    z_goto (off := -22) (tgt := 25) (zd (i := .goto (-22)) (n := 3) (by decide +kernel)) (by decide +kernel) (zj (hj 1) (by decide +kernel))
noncomputable def b_X3_init_3 : zBl := fun jp K => oVret K
theorem s_X3_init_3 (d : Nat) : zPb l G gh (d + 2) n_X3_init p_X3_init 50 b_X3_init_3 := fun K jp hj =>
    z_vret (zd (i := .return_) (n := 1) (by decide +kernel)) rfl
noncomputable def f_X3_init : zMt := zmet 2 [b_X3_init_0, b_X3_init_1, b_X3_init_2, b_X3_init_3]
theorem c_X3_init (d : Nat) : zC l G gh (d + 2) n_X3_init f_X3_init := zmet_ok (pcs := p_X3_init) (by decide) rfl rfl ⟨s_X3_init_0 d, s_X3_init_1 d, s_X3_init_2 d, s_X3_init_3 d, trivial⟩
def p_X7_init : List Nat := [0]
noncomputable def b_X7_init_0 : zBl := fun jp K => oAld 0 <| oObj <| oAld 0 <| oInt 2147483648 <| oPutI 7 0 <| oAld 0 <| oInt 2147483668 <| oNewa 10 5 261 <| oPutR 7 1 <| oAld 0 <| oInt 2147483668 <| oNewa 10 5 261 <| oPutR 7 2 <| oAld 0 <| oInt 2147483668 <| oNewa 10 5 261 <| oPutR 7 3 <| oAld 0 <| oInt 2147483828 <| oNewa 12 5 261 <| oPutR 7 4 <| oAld 0 <| oInt 2147483669 <| oNewa 10 5 261 <| oPutR 7 5 <| oVret K
theorem s_X7_init_0 (d : Nat) : zPb l G gh (d + 1) n_X7_init p_X7_init 0 b_X7_init_0 := fun K jp hj =>
    z_aload_n (n := 0) (i := 0) (zd (i := .aload_n 0) (n := 1) (by decide +kernel)) rfl <|
    z_obj (idx := 3) (zd (i := .invokespecial 3) (n := 3) (by decide +kernel)) g428 g121 g122 <|
    z_aload_n (n := 0) (i := 0) (zd (i := .aload_n 0) (n := 1) (by decide +kernel)) rfl <|
    z_iconst (n := 0) (zd (i := .iconst (0)) (n := 1) (by decide +kernel)) (by decide +kernel) <|
    z_putI (ci := 7) (j := 0) (idx := 9) (zd (i := .putfield 9) (n := 3) (by decide +kernel)) (by decide +kernel) (by decide +kernel) rfl g429 (Or.inl rfl) <|
    z_aload_n (n := 0) (i := 0) (zd (i := .aload_n 0) (n := 1) (by decide +kernel)) rfl <|
    z_bipush (n := 20) (zd (i := .bipush (20)) (n := 2) (by decide +kernel)) (by decide +kernel) <|
    z_newI (ty := 10) (aty := .int) 0 (zd (i := .newarray .int) (n := 2) (by decide +kernel)) rfl (by decide +kernel) (by decide +kernel) rfl (fun _ _ h => h) (by decide +kernel) g224 rfl rfl <|
    z_putR (ci := 7) (j := 1) (idx := 15) (zd (i := .putfield 15) (n := 3) (by decide +kernel)) (by decide +kernel) (by decide +kernel) (fun r => by cases r <;> rfl) (fun r => by cases r <;> rfl) rfl g431 (Or.inr ⟨rfl, rfl⟩) <|
    z_aload_n (n := 0) (i := 0) (zd (i := .aload_n 0) (n := 1) (by decide +kernel)) rfl <|
    z_bipush (n := 20) (zd (i := .bipush (20)) (n := 2) (by decide +kernel)) (by decide +kernel) <|
    z_newI (ty := 10) (aty := .int) 0 (zd (i := .newarray .int) (n := 2) (by decide +kernel)) rfl (by decide +kernel) (by decide +kernel) rfl (fun _ _ h => h) (by decide +kernel) g224 rfl rfl <|
    z_putR (ci := 7) (j := 2) (idx := 19) (zd (i := .putfield 19) (n := 3) (by decide +kernel)) (by decide +kernel) (by decide +kernel) (fun r => by cases r <;> rfl) (fun r => by cases r <;> rfl) rfl g432 (Or.inr ⟨rfl, rfl⟩) <|
    z_aload_n (n := 0) (i := 0) (zd (i := .aload_n 0) (n := 1) (by decide +kernel)) rfl <|
    z_bipush (n := 20) (zd (i := .bipush (20)) (n := 2) (by decide +kernel)) (by decide +kernel) <|
    z_newI (ty := 10) (aty := .int) 0 (zd (i := .newarray .int) (n := 2) (by decide +kernel)) rfl (by decide +kernel) (by decide +kernel) rfl (fun _ _ h => h) (by decide +kernel) g224 rfl rfl <|
    z_putR (ci := 7) (j := 3) (idx := 22) (zd (i := .putfield 22) (n := 3) (by decide +kernel)) (by decide +kernel) (by decide +kernel) (fun r => by cases r <;> rfl) (fun r => by cases r <;> rfl) rfl g433 (Or.inr ⟨rfl, rfl⟩) <|
    z_aload_n (n := 0) (i := 0) (zd (i := .aload_n 0) (n := 1) (by decide +kernel)) rfl <|
    z_sipush (n := 180) (zd (i := .sipush (180)) (n := 3) (by decide +kernel)) (by decide +kernel) <|
    z_newI (ty := 12) (aty := .boolean) 2 (zd (i := .newarray .boolean) (n := 2) (by decide +kernel)) rfl (by decide +kernel) (by decide +kernel) rfl (fun _ _ h => h) (by decide +kernel) g449 rfl rfl <|
    z_putR (ci := 7) (j := 4) (idx := 25) (zd (i := .putfield 25) (n := 3) (by decide +kernel)) (by decide +kernel) (by decide +kernel) (fun r => by cases r <;> rfl) (fun r => by cases r <;> rfl) rfl g434 (Or.inr ⟨rfl, rfl⟩) <|
    z_aload_n (n := 0) (i := 0) (zd (i := .aload_n 0) (n := 1) (by decide +kernel)) rfl <|
    z_bipush (n := 21) (zd (i := .bipush (21)) (n := 2) (by decide +kernel)) (by decide +kernel) <|
    z_newI (ty := 10) (aty := .int) 0 (zd (i := .newarray .int) (n := 2) (by decide +kernel)) rfl (by decide +kernel) (by decide +kernel) rfl (fun _ _ h => h) (by decide +kernel) g224 rfl rfl <|
    z_putR (ci := 7) (j := 5) (idx := 29) (zd (i := .putfield 29) (n := 3) (by decide +kernel)) (by decide +kernel) (by decide +kernel) (fun r => by cases r <;> rfl) (fun r => by cases r <;> rfl) rfl g435 (Or.inr ⟨rfl, rfl⟩) <|
    z_vret (zd (i := .return_) (n := 1) (by decide +kernel)) rfl
noncomputable def f_X7_init : zMt := zmet 1 [b_X7_init_0]
theorem c_X7_init (d : Nat) : zC l G gh (d + 1) n_X7_init f_X7_init := zmet_ok (pcs := p_X7_init) (by decide) rfl rfl ⟨s_X7_init_0 d, trivial⟩
def p_X8_init : List Nat := [0, 75, 133, 138, 157]
noncomputable def b_X8_init_0 : zBl := fun jp K => oAld 0 <| oObj <| oAld 0 <| oNew 5 2 291 9072 <| oDup <| oCi 1 2000 291 9072 f_X5_init <| oPutR 8 0 <| oAld 0 <| oNew 1 8 291 9072 <| oDup <| oCi 17 2160 291 9072 f_X1_init <| oPutR 8 1 <| oAld 0 <| oNew 4 7 291 9072 <| oDup <| oCi 6 96 291 9072 f_X4_init <| oPutR 8 2 <| oAld 0 <| oNew 4 7 291 9072 <| oDup <| oCi 6 96 291 9072 f_X4_init <| oPutR 8 3 <| oAld 0 <| oNew 3 3 291 9072 <| oDup <| oCi 211 3120 291 9072 f_X3_init <| oPutR 8 4 <| oAld 0 <| oInt 2147483651 <| oNewa 14 291 9072 <| oPutR 8 5 <| oAld 0 <| oInt 2147483651 <| oNewa 12 291 9072 <| oPutR 8 6 <| oAld 0 <| jp 1
theorem s_X8_init_0 (d : Nat) : zPb l G gh (d + 7) n_X8_init p_X8_init 0 b_X8_init_0 := fun K jp hj =>
    z_aload_n (n := 0) (i := 0) (zd (i := .aload_n 0) (n := 1) (by decide +kernel)) rfl <|
    z_obj (idx := 3) (zd (i := .invokespecial 3) (n := 3) (by decide +kernel)) g120 g121 g122 <|
    z_aload_n (n := 0) (i := 0) (zd (i := .aload_n 0) (n := 1) (by decide +kernel)) rfl <|
    z_new (idx := 9) (ci := 5) (zd (i := .new 9) (n := 3) (by decide +kernel)) (by decide +kernel) rfl (by decide +kernel) g123 g124 g98 rfl rfl <|
    z_dup (zd (i := .dup) (n := 1) (by decide +kernel)) <|
    z_callI (idx := 11) (zd (i := .invokespecial 11) (n := 3) (by decide +kernel)) to_X5_init (Or.inr ⟨"MirageLoans", (by decide +kernel)⟩) g126 rfl rfl rfl (c_X5_init (l := l) (G := G) (gh := gh) (d + 5)) <|
    z_putR (ci := 8) (j := 0) (idx := 12) (zd (i := .putfield 12) (n := 3) (by decide +kernel)) (by decide +kernel) (by decide +kernel) (fun r => by cases r <;> rfl) (fun r => by cases r <;> rfl) rfl g452 (Or.inr ⟨rfl, rfl⟩) <|
    z_aload_n (n := 0) (i := 0) (zd (i := .aload_n 0) (n := 1) (by decide +kernel)) rfl <|
    z_new (idx := 16) (ci := 1) (zd (i := .new 16) (n := 3) (by decide +kernel)) (by decide +kernel) rfl (by decide +kernel) g139 g140 g99 rfl rfl <|
    z_dup (zd (i := .dup) (n := 1) (by decide +kernel)) <|
    z_callI (idx := 18) (zd (i := .invokespecial 18) (n := 3) (by decide +kernel)) to_X1_init (Or.inr ⟨"MirageLoans", (by decide +kernel)⟩) g142 rfl rfl rfl (c_X1_init (l := l) (G := G) (gh := gh) d) <|
    z_putR (ci := 8) (j := 1) (idx := 19) (zd (i := .putfield 19) (n := 3) (by decide +kernel)) (by decide +kernel) (by decide +kernel) (fun r => by cases r <;> rfl) (fun r => by cases r <;> rfl) rfl g453 (Or.inr ⟨rfl, rfl⟩) <|
    z_aload_n (n := 0) (i := 0) (zd (i := .aload_n 0) (n := 1) (by decide +kernel)) rfl <|
    z_new (idx := 23) (ci := 4) (zd (i := .new 23) (n := 3) (by decide +kernel)) (by decide +kernel) rfl (by decide +kernel) g361 g362 g107 rfl rfl <|
    z_dup (zd (i := .dup) (n := 1) (by decide +kernel)) <|
    z_callI (idx := 25) (zd (i := .invokespecial 25) (n := 3) (by decide +kernel)) to_X4_init (Or.inr ⟨"MirageLoans", (by decide +kernel)⟩) g364 rfl rfl rfl (c_X4_init (l := l) (G := G) (gh := gh) (d + 5)) <|
    z_putR (ci := 8) (j := 2) (idx := 26) (zd (i := .putfield 26) (n := 3) (by decide +kernel)) (by decide +kernel) (by decide +kernel) (fun r => by cases r <;> rfl) (fun r => by cases r <;> rfl) rfl g454 (Or.inr ⟨rfl, rfl⟩) <|
    z_aload_n (n := 0) (i := 0) (zd (i := .aload_n 0) (n := 1) (by decide +kernel)) rfl <|
    z_new (idx := 23) (ci := 4) (zd (i := .new 23) (n := 3) (by decide +kernel)) (by decide +kernel) rfl (by decide +kernel) g361 g362 g107 rfl rfl <|
    z_dup (zd (i := .dup) (n := 1) (by decide +kernel)) <|
    z_callI (idx := 25) (zd (i := .invokespecial 25) (n := 3) (by decide +kernel)) to_X4_init (Or.inr ⟨"MirageLoans", (by decide +kernel)⟩) g364 rfl rfl rfl (c_X4_init (l := l) (G := G) (gh := gh) (d + 5)) <|
    z_putR (ci := 8) (j := 3) (idx := 30) (zd (i := .putfield 30) (n := 3) (by decide +kernel)) (by decide +kernel) (by decide +kernel) (fun r => by cases r <;> rfl) (fun r => by cases r <;> rfl) rfl g455 (Or.inr ⟨rfl, rfl⟩) <|
    z_aload_n (n := 0) (i := 0) (zd (i := .aload_n 0) (n := 1) (by decide +kernel)) rfl <|
    z_new (idx := 33) (ci := 3) (zd (i := .new 33) (n := 3) (by decide +kernel)) (by decide +kernel) rfl (by decide +kernel) g403 g404 g108 rfl rfl <|
    z_dup (zd (i := .dup) (n := 1) (by decide +kernel)) <|
    z_callI (idx := 35) (zd (i := .invokespecial 35) (n := 3) (by decide +kernel)) to_X3_init (Or.inl g405) g406 rfl rfl rfl (c_X3_init (l := l) (G := G) (gh := gh) (d + 4)) <|
    z_putR (ci := 8) (j := 4) (idx := 36) (zd (i := .putfield 36) (n := 3) (by decide +kernel)) (by decide +kernel) (by decide +kernel) (fun r => by cases r <;> rfl) (fun r => by cases r <;> rfl) rfl g456 (Or.inr ⟨rfl, rfl⟩) <|
    z_aload_n (n := 0) (i := 0) (zd (i := .aload_n 0) (n := 1) (by decide +kernel)) rfl <|
    z_iconst (n := 3) (zd (i := .iconst (3)) (n := 1) (by decide +kernel)) (by decide +kernel) <|
    z_newR (idx := 23) (zd (i := .anewarray 23) (n := 3) (by decide +kernel)) g361 rfl rfl <|
    z_putR (ci := 8) (j := 5) (idx := 40) (zd (i := .putfield 40) (n := 3) (by decide +kernel)) (by decide +kernel) (by decide +kernel) (fun r => by cases r <;> rfl) (fun r => by cases r <;> rfl) rfl g457 (Or.inr ⟨rfl, rfl⟩) <|
    z_aload_n (n := 0) (i := 0) (zd (i := .aload_n 0) (n := 1) (by decide +kernel)) rfl <|
    z_iconst (n := 3) (zd (i := .iconst (3)) (n := 1) (by decide +kernel)) (by decide +kernel) <|
    z_newI (ty := 12) (aty := .boolean) 2 (zd (i := .newarray .boolean) (n := 2) (by decide +kernel)) rfl (by decide +kernel) (by decide +kernel) rfl (fun _ _ h => h) (by decide +kernel) g449 rfl rfl <|
    z_putR (ci := 8) (j := 6) (idx := 44) (zd (i := .putfield 44) (n := 3) (by decide +kernel)) (by decide +kernel) (by decide +kernel) (fun r => by cases r <;> rfl) (fun r => by cases r <;> rfl) rfl g458 (Or.inr ⟨rfl, rfl⟩) <|
    z_aload_n (n := 0) (i := 0) (zd (i := .aload_n 0) (n := 1) (by decide +kernel)) rfl <|
    (zj (hj 1) (by decide +kernel))
noncomputable def b_X8_init_1 : zBl := fun jp K => oNew 7 6 291 9072 <| oDup <| oCi 5 261 291 9072 f_X7_init <| oPutR 8 7 <| oAld 0 <| oInt 2147483668 <| oNewa 10 291 9072 <| oPutR 8 8 <| oAld 0 <| oInt 2147483684 <| oNewa 10 291 9072 <| oPutR 8 9 <| oAld 0 <| oInt 2147483651 <| oNewa 10 291 9072 <| oPutR 8 10 <| oAld 0 <| oInt 2147483651 <| oNewa 10 291 9072 <| oPutR 8 11 <| oAld 0 <| oNew 0 13 291 9072 <| oDup <| oCi 11 916 291 9072 f_X0_init <| oPutR 8 12 <| oAld 0 <| oInt 2147483647 <| oPutI 8 13 <| oInt 2147483648 <| oIst 1 <| jp 2
theorem s_X8_init_1 (d : Nat) : zPb l G gh (d + 7) n_X8_init p_X8_init 75 b_X8_init_1 := fun K jp hj =>
    z_new (idx := 48) (ci := 7) (zd (i := .new 48) (n := 3) (by decide +kernel)) (by decide +kernel) rfl (by decide +kernel) g423 g424 g109 rfl rfl <|
    z_dup (zd (i := .dup) (n := 1) (by decide +kernel)) <|
    z_callI (idx := 50) (zd (i := .invokespecial 50) (n := 3) (by decide +kernel)) to_X7_init (Or.inr ⟨"MirageLoans", (by decide +kernel)⟩) g426 rfl rfl rfl (c_X7_init (l := l) (G := G) (gh := gh) (d + 5)) <|
    z_putR (ci := 8) (j := 7) (idx := 51) (zd (i := .putfield 51) (n := 3) (by decide +kernel)) (by decide +kernel) (by decide +kernel) (fun r => by cases r <;> rfl) (fun r => by cases r <;> rfl) rfl g459 (Or.inr ⟨rfl, rfl⟩) <|
    z_aload_n (n := 0) (i := 0) (zd (i := .aload_n 0) (n := 1) (by decide +kernel)) rfl <|
    z_bipush (n := 20) (zd (i := .bipush (20)) (n := 2) (by decide +kernel)) (by decide +kernel) <|
    z_newI (ty := 10) (aty := .int) 0 (zd (i := .newarray .int) (n := 2) (by decide +kernel)) rfl (by decide +kernel) (by decide +kernel) rfl (fun _ _ h => h) (by decide +kernel) g224 rfl rfl <|
    z_putR (ci := 8) (j := 8) (idx := 55) (zd (i := .putfield 55) (n := 3) (by decide +kernel)) (by decide +kernel) (by decide +kernel) (fun r => by cases r <;> rfl) (fun r => by cases r <;> rfl) rfl g460 (Or.inr ⟨rfl, rfl⟩) <|
    z_aload_n (n := 0) (i := 0) (zd (i := .aload_n 0) (n := 1) (by decide +kernel)) rfl <|
    z_bipush (n := 36) (zd (i := .bipush (36)) (n := 2) (by decide +kernel)) (by decide +kernel) <|
    z_newI (ty := 10) (aty := .int) 0 (zd (i := .newarray .int) (n := 2) (by decide +kernel)) rfl (by decide +kernel) (by decide +kernel) rfl (fun _ _ h => h) (by decide +kernel) g224 rfl rfl <|
    z_putR (ci := 8) (j := 9) (idx := 59) (zd (i := .putfield 59) (n := 3) (by decide +kernel)) (by decide +kernel) (by decide +kernel) (fun r => by cases r <;> rfl) (fun r => by cases r <;> rfl) rfl g461 (Or.inr ⟨rfl, rfl⟩) <|
    z_aload_n (n := 0) (i := 0) (zd (i := .aload_n 0) (n := 1) (by decide +kernel)) rfl <|
    z_iconst (n := 3) (zd (i := .iconst (3)) (n := 1) (by decide +kernel)) (by decide +kernel) <|
    z_newI (ty := 10) (aty := .int) 0 (zd (i := .newarray .int) (n := 2) (by decide +kernel)) rfl (by decide +kernel) (by decide +kernel) rfl (fun _ _ h => h) (by decide +kernel) g224 rfl rfl <|
    z_putR (ci := 8) (j := 10) (idx := 62) (zd (i := .putfield 62) (n := 3) (by decide +kernel)) (by decide +kernel) (by decide +kernel) (fun r => by cases r <;> rfl) (fun r => by cases r <;> rfl) rfl g462 (Or.inr ⟨rfl, rfl⟩) <|
    z_aload_n (n := 0) (i := 0) (zd (i := .aload_n 0) (n := 1) (by decide +kernel)) rfl <|
    z_iconst (n := 3) (zd (i := .iconst (3)) (n := 1) (by decide +kernel)) (by decide +kernel) <|
    z_newI (ty := 10) (aty := .int) 0 (zd (i := .newarray .int) (n := 2) (by decide +kernel)) rfl (by decide +kernel) (by decide +kernel) rfl (fun _ _ h => h) (by decide +kernel) g224 rfl rfl <|
    z_putR (ci := 8) (j := 11) (idx := 65) (zd (i := .putfield 65) (n := 3) (by decide +kernel)) (by decide +kernel) (by decide +kernel) (fun r => by cases r <;> rfl) (fun r => by cases r <;> rfl) rfl g463 (Or.inr ⟨rfl, rfl⟩) <|
    z_aload_n (n := 0) (i := 0) (zd (i := .aload_n 0) (n := 1) (by decide +kernel)) rfl <|
    z_new (idx := 68) (ci := 0) (zd (i := .new 68) (n := 3) (by decide +kernel)) (by decide +kernel) rfl (by decide +kernel) g450 g226 g105 rfl rfl <|
    z_dup (zd (i := .dup) (n := 1) (by decide +kernel)) <|
    z_callI (idx := 70) (zd (i := .invokespecial 70) (n := 3) (by decide +kernel)) to_X0_init (Or.inl g451) g228 rfl rfl rfl (c_X0_init (l := l) (G := G) (gh := gh) (d + 1)) <|
    z_putR (ci := 8) (j := 12) (idx := 71) (zd (i := .putfield 71) (n := 3) (by decide +kernel)) (by decide +kernel) (by decide +kernel) (fun r => by cases r <;> rfl) (fun r => by cases r <;> rfl) rfl g464 (Or.inl rfl) <|
    z_aload_n (n := 0) (i := 0) (zd (i := .aload_n 0) (n := 1) (by decide +kernel)) rfl <|
    z_iconst (n := -1) (zd (i := .iconst (-1)) (n := 1) (by decide +kernel)) (by decide +kernel) <|
    z_putI (ci := 8) (j := 13) (idx := 75) (zd (i := .putfield 75) (n := 3) (by decide +kernel)) (by decide +kernel) (by decide +kernel) rfl g465 (Or.inl rfl) <|
    z_iconst (n := 0) (zd (i := .iconst (0)) (n := 1) (by decide +kernel)) (by decide +kernel) <|
    z_istore_n (n := 1) (i := 1) (zd (i := .istore_n 1) (n := 1) (by decide +kernel)) rfl (by decide +kernel) <|
    (zj (hj 2) (by decide +kernel))
noncomputable def b_X8_init_2 : zBl := fun jp K => oIld 1 <| oInt 2147483651 <| oIc zge zlt (jp 4) (jp 3)
theorem s_X8_init_2 (d : Nat) : zPb l G gh (d + 7) n_X8_init p_X8_init 133 b_X8_init_2 := fun K jp hj =>
    z_iload_n (n := 1) (i := 1) (zd (i := .iload_n 1) (n := 1) (by decide +kernel)) rfl <|
    z_iconst (n := 3) (zd (i := .iconst (3)) (n := 1) (by decide +kernel)) (by decide +kernel) <|
    z_icmp_ge (off := 22) (tgt := 157) (zd (i := .if_icmp .ge (22)) (n := 3) (by decide +kernel)) (by decide +kernel) (zj (hj 4) (by decide +kernel)) (zj (hj 3) (by decide +kernel))
noncomputable def b_X8_init_3 : zBl := fun jp K => oAld 0 <| oGetR 8 5 <| oIld 1 <| oNew 4 7 291 9072 <| oDup <| oCi 6 96 291 9072 f_X4_init <| oAast <| oInc 1 2147483649 <| jp 2
theorem s_X8_init_3 (d : Nat) : zPb l G gh (d + 7) n_X8_init p_X8_init 138 b_X8_init_3 := fun K jp hj =>
    z_aload_n (n := 0) (i := 0) (zd (i := .aload_n 0) (n := 1) (by decide +kernel)) rfl <|
    z_getR (ci := 8) (j := 5) (idx := 40) (zd (i := .getfield 40) (n := 3) (by decide +kernel)) (by decide +kernel) (by decide +kernel) rfl g457 <|
    z_iload_n (n := 1) (i := 1) (zd (i := .iload_n 1) (n := 1) (by decide +kernel)) rfl <|
    z_new (idx := 23) (ci := 4) (zd (i := .new 23) (n := 3) (by decide +kernel)) (by decide +kernel) rfl (by decide +kernel) g361 g362 g107 rfl rfl <|
    z_dup (zd (i := .dup) (n := 1) (by decide +kernel)) <|
    z_callI (idx := 25) (zd (i := .invokespecial 25) (n := 3) (by decide +kernel)) to_X4_init (Or.inr ⟨"MirageLoans", (by decide +kernel)⟩) g364 rfl rfl rfl (c_X4_init (l := l) (G := G) (gh := gh) (d + 5)) <|
    z_aast (zd (i := .aastore) (n := 1) (by decide +kernel)) <|
    z_iinc (i := 1) (n := 1) (zd (i := .iinc 1 (1)) (n := 3) (by decide +kernel)) (by decide +kernel) (by decide +kernel) <|
    z_goto (off := -21) (tgt := 133) (zd (i := .goto (-21)) (n := 3) (by decide +kernel)) (by decide +kernel) (zj (hj 2) (by decide +kernel))
noncomputable def b_X8_init_4 : zBl := fun jp K => oVret K
theorem s_X8_init_4 (d : Nat) : zPb l G gh (d + 7) n_X8_init p_X8_init 157 b_X8_init_4 := fun K jp hj =>
    z_vret (zd (i := .return_) (n := 1) (by decide +kernel)) rfl
noncomputable def f_X8_init : zMt := zmet 2 [b_X8_init_0, b_X8_init_1, b_X8_init_2, b_X8_init_3, b_X8_init_4]
theorem c_X8_init (d : Nat) : zC l G gh (d + 7) n_X8_init f_X8_init := zmet_ok (pcs := p_X8_init) (by decide) rfl rfl ⟨s_X8_init_0 d, s_X8_init_1 d, s_X8_init_2 d, s_X8_init_3 d, s_X8_init_4 d, trivial⟩
def pi_X9_plain : List Nat := [0, 45, 50, 78]
noncomputable def bi_X9_plain_0 : zBl := fun jp K => oAld 0 <| oGetR 9 22 <| oIld 1 <| oInt 2147483648 <| oXast 10 zid <| oAld 0 <| oGetR 9 25 <| oIld 1 <| oInt 2147483648 <| oXast 10 zid <| oAld 0 <| oGetR 9 28 <| oIld 1 <| oInt 2147483672 <| oXast 10 zid <| oAld 0 <| oGetR 9 29 <| oIld 1 <| oInt 2147483648 <| oXast 10 zid <| oAld 0 <| oGetR 9 30 <| oIld 1 <| oInt 2147483648 <| oXast 10 zid <| oAld 0 <| oGetR 9 31 <| oIld 1 <| oInt 2147483648 <| oXast 10 zid <| oInt 2147483648 <| oIst 2 <| jp 1
theorem si_X9_plain_0 (d : Nat) : zPb l G gh (d + 1) n_X9_plain pi_X9_plain 0 bi_X9_plain_0 := fun K jp hj =>
    z_aload_n (n := 0) (i := 0) (zd (i := .aload_n 0) (n := 1) (by decide +kernel)) rfl <|
    z_getR (ci := 9) (j := 22) (idx := 43) (zd (i := .getfield 43) (n := 3) (by decide +kernel)) (by decide +kernel) (by decide +kernel) rfl g1150 <|
    z_iload_n (n := 1) (i := 1) (zd (i := .iload_n 1) (n := 1) (by decide +kernel)) rfl <|
    z_iconst (n := 0) (zd (i := .iconst (0)) (n := 1) (by decide +kernel)) (by decide +kernel) <|
    z_iast (zd (i := .iastore) (n := 1) (by decide +kernel)) <|
    z_aload_n (n := 0) (i := 0) (zd (i := .aload_n 0) (n := 1) (by decide +kernel)) rfl <|
    z_getR (ci := 9) (j := 25) (idx := 52) (zd (i := .getfield 52) (n := 3) (by decide +kernel)) (by decide +kernel) (by decide +kernel) rfl g1153 <|
    z_iload_n (n := 1) (i := 1) (zd (i := .iload_n 1) (n := 1) (by decide +kernel)) rfl <|
    z_iconst (n := 0) (zd (i := .iconst (0)) (n := 1) (by decide +kernel)) (by decide +kernel) <|
    z_iast (zd (i := .iastore) (n := 1) (by decide +kernel)) <|
    z_aload_n (n := 0) (i := 0) (zd (i := .aload_n 0) (n := 1) (by decide +kernel)) rfl <|
    z_getR (ci := 9) (j := 28) (idx := 61) (zd (i := .getfield 61) (n := 3) (by decide +kernel)) (by decide +kernel) (by decide +kernel) rfl g1156 <|
    z_iload_n (n := 1) (i := 1) (zd (i := .iload_n 1) (n := 1) (by decide +kernel)) rfl <|
    z_bipush (n := 24) (zd (i := .bipush (24)) (n := 2) (by decide +kernel)) (by decide +kernel) <|
    z_iast (zd (i := .iastore) (n := 1) (by decide +kernel)) <|
    z_aload_n (n := 0) (i := 0) (zd (i := .aload_n 0) (n := 1) (by decide +kernel)) rfl <|
    z_getR (ci := 9) (j := 29) (idx := 64) (zd (i := .getfield 64) (n := 3) (by decide +kernel)) (by decide +kernel) (by decide +kernel) rfl g1157 <|
    z_iload_n (n := 1) (i := 1) (zd (i := .iload_n 1) (n := 1) (by decide +kernel)) rfl <|
    z_iconst (n := 0) (zd (i := .iconst (0)) (n := 1) (by decide +kernel)) (by decide +kernel) <|
    z_iast (zd (i := .iastore) (n := 1) (by decide +kernel)) <|
    z_aload_n (n := 0) (i := 0) (zd (i := .aload_n 0) (n := 1) (by decide +kernel)) rfl <|
    z_getR (ci := 9) (j := 30) (idx := 67) (zd (i := .getfield 67) (n := 3) (by decide +kernel)) (by decide +kernel) (by decide +kernel) rfl g1158 <|
    z_iload_n (n := 1) (i := 1) (zd (i := .iload_n 1) (n := 1) (by decide +kernel)) rfl <|
    z_iconst (n := 0) (zd (i := .iconst (0)) (n := 1) (by decide +kernel)) (by decide +kernel) <|
    z_iast (zd (i := .iastore) (n := 1) (by decide +kernel)) <|
    z_aload_n (n := 0) (i := 0) (zd (i := .aload_n 0) (n := 1) (by decide +kernel)) rfl <|
    z_getR (ci := 9) (j := 31) (idx := 70) (zd (i := .getfield 70) (n := 3) (by decide +kernel)) (by decide +kernel) (by decide +kernel) rfl g1159 <|
    z_iload_n (n := 1) (i := 1) (zd (i := .iload_n 1) (n := 1) (by decide +kernel)) rfl <|
    z_iconst (n := 0) (zd (i := .iconst (0)) (n := 1) (by decide +kernel)) (by decide +kernel) <|
    z_iast (zd (i := .iastore) (n := 1) (by decide +kernel)) <|
    z_iconst (n := 0) (zd (i := .iconst (0)) (n := 1) (by decide +kernel)) (by decide +kernel) <|
    z_istore_n (n := 2) (i := 2) (zd (i := .istore_n 2) (n := 1) (by decide +kernel)) rfl (by decide +kernel) <|
    (zj (hj 1) (by decide +kernel))
noncomputable def bi_X9_plain_1 : zBl := fun jp K => oIld 2 <| oInt 2147483653 <| oIc zge zlt (jp 3) (jp 2)
theorem si_X9_plain_1 (d : Nat) : zPb l G gh (d + 1) n_X9_plain pi_X9_plain 45 bi_X9_plain_1 := fun K jp hj =>
    z_iload_n (n := 2) (i := 2) (zd (i := .iload_n 2) (n := 1) (by decide +kernel)) rfl <|
    z_iconst (n := 5) (zd (i := .iconst (5)) (n := 1) (by decide +kernel)) (by decide +kernel) <|
    z_icmp_ge (off := 31) (tgt := 78) (zd (i := .if_icmp .ge (31)) (n := 3) (by decide +kernel)) (by decide +kernel) (zj (hj 3) (by decide +kernel)) (zj (hj 2) (by decide +kernel))
noncomputable def bi_X9_plain_2 : zBl := fun jp K => oAld 0 <| oGetR 9 32 <| oInt 2147483653 <| oIld 1 <| oB2 zimul <| oIld 2 <| oB2 zadd <| oInt 2147483648 <| oXast 10 zid <| oAld 0 <| oGetR 9 33 <| oInt 2147483653 <| oIld 1 <| oB2 zimul <| oIld 2 <| oB2 zadd <| oInt 2147483648 <| oXast 10 zid <| oInc 2 2147483649 <| jp 1
theorem si_X9_plain_2 (d : Nat) : zPb l G gh (d + 1) n_X9_plain pi_X9_plain 50 bi_X9_plain_2 := fun K jp hj =>
    z_aload_n (n := 0) (i := 0) (zd (i := .aload_n 0) (n := 1) (by decide +kernel)) rfl <|
    z_getR (ci := 9) (j := 32) (idx := 73) (zd (i := .getfield 73) (n := 3) (by decide +kernel)) (by decide +kernel) (by decide +kernel) rfl g1160 <|
    z_iconst (n := 5) (zd (i := .iconst (5)) (n := 1) (by decide +kernel)) (by decide +kernel) <|
    z_iload_n (n := 1) (i := 1) (zd (i := .iload_n 1) (n := 1) (by decide +kernel)) rfl <|
    z_imul (zd (i := .imul) (n := 1) (by decide +kernel)) <|
    z_iload_n (n := 2) (i := 2) (zd (i := .iload_n 2) (n := 1) (by decide +kernel)) rfl <|
    z_iadd (zd (i := .iadd) (n := 1) (by decide +kernel)) <|
    z_iconst (n := 0) (zd (i := .iconst (0)) (n := 1) (by decide +kernel)) (by decide +kernel) <|
    z_iast (zd (i := .iastore) (n := 1) (by decide +kernel)) <|
    z_aload_n (n := 0) (i := 0) (zd (i := .aload_n 0) (n := 1) (by decide +kernel)) rfl <|
    z_getR (ci := 9) (j := 33) (idx := 76) (zd (i := .getfield 76) (n := 3) (by decide +kernel)) (by decide +kernel) (by decide +kernel) rfl g1161 <|
    z_iconst (n := 5) (zd (i := .iconst (5)) (n := 1) (by decide +kernel)) (by decide +kernel) <|
    z_iload_n (n := 1) (i := 1) (zd (i := .iload_n 1) (n := 1) (by decide +kernel)) rfl <|
    z_imul (zd (i := .imul) (n := 1) (by decide +kernel)) <|
    z_iload_n (n := 2) (i := 2) (zd (i := .iload_n 2) (n := 1) (by decide +kernel)) rfl <|
    z_iadd (zd (i := .iadd) (n := 1) (by decide +kernel)) <|
    z_iconst (n := 0) (zd (i := .iconst (0)) (n := 1) (by decide +kernel)) (by decide +kernel) <|
    z_iast (zd (i := .iastore) (n := 1) (by decide +kernel)) <|
    z_iinc (i := 2) (n := 1) (zd (i := .iinc 2 (1)) (n := 3) (by decide +kernel)) (by decide +kernel) (by decide +kernel) <|
    z_goto (off := -30) (tgt := 45) (zd (i := .goto (-30)) (n := 3) (by decide +kernel)) (by decide +kernel) (zj (hj 1) (by decide +kernel))
noncomputable def bi_X9_plain_3 : zBl := fun jp K => oVret K
theorem si_X9_plain_3 (d : Nat) : zPb l G gh (d + 1) n_X9_plain pi_X9_plain 78 bi_X9_plain_3 := fun K jp hj =>
    z_vret (zd (i := .return_) (n := 1) (by decide +kernel)) rfl
noncomputable def f_X9_plain : zMt := zmet 3 [bi_X9_plain_0, bi_X9_plain_1, bi_X9_plain_2, bi_X9_plain_3]
theorem c_X9_plain (d : Nat) : zC l G gh (d + 1) n_X9_plain f_X9_plain := zmet_ok (pcs := pi_X9_plain) (by decide) rfl rfl ⟨si_X9_plain_0 d, si_X9_plain_1 d, si_X9_plain_2 d, si_X9_plain_3 d, trivial⟩
def pi_X9_appends : List Nat := [0, 4, 8, 21]
noncomputable def bi_X9_appends_0 : zBl := fun jp K => oIld 2 <| oIf zne zeq (jp 2) (jp 1)
theorem si_X9_appends_0 (d : Nat) : zPb l G gh (d + 1) n_X9_appends pi_X9_appends 0 bi_X9_appends_0 := fun K jp hj =>
    z_iload_n (n := 2) (i := 2) (zd (i := .iload_n 2) (n := 1) (by decide +kernel)) rfl <|
    z_if_ne (off := 7) (tgt := 8) (zd (i := .ifCond .ne (7)) (n := 3) (by decide +kernel)) (by decide +kernel) (zj (hj 2) (by decide +kernel)) (zj (hj 1) (by decide +kernel))
noncomputable def bi_X9_appends_1 : zBl := fun jp K => oLld 0 <| jp 3
theorem si_X9_appends_1 (d : Nat) : zPb l G gh (d + 1) n_X9_appends pi_X9_appends 4 bi_X9_appends_1 := fun K jp hj =>
    z_lload_n (n := 0) (i := 0) (zd (i := .lload_n 0) (n := 1) (by decide +kernel)) rfl <|
    z_goto (off := 16) (tgt := 21) (zd (i := .goto (16)) (n := 3) (by decide +kernel)) (by decide +kernel) (zj (hj 3) (by decide +kernel))
noncomputable def bi_X9_appends_2 : zBl := fun jp K => oLng 27 <| oLld 0 <| oJ2 Int64.mul <| oIld 2 <| oInt 2147483745 <| oB2 zsub <| oInt 2147483649 <| oB2 zadd <| oI2l <| oJ2 Int64.add <| jp 3
theorem si_X9_appends_2 (d : Nat) : zPb l G gh (d + 1) n_X9_appends pi_X9_appends 8 bi_X9_appends_2 := fun K jp hj =>
    z_ldc2 (n := 176) (zd (i := .ldc2_w 176) (n := 3) (by decide +kernel)) g1120 <|
    z_lload_n (n := 0) (i := 0) (zd (i := .lload_n 0) (n := 1) (by decide +kernel)) rfl <|
    z_lmul (zd (i := .lmul) (n := 1) (by decide +kernel)) <|
    z_iload_n (n := 2) (i := 2) (zd (i := .iload_n 2) (n := 1) (by decide +kernel)) rfl <|
    z_bipush (n := 97) (zd (i := .bipush (97)) (n := 2) (by decide +kernel)) (by decide +kernel) <|
    z_isub (zd (i := .isub) (n := 1) (by decide +kernel)) <|
    z_iconst (n := 1) (zd (i := .iconst (1)) (n := 1) (by decide +kernel)) (by decide +kernel) <|
    z_iadd (zd (i := .iadd) (n := 1) (by decide +kernel)) <|
    z_i2l (zd (i := .i2l) (n := 1) (by decide +kernel)) <|
    z_ladd (zd (i := .ladd) (n := 1) (by decide +kernel)) <|
    (zj (hj 3) (by decide +kernel))
noncomputable def bi_X9_appends_3 : zBl := fun jp K => oLret K
theorem si_X9_appends_3 (d : Nat) : zPb l G gh (d + 1) n_X9_appends pi_X9_appends 21 bi_X9_appends_3 := fun K jp hj =>
    z_lret (zd (i := .lreturn) (n := 1) (by decide +kernel)) rfl
noncomputable def f_X9_appends : zMt := zmet 3 [bi_X9_appends_0, bi_X9_appends_1, bi_X9_appends_2, bi_X9_appends_3]
theorem c_X9_appends (d : Nat) : zC l G gh (d + 1) n_X9_appends f_X9_appends := zmet_ok (pcs := pi_X9_appends) (by decide) rfl rfl ⟨si_X9_appends_0 d, si_X9_appends_1 d, si_X9_appends_2 d, si_X9_appends_3 d, trivial⟩
def p_X9_word : List Nat := [0]
noncomputable def b_X9_word_0 : zBl := fun jp K => oLng 0 <| oIld 0 <| oCs 2 f_X9_appends <| oIld 1 <| oCs 2 f_X9_appends <| oIld 2 <| oCs 2 f_X9_appends <| oIld 3 <| oCs 2 f_X9_appends <| oIld 4 <| oCs 2 f_X9_appends <| oIld 5 <| oCs 2 f_X9_appends <| oIld 6 <| oCs 2 f_X9_appends <| oLret K
theorem s_X9_word_0 (d : Nat) : zPb l G gh (d + 2) n_X9_word p_X9_word 0 b_X9_word_0 := fun K jp hj =>
    z_lconst (n := 0) (zd (i := .lconst 0) (n := 1) (by decide +kernel)) rfl <|
    z_iload_n (n := 0) (i := 0) (zd (i := .iload_n 0) (n := 1) (by decide +kernel)) rfl <|
    z_callS (idx := 157) (N := n_X9_appends) (zd (i := .invokestatic 157) (n := 3) (by decide +kernel)) to_X9_appends g1117 g1118 rfl rfl (c_X9_appends (l := l) (G := G) (gh := gh) d) <|
    z_iload_n (n := 1) (i := 1) (zd (i := .iload_n 1) (n := 1) (by decide +kernel)) rfl <|
    z_callS (idx := 157) (N := n_X9_appends) (zd (i := .invokestatic 157) (n := 3) (by decide +kernel)) to_X9_appends g1117 g1118 rfl rfl (c_X9_appends (l := l) (G := G) (gh := gh) d) <|
    z_iload_n (n := 2) (i := 2) (zd (i := .iload_n 2) (n := 1) (by decide +kernel)) rfl <|
    z_callS (idx := 157) (N := n_X9_appends) (zd (i := .invokestatic 157) (n := 3) (by decide +kernel)) to_X9_appends g1117 g1118 rfl rfl (c_X9_appends (l := l) (G := G) (gh := gh) d) <|
    z_iload_n (n := 3) (i := 3) (zd (i := .iload_n 3) (n := 1) (by decide +kernel)) rfl <|
    z_callS (idx := 157) (N := n_X9_appends) (zd (i := .invokestatic 157) (n := 3) (by decide +kernel)) to_X9_appends g1117 g1118 rfl rfl (c_X9_appends (l := l) (G := G) (gh := gh) d) <|
    z_iload (i := 4) (zd (i := .iload 4) (n := 2) (by decide +kernel)) <|
    z_callS (idx := 157) (N := n_X9_appends) (zd (i := .invokestatic 157) (n := 3) (by decide +kernel)) to_X9_appends g1117 g1118 rfl rfl (c_X9_appends (l := l) (G := G) (gh := gh) d) <|
    z_iload (i := 5) (zd (i := .iload 5) (n := 2) (by decide +kernel)) <|
    z_callS (idx := 157) (N := n_X9_appends) (zd (i := .invokestatic 157) (n := 3) (by decide +kernel)) to_X9_appends g1117 g1118 rfl rfl (c_X9_appends (l := l) (G := G) (gh := gh) d) <|
    z_iload (i := 6) (zd (i := .iload 6) (n := 2) (by decide +kernel)) <|
    z_callS (idx := 157) (N := n_X9_appends) (zd (i := .invokestatic 157) (n := 3) (by decide +kernel)) to_X9_appends g1117 g1118 rfl rfl (c_X9_appends (l := l) (G := G) (gh := gh) d) <|
    z_lret (zd (i := .lreturn) (n := 1) (by decide +kernel)) rfl
noncomputable def f_X9_word : zMt := zmet 7 [b_X9_word_0]
theorem c_X9_word (d : Nat) : zC l G gh (d + 2) n_X9_word f_X9_word := zmet_ok (pcs := p_X9_word) (by decide) rfl rfl ⟨s_X9_word_0 d, trivial⟩
def pi_X9_begins : List Nat := [0, 2, 8, 21, 23, 85]
noncomputable def bi_X9_begins_0 : zBl := fun jp K => oInt 2147483648 <| oIst 1 <| jp 1
theorem si_X9_begins_0 (d : Nat) : zPb l G gh (d + 1) n_X9_begins pi_X9_begins 0 bi_X9_begins_0 := fun K jp hj =>
    z_iconst (n := 0) (zd (i := .iconst (0)) (n := 1) (by decide +kernel)) (by decide +kernel) <|
    z_istore_n (n := 1) (i := 1) (zd (i := .istore_n 1) (n := 1) (by decide +kernel)) rfl (by decide +kernel) <|
    (zj (hj 1) (by decide +kernel))
noncomputable def bi_X9_begins_1 : zBl := fun jp K => oIld 1 <| oInt 2147483745 <| oIc zge zlt (jp 3) (jp 2)
theorem si_X9_begins_1 (d : Nat) : zPb l G gh (d + 1) n_X9_begins pi_X9_begins 2 bi_X9_begins_1 := fun K jp hj =>
    z_iload_n (n := 1) (i := 1) (zd (i := .iload_n 1) (n := 1) (by decide +kernel)) rfl <|
    z_bipush (n := 97) (zd (i := .bipush (97)) (n := 2) (by decide +kernel)) (by decide +kernel) <|
    z_icmp_ge (off := 16) (tgt := 21) (zd (i := .if_icmp .ge (16)) (n := 3) (by decide +kernel)) (by decide +kernel) (zj (hj 3) (by decide +kernel)) (zj (hj 2) (by decide +kernel))
noncomputable def bi_X9_begins_2 : zBl := fun jp K => oAld 0 <| oGetR 9 49 <| oIld 1 <| oInt 2147483648 <| oXast 10 zid <| oInc 1 2147483649 <| jp 1
theorem si_X9_begins_2 (d : Nat) : zPb l G gh (d + 1) n_X9_begins pi_X9_begins 8 bi_X9_begins_2 := fun K jp hj =>
    z_aload_n (n := 0) (i := 0) (zd (i := .aload_n 0) (n := 1) (by decide +kernel)) rfl <|
    z_getR (ci := 9) (j := 49) (idx := 113) (zd (i := .getfield 113) (n := 3) (by decide +kernel)) (by decide +kernel) (by decide +kernel) rfl g1177 <|
    z_iload_n (n := 1) (i := 1) (zd (i := .iload_n 1) (n := 1) (by decide +kernel)) rfl <|
    z_iconst (n := 0) (zd (i := .iconst (0)) (n := 1) (by decide +kernel)) (by decide +kernel) <|
    z_iast (zd (i := .iastore) (n := 1) (by decide +kernel)) <|
    z_iinc (i := 1) (n := 1) (zd (i := .iinc 1 (1)) (n := 3) (by decide +kernel)) (by decide +kernel) (by decide +kernel) <|
    z_goto (off := -16) (tgt := 2) (zd (i := .goto (-16)) (n := 3) (by decide +kernel)) (by decide +kernel) (zj (hj 1) (by decide +kernel))
noncomputable def bi_X9_begins_3 : zBl := fun jp K => oInt 2147483648 <| oIst 1 <| jp 4
theorem si_X9_begins_3 (d : Nat) : zPb l G gh (d + 1) n_X9_begins pi_X9_begins 21 bi_X9_begins_3 := fun K jp hj =>
    z_iconst (n := 0) (zd (i := .iconst (0)) (n := 1) (by decide +kernel)) (by decide +kernel) <|
    z_istore_n (n := 1) (i := 1) (zd (i := .istore_n 1) (n := 1) (by decide +kernel)) rfl (by decide +kernel) <|
    (zj (hj 4) (by decide +kernel))
noncomputable def bi_X9_begins_4 : zBl := fun jp K => oIld 1 <| oAld 0 <| oGetR 9 25 <| oAld 0 <| oGetI 9 18 <| oXald 10 <| oIc zge zlt (jp 5) (oFail)
theorem si_X9_begins_4 (d : Nat) : zPb l G gh (d + 1) n_X9_begins pi_X9_begins 23 bi_X9_begins_4 := fun K jp hj =>
    z_iload_n (n := 1) (i := 1) (zd (i := .iload_n 1) (n := 1) (by decide +kernel)) rfl <|
    z_aload_n (n := 0) (i := 0) (zd (i := .aload_n 0) (n := 1) (by decide +kernel)) rfl <|
    z_getR (ci := 9) (j := 25) (idx := 52) (zd (i := .getfield 52) (n := 3) (by decide +kernel)) (by decide +kernel) (by decide +kernel) rfl g1153 <|
    z_aload_n (n := 0) (i := 0) (zd (i := .aload_n 0) (n := 1) (by decide +kernel)) rfl <|
    z_getI (ci := 9) (j := 18) (idx := 230) (zd (i := .getfield 230) (n := 3) (by decide +kernel)) (by decide +kernel) (by decide +kernel) rfl g1146 <|
    z_iald (zd (i := .iaload) (n := 1) (by decide +kernel)) <|
    z_icmp_ge (off := 52) (tgt := 85) (zd (i := .if_icmp .ge (52)) (n := 3) (by decide +kernel)) (by decide +kernel) (zj (hj 5) (by decide +kernel)) z_fail
noncomputable def bi_X9_begins_5 : zBl := fun jp K => oAld 0 <| oGetR 9 49 <| oInt 2147483744 <| oAld 0 <| oGetR 9 30 <| oAld 0 <| oGetI 9 18 <| oXald 10 <| oXast 10 zid <| oAld 0 <| oAld 0 <| oGetR 9 31 <| oAld 0 <| oGetI 9 18 <| oXald 10 <| oPutI 9 50 <| oVret K
theorem si_X9_begins_5 (d : Nat) : zPb l G gh (d + 1) n_X9_begins pi_X9_begins 85 bi_X9_begins_5 := fun K jp hj =>
    z_aload_n (n := 0) (i := 0) (zd (i := .aload_n 0) (n := 1) (by decide +kernel)) rfl <|
    z_getR (ci := 9) (j := 49) (idx := 113) (zd (i := .getfield 113) (n := 3) (by decide +kernel)) (by decide +kernel) (by decide +kernel) rfl g1177 <|
    z_bipush (n := 96) (zd (i := .bipush (96)) (n := 2) (by decide +kernel)) (by decide +kernel) <|
    z_aload_n (n := 0) (i := 0) (zd (i := .aload_n 0) (n := 1) (by decide +kernel)) rfl <|
    z_getR (ci := 9) (j := 30) (idx := 67) (zd (i := .getfield 67) (n := 3) (by decide +kernel)) (by decide +kernel) (by decide +kernel) rfl g1158 <|
    z_aload_n (n := 0) (i := 0) (zd (i := .aload_n 0) (n := 1) (by decide +kernel)) rfl <|
    z_getI (ci := 9) (j := 18) (idx := 230) (zd (i := .getfield 230) (n := 3) (by decide +kernel)) (by decide +kernel) (by decide +kernel) rfl g1146 <|
    z_iald (zd (i := .iaload) (n := 1) (by decide +kernel)) <|
    z_iast (zd (i := .iastore) (n := 1) (by decide +kernel)) <|
    z_aload_n (n := 0) (i := 0) (zd (i := .aload_n 0) (n := 1) (by decide +kernel)) rfl <|
    z_aload_n (n := 0) (i := 0) (zd (i := .aload_n 0) (n := 1) (by decide +kernel)) rfl <|
    z_getR (ci := 9) (j := 31) (idx := 70) (zd (i := .getfield 70) (n := 3) (by decide +kernel)) (by decide +kernel) (by decide +kernel) rfl g1159 <|
    z_aload_n (n := 0) (i := 0) (zd (i := .aload_n 0) (n := 1) (by decide +kernel)) rfl <|
    z_getI (ci := 9) (j := 18) (idx := 230) (zd (i := .getfield 230) (n := 3) (by decide +kernel)) (by decide +kernel) (by decide +kernel) rfl g1146 <|
    z_iald (zd (i := .iaload) (n := 1) (by decide +kernel)) <|
    z_putI (ci := 9) (j := 50) (idx := 308) (zd (i := .putfield 308) (n := 3) (by decide +kernel)) (by decide +kernel) (by decide +kernel) rfl g1178 (Or.inl rfl) <|
    z_vret (zd (i := .return_) (n := 1) (by decide +kernel)) rfl
noncomputable def f_X9_begins : zMt := zmet 2 [bi_X9_begins_0, bi_X9_begins_1, bi_X9_begins_2, bi_X9_begins_3, bi_X9_begins_4, bi_X9_begins_5]
theorem c_X9_begins (d : Nat) : zC l G gh (d + 1) n_X9_begins f_X9_begins := zmet_ok (pcs := pi_X9_begins) (by decide) rfl rfl ⟨si_X9_begins_0 d, si_X9_begins_1 d, si_X9_begins_2 d, si_X9_begins_3 d, si_X9_begins_4 d, si_X9_begins_5 d, trivial⟩
def pi_X9_keepsRow : List Nat := [0, 2, 8, 26]
noncomputable def bi_X9_keepsRow_0 : zBl := fun jp K => oInt 2147483648 <| oIst 1 <| jp 1
theorem si_X9_keepsRow_0 (d : Nat) : zPb l G gh (d + 1) n_X9_keepsRow pi_X9_keepsRow 0 bi_X9_keepsRow_0 := fun K jp hj =>
    z_iconst (n := 0) (zd (i := .iconst (0)) (n := 1) (by decide +kernel)) (by decide +kernel) <|
    z_istore_n (n := 1) (i := 1) (zd (i := .istore_n 1) (n := 1) (by decide +kernel)) rfl (by decide +kernel) <|
    (zj (hj 1) (by decide +kernel))
noncomputable def bi_X9_keepsRow_1 : zBl := fun jp K => oIld 1 <| oInt 2147483745 <| oIc zge zlt (jp 3) (jp 2)
theorem si_X9_keepsRow_1 (d : Nat) : zPb l G gh (d + 1) n_X9_keepsRow pi_X9_keepsRow 2 bi_X9_keepsRow_1 := fun K jp hj =>
    z_iload_n (n := 1) (i := 1) (zd (i := .iload_n 1) (n := 1) (by decide +kernel)) rfl <|
    z_bipush (n := 97) (zd (i := .bipush (97)) (n := 2) (by decide +kernel)) (by decide +kernel) <|
    z_icmp_ge (off := 21) (tgt := 26) (zd (i := .if_icmp .ge (21)) (n := 3) (by decide +kernel)) (by decide +kernel) (zj (hj 3) (by decide +kernel)) (zj (hj 2) (by decide +kernel))
noncomputable def bi_X9_keepsRow_2 : zBl := fun jp K => oAld 0 <| oGetR 9 48 <| oIld 1 <| oAld 0 <| oGetR 9 49 <| oIld 1 <| oXald 10 <| oXast 10 zid <| oInc 1 2147483649 <| jp 1
theorem si_X9_keepsRow_2 (d : Nat) : zPb l G gh (d + 1) n_X9_keepsRow pi_X9_keepsRow 8 bi_X9_keepsRow_2 := fun K jp hj =>
    z_aload_n (n := 0) (i := 0) (zd (i := .aload_n 0) (n := 1) (by decide +kernel)) rfl <|
    z_getR (ci := 9) (j := 48) (idx := 110) (zd (i := .getfield 110) (n := 3) (by decide +kernel)) (by decide +kernel) (by decide +kernel) rfl g1176 <|
    z_iload_n (n := 1) (i := 1) (zd (i := .iload_n 1) (n := 1) (by decide +kernel)) rfl <|
    z_aload_n (n := 0) (i := 0) (zd (i := .aload_n 0) (n := 1) (by decide +kernel)) rfl <|
    z_getR (ci := 9) (j := 49) (idx := 113) (zd (i := .getfield 113) (n := 3) (by decide +kernel)) (by decide +kernel) (by decide +kernel) rfl g1177 <|
    z_iload_n (n := 1) (i := 1) (zd (i := .iload_n 1) (n := 1) (by decide +kernel)) rfl <|
    z_iald (zd (i := .iaload) (n := 1) (by decide +kernel)) <|
    z_iast (zd (i := .iastore) (n := 1) (by decide +kernel)) <|
    z_iinc (i := 1) (n := 1) (zd (i := .iinc 1 (1)) (n := 3) (by decide +kernel)) (by decide +kernel) (by decide +kernel) <|
    z_goto (off := -21) (tgt := 2) (zd (i := .goto (-21)) (n := 3) (by decide +kernel)) (by decide +kernel) (zj (hj 1) (by decide +kernel))
noncomputable def bi_X9_keepsRow_3 : zBl := fun jp K => oVret K
theorem si_X9_keepsRow_3 (d : Nat) : zPb l G gh (d + 1) n_X9_keepsRow pi_X9_keepsRow 26 bi_X9_keepsRow_3 := fun K jp hj =>
    z_vret (zd (i := .return_) (n := 1) (by decide +kernel)) rfl
noncomputable def f_X9_keepsRow : zMt := zmet 2 [bi_X9_keepsRow_0, bi_X9_keepsRow_1, bi_X9_keepsRow_2, bi_X9_keepsRow_3]
theorem c_X9_keepsRow (d : Nat) : zC l G gh (d + 1) n_X9_keepsRow f_X9_keepsRow := zmet_ok (pcs := pi_X9_keepsRow) (by decide) rfl rfl ⟨si_X9_keepsRow_0 d, si_X9_keepsRow_1 d, si_X9_keepsRow_2 d, si_X9_keepsRow_3 d, trivial⟩
def p_X9_init : List Nat := [0, 76, 143, 220, 294, 367, 428, 489, 558, 621, 684, 745, 810]
noncomputable def b_X9_init_0 : zBl := fun jp K => oAld 0 <| oObj <| oAld 0 <| oInt 2147485648 <| oNewa 11 43 13125 <| oPutR 9 1 <| oAld 0 <| oInt 2147485648 <| oNewa 11 43 13125 <| oPutR 9 3 <| oAld 0 <| oInt 2147484051 <| oNewa 10 43 13125 <| oPutR 9 5 <| oAld 0 <| oInt 2147484051 <| oNewa 10 43 13125 <| oPutR 9 6 <| oAld 0 <| oInt 2147484051 <| oNewa 10 43 13125 <| oPutR 9 7 <| oAld 0 <| oInt 2147484051 <| oNewa 13 43 13125 <| oPutR 9 8 <| oAld 0 <| oInt 2147483671 <| oNewa 13 43 13125 <| oPutR 9 9 <| oAld 0 <| oInt 2147483647 <| oPutI 9 17 <| oAld 0 <| oInt 2147483660 <| oNewa 13 43 13125 <| jp 1
theorem s_X9_init_0 (d : Nat) : zPb l G gh (d + 3) n_X9_init p_X9_init 0 b_X9_init_0 := fun K jp hj =>
    z_aload_n (n := 0) (i := 0) (zd (i := .aload_n 0) (n := 1) (by decide +kernel)) rfl <|
    z_obj (idx := 7) (zd (i := .invokespecial 7) (n := 3) (by decide +kernel)) g1109 g121 g122 <|
    z_aload_n (n := 0) (i := 0) (zd (i := .aload_n 0) (n := 1) (by decide +kernel)) rfl <|
    z_sipush (n := 2000) (zd (i := .sipush (2000)) (n := 3) (by decide +kernel)) (by decide +kernel) <|
    z_newI (ty := 11) (aty := .byte) 1 (zd (i := .newarray .byte) (n := 2) (by decide +kernel)) rfl (by decide +kernel) (by decide +kernel) rfl (fun _ _ h => h) (by decide +kernel) g138 rfl rfl <|
    z_putR (ci := 9) (j := 1) (idx := 13) (zd (i := .putfield 13) (n := 3) (by decide +kernel)) (by decide +kernel) (by decide +kernel) (fun r => by cases r <;> rfl) (fun r => by cases r <;> rfl) rfl g1129 (Or.inr ⟨rfl, rfl⟩) <|
    z_aload_n (n := 0) (i := 0) (zd (i := .aload_n 0) (n := 1) (by decide +kernel)) rfl <|
    z_sipush (n := 2000) (zd (i := .sipush (2000)) (n := 3) (by decide +kernel)) (by decide +kernel) <|
    z_newI (ty := 11) (aty := .byte) 1 (zd (i := .newarray .byte) (n := 2) (by decide +kernel)) rfl (by decide +kernel) (by decide +kernel) rfl (fun _ _ h => h) (by decide +kernel) g138 rfl rfl <|
    z_putR (ci := 9) (j := 3) (idx := 17) (zd (i := .putfield 17) (n := 3) (by decide +kernel)) (by decide +kernel) (by decide +kernel) (fun r => by cases r <;> rfl) (fun r => by cases r <;> rfl) rfl g1131 (Or.inr ⟨rfl, rfl⟩) <|
    z_aload_n (n := 0) (i := 0) (zd (i := .aload_n 0) (n := 1) (by decide +kernel)) rfl <|
    z_sipush (n := 403) (zd (i := .sipush (403)) (n := 3) (by decide +kernel)) (by decide +kernel) <|
    z_newI (ty := 10) (aty := .int) 0 (zd (i := .newarray .int) (n := 2) (by decide +kernel)) rfl (by decide +kernel) (by decide +kernel) rfl (fun _ _ h => h) (by decide +kernel) g224 rfl rfl <|
    z_putR (ci := 9) (j := 5) (idx := 20) (zd (i := .putfield 20) (n := 3) (by decide +kernel)) (by decide +kernel) (by decide +kernel) (fun r => by cases r <;> rfl) (fun r => by cases r <;> rfl) rfl g1133 (Or.inr ⟨rfl, rfl⟩) <|
    z_aload_n (n := 0) (i := 0) (zd (i := .aload_n 0) (n := 1) (by decide +kernel)) rfl <|
    z_sipush (n := 403) (zd (i := .sipush (403)) (n := 3) (by decide +kernel)) (by decide +kernel) <|
    z_newI (ty := 10) (aty := .int) 0 (zd (i := .newarray .int) (n := 2) (by decide +kernel)) rfl (by decide +kernel) (by decide +kernel) rfl (fun _ _ h => h) (by decide +kernel) g224 rfl rfl <|
    z_putR (ci := 9) (j := 6) (idx := 24) (zd (i := .putfield 24) (n := 3) (by decide +kernel)) (by decide +kernel) (by decide +kernel) (fun r => by cases r <;> rfl) (fun r => by cases r <;> rfl) rfl g1134 (Or.inr ⟨rfl, rfl⟩) <|
    z_aload_n (n := 0) (i := 0) (zd (i := .aload_n 0) (n := 1) (by decide +kernel)) rfl <|
    z_sipush (n := 403) (zd (i := .sipush (403)) (n := 3) (by decide +kernel)) (by decide +kernel) <|
    z_newI (ty := 10) (aty := .int) 0 (zd (i := .newarray .int) (n := 2) (by decide +kernel)) rfl (by decide +kernel) (by decide +kernel) rfl (fun _ _ h => h) (by decide +kernel) g224 rfl rfl <|
    z_putR (ci := 9) (j := 7) (idx := 27) (zd (i := .putfield 27) (n := 3) (by decide +kernel)) (by decide +kernel) (by decide +kernel) (fun r => by cases r <;> rfl) (fun r => by cases r <;> rfl) rfl g1135 (Or.inr ⟨rfl, rfl⟩) <|
    z_aload_n (n := 0) (i := 0) (zd (i := .aload_n 0) (n := 1) (by decide +kernel)) rfl <|
    z_sipush (n := 403) (zd (i := .sipush (403)) (n := 3) (by decide +kernel)) (by decide +kernel) <|
    z_newL (zd (i := .newarray .long) (n := 2) (by decide +kernel)) g223 rfl rfl <|
    z_putR (ci := 9) (j := 8) (idx := 30) (zd (i := .putfield 30) (n := 3) (by decide +kernel)) (by decide +kernel) (by decide +kernel) (fun r => by cases r <;> rfl) (fun r => by cases r <;> rfl) rfl g1136 (Or.inr ⟨rfl, rfl⟩) <|
    z_aload_n (n := 0) (i := 0) (zd (i := .aload_n 0) (n := 1) (by decide +kernel)) rfl <|
    z_bipush (n := 23) (zd (i := .bipush (23)) (n := 2) (by decide +kernel)) (by decide +kernel) <|
    z_newL (zd (i := .newarray .long) (n := 2) (by decide +kernel)) g223 rfl rfl <|
    z_putR (ci := 9) (j := 9) (idx := 34) (zd (i := .putfield 34) (n := 3) (by decide +kernel)) (by decide +kernel) (by decide +kernel) (fun r => by cases r <;> rfl) (fun r => by cases r <;> rfl) rfl g1137 (Or.inr ⟨rfl, rfl⟩) <|
    z_aload_n (n := 0) (i := 0) (zd (i := .aload_n 0) (n := 1) (by decide +kernel)) rfl <|
    z_iconst (n := -1) (zd (i := .iconst (-1)) (n := 1) (by decide +kernel)) (by decide +kernel) <|
    z_putI (ci := 9) (j := 17) (idx := 37) (zd (i := .putfield 37) (n := 3) (by decide +kernel)) (by decide +kernel) (by decide +kernel) rfl g1145 (Or.inl rfl) <|
    z_aload_n (n := 0) (i := 0) (zd (i := .aload_n 0) (n := 1) (by decide +kernel)) rfl <|
    z_bipush (n := 12) (zd (i := .bipush (12)) (n := 2) (by decide +kernel)) (by decide +kernel) <|
    z_newL (zd (i := .newarray .long) (n := 2) (by decide +kernel)) g223 rfl rfl <|
    (zj (hj 1) (by decide +kernel))
noncomputable def b_X9_init_1 : zBl := fun jp K => oPutR 9 21 <| oAld 0 <| oInt 2147483650 <| oNewa 10 43 13125 <| oPutR 9 22 <| oAld 0 <| oInt 2147483660 <| oNewa 10 43 13125 <| oPutR 9 23 <| oAld 0 <| oInt 2147483660 <| oNewa 10 43 13125 <| oPutR 9 24 <| oAld 0 <| oInt 2147483650 <| oNewa 10 43 13125 <| oPutR 9 25 <| oAld 0 <| oInt 2147483660 <| oNewa 10 43 13125 <| oPutR 9 26 <| oAld 0 <| oInt 2147483660 <| oNewa 10 43 13125 <| oPutR 9 27 <| oAld 0 <| oInt 2147483650 <| oNewa 10 43 13125 <| oPutR 9 28 <| oAld 0 <| oInt 2147483650 <| oNewa 10 43 13125 <| oPutR 9 29 <| oAld 0 <| oInt 2147483650 <| oNewa 10 43 13125 <| jp 2
theorem s_X9_init_1 (d : Nat) : zPb l G gh (d + 3) n_X9_init p_X9_init 76 b_X9_init_1 := fun K jp hj =>
    z_putR (ci := 9) (j := 21) (idx := 40) (zd (i := .putfield 40) (n := 3) (by decide +kernel)) (by decide +kernel) (by decide +kernel) (fun r => by cases r <;> rfl) (fun r => by cases r <;> rfl) rfl g1149 (Or.inr ⟨rfl, rfl⟩) <|
    z_aload_n (n := 0) (i := 0) (zd (i := .aload_n 0) (n := 1) (by decide +kernel)) rfl <|
    z_iconst (n := 2) (zd (i := .iconst (2)) (n := 1) (by decide +kernel)) (by decide +kernel) <|
    z_newI (ty := 10) (aty := .int) 0 (zd (i := .newarray .int) (n := 2) (by decide +kernel)) rfl (by decide +kernel) (by decide +kernel) rfl (fun _ _ h => h) (by decide +kernel) g224 rfl rfl <|
    z_putR (ci := 9) (j := 22) (idx := 43) (zd (i := .putfield 43) (n := 3) (by decide +kernel)) (by decide +kernel) (by decide +kernel) (fun r => by cases r <;> rfl) (fun r => by cases r <;> rfl) rfl g1150 (Or.inr ⟨rfl, rfl⟩) <|
    z_aload_n (n := 0) (i := 0) (zd (i := .aload_n 0) (n := 1) (by decide +kernel)) rfl <|
    z_bipush (n := 12) (zd (i := .bipush (12)) (n := 2) (by decide +kernel)) (by decide +kernel) <|
    z_newI (ty := 10) (aty := .int) 0 (zd (i := .newarray .int) (n := 2) (by decide +kernel)) rfl (by decide +kernel) (by decide +kernel) rfl (fun _ _ h => h) (by decide +kernel) g224 rfl rfl <|
    z_putR (ci := 9) (j := 23) (idx := 46) (zd (i := .putfield 46) (n := 3) (by decide +kernel)) (by decide +kernel) (by decide +kernel) (fun r => by cases r <;> rfl) (fun r => by cases r <;> rfl) rfl g1151 (Or.inr ⟨rfl, rfl⟩) <|
    z_aload_n (n := 0) (i := 0) (zd (i := .aload_n 0) (n := 1) (by decide +kernel)) rfl <|
    z_bipush (n := 12) (zd (i := .bipush (12)) (n := 2) (by decide +kernel)) (by decide +kernel) <|
    z_newI (ty := 10) (aty := .int) 0 (zd (i := .newarray .int) (n := 2) (by decide +kernel)) rfl (by decide +kernel) (by decide +kernel) rfl (fun _ _ h => h) (by decide +kernel) g224 rfl rfl <|
    z_putR (ci := 9) (j := 24) (idx := 49) (zd (i := .putfield 49) (n := 3) (by decide +kernel)) (by decide +kernel) (by decide +kernel) (fun r => by cases r <;> rfl) (fun r => by cases r <;> rfl) rfl g1152 (Or.inr ⟨rfl, rfl⟩) <|
    z_aload_n (n := 0) (i := 0) (zd (i := .aload_n 0) (n := 1) (by decide +kernel)) rfl <|
    z_iconst (n := 2) (zd (i := .iconst (2)) (n := 1) (by decide +kernel)) (by decide +kernel) <|
    z_newI (ty := 10) (aty := .int) 0 (zd (i := .newarray .int) (n := 2) (by decide +kernel)) rfl (by decide +kernel) (by decide +kernel) rfl (fun _ _ h => h) (by decide +kernel) g224 rfl rfl <|
    z_putR (ci := 9) (j := 25) (idx := 52) (zd (i := .putfield 52) (n := 3) (by decide +kernel)) (by decide +kernel) (by decide +kernel) (fun r => by cases r <;> rfl) (fun r => by cases r <;> rfl) rfl g1153 (Or.inr ⟨rfl, rfl⟩) <|
    z_aload_n (n := 0) (i := 0) (zd (i := .aload_n 0) (n := 1) (by decide +kernel)) rfl <|
    z_bipush (n := 12) (zd (i := .bipush (12)) (n := 2) (by decide +kernel)) (by decide +kernel) <|
    z_newI (ty := 10) (aty := .int) 0 (zd (i := .newarray .int) (n := 2) (by decide +kernel)) rfl (by decide +kernel) (by decide +kernel) rfl (fun _ _ h => h) (by decide +kernel) g224 rfl rfl <|
    z_putR (ci := 9) (j := 26) (idx := 55) (zd (i := .putfield 55) (n := 3) (by decide +kernel)) (by decide +kernel) (by decide +kernel) (fun r => by cases r <;> rfl) (fun r => by cases r <;> rfl) rfl g1154 (Or.inr ⟨rfl, rfl⟩) <|
    z_aload_n (n := 0) (i := 0) (zd (i := .aload_n 0) (n := 1) (by decide +kernel)) rfl <|
    z_bipush (n := 12) (zd (i := .bipush (12)) (n := 2) (by decide +kernel)) (by decide +kernel) <|
    z_newI (ty := 10) (aty := .int) 0 (zd (i := .newarray .int) (n := 2) (by decide +kernel)) rfl (by decide +kernel) (by decide +kernel) rfl (fun _ _ h => h) (by decide +kernel) g224 rfl rfl <|
    z_putR (ci := 9) (j := 27) (idx := 58) (zd (i := .putfield 58) (n := 3) (by decide +kernel)) (by decide +kernel) (by decide +kernel) (fun r => by cases r <;> rfl) (fun r => by cases r <;> rfl) rfl g1155 (Or.inr ⟨rfl, rfl⟩) <|
    z_aload_n (n := 0) (i := 0) (zd (i := .aload_n 0) (n := 1) (by decide +kernel)) rfl <|
    z_iconst (n := 2) (zd (i := .iconst (2)) (n := 1) (by decide +kernel)) (by decide +kernel) <|
    z_newI (ty := 10) (aty := .int) 0 (zd (i := .newarray .int) (n := 2) (by decide +kernel)) rfl (by decide +kernel) (by decide +kernel) rfl (fun _ _ h => h) (by decide +kernel) g224 rfl rfl <|
    z_putR (ci := 9) (j := 28) (idx := 61) (zd (i := .putfield 61) (n := 3) (by decide +kernel)) (by decide +kernel) (by decide +kernel) (fun r => by cases r <;> rfl) (fun r => by cases r <;> rfl) rfl g1156 (Or.inr ⟨rfl, rfl⟩) <|
    z_aload_n (n := 0) (i := 0) (zd (i := .aload_n 0) (n := 1) (by decide +kernel)) rfl <|
    z_iconst (n := 2) (zd (i := .iconst (2)) (n := 1) (by decide +kernel)) (by decide +kernel) <|
    z_newI (ty := 10) (aty := .int) 0 (zd (i := .newarray .int) (n := 2) (by decide +kernel)) rfl (by decide +kernel) (by decide +kernel) rfl (fun _ _ h => h) (by decide +kernel) g224 rfl rfl <|
    z_putR (ci := 9) (j := 29) (idx := 64) (zd (i := .putfield 64) (n := 3) (by decide +kernel)) (by decide +kernel) (by decide +kernel) (fun r => by cases r <;> rfl) (fun r => by cases r <;> rfl) rfl g1157 (Or.inr ⟨rfl, rfl⟩) <|
    z_aload_n (n := 0) (i := 0) (zd (i := .aload_n 0) (n := 1) (by decide +kernel)) rfl <|
    z_iconst (n := 2) (zd (i := .iconst (2)) (n := 1) (by decide +kernel)) (by decide +kernel) <|
    z_newI (ty := 10) (aty := .int) 0 (zd (i := .newarray .int) (n := 2) (by decide +kernel)) rfl (by decide +kernel) (by decide +kernel) rfl (fun _ _ h => h) (by decide +kernel) g224 rfl rfl <|
    (zj (hj 2) (by decide +kernel))
noncomputable def b_X9_init_2 : zBl := fun jp K => oPutR 9 30 <| oAld 0 <| oInt 2147483650 <| oNewa 10 43 13125 <| oPutR 9 31 <| oAld 0 <| oInt 2147483658 <| oNewa 10 43 13125 <| oPutR 9 32 <| oAld 0 <| oInt 2147483658 <| oNewa 10 43 13125 <| oPutR 9 33 <| oAld 0 <| oInt 2147483908 <| oNewa 12 43 13125 <| oPutR 9 35 <| oAld 0 <| oInt 2147483908 <| oNewa 10 43 13125 <| oPutR 9 36 <| oAld 0 <| oInt 2147483908 <| oNewa 10 43 13125 <| oPutR 9 37 <| oAld 0 <| oInt 2147483908 <| oNewa 10 43 13125 <| oPutR 9 38 <| oAld 0 <| oInt 2147483908 <| oNewa 10 43 13125 <| oPutR 9 39 <| oAld 0 <| oInt 2147484488 <| oNewa 10 43 13125 <| jp 3
theorem s_X9_init_2 (d : Nat) : zPb l G gh (d + 3) n_X9_init p_X9_init 143 b_X9_init_2 := fun K jp hj =>
    z_putR (ci := 9) (j := 30) (idx := 67) (zd (i := .putfield 67) (n := 3) (by decide +kernel)) (by decide +kernel) (by decide +kernel) (fun r => by cases r <;> rfl) (fun r => by cases r <;> rfl) rfl g1158 (Or.inr ⟨rfl, rfl⟩) <|
    z_aload_n (n := 0) (i := 0) (zd (i := .aload_n 0) (n := 1) (by decide +kernel)) rfl <|
    z_iconst (n := 2) (zd (i := .iconst (2)) (n := 1) (by decide +kernel)) (by decide +kernel) <|
    z_newI (ty := 10) (aty := .int) 0 (zd (i := .newarray .int) (n := 2) (by decide +kernel)) rfl (by decide +kernel) (by decide +kernel) rfl (fun _ _ h => h) (by decide +kernel) g224 rfl rfl <|
    z_putR (ci := 9) (j := 31) (idx := 70) (zd (i := .putfield 70) (n := 3) (by decide +kernel)) (by decide +kernel) (by decide +kernel) (fun r => by cases r <;> rfl) (fun r => by cases r <;> rfl) rfl g1159 (Or.inr ⟨rfl, rfl⟩) <|
    z_aload_n (n := 0) (i := 0) (zd (i := .aload_n 0) (n := 1) (by decide +kernel)) rfl <|
    z_bipush (n := 10) (zd (i := .bipush (10)) (n := 2) (by decide +kernel)) (by decide +kernel) <|
    z_newI (ty := 10) (aty := .int) 0 (zd (i := .newarray .int) (n := 2) (by decide +kernel)) rfl (by decide +kernel) (by decide +kernel) rfl (fun _ _ h => h) (by decide +kernel) g224 rfl rfl <|
    z_putR (ci := 9) (j := 32) (idx := 73) (zd (i := .putfield 73) (n := 3) (by decide +kernel)) (by decide +kernel) (by decide +kernel) (fun r => by cases r <;> rfl) (fun r => by cases r <;> rfl) rfl g1160 (Or.inr ⟨rfl, rfl⟩) <|
    z_aload_n (n := 0) (i := 0) (zd (i := .aload_n 0) (n := 1) (by decide +kernel)) rfl <|
    z_bipush (n := 10) (zd (i := .bipush (10)) (n := 2) (by decide +kernel)) (by decide +kernel) <|
    z_newI (ty := 10) (aty := .int) 0 (zd (i := .newarray .int) (n := 2) (by decide +kernel)) rfl (by decide +kernel) (by decide +kernel) rfl (fun _ _ h => h) (by decide +kernel) g224 rfl rfl <|
    z_putR (ci := 9) (j := 33) (idx := 76) (zd (i := .putfield 76) (n := 3) (by decide +kernel)) (by decide +kernel) (by decide +kernel) (fun r => by cases r <;> rfl) (fun r => by cases r <;> rfl) rfl g1161 (Or.inr ⟨rfl, rfl⟩) <|
    z_aload_n (n := 0) (i := 0) (zd (i := .aload_n 0) (n := 1) (by decide +kernel)) rfl <|
    z_sipush (n := 260) (zd (i := .sipush (260)) (n := 3) (by decide +kernel)) (by decide +kernel) <|
    z_newI (ty := 12) (aty := .boolean) 2 (zd (i := .newarray .boolean) (n := 2) (by decide +kernel)) rfl (by decide +kernel) (by decide +kernel) rfl (fun _ _ h => h) (by decide +kernel) g449 rfl rfl <|
    z_putR (ci := 9) (j := 35) (idx := 79) (zd (i := .putfield 79) (n := 3) (by decide +kernel)) (by decide +kernel) (by decide +kernel) (fun r => by cases r <;> rfl) (fun r => by cases r <;> rfl) rfl g1163 (Or.inr ⟨rfl, rfl⟩) <|
    z_aload_n (n := 0) (i := 0) (zd (i := .aload_n 0) (n := 1) (by decide +kernel)) rfl <|
    z_sipush (n := 260) (zd (i := .sipush (260)) (n := 3) (by decide +kernel)) (by decide +kernel) <|
    z_newI (ty := 10) (aty := .int) 0 (zd (i := .newarray .int) (n := 2) (by decide +kernel)) rfl (by decide +kernel) (by decide +kernel) rfl (fun _ _ h => h) (by decide +kernel) g224 rfl rfl <|
    z_putR (ci := 9) (j := 36) (idx := 83) (zd (i := .putfield 83) (n := 3) (by decide +kernel)) (by decide +kernel) (by decide +kernel) (fun r => by cases r <;> rfl) (fun r => by cases r <;> rfl) rfl g1164 (Or.inr ⟨rfl, rfl⟩) <|
    z_aload_n (n := 0) (i := 0) (zd (i := .aload_n 0) (n := 1) (by decide +kernel)) rfl <|
    z_sipush (n := 260) (zd (i := .sipush (260)) (n := 3) (by decide +kernel)) (by decide +kernel) <|
    z_newI (ty := 10) (aty := .int) 0 (zd (i := .newarray .int) (n := 2) (by decide +kernel)) rfl (by decide +kernel) (by decide +kernel) rfl (fun _ _ h => h) (by decide +kernel) g224 rfl rfl <|
    z_putR (ci := 9) (j := 37) (idx := 86) (zd (i := .putfield 86) (n := 3) (by decide +kernel)) (by decide +kernel) (by decide +kernel) (fun r => by cases r <;> rfl) (fun r => by cases r <;> rfl) rfl g1165 (Or.inr ⟨rfl, rfl⟩) <|
    z_aload_n (n := 0) (i := 0) (zd (i := .aload_n 0) (n := 1) (by decide +kernel)) rfl <|
    z_sipush (n := 260) (zd (i := .sipush (260)) (n := 3) (by decide +kernel)) (by decide +kernel) <|
    z_newI (ty := 10) (aty := .int) 0 (zd (i := .newarray .int) (n := 2) (by decide +kernel)) rfl (by decide +kernel) (by decide +kernel) rfl (fun _ _ h => h) (by decide +kernel) g224 rfl rfl <|
    z_putR (ci := 9) (j := 38) (idx := 89) (zd (i := .putfield 89) (n := 3) (by decide +kernel)) (by decide +kernel) (by decide +kernel) (fun r => by cases r <;> rfl) (fun r => by cases r <;> rfl) rfl g1166 (Or.inr ⟨rfl, rfl⟩) <|
    z_aload_n (n := 0) (i := 0) (zd (i := .aload_n 0) (n := 1) (by decide +kernel)) rfl <|
    z_sipush (n := 260) (zd (i := .sipush (260)) (n := 3) (by decide +kernel)) (by decide +kernel) <|
    z_newI (ty := 10) (aty := .int) 0 (zd (i := .newarray .int) (n := 2) (by decide +kernel)) rfl (by decide +kernel) (by decide +kernel) rfl (fun _ _ h => h) (by decide +kernel) g224 rfl rfl <|
    z_putR (ci := 9) (j := 39) (idx := 92) (zd (i := .putfield 92) (n := 3) (by decide +kernel)) (by decide +kernel) (by decide +kernel) (fun r => by cases r <;> rfl) (fun r => by cases r <;> rfl) rfl g1167 (Or.inr ⟨rfl, rfl⟩) <|
    z_aload_n (n := 0) (i := 0) (zd (i := .aload_n 0) (n := 1) (by decide +kernel)) rfl <|
    z_sipush (n := 840) (zd (i := .sipush (840)) (n := 3) (by decide +kernel)) (by decide +kernel) <|
    z_newI (ty := 10) (aty := .int) 0 (zd (i := .newarray .int) (n := 2) (by decide +kernel)) rfl (by decide +kernel) (by decide +kernel) rfl (fun _ _ h => h) (by decide +kernel) g224 rfl rfl <|
    (zj (hj 3) (by decide +kernel))
noncomputable def b_X9_init_3 : zBl := fun jp K => oPutR 9 41 <| oAld 0 <| oInt 2147484488 <| oNewa 10 43 13125 <| oPutR 9 42 <| oAld 0 <| oInt 2147483712 <| oNewa 10 43 13125 <| oPutR 9 43 <| oAld 0 <| oInt 2147483657 <| oNewa 10 43 13125 <| oPutR 9 45 <| oAld 0 <| oInt 2147484048 <| oNewa 10 43 13125 <| oPutR 9 46 <| oAld 0 <| oInt 2147483745 <| oNewa 10 43 13125 <| oPutR 9 48 <| oAld 0 <| oInt 2147483745 <| oNewa 10 43 13125 <| oPutR 9 49 <| oAld 0 <| oInt 2147486558 <| oNewa 10 43 13125 <| oPutR 9 52 <| oAld 0 <| oInt 2147483668 <| oNewa 10 43 13125 <| oPutR 9 53 <| oAld 0 <| oInt 2147483651 <| oNewa 10 43 13125 <| jp 4
theorem s_X9_init_3 (d : Nat) : zPb l G gh (d + 3) n_X9_init p_X9_init 220 b_X9_init_3 := fun K jp hj =>
    z_putR (ci := 9) (j := 41) (idx := 95) (zd (i := .putfield 95) (n := 3) (by decide +kernel)) (by decide +kernel) (by decide +kernel) (fun r => by cases r <;> rfl) (fun r => by cases r <;> rfl) rfl g1169 (Or.inr ⟨rfl, rfl⟩) <|
    z_aload_n (n := 0) (i := 0) (zd (i := .aload_n 0) (n := 1) (by decide +kernel)) rfl <|
    z_sipush (n := 840) (zd (i := .sipush (840)) (n := 3) (by decide +kernel)) (by decide +kernel) <|
    z_newI (ty := 10) (aty := .int) 0 (zd (i := .newarray .int) (n := 2) (by decide +kernel)) rfl (by decide +kernel) (by decide +kernel) rfl (fun _ _ h => h) (by decide +kernel) g224 rfl rfl <|
    z_putR (ci := 9) (j := 42) (idx := 98) (zd (i := .putfield 98) (n := 3) (by decide +kernel)) (by decide +kernel) (by decide +kernel) (fun r => by cases r <;> rfl) (fun r => by cases r <;> rfl) rfl g1170 (Or.inr ⟨rfl, rfl⟩) <|
    z_aload_n (n := 0) (i := 0) (zd (i := .aload_n 0) (n := 1) (by decide +kernel)) rfl <|
    z_bipush (n := 64) (zd (i := .bipush (64)) (n := 2) (by decide +kernel)) (by decide +kernel) <|
    z_newI (ty := 10) (aty := .int) 0 (zd (i := .newarray .int) (n := 2) (by decide +kernel)) rfl (by decide +kernel) (by decide +kernel) rfl (fun _ _ h => h) (by decide +kernel) g224 rfl rfl <|
    z_putR (ci := 9) (j := 43) (idx := 101) (zd (i := .putfield 101) (n := 3) (by decide +kernel)) (by decide +kernel) (by decide +kernel) (fun r => by cases r <;> rfl) (fun r => by cases r <;> rfl) rfl g1171 (Or.inr ⟨rfl, rfl⟩) <|
    z_aload_n (n := 0) (i := 0) (zd (i := .aload_n 0) (n := 1) (by decide +kernel)) rfl <|
    z_bipush (n := 9) (zd (i := .bipush (9)) (n := 2) (by decide +kernel)) (by decide +kernel) <|
    z_newI (ty := 10) (aty := .int) 0 (zd (i := .newarray .int) (n := 2) (by decide +kernel)) rfl (by decide +kernel) (by decide +kernel) rfl (fun _ _ h => h) (by decide +kernel) g224 rfl rfl <|
    z_putR (ci := 9) (j := 45) (idx := 104) (zd (i := .putfield 104) (n := 3) (by decide +kernel)) (by decide +kernel) (by decide +kernel) (fun r => by cases r <;> rfl) (fun r => by cases r <;> rfl) rfl g1173 (Or.inr ⟨rfl, rfl⟩) <|
    z_aload_n (n := 0) (i := 0) (zd (i := .aload_n 0) (n := 1) (by decide +kernel)) rfl <|
    z_sipush (n := 400) (zd (i := .sipush (400)) (n := 3) (by decide +kernel)) (by decide +kernel) <|
    z_newI (ty := 10) (aty := .int) 0 (zd (i := .newarray .int) (n := 2) (by decide +kernel)) rfl (by decide +kernel) (by decide +kernel) rfl (fun _ _ h => h) (by decide +kernel) g224 rfl rfl <|
    z_putR (ci := 9) (j := 46) (idx := 107) (zd (i := .putfield 107) (n := 3) (by decide +kernel)) (by decide +kernel) (by decide +kernel) (fun r => by cases r <;> rfl) (fun r => by cases r <;> rfl) rfl g1174 (Or.inr ⟨rfl, rfl⟩) <|
    z_aload_n (n := 0) (i := 0) (zd (i := .aload_n 0) (n := 1) (by decide +kernel)) rfl <|
    z_bipush (n := 97) (zd (i := .bipush (97)) (n := 2) (by decide +kernel)) (by decide +kernel) <|
    z_newI (ty := 10) (aty := .int) 0 (zd (i := .newarray .int) (n := 2) (by decide +kernel)) rfl (by decide +kernel) (by decide +kernel) rfl (fun _ _ h => h) (by decide +kernel) g224 rfl rfl <|
    z_putR (ci := 9) (j := 48) (idx := 110) (zd (i := .putfield 110) (n := 3) (by decide +kernel)) (by decide +kernel) (by decide +kernel) (fun r => by cases r <;> rfl) (fun r => by cases r <;> rfl) rfl g1176 (Or.inr ⟨rfl, rfl⟩) <|
    z_aload_n (n := 0) (i := 0) (zd (i := .aload_n 0) (n := 1) (by decide +kernel)) rfl <|
    z_bipush (n := 97) (zd (i := .bipush (97)) (n := 2) (by decide +kernel)) (by decide +kernel) <|
    z_newI (ty := 10) (aty := .int) 0 (zd (i := .newarray .int) (n := 2) (by decide +kernel)) rfl (by decide +kernel) (by decide +kernel) rfl (fun _ _ h => h) (by decide +kernel) g224 rfl rfl <|
    z_putR (ci := 9) (j := 49) (idx := 113) (zd (i := .putfield 113) (n := 3) (by decide +kernel)) (by decide +kernel) (by decide +kernel) (fun r => by cases r <;> rfl) (fun r => by cases r <;> rfl) rfl g1177 (Or.inr ⟨rfl, rfl⟩) <|
    z_aload_n (n := 0) (i := 0) (zd (i := .aload_n 0) (n := 1) (by decide +kernel)) rfl <|
    z_sipush (n := 2910) (zd (i := .sipush (2910)) (n := 3) (by decide +kernel)) (by decide +kernel) <|
    z_newI (ty := 10) (aty := .int) 0 (zd (i := .newarray .int) (n := 2) (by decide +kernel)) rfl (by decide +kernel) (by decide +kernel) rfl (fun _ _ h => h) (by decide +kernel) g224 rfl rfl <|
    z_putR (ci := 9) (j := 52) (idx := 116) (zd (i := .putfield 116) (n := 3) (by decide +kernel)) (by decide +kernel) (by decide +kernel) (fun r => by cases r <;> rfl) (fun r => by cases r <;> rfl) rfl g1180 (Or.inr ⟨rfl, rfl⟩) <|
    z_aload_n (n := 0) (i := 0) (zd (i := .aload_n 0) (n := 1) (by decide +kernel)) rfl <|
    z_bipush (n := 20) (zd (i := .bipush (20)) (n := 2) (by decide +kernel)) (by decide +kernel) <|
    z_newI (ty := 10) (aty := .int) 0 (zd (i := .newarray .int) (n := 2) (by decide +kernel)) rfl (by decide +kernel) (by decide +kernel) rfl (fun _ _ h => h) (by decide +kernel) g224 rfl rfl <|
    z_putR (ci := 9) (j := 53) (idx := 119) (zd (i := .putfield 119) (n := 3) (by decide +kernel)) (by decide +kernel) (by decide +kernel) (fun r => by cases r <;> rfl) (fun r => by cases r <;> rfl) rfl g1181 (Or.inr ⟨rfl, rfl⟩) <|
    z_aload_n (n := 0) (i := 0) (zd (i := .aload_n 0) (n := 1) (by decide +kernel)) rfl <|
    z_iconst (n := 3) (zd (i := .iconst (3)) (n := 1) (by decide +kernel)) (by decide +kernel) <|
    z_newI (ty := 10) (aty := .int) 0 (zd (i := .newarray .int) (n := 2) (by decide +kernel)) rfl (by decide +kernel) (by decide +kernel) rfl (fun _ _ h => h) (by decide +kernel) g224 rfl rfl <|
    (zj (hj 4) (by decide +kernel))
noncomputable def b_X9_init_4 : zBl := fun jp K => oPutR 9 54 <| oAld 0 <| oInt 2147483670 <| oNewa 12 43 13125 <| oPutR 9 56 <| oAld 0 <| oInt 2147483670 <| oNewa 12 43 13125 <| oPutR 9 57 <| oAld 0 <| oInt 2147483668 <| oNewa 10 43 13125 <| oPutR 9 59 <| oAld 0 <| oInt 2147483668 <| oNewa 10 43 13125 <| oPutR 9 60 <| oAld 0 <| oInt 2147483668 <| oNewa 10 43 13125 <| oPutR 9 61 <| oAld 0 <| oInt 2147484068 <| oNewa 10 43 13125 <| oPutR 9 62 <| oAld 0 <| oInt 2147483651 <| oNewa 12 43 13125 <| oPutR 9 63 <| oAld 0 <| oInt 2147483939 <| oNewa 10 43 13125 <| oPutR 9 64 <| oAld 0 <| oInt 2147483648 <| oCv 9 1 f_X9_plain <| jp 5
theorem s_X9_init_4 (d : Nat) : zPb l G gh (d + 3) n_X9_init p_X9_init 294 b_X9_init_4 := fun K jp hj =>
    z_putR (ci := 9) (j := 54) (idx := 122) (zd (i := .putfield 122) (n := 3) (by decide +kernel)) (by decide +kernel) (by decide +kernel) (fun r => by cases r <;> rfl) (fun r => by cases r <;> rfl) rfl g1182 (Or.inr ⟨rfl, rfl⟩) <|
    z_aload_n (n := 0) (i := 0) (zd (i := .aload_n 0) (n := 1) (by decide +kernel)) rfl <|
    z_bipush (n := 22) (zd (i := .bipush (22)) (n := 2) (by decide +kernel)) (by decide +kernel) <|
    z_newI (ty := 12) (aty := .boolean) 2 (zd (i := .newarray .boolean) (n := 2) (by decide +kernel)) rfl (by decide +kernel) (by decide +kernel) rfl (fun _ _ h => h) (by decide +kernel) g449 rfl rfl <|
    z_putR (ci := 9) (j := 56) (idx := 125) (zd (i := .putfield 125) (n := 3) (by decide +kernel)) (by decide +kernel) (by decide +kernel) (fun r => by cases r <;> rfl) (fun r => by cases r <;> rfl) rfl g1184 (Or.inr ⟨rfl, rfl⟩) <|
    z_aload_n (n := 0) (i := 0) (zd (i := .aload_n 0) (n := 1) (by decide +kernel)) rfl <|
    z_bipush (n := 22) (zd (i := .bipush (22)) (n := 2) (by decide +kernel)) (by decide +kernel) <|
    z_newI (ty := 12) (aty := .boolean) 2 (zd (i := .newarray .boolean) (n := 2) (by decide +kernel)) rfl (by decide +kernel) (by decide +kernel) rfl (fun _ _ h => h) (by decide +kernel) g449 rfl rfl <|
    z_putR (ci := 9) (j := 57) (idx := 128) (zd (i := .putfield 128) (n := 3) (by decide +kernel)) (by decide +kernel) (by decide +kernel) (fun r => by cases r <;> rfl) (fun r => by cases r <;> rfl) rfl g1185 (Or.inr ⟨rfl, rfl⟩) <|
    z_aload_n (n := 0) (i := 0) (zd (i := .aload_n 0) (n := 1) (by decide +kernel)) rfl <|
    z_bipush (n := 20) (zd (i := .bipush (20)) (n := 2) (by decide +kernel)) (by decide +kernel) <|
    z_newI (ty := 10) (aty := .int) 0 (zd (i := .newarray .int) (n := 2) (by decide +kernel)) rfl (by decide +kernel) (by decide +kernel) rfl (fun _ _ h => h) (by decide +kernel) g224 rfl rfl <|
    z_putR (ci := 9) (j := 59) (idx := 131) (zd (i := .putfield 131) (n := 3) (by decide +kernel)) (by decide +kernel) (by decide +kernel) (fun r => by cases r <;> rfl) (fun r => by cases r <;> rfl) rfl g1187 (Or.inr ⟨rfl, rfl⟩) <|
    z_aload_n (n := 0) (i := 0) (zd (i := .aload_n 0) (n := 1) (by decide +kernel)) rfl <|
    z_bipush (n := 20) (zd (i := .bipush (20)) (n := 2) (by decide +kernel)) (by decide +kernel) <|
    z_newI (ty := 10) (aty := .int) 0 (zd (i := .newarray .int) (n := 2) (by decide +kernel)) rfl (by decide +kernel) (by decide +kernel) rfl (fun _ _ h => h) (by decide +kernel) g224 rfl rfl <|
    z_putR (ci := 9) (j := 60) (idx := 134) (zd (i := .putfield 134) (n := 3) (by decide +kernel)) (by decide +kernel) (by decide +kernel) (fun r => by cases r <;> rfl) (fun r => by cases r <;> rfl) rfl g1188 (Or.inr ⟨rfl, rfl⟩) <|
    z_aload_n (n := 0) (i := 0) (zd (i := .aload_n 0) (n := 1) (by decide +kernel)) rfl <|
    z_bipush (n := 20) (zd (i := .bipush (20)) (n := 2) (by decide +kernel)) (by decide +kernel) <|
    z_newI (ty := 10) (aty := .int) 0 (zd (i := .newarray .int) (n := 2) (by decide +kernel)) rfl (by decide +kernel) (by decide +kernel) rfl (fun _ _ h => h) (by decide +kernel) g224 rfl rfl <|
    z_putR (ci := 9) (j := 61) (idx := 137) (zd (i := .putfield 137) (n := 3) (by decide +kernel)) (by decide +kernel) (by decide +kernel) (fun r => by cases r <;> rfl) (fun r => by cases r <;> rfl) rfl g1189 (Or.inr ⟨rfl, rfl⟩) <|
    z_aload_n (n := 0) (i := 0) (zd (i := .aload_n 0) (n := 1) (by decide +kernel)) rfl <|
    z_sipush (n := 420) (zd (i := .sipush (420)) (n := 3) (by decide +kernel)) (by decide +kernel) <|
    z_newI (ty := 10) (aty := .int) 0 (zd (i := .newarray .int) (n := 2) (by decide +kernel)) rfl (by decide +kernel) (by decide +kernel) rfl (fun _ _ h => h) (by decide +kernel) g224 rfl rfl <|
    z_putR (ci := 9) (j := 62) (idx := 140) (zd (i := .putfield 140) (n := 3) (by decide +kernel)) (by decide +kernel) (by decide +kernel) (fun r => by cases r <;> rfl) (fun r => by cases r <;> rfl) rfl g1190 (Or.inr ⟨rfl, rfl⟩) <|
    z_aload_n (n := 0) (i := 0) (zd (i := .aload_n 0) (n := 1) (by decide +kernel)) rfl <|
    z_iconst (n := 3) (zd (i := .iconst (3)) (n := 1) (by decide +kernel)) (by decide +kernel) <|
    z_newI (ty := 12) (aty := .boolean) 2 (zd (i := .newarray .boolean) (n := 2) (by decide +kernel)) rfl (by decide +kernel) (by decide +kernel) rfl (fun _ _ h => h) (by decide +kernel) g449 rfl rfl <|
    z_putR (ci := 9) (j := 63) (idx := 143) (zd (i := .putfield 143) (n := 3) (by decide +kernel)) (by decide +kernel) (by decide +kernel) (fun r => by cases r <;> rfl) (fun r => by cases r <;> rfl) rfl g1191 (Or.inr ⟨rfl, rfl⟩) <|
    z_aload_n (n := 0) (i := 0) (zd (i := .aload_n 0) (n := 1) (by decide +kernel)) rfl <|
    z_sipush (n := 291) (zd (i := .sipush (291)) (n := 3) (by decide +kernel)) (by decide +kernel) <|
    z_newI (ty := 10) (aty := .int) 0 (zd (i := .newarray .int) (n := 2) (by decide +kernel)) rfl (by decide +kernel) (by decide +kernel) rfl (fun _ _ h => h) (by decide +kernel) g224 rfl rfl <|
    z_putR (ci := 9) (j := 64) (idx := 146) (zd (i := .putfield 146) (n := 3) (by decide +kernel)) (by decide +kernel) (by decide +kernel) (fun r => by cases r <;> rfl) (fun r => by cases r <;> rfl) rfl g1192 (Or.inr ⟨rfl, rfl⟩) <|
    z_aload_n (n := 0) (i := 0) (zd (i := .aload_n 0) (n := 1) (by decide +kernel)) rfl <|
    z_iconst (n := 0) (zd (i := .iconst (0)) (n := 1) (by decide +kernel)) (by decide +kernel) <|
    z_callV (idx := 149) (ci := 9) (N := n_X9_plain) (zd (i := .invokevirtual 149) (n := 3) (by decide +kernel)) to_X9_plain g1110 g1112 g41 (by decide +kernel) rfl rfl rfl (c_X9_plain (l := l) (G := G) (gh := gh) (d + 1)) <|
    (zj (hj 5) (by decide +kernel))
noncomputable def b_X9_init_5 : zBl := fun jp K => oAld 0 <| oGetR 9 9 <| oInt 2147483648 <| oInt 2147483764 <| oInt 2147483752 <| oInt 2147483753 <| oInt 2147483758 <| oInt 2147483751 <| oInt 2147483648 <| oInt 2147483648 <| oCs 7 f_X9_word <| oLast <| oAld 0 <| oGetR 9 9 <| oInt 2147483649 <| oInt 2147483763 <| oInt 2147483749 <| oInt 2147483745 <| oInt 2147483764 <| oInt 2147483648 <| oInt 2147483648 <| oInt 2147483648 <| oCs 7 f_X9_word <| oLast <| oAld 0 <| oGetR 9 9 <| oInt 2147483650 <| oInt 2147483752 <| oInt 2147483749 <| oInt 2147483745 <| oInt 2147483764 <| oInt 2147483648 <| oInt 2147483648 <| oInt 2147483648 <| oCs 7 f_X9_word <| oLast <| jp 6
theorem s_X9_init_5 (d : Nat) : zPb l G gh (d + 3) n_X9_init p_X9_init 367 b_X9_init_5 := fun K jp hj =>
    z_aload_n (n := 0) (i := 0) (zd (i := .aload_n 0) (n := 1) (by decide +kernel)) rfl <|
    z_getR (ci := 9) (j := 9) (idx := 34) (zd (i := .getfield 34) (n := 3) (by decide +kernel)) (by decide +kernel) (by decide +kernel) rfl g1137 <|
    z_iconst (n := 0) (zd (i := .iconst (0)) (n := 1) (by decide +kernel)) (by decide +kernel) <|
    z_bipush (n := 116) (zd (i := .bipush (116)) (n := 2) (by decide +kernel)) (by decide +kernel) <|
    z_bipush (n := 104) (zd (i := .bipush (104)) (n := 2) (by decide +kernel)) (by decide +kernel) <|
    z_bipush (n := 105) (zd (i := .bipush (105)) (n := 2) (by decide +kernel)) (by decide +kernel) <|
    z_bipush (n := 110) (zd (i := .bipush (110)) (n := 2) (by decide +kernel)) (by decide +kernel) <|
    z_bipush (n := 103) (zd (i := .bipush (103)) (n := 2) (by decide +kernel)) (by decide +kernel) <|
    z_iconst (n := 0) (zd (i := .iconst (0)) (n := 1) (by decide +kernel)) (by decide +kernel) <|
    z_iconst (n := 0) (zd (i := .iconst (0)) (n := 1) (by decide +kernel)) (by decide +kernel) <|
    z_callS (idx := 153) (N := n_X9_word) (zd (i := .invokestatic 153) (n := 3) (by decide +kernel)) to_X9_word g1114 g1115 rfl rfl (c_X9_word (l := l) (G := G) (gh := gh) d) <|
    z_last (zd (i := .lastore) (n := 1) (by decide +kernel)) <|
    z_aload_n (n := 0) (i := 0) (zd (i := .aload_n 0) (n := 1) (by decide +kernel)) rfl <|
    z_getR (ci := 9) (j := 9) (idx := 34) (zd (i := .getfield 34) (n := 3) (by decide +kernel)) (by decide +kernel) (by decide +kernel) rfl g1137 <|
    z_iconst (n := 1) (zd (i := .iconst (1)) (n := 1) (by decide +kernel)) (by decide +kernel) <|
    z_bipush (n := 115) (zd (i := .bipush (115)) (n := 2) (by decide +kernel)) (by decide +kernel) <|
    z_bipush (n := 101) (zd (i := .bipush (101)) (n := 2) (by decide +kernel)) (by decide +kernel) <|
    z_bipush (n := 97) (zd (i := .bipush (97)) (n := 2) (by decide +kernel)) (by decide +kernel) <|
    z_bipush (n := 116) (zd (i := .bipush (116)) (n := 2) (by decide +kernel)) (by decide +kernel) <|
    z_iconst (n := 0) (zd (i := .iconst (0)) (n := 1) (by decide +kernel)) (by decide +kernel) <|
    z_iconst (n := 0) (zd (i := .iconst (0)) (n := 1) (by decide +kernel)) (by decide +kernel) <|
    z_iconst (n := 0) (zd (i := .iconst (0)) (n := 1) (by decide +kernel)) (by decide +kernel) <|
    z_callS (idx := 153) (N := n_X9_word) (zd (i := .invokestatic 153) (n := 3) (by decide +kernel)) to_X9_word g1114 g1115 rfl rfl (c_X9_word (l := l) (G := G) (gh := gh) d) <|
    z_last (zd (i := .lastore) (n := 1) (by decide +kernel)) <|
    z_aload_n (n := 0) (i := 0) (zd (i := .aload_n 0) (n := 1) (by decide +kernel)) rfl <|
    z_getR (ci := 9) (j := 9) (idx := 34) (zd (i := .getfield 34) (n := 3) (by decide +kernel)) (by decide +kernel) (by decide +kernel) rfl g1137 <|
    z_iconst (n := 2) (zd (i := .iconst (2)) (n := 1) (by decide +kernel)) (by decide +kernel) <|
    z_bipush (n := 104) (zd (i := .bipush (104)) (n := 2) (by decide +kernel)) (by decide +kernel) <|
    z_bipush (n := 101) (zd (i := .bipush (101)) (n := 2) (by decide +kernel)) (by decide +kernel) <|
    z_bipush (n := 97) (zd (i := .bipush (97)) (n := 2) (by decide +kernel)) (by decide +kernel) <|
    z_bipush (n := 116) (zd (i := .bipush (116)) (n := 2) (by decide +kernel)) (by decide +kernel) <|
    z_iconst (n := 0) (zd (i := .iconst (0)) (n := 1) (by decide +kernel)) (by decide +kernel) <|
    z_iconst (n := 0) (zd (i := .iconst (0)) (n := 1) (by decide +kernel)) (by decide +kernel) <|
    z_iconst (n := 0) (zd (i := .iconst (0)) (n := 1) (by decide +kernel)) (by decide +kernel) <|
    z_callS (idx := 153) (N := n_X9_word) (zd (i := .invokestatic 153) (n := 3) (by decide +kernel)) to_X9_word g1114 g1115 rfl rfl (c_X9_word (l := l) (G := G) (gh := gh) d) <|
    z_last (zd (i := .lastore) (n := 1) (by decide +kernel)) <|
    (zj (hj 6) (by decide +kernel))
noncomputable def b_X9_init_6 : zBl := fun jp K => oAld 0 <| oGetR 9 9 <| oInt 2147483651 <| oInt 2147483763 <| oInt 2147483749 <| oInt 2147483749 <| oInt 2147483758 <| oInt 2147483648 <| oInt 2147483648 <| oInt 2147483648 <| oCs 7 f_X9_word <| oLast <| oAld 0 <| oGetR 9 9 <| oInt 2147483652 <| oInt 2147483757 <| oInt 2147483759 <| oInt 2147483766 <| oInt 2147483749 <| oInt 2147483748 <| oInt 2147483648 <| oInt 2147483648 <| oCs 7 f_X9_word <| oLast <| oAld 0 <| oGetR 9 9 <| oInt 2147483653 <| oInt 2147483762 <| oInt 2147483749 <| oInt 2147483758 <| oInt 2147483764 <| oInt 2147483648 <| oInt 2147483648 <| oInt 2147483648 <| oCs 7 f_X9_word <| oLast <| jp 7
theorem s_X9_init_6 (d : Nat) : zPb l G gh (d + 3) n_X9_init p_X9_init 428 b_X9_init_6 := fun K jp hj =>
    z_aload_n (n := 0) (i := 0) (zd (i := .aload_n 0) (n := 1) (by decide +kernel)) rfl <|
    z_getR (ci := 9) (j := 9) (idx := 34) (zd (i := .getfield 34) (n := 3) (by decide +kernel)) (by decide +kernel) (by decide +kernel) rfl g1137 <|
    z_iconst (n := 3) (zd (i := .iconst (3)) (n := 1) (by decide +kernel)) (by decide +kernel) <|
    z_bipush (n := 115) (zd (i := .bipush (115)) (n := 2) (by decide +kernel)) (by decide +kernel) <|
    z_bipush (n := 101) (zd (i := .bipush (101)) (n := 2) (by decide +kernel)) (by decide +kernel) <|
    z_bipush (n := 101) (zd (i := .bipush (101)) (n := 2) (by decide +kernel)) (by decide +kernel) <|
    z_bipush (n := 110) (zd (i := .bipush (110)) (n := 2) (by decide +kernel)) (by decide +kernel) <|
    z_iconst (n := 0) (zd (i := .iconst (0)) (n := 1) (by decide +kernel)) (by decide +kernel) <|
    z_iconst (n := 0) (zd (i := .iconst (0)) (n := 1) (by decide +kernel)) (by decide +kernel) <|
    z_iconst (n := 0) (zd (i := .iconst (0)) (n := 1) (by decide +kernel)) (by decide +kernel) <|
    z_callS (idx := 153) (N := n_X9_word) (zd (i := .invokestatic 153) (n := 3) (by decide +kernel)) to_X9_word g1114 g1115 rfl rfl (c_X9_word (l := l) (G := G) (gh := gh) d) <|
    z_last (zd (i := .lastore) (n := 1) (by decide +kernel)) <|
    z_aload_n (n := 0) (i := 0) (zd (i := .aload_n 0) (n := 1) (by decide +kernel)) rfl <|
    z_getR (ci := 9) (j := 9) (idx := 34) (zd (i := .getfield 34) (n := 3) (by decide +kernel)) (by decide +kernel) (by decide +kernel) rfl g1137 <|
    z_iconst (n := 4) (zd (i := .iconst (4)) (n := 1) (by decide +kernel)) (by decide +kernel) <|
    z_bipush (n := 109) (zd (i := .bipush (109)) (n := 2) (by decide +kernel)) (by decide +kernel) <|
    z_bipush (n := 111) (zd (i := .bipush (111)) (n := 2) (by decide +kernel)) (by decide +kernel) <|
    z_bipush (n := 118) (zd (i := .bipush (118)) (n := 2) (by decide +kernel)) (by decide +kernel) <|
    z_bipush (n := 101) (zd (i := .bipush (101)) (n := 2) (by decide +kernel)) (by decide +kernel) <|
    z_bipush (n := 100) (zd (i := .bipush (100)) (n := 2) (by decide +kernel)) (by decide +kernel) <|
    z_iconst (n := 0) (zd (i := .iconst (0)) (n := 1) (by decide +kernel)) (by decide +kernel) <|
    z_iconst (n := 0) (zd (i := .iconst (0)) (n := 1) (by decide +kernel)) (by decide +kernel) <|
    z_callS (idx := 153) (N := n_X9_word) (zd (i := .invokestatic 153) (n := 3) (by decide +kernel)) to_X9_word g1114 g1115 rfl rfl (c_X9_word (l := l) (G := G) (gh := gh) d) <|
    z_last (zd (i := .lastore) (n := 1) (by decide +kernel)) <|
    z_aload_n (n := 0) (i := 0) (zd (i := .aload_n 0) (n := 1) (by decide +kernel)) rfl <|
    z_getR (ci := 9) (j := 9) (idx := 34) (zd (i := .getfield 34) (n := 3) (by decide +kernel)) (by decide +kernel) (by decide +kernel) rfl g1137 <|
    z_iconst (n := 5) (zd (i := .iconst (5)) (n := 1) (by decide +kernel)) (by decide +kernel) <|
    z_bipush (n := 114) (zd (i := .bipush (114)) (n := 2) (by decide +kernel)) (by decide +kernel) <|
    z_bipush (n := 101) (zd (i := .bipush (101)) (n := 2) (by decide +kernel)) (by decide +kernel) <|
    z_bipush (n := 110) (zd (i := .bipush (110)) (n := 2) (by decide +kernel)) (by decide +kernel) <|
    z_bipush (n := 116) (zd (i := .bipush (116)) (n := 2) (by decide +kernel)) (by decide +kernel) <|
    z_iconst (n := 0) (zd (i := .iconst (0)) (n := 1) (by decide +kernel)) (by decide +kernel) <|
    z_iconst (n := 0) (zd (i := .iconst (0)) (n := 1) (by decide +kernel)) (by decide +kernel) <|
    z_iconst (n := 0) (zd (i := .iconst (0)) (n := 1) (by decide +kernel)) (by decide +kernel) <|
    z_callS (idx := 153) (N := n_X9_word) (zd (i := .invokestatic 153) (n := 3) (by decide +kernel)) to_X9_word g1114 g1115 rfl rfl (c_X9_word (l := l) (G := G) (gh := gh) d) <|
    z_last (zd (i := .lastore) (n := 1) (by decide +kernel)) <|
    (zj (hj 7) (by decide +kernel))
noncomputable def b_X9_init_7 : zBl := fun jp K => oAld 0 <| oGetR 9 9 <| oInt 2147483654 <| oInt 2147483753 <| oInt 2147483758 <| oInt 2147483764 <| oInt 2147483749 <| oInt 2147483762 <| oInt 2147483749 <| oInt 2147483763 <| oCs 7 f_X9_word <| oInt 2147483764 <| oCs 2 f_X9_appends <| oLast <| oAld 0 <| oGetR 9 9 <| oInt 2147483655 <| oInt 2147483751 <| oInt 2147483762 <| oInt 2147483745 <| oInt 2147483747 <| oInt 2147483749 <| oInt 2147483648 <| oInt 2147483648 <| oCs 7 f_X9_word <| oLast <| oAld 0 <| oGetR 9 9 <| oInt 2147483656 <| oInt 2147483767 <| oInt 2147483753 <| oInt 2147483758 <| oInt 2147483748 <| oInt 2147483763 <| oInt 2147483648 <| oInt 2147483648 <| jp 8
theorem s_X9_init_7 (d : Nat) : zPb l G gh (d + 3) n_X9_init p_X9_init 489 b_X9_init_7 := fun K jp hj =>
    z_aload_n (n := 0) (i := 0) (zd (i := .aload_n 0) (n := 1) (by decide +kernel)) rfl <|
    z_getR (ci := 9) (j := 9) (idx := 34) (zd (i := .getfield 34) (n := 3) (by decide +kernel)) (by decide +kernel) (by decide +kernel) rfl g1137 <|
    z_bipush (n := 6) (zd (i := .bipush (6)) (n := 2) (by decide +kernel)) (by decide +kernel) <|
    z_bipush (n := 105) (zd (i := .bipush (105)) (n := 2) (by decide +kernel)) (by decide +kernel) <|
    z_bipush (n := 110) (zd (i := .bipush (110)) (n := 2) (by decide +kernel)) (by decide +kernel) <|
    z_bipush (n := 116) (zd (i := .bipush (116)) (n := 2) (by decide +kernel)) (by decide +kernel) <|
    z_bipush (n := 101) (zd (i := .bipush (101)) (n := 2) (by decide +kernel)) (by decide +kernel) <|
    z_bipush (n := 114) (zd (i := .bipush (114)) (n := 2) (by decide +kernel)) (by decide +kernel) <|
    z_bipush (n := 101) (zd (i := .bipush (101)) (n := 2) (by decide +kernel)) (by decide +kernel) <|
    z_bipush (n := 115) (zd (i := .bipush (115)) (n := 2) (by decide +kernel)) (by decide +kernel) <|
    z_callS (idx := 153) (N := n_X9_word) (zd (i := .invokestatic 153) (n := 3) (by decide +kernel)) to_X9_word g1114 g1115 rfl rfl (c_X9_word (l := l) (G := G) (gh := gh) d) <|
    z_bipush (n := 116) (zd (i := .bipush (116)) (n := 2) (by decide +kernel)) (by decide +kernel) <|
    z_callS (idx := 157) (N := n_X9_appends) (zd (i := .invokestatic 157) (n := 3) (by decide +kernel)) to_X9_appends g1117 g1118 rfl rfl (c_X9_appends (l := l) (G := G) (gh := gh) (d + 1)) <|
    z_last (zd (i := .lastore) (n := 1) (by decide +kernel)) <|
    z_aload_n (n := 0) (i := 0) (zd (i := .aload_n 0) (n := 1) (by decide +kernel)) rfl <|
    z_getR (ci := 9) (j := 9) (idx := 34) (zd (i := .getfield 34) (n := 3) (by decide +kernel)) (by decide +kernel) (by decide +kernel) rfl g1137 <|
    z_bipush (n := 7) (zd (i := .bipush (7)) (n := 2) (by decide +kernel)) (by decide +kernel) <|
    z_bipush (n := 103) (zd (i := .bipush (103)) (n := 2) (by decide +kernel)) (by decide +kernel) <|
    z_bipush (n := 114) (zd (i := .bipush (114)) (n := 2) (by decide +kernel)) (by decide +kernel) <|
    z_bipush (n := 97) (zd (i := .bipush (97)) (n := 2) (by decide +kernel)) (by decide +kernel) <|
    z_bipush (n := 99) (zd (i := .bipush (99)) (n := 2) (by decide +kernel)) (by decide +kernel) <|
    z_bipush (n := 101) (zd (i := .bipush (101)) (n := 2) (by decide +kernel)) (by decide +kernel) <|
    z_iconst (n := 0) (zd (i := .iconst (0)) (n := 1) (by decide +kernel)) (by decide +kernel) <|
    z_iconst (n := 0) (zd (i := .iconst (0)) (n := 1) (by decide +kernel)) (by decide +kernel) <|
    z_callS (idx := 153) (N := n_X9_word) (zd (i := .invokestatic 153) (n := 3) (by decide +kernel)) to_X9_word g1114 g1115 rfl rfl (c_X9_word (l := l) (G := G) (gh := gh) d) <|
    z_last (zd (i := .lastore) (n := 1) (by decide +kernel)) <|
    z_aload_n (n := 0) (i := 0) (zd (i := .aload_n 0) (n := 1) (by decide +kernel)) rfl <|
    z_getR (ci := 9) (j := 9) (idx := 34) (zd (i := .getfield 34) (n := 3) (by decide +kernel)) (by decide +kernel) (by decide +kernel) rfl g1137 <|
    z_bipush (n := 8) (zd (i := .bipush (8)) (n := 2) (by decide +kernel)) (by decide +kernel) <|
    z_bipush (n := 119) (zd (i := .bipush (119)) (n := 2) (by decide +kernel)) (by decide +kernel) <|
    z_bipush (n := 105) (zd (i := .bipush (105)) (n := 2) (by decide +kernel)) (by decide +kernel) <|
    z_bipush (n := 110) (zd (i := .bipush (110)) (n := 2) (by decide +kernel)) (by decide +kernel) <|
    z_bipush (n := 100) (zd (i := .bipush (100)) (n := 2) (by decide +kernel)) (by decide +kernel) <|
    z_bipush (n := 115) (zd (i := .bipush (115)) (n := 2) (by decide +kernel)) (by decide +kernel) <|
    z_iconst (n := 0) (zd (i := .iconst (0)) (n := 1) (by decide +kernel)) (by decide +kernel) <|
    z_iconst (n := 0) (zd (i := .iconst (0)) (n := 1) (by decide +kernel)) (by decide +kernel) <|
    (zj (hj 8) (by decide +kernel))
noncomputable def b_X9_init_8 : zBl := fun jp K => oCs 7 f_X9_word <| oLast <| oAld 0 <| oGetR 9 9 <| oInt 2147483657 <| oInt 2147483746 <| oInt 2147483749 <| oInt 2147483751 <| oInt 2147483753 <| oInt 2147483758 <| oInt 2147483763 <| oInt 2147483648 <| oCs 7 f_X9_word <| oLast <| oAld 0 <| oGetR 9 9 <| oInt 2147483658 <| oInt 2147483763 <| oInt 2147483749 <| oInt 2147483749 <| oInt 2147483748 <| oInt 2147483648 <| oInt 2147483648 <| oInt 2147483648 <| oCs 7 f_X9_word <| oLast <| oAld 0 <| oGetR 9 9 <| oInt 2147483659 <| oInt 2147483753 <| oInt 2147483750 <| oInt 2147483648 <| oInt 2147483648 <| oInt 2147483648 <| oInt 2147483648 <| oInt 2147483648 <| jp 9
theorem s_X9_init_8 (d : Nat) : zPb l G gh (d + 3) n_X9_init p_X9_init 558 b_X9_init_8 := fun K jp hj =>
    z_callS (idx := 153) (N := n_X9_word) (zd (i := .invokestatic 153) (n := 3) (by decide +kernel)) to_X9_word g1114 g1115 rfl rfl (c_X9_word (l := l) (G := G) (gh := gh) d) <|
    z_last (zd (i := .lastore) (n := 1) (by decide +kernel)) <|
    z_aload_n (n := 0) (i := 0) (zd (i := .aload_n 0) (n := 1) (by decide +kernel)) rfl <|
    z_getR (ci := 9) (j := 9) (idx := 34) (zd (i := .getfield 34) (n := 3) (by decide +kernel)) (by decide +kernel) (by decide +kernel) rfl g1137 <|
    z_bipush (n := 9) (zd (i := .bipush (9)) (n := 2) (by decide +kernel)) (by decide +kernel) <|
    z_bipush (n := 98) (zd (i := .bipush (98)) (n := 2) (by decide +kernel)) (by decide +kernel) <|
    z_bipush (n := 101) (zd (i := .bipush (101)) (n := 2) (by decide +kernel)) (by decide +kernel) <|
    z_bipush (n := 103) (zd (i := .bipush (103)) (n := 2) (by decide +kernel)) (by decide +kernel) <|
    z_bipush (n := 105) (zd (i := .bipush (105)) (n := 2) (by decide +kernel)) (by decide +kernel) <|
    z_bipush (n := 110) (zd (i := .bipush (110)) (n := 2) (by decide +kernel)) (by decide +kernel) <|
    z_bipush (n := 115) (zd (i := .bipush (115)) (n := 2) (by decide +kernel)) (by decide +kernel) <|
    z_iconst (n := 0) (zd (i := .iconst (0)) (n := 1) (by decide +kernel)) (by decide +kernel) <|
    z_callS (idx := 153) (N := n_X9_word) (zd (i := .invokestatic 153) (n := 3) (by decide +kernel)) to_X9_word g1114 g1115 rfl rfl (c_X9_word (l := l) (G := G) (gh := gh) d) <|
    z_last (zd (i := .lastore) (n := 1) (by decide +kernel)) <|
    z_aload_n (n := 0) (i := 0) (zd (i := .aload_n 0) (n := 1) (by decide +kernel)) rfl <|
    z_getR (ci := 9) (j := 9) (idx := 34) (zd (i := .getfield 34) (n := 3) (by decide +kernel)) (by decide +kernel) (by decide +kernel) rfl g1137 <|
    z_bipush (n := 10) (zd (i := .bipush (10)) (n := 2) (by decide +kernel)) (by decide +kernel) <|
    z_bipush (n := 115) (zd (i := .bipush (115)) (n := 2) (by decide +kernel)) (by decide +kernel) <|
    z_bipush (n := 101) (zd (i := .bipush (101)) (n := 2) (by decide +kernel)) (by decide +kernel) <|
    z_bipush (n := 101) (zd (i := .bipush (101)) (n := 2) (by decide +kernel)) (by decide +kernel) <|
    z_bipush (n := 100) (zd (i := .bipush (100)) (n := 2) (by decide +kernel)) (by decide +kernel) <|
    z_iconst (n := 0) (zd (i := .iconst (0)) (n := 1) (by decide +kernel)) (by decide +kernel) <|
    z_iconst (n := 0) (zd (i := .iconst (0)) (n := 1) (by decide +kernel)) (by decide +kernel) <|
    z_iconst (n := 0) (zd (i := .iconst (0)) (n := 1) (by decide +kernel)) (by decide +kernel) <|
    z_callS (idx := 153) (N := n_X9_word) (zd (i := .invokestatic 153) (n := 3) (by decide +kernel)) to_X9_word g1114 g1115 rfl rfl (c_X9_word (l := l) (G := G) (gh := gh) d) <|
    z_last (zd (i := .lastore) (n := 1) (by decide +kernel)) <|
    z_aload_n (n := 0) (i := 0) (zd (i := .aload_n 0) (n := 1) (by decide +kernel)) rfl <|
    z_getR (ci := 9) (j := 9) (idx := 34) (zd (i := .getfield 34) (n := 3) (by decide +kernel)) (by decide +kernel) (by decide +kernel) rfl g1137 <|
    z_bipush (n := 11) (zd (i := .bipush (11)) (n := 2) (by decide +kernel)) (by decide +kernel) <|
    z_bipush (n := 105) (zd (i := .bipush (105)) (n := 2) (by decide +kernel)) (by decide +kernel) <|
    z_bipush (n := 102) (zd (i := .bipush (102)) (n := 2) (by decide +kernel)) (by decide +kernel) <|
    z_iconst (n := 0) (zd (i := .iconst (0)) (n := 1) (by decide +kernel)) (by decide +kernel) <|
    z_iconst (n := 0) (zd (i := .iconst (0)) (n := 1) (by decide +kernel)) (by decide +kernel) <|
    z_iconst (n := 0) (zd (i := .iconst (0)) (n := 1) (by decide +kernel)) (by decide +kernel) <|
    z_iconst (n := 0) (zd (i := .iconst (0)) (n := 1) (by decide +kernel)) (by decide +kernel) <|
    z_iconst (n := 0) (zd (i := .iconst (0)) (n := 1) (by decide +kernel)) (by decide +kernel) <|
    (zj (hj 9) (by decide +kernel))
noncomputable def b_X9_init_9 : zBl := fun jp K => oCs 7 f_X9_word <| oLast <| oAld 0 <| oGetR 9 9 <| oInt 2147483660 <| oInt 2147483764 <| oInt 2147483752 <| oInt 2147483749 <| oInt 2147483758 <| oInt 2147483648 <| oInt 2147483648 <| oInt 2147483648 <| oCs 7 f_X9_word <| oLast <| oAld 0 <| oGetR 9 9 <| oInt 2147483661 <| oInt 2147483749 <| oInt 2147483756 <| oInt 2147483763 <| oInt 2147483749 <| oInt 2147483648 <| oInt 2147483648 <| oInt 2147483648 <| oCs 7 f_X9_word <| oLast <| oAld 0 <| oGetR 9 9 <| oInt 2147483662 <| oInt 2147483752 <| oInt 2147483759 <| oInt 2147483765 <| oInt 2147483762 <| oInt 2147483648 <| oInt 2147483648 <| oInt 2147483648 <| jp 10
theorem s_X9_init_9 (d : Nat) : zPb l G gh (d + 3) n_X9_init p_X9_init 621 b_X9_init_9 := fun K jp hj =>
    z_callS (idx := 153) (N := n_X9_word) (zd (i := .invokestatic 153) (n := 3) (by decide +kernel)) to_X9_word g1114 g1115 rfl rfl (c_X9_word (l := l) (G := G) (gh := gh) d) <|
    z_last (zd (i := .lastore) (n := 1) (by decide +kernel)) <|
    z_aload_n (n := 0) (i := 0) (zd (i := .aload_n 0) (n := 1) (by decide +kernel)) rfl <|
    z_getR (ci := 9) (j := 9) (idx := 34) (zd (i := .getfield 34) (n := 3) (by decide +kernel)) (by decide +kernel) (by decide +kernel) rfl g1137 <|
    z_bipush (n := 12) (zd (i := .bipush (12)) (n := 2) (by decide +kernel)) (by decide +kernel) <|
    z_bipush (n := 116) (zd (i := .bipush (116)) (n := 2) (by decide +kernel)) (by decide +kernel) <|
    z_bipush (n := 104) (zd (i := .bipush (104)) (n := 2) (by decide +kernel)) (by decide +kernel) <|
    z_bipush (n := 101) (zd (i := .bipush (101)) (n := 2) (by decide +kernel)) (by decide +kernel) <|
    z_bipush (n := 110) (zd (i := .bipush (110)) (n := 2) (by decide +kernel)) (by decide +kernel) <|
    z_iconst (n := 0) (zd (i := .iconst (0)) (n := 1) (by decide +kernel)) (by decide +kernel) <|
    z_iconst (n := 0) (zd (i := .iconst (0)) (n := 1) (by decide +kernel)) (by decide +kernel) <|
    z_iconst (n := 0) (zd (i := .iconst (0)) (n := 1) (by decide +kernel)) (by decide +kernel) <|
    z_callS (idx := 153) (N := n_X9_word) (zd (i := .invokestatic 153) (n := 3) (by decide +kernel)) to_X9_word g1114 g1115 rfl rfl (c_X9_word (l := l) (G := G) (gh := gh) d) <|
    z_last (zd (i := .lastore) (n := 1) (by decide +kernel)) <|
    z_aload_n (n := 0) (i := 0) (zd (i := .aload_n 0) (n := 1) (by decide +kernel)) rfl <|
    z_getR (ci := 9) (j := 9) (idx := 34) (zd (i := .getfield 34) (n := 3) (by decide +kernel)) (by decide +kernel) (by decide +kernel) rfl g1137 <|
    z_bipush (n := 13) (zd (i := .bipush (13)) (n := 2) (by decide +kernel)) (by decide +kernel) <|
    z_bipush (n := 101) (zd (i := .bipush (101)) (n := 2) (by decide +kernel)) (by decide +kernel) <|
    z_bipush (n := 108) (zd (i := .bipush (108)) (n := 2) (by decide +kernel)) (by decide +kernel) <|
    z_bipush (n := 115) (zd (i := .bipush (115)) (n := 2) (by decide +kernel)) (by decide +kernel) <|
    z_bipush (n := 101) (zd (i := .bipush (101)) (n := 2) (by decide +kernel)) (by decide +kernel) <|
    z_iconst (n := 0) (zd (i := .iconst (0)) (n := 1) (by decide +kernel)) (by decide +kernel) <|
    z_iconst (n := 0) (zd (i := .iconst (0)) (n := 1) (by decide +kernel)) (by decide +kernel) <|
    z_iconst (n := 0) (zd (i := .iconst (0)) (n := 1) (by decide +kernel)) (by decide +kernel) <|
    z_callS (idx := 153) (N := n_X9_word) (zd (i := .invokestatic 153) (n := 3) (by decide +kernel)) to_X9_word g1114 g1115 rfl rfl (c_X9_word (l := l) (G := G) (gh := gh) d) <|
    z_last (zd (i := .lastore) (n := 1) (by decide +kernel)) <|
    z_aload_n (n := 0) (i := 0) (zd (i := .aload_n 0) (n := 1) (by decide +kernel)) rfl <|
    z_getR (ci := 9) (j := 9) (idx := 34) (zd (i := .getfield 34) (n := 3) (by decide +kernel)) (by decide +kernel) (by decide +kernel) rfl g1137 <|
    z_bipush (n := 14) (zd (i := .bipush (14)) (n := 2) (by decide +kernel)) (by decide +kernel) <|
    z_bipush (n := 104) (zd (i := .bipush (104)) (n := 2) (by decide +kernel)) (by decide +kernel) <|
    z_bipush (n := 111) (zd (i := .bipush (111)) (n := 2) (by decide +kernel)) (by decide +kernel) <|
    z_bipush (n := 117) (zd (i := .bipush (117)) (n := 2) (by decide +kernel)) (by decide +kernel) <|
    z_bipush (n := 114) (zd (i := .bipush (114)) (n := 2) (by decide +kernel)) (by decide +kernel) <|
    z_iconst (n := 0) (zd (i := .iconst (0)) (n := 1) (by decide +kernel)) (by decide +kernel) <|
    z_iconst (n := 0) (zd (i := .iconst (0)) (n := 1) (by decide +kernel)) (by decide +kernel) <|
    z_iconst (n := 0) (zd (i := .iconst (0)) (n := 1) (by decide +kernel)) (by decide +kernel) <|
    (zj (hj 10) (by decide +kernel))
noncomputable def b_X9_init_10 : zBl := fun jp K => oCs 7 f_X9_word <| oLast <| oAld 0 <| oGetR 9 9 <| oInt 2147483663 <| oInt 2147483748 <| oInt 2147483745 <| oInt 2147483769 <| oInt 2147483648 <| oInt 2147483648 <| oInt 2147483648 <| oInt 2147483648 <| oCs 7 f_X9_word <| oLast <| oAld 0 <| oGetR 9 9 <| oInt 2147483664 <| oInt 2147483767 <| oInt 2147483745 <| oInt 2147483762 <| oInt 2147483757 <| oInt 2147483648 <| oInt 2147483648 <| oInt 2147483648 <| oCs 7 f_X9_word <| oLast <| oAld 0 <| oGetR 9 9 <| oInt 2147483665 <| oInt 2147483750 <| oInt 2147483745 <| oInt 2147483762 <| oInt 2147483648 <| oInt 2147483648 <| oInt 2147483648 <| oInt 2147483648 <| jp 11
theorem s_X9_init_10 (d : Nat) : zPb l G gh (d + 3) n_X9_init p_X9_init 684 b_X9_init_10 := fun K jp hj =>
    z_callS (idx := 153) (N := n_X9_word) (zd (i := .invokestatic 153) (n := 3) (by decide +kernel)) to_X9_word g1114 g1115 rfl rfl (c_X9_word (l := l) (G := G) (gh := gh) d) <|
    z_last (zd (i := .lastore) (n := 1) (by decide +kernel)) <|
    z_aload_n (n := 0) (i := 0) (zd (i := .aload_n 0) (n := 1) (by decide +kernel)) rfl <|
    z_getR (ci := 9) (j := 9) (idx := 34) (zd (i := .getfield 34) (n := 3) (by decide +kernel)) (by decide +kernel) (by decide +kernel) rfl g1137 <|
    z_bipush (n := 15) (zd (i := .bipush (15)) (n := 2) (by decide +kernel)) (by decide +kernel) <|
    z_bipush (n := 100) (zd (i := .bipush (100)) (n := 2) (by decide +kernel)) (by decide +kernel) <|
    z_bipush (n := 97) (zd (i := .bipush (97)) (n := 2) (by decide +kernel)) (by decide +kernel) <|
    z_bipush (n := 121) (zd (i := .bipush (121)) (n := 2) (by decide +kernel)) (by decide +kernel) <|
    z_iconst (n := 0) (zd (i := .iconst (0)) (n := 1) (by decide +kernel)) (by decide +kernel) <|
    z_iconst (n := 0) (zd (i := .iconst (0)) (n := 1) (by decide +kernel)) (by decide +kernel) <|
    z_iconst (n := 0) (zd (i := .iconst (0)) (n := 1) (by decide +kernel)) (by decide +kernel) <|
    z_iconst (n := 0) (zd (i := .iconst (0)) (n := 1) (by decide +kernel)) (by decide +kernel) <|
    z_callS (idx := 153) (N := n_X9_word) (zd (i := .invokestatic 153) (n := 3) (by decide +kernel)) to_X9_word g1114 g1115 rfl rfl (c_X9_word (l := l) (G := G) (gh := gh) d) <|
    z_last (zd (i := .lastore) (n := 1) (by decide +kernel)) <|
    z_aload_n (n := 0) (i := 0) (zd (i := .aload_n 0) (n := 1) (by decide +kernel)) rfl <|
    z_getR (ci := 9) (j := 9) (idx := 34) (zd (i := .getfield 34) (n := 3) (by decide +kernel)) (by decide +kernel) (by decide +kernel) rfl g1137 <|
    z_bipush (n := 16) (zd (i := .bipush (16)) (n := 2) (by decide +kernel)) (by decide +kernel) <|
    z_bipush (n := 119) (zd (i := .bipush (119)) (n := 2) (by decide +kernel)) (by decide +kernel) <|
    z_bipush (n := 97) (zd (i := .bipush (97)) (n := 2) (by decide +kernel)) (by decide +kernel) <|
    z_bipush (n := 114) (zd (i := .bipush (114)) (n := 2) (by decide +kernel)) (by decide +kernel) <|
    z_bipush (n := 109) (zd (i := .bipush (109)) (n := 2) (by decide +kernel)) (by decide +kernel) <|
    z_iconst (n := 0) (zd (i := .iconst (0)) (n := 1) (by decide +kernel)) (by decide +kernel) <|
    z_iconst (n := 0) (zd (i := .iconst (0)) (n := 1) (by decide +kernel)) (by decide +kernel) <|
    z_iconst (n := 0) (zd (i := .iconst (0)) (n := 1) (by decide +kernel)) (by decide +kernel) <|
    z_callS (idx := 153) (N := n_X9_word) (zd (i := .invokestatic 153) (n := 3) (by decide +kernel)) to_X9_word g1114 g1115 rfl rfl (c_X9_word (l := l) (G := G) (gh := gh) d) <|
    z_last (zd (i := .lastore) (n := 1) (by decide +kernel)) <|
    z_aload_n (n := 0) (i := 0) (zd (i := .aload_n 0) (n := 1) (by decide +kernel)) rfl <|
    z_getR (ci := 9) (j := 9) (idx := 34) (zd (i := .getfield 34) (n := 3) (by decide +kernel)) (by decide +kernel) (by decide +kernel) rfl g1137 <|
    z_bipush (n := 17) (zd (i := .bipush (17)) (n := 2) (by decide +kernel)) (by decide +kernel) <|
    z_bipush (n := 102) (zd (i := .bipush (102)) (n := 2) (by decide +kernel)) (by decide +kernel) <|
    z_bipush (n := 97) (zd (i := .bipush (97)) (n := 2) (by decide +kernel)) (by decide +kernel) <|
    z_bipush (n := 114) (zd (i := .bipush (114)) (n := 2) (by decide +kernel)) (by decide +kernel) <|
    z_iconst (n := 0) (zd (i := .iconst (0)) (n := 1) (by decide +kernel)) (by decide +kernel) <|
    z_iconst (n := 0) (zd (i := .iconst (0)) (n := 1) (by decide +kernel)) (by decide +kernel) <|
    z_iconst (n := 0) (zd (i := .iconst (0)) (n := 1) (by decide +kernel)) (by decide +kernel) <|
    z_iconst (n := 0) (zd (i := .iconst (0)) (n := 1) (by decide +kernel)) (by decide +kernel) <|
    (zj (hj 11) (by decide +kernel))
noncomputable def b_X9_init_11 : zBl := fun jp K => oCs 7 f_X9_word <| oLast <| oAld 0 <| oGetR 9 9 <| oInt 2147483666 <| oInt 2147483764 <| oInt 2147483745 <| oInt 2147483756 <| oInt 2147483756 <| oInt 2147483648 <| oInt 2147483648 <| oInt 2147483648 <| oCs 7 f_X9_word <| oLast <| oAld 0 <| oGetR 9 9 <| oInt 2147483667 <| oInt 2147483745 <| oInt 2147483747 <| oInt 2147483762 <| oInt 2147483759 <| oInt 2147483763 <| oInt 2147483763 <| oInt 2147483648 <| oCs 7 f_X9_word <| oLast <| oAld 0 <| oGetR 9 9 <| oInt 2147483668 <| oInt 2147483756 <| oInt 2147483749 <| oInt 2147483758 <| oInt 2147483764 <| oInt 2147483648 <| oInt 2147483648 <| oInt 2147483648 <| jp 12
theorem s_X9_init_11 (d : Nat) : zPb l G gh (d + 3) n_X9_init p_X9_init 745 b_X9_init_11 := fun K jp hj =>
    z_callS (idx := 153) (N := n_X9_word) (zd (i := .invokestatic 153) (n := 3) (by decide +kernel)) to_X9_word g1114 g1115 rfl rfl (c_X9_word (l := l) (G := G) (gh := gh) d) <|
    z_last (zd (i := .lastore) (n := 1) (by decide +kernel)) <|
    z_aload_n (n := 0) (i := 0) (zd (i := .aload_n 0) (n := 1) (by decide +kernel)) rfl <|
    z_getR (ci := 9) (j := 9) (idx := 34) (zd (i := .getfield 34) (n := 3) (by decide +kernel)) (by decide +kernel) (by decide +kernel) rfl g1137 <|
    z_bipush (n := 18) (zd (i := .bipush (18)) (n := 2) (by decide +kernel)) (by decide +kernel) <|
    z_bipush (n := 116) (zd (i := .bipush (116)) (n := 2) (by decide +kernel)) (by decide +kernel) <|
    z_bipush (n := 97) (zd (i := .bipush (97)) (n := 2) (by decide +kernel)) (by decide +kernel) <|
    z_bipush (n := 108) (zd (i := .bipush (108)) (n := 2) (by decide +kernel)) (by decide +kernel) <|
    z_bipush (n := 108) (zd (i := .bipush (108)) (n := 2) (by decide +kernel)) (by decide +kernel) <|
    z_iconst (n := 0) (zd (i := .iconst (0)) (n := 1) (by decide +kernel)) (by decide +kernel) <|
    z_iconst (n := 0) (zd (i := .iconst (0)) (n := 1) (by decide +kernel)) (by decide +kernel) <|
    z_iconst (n := 0) (zd (i := .iconst (0)) (n := 1) (by decide +kernel)) (by decide +kernel) <|
    z_callS (idx := 153) (N := n_X9_word) (zd (i := .invokestatic 153) (n := 3) (by decide +kernel)) to_X9_word g1114 g1115 rfl rfl (c_X9_word (l := l) (G := G) (gh := gh) d) <|
    z_last (zd (i := .lastore) (n := 1) (by decide +kernel)) <|
    z_aload_n (n := 0) (i := 0) (zd (i := .aload_n 0) (n := 1) (by decide +kernel)) rfl <|
    z_getR (ci := 9) (j := 9) (idx := 34) (zd (i := .getfield 34) (n := 3) (by decide +kernel)) (by decide +kernel) (by decide +kernel) rfl g1137 <|
    z_bipush (n := 19) (zd (i := .bipush (19)) (n := 2) (by decide +kernel)) (by decide +kernel) <|
    z_bipush (n := 97) (zd (i := .bipush (97)) (n := 2) (by decide +kernel)) (by decide +kernel) <|
    z_bipush (n := 99) (zd (i := .bipush (99)) (n := 2) (by decide +kernel)) (by decide +kernel) <|
    z_bipush (n := 114) (zd (i := .bipush (114)) (n := 2) (by decide +kernel)) (by decide +kernel) <|
    z_bipush (n := 111) (zd (i := .bipush (111)) (n := 2) (by decide +kernel)) (by decide +kernel) <|
    z_bipush (n := 115) (zd (i := .bipush (115)) (n := 2) (by decide +kernel)) (by decide +kernel) <|
    z_bipush (n := 115) (zd (i := .bipush (115)) (n := 2) (by decide +kernel)) (by decide +kernel) <|
    z_iconst (n := 0) (zd (i := .iconst (0)) (n := 1) (by decide +kernel)) (by decide +kernel) <|
    z_callS (idx := 153) (N := n_X9_word) (zd (i := .invokestatic 153) (n := 3) (by decide +kernel)) to_X9_word g1114 g1115 rfl rfl (c_X9_word (l := l) (G := G) (gh := gh) d) <|
    z_last (zd (i := .lastore) (n := 1) (by decide +kernel)) <|
    z_aload_n (n := 0) (i := 0) (zd (i := .aload_n 0) (n := 1) (by decide +kernel)) rfl <|
    z_getR (ci := 9) (j := 9) (idx := 34) (zd (i := .getfield 34) (n := 3) (by decide +kernel)) (by decide +kernel) (by decide +kernel) rfl g1137 <|
    z_bipush (n := 20) (zd (i := .bipush (20)) (n := 2) (by decide +kernel)) (by decide +kernel) <|
    z_bipush (n := 108) (zd (i := .bipush (108)) (n := 2) (by decide +kernel)) (by decide +kernel) <|
    z_bipush (n := 101) (zd (i := .bipush (101)) (n := 2) (by decide +kernel)) (by decide +kernel) <|
    z_bipush (n := 110) (zd (i := .bipush (110)) (n := 2) (by decide +kernel)) (by decide +kernel) <|
    z_bipush (n := 116) (zd (i := .bipush (116)) (n := 2) (by decide +kernel)) (by decide +kernel) <|
    z_iconst (n := 0) (zd (i := .iconst (0)) (n := 1) (by decide +kernel)) (by decide +kernel) <|
    z_iconst (n := 0) (zd (i := .iconst (0)) (n := 1) (by decide +kernel)) (by decide +kernel) <|
    z_iconst (n := 0) (zd (i := .iconst (0)) (n := 1) (by decide +kernel)) (by decide +kernel) <|
    (zj (hj 12) (by decide +kernel))
noncomputable def b_X9_init_12 : zBl := fun jp K => oCs 7 f_X9_word <| oLast <| oAld 0 <| oGetR 9 9 <| oInt 2147483669 <| oInt 2147483763 <| oInt 2147483753 <| oInt 2147483748 <| oInt 2147483749 <| oInt 2147483648 <| oInt 2147483648 <| oInt 2147483648 <| oCs 7 f_X9_word <| oLast <| oAld 0 <| oGetR 9 9 <| oInt 2147483670 <| oInt 2147483745 <| oInt 2147483764 <| oInt 2147483648 <| oInt 2147483648 <| oInt 2147483648 <| oInt 2147483648 <| oInt 2147483648 <| oCs 7 f_X9_word <| oLast <| oAld 0 <| oCv 9 0 f_X9_begins <| oAld 0 <| oCv 9 0 f_X9_keepsRow <| oVret K
theorem s_X9_init_12 (d : Nat) : zPb l G gh (d + 3) n_X9_init p_X9_init 810 b_X9_init_12 := fun K jp hj =>
    z_callS (idx := 153) (N := n_X9_word) (zd (i := .invokestatic 153) (n := 3) (by decide +kernel)) to_X9_word g1114 g1115 rfl rfl (c_X9_word (l := l) (G := G) (gh := gh) d) <|
    z_last (zd (i := .lastore) (n := 1) (by decide +kernel)) <|
    z_aload_n (n := 0) (i := 0) (zd (i := .aload_n 0) (n := 1) (by decide +kernel)) rfl <|
    z_getR (ci := 9) (j := 9) (idx := 34) (zd (i := .getfield 34) (n := 3) (by decide +kernel)) (by decide +kernel) (by decide +kernel) rfl g1137 <|
    z_bipush (n := 21) (zd (i := .bipush (21)) (n := 2) (by decide +kernel)) (by decide +kernel) <|
    z_bipush (n := 115) (zd (i := .bipush (115)) (n := 2) (by decide +kernel)) (by decide +kernel) <|
    z_bipush (n := 105) (zd (i := .bipush (105)) (n := 2) (by decide +kernel)) (by decide +kernel) <|
    z_bipush (n := 100) (zd (i := .bipush (100)) (n := 2) (by decide +kernel)) (by decide +kernel) <|
    z_bipush (n := 101) (zd (i := .bipush (101)) (n := 2) (by decide +kernel)) (by decide +kernel) <|
    z_iconst (n := 0) (zd (i := .iconst (0)) (n := 1) (by decide +kernel)) (by decide +kernel) <|
    z_iconst (n := 0) (zd (i := .iconst (0)) (n := 1) (by decide +kernel)) (by decide +kernel) <|
    z_iconst (n := 0) (zd (i := .iconst (0)) (n := 1) (by decide +kernel)) (by decide +kernel) <|
    z_callS (idx := 153) (N := n_X9_word) (zd (i := .invokestatic 153) (n := 3) (by decide +kernel)) to_X9_word g1114 g1115 rfl rfl (c_X9_word (l := l) (G := G) (gh := gh) d) <|
    z_last (zd (i := .lastore) (n := 1) (by decide +kernel)) <|
    z_aload_n (n := 0) (i := 0) (zd (i := .aload_n 0) (n := 1) (by decide +kernel)) rfl <|
    z_getR (ci := 9) (j := 9) (idx := 34) (zd (i := .getfield 34) (n := 3) (by decide +kernel)) (by decide +kernel) (by decide +kernel) rfl g1137 <|
    z_bipush (n := 22) (zd (i := .bipush (22)) (n := 2) (by decide +kernel)) (by decide +kernel) <|
    z_bipush (n := 97) (zd (i := .bipush (97)) (n := 2) (by decide +kernel)) (by decide +kernel) <|
    z_bipush (n := 116) (zd (i := .bipush (116)) (n := 2) (by decide +kernel)) (by decide +kernel) <|
    z_iconst (n := 0) (zd (i := .iconst (0)) (n := 1) (by decide +kernel)) (by decide +kernel) <|
    z_iconst (n := 0) (zd (i := .iconst (0)) (n := 1) (by decide +kernel)) (by decide +kernel) <|
    z_iconst (n := 0) (zd (i := .iconst (0)) (n := 1) (by decide +kernel)) (by decide +kernel) <|
    z_iconst (n := 0) (zd (i := .iconst (0)) (n := 1) (by decide +kernel)) (by decide +kernel) <|
    z_iconst (n := 0) (zd (i := .iconst (0)) (n := 1) (by decide +kernel)) (by decide +kernel) <|
    z_callS (idx := 153) (N := n_X9_word) (zd (i := .invokestatic 153) (n := 3) (by decide +kernel)) to_X9_word g1114 g1115 rfl rfl (c_X9_word (l := l) (G := G) (gh := gh) d) <|
    z_last (zd (i := .lastore) (n := 1) (by decide +kernel)) <|
    z_aload_n (n := 0) (i := 0) (zd (i := .aload_n 0) (n := 1) (by decide +kernel)) rfl <|
    z_callV (idx := 161) (ci := 9) (N := n_X9_begins) (zd (i := .invokevirtual 161) (n := 3) (by decide +kernel)) to_X9_begins g1121 g1123 g42 (by decide +kernel) rfl rfl rfl (c_X9_begins (l := l) (G := G) (gh := gh) (d + 1)) <|
    z_aload_n (n := 0) (i := 0) (zd (i := .aload_n 0) (n := 1) (by decide +kernel)) rfl <|
    z_callV (idx := 164) (ci := 9) (N := n_X9_keepsRow) (zd (i := .invokevirtual 164) (n := 3) (by decide +kernel)) to_X9_keepsRow g1125 g1127 g43 (by decide +kernel) rfl rfl rfl (c_X9_keepsRow (l := l) (G := G) (gh := gh) (d + 1)) <|
    z_vret (zd (i := .return_) (n := 1) (by decide +kernel)) rfl
noncomputable def f_X9_init : zMt := zmet 1 [b_X9_init_0, b_X9_init_1, b_X9_init_2, b_X9_init_3, b_X9_init_4, b_X9_init_5, b_X9_init_6, b_X9_init_7, b_X9_init_8, b_X9_init_9, b_X9_init_10, b_X9_init_11, b_X9_init_12]
theorem c_X9_init (d : Nat) : zC l G gh (d + 3) n_X9_init f_X9_init := zmet_ok (pcs := p_X9_init) (by decide) rfl rfl ⟨s_X9_init_0 d, s_X9_init_1 d, s_X9_init_2 d, s_X9_init_3 d, s_X9_init_4 d, s_X9_init_5 d, s_X9_init_6 d, s_X9_init_7 d, s_X9_init_8 d, s_X9_init_9 d, s_X9_init_10 d, s_X9_init_11 d, s_X9_init_12 d, trivial⟩
end
noncomputable def zAeq (A B : zAm) : Bool := zleq (zleq (zleq Nat.beq)) A B
theorem zAeq_t {A B : zAm} (h : zAeq A B = true) : A = B := zleq_t (fun _ _ => zleq_t (fun _ _ => zleq_t (fun _ _ => Nat.eq_of_beq_eq_true))) h
/-- ends with nothing given back, so many cells, and this memory -/
noncomputable def zend (n : Nat) (B : zAm) : zKr := fun r t A => Option.rec (motive := fun _ => Bool) (bif Nat.beq t n then zAeq A B else false) (fun _ => false) r
def zA1 : zAm := [[[456]]]
def zA2 : zAm := [[[4327788798055727846434435704549466399621158643910048263624973216365837933533632247478817880843858614632707536978549900860272558097700583111911424351449072162890408100365081177698675938568569000064431420391233371716856070076130338620526026557495813624081007239202620154315208, 12884901957, 64011, 1716199414633068614305028194153503858905094402097996845599445757616132115584530314989942844764725262957294557264658751937166381318598425277189074453738291457, 1941116160034846065262793138660002301885501507345041975994785164427430, 5997241238912102500848555436572085695719136337427711529299301362010516391140205087975551267893560448008543420521806391010018505269190422199097213511257287751886139439906392430931513717646410219287807799797885701378447848232179218494693664651208137604687577789964111334850197265614305447367201287264136188355120228387861319995230867655487294327682558030157656249065025482580302630995652347777033586044430918789168329565664368150985956583801581, 12842, 12842], [12845, 436994993873214129706097166956708350993678881411295357199729151951767944417616689248205907735819960637627838877564848711523237646605896649750300541580277223220733595013458973769393669550081626721015604470300816489916197017381353204490366412128672, 397, 202, 202, 202, 202, 6164924279781312223369030002223141422354986922184729226687644306899018827709265111736067971922253199746007234], [5182088206341248772641590318316229766276448436211450156977661720653780134530050651042428325397503083998828989486791006223554113762138526498953227947493534437099960989204611670611808263266053306683065202335307449691924559049866, 58968162887836583628774290327941701420576894069006881693378223441337877537377325813845730080900918889874163371471040160259290571960934397804717212882639579416128140426, 79571717825565862746586596290188975362966749132440832823624218894583364010618087698071722, 298, 650, 303260747794464125274315382607511467207694188599740421619806163736852292702318273014824690470672181492603626703034960920344264932, 202, 202], [202, 202, 1162, 1162, 379075934743080156592967620215101016297993260604216472100000599568383928344417021608694694843510296927104191642697134668655886564, 202, 202, 202], [202, 1162, 1162, 158913790051, 2861005748571272884915074936748712198029353719476881052506483262410446473249982994284417135948050389212852647762501588136157658008308269885799280016802067900224393604533894560786406170258529109932026452659521860956440706108398512412264077269706730345665320296325806184519319497100242699372287540681468179847957513167891785128911624231532458315817443960095933744259627176453406506895815443612982114846007768949699533251890811779959096218952626349304516655838817863243666416347958285633749086947115843601821880698810869605906700480957804137287745316783212758508106103046437341234126, 476552603677015054002663354282001865128377781752828537003107731351781745598543984086527557608587873914319203707977072345056542948, 202, 202], [202, 202, 1162, 1162, 552367790625631085321315591889591414218676853757304587483302167183313381240642732680397561981425989348819768647639246093368164580, 202, 202, 202], [202, 1162, 1162, 628182977574247116639967829497180963308975925761780637963496603014845016882741481274267566354264104783320333587301419841679786212, 202, 202, 202, 202], [1162, 1162, 703998164522863147958620067104770512399274997766256688443691038846376652524840229868137570727102220217820898526963593589991407844, 202, 202, 202, 202, 1162]], [[1162, 779813351471479179277272304712360061489574069770732738923885474677908288166938978462007575099940335652321463466625767338303029476, 202, 202, 202, 202, 1162, 1162], [855628538420095210595924542319949610579873141775208789404079910509439923809037727055877579472778451086822028406287941086614651108, 202, 202, 202, 202, 1162, 1162, 931443725368711241914576779927539159670172213779684839884274346340971559451136475649747583845616566521322593345950114834926272740], [202, 202, 202, 202, 1162, 1162, 1007258912317327273233229017535128708760471285784160890364468782172503195093235224243617588218454681955823158285612288583237894372, 202], [202, 202, 202, 1162, 1162, 1083074099265943304551881255142718257850770357788636940844663218004034830735333972837487592591292797390323723225274462331549516004, 202, 202], [202, 202, 1162, 1162, 1158889286214559335870533492750307806941069429793112991324857653835566466377432721431357596964130912824824288164936636079861137636, 202, 202, 202], [202, 1162, 1162, 1234704473163175367189185730357897356031368501797589041805052089667098102019531470025227601336969028259324853104598809828172759268, 202, 202, 202, 202], [1162, 1162, 1310519660111791398507837967965486905121667573802065092285246525498629737661630218619097605709807143693825418044260983576484380900, 202, 202, 202, 202, 1162], [1162, 1386334847060407429826490205573076454211966645806541142765440961330161373303728967212967610082645259128325982983923157324796002532, 202, 202, 202, 202, 1162, 1162]], [[1462150034009023461145142443180666003302265717811017193245635397161693008945827715806837614455483374562826547923585331073107624164, 202, 202, 202, 202, 1162, 1162, 1537965220957639492463794680788255552392564789815493243725829832993224644587926464400707618828321489997327112863247504821419245796], [202, 202, 202, 202, 1162, 1162, 1613780407906255523782446918395845101482863861819969294206024268824756280230025212994577623201159605431827677802909678569730867428, 202], [202, 202, 202, 1162, 1162, 1689595594854871555101099156003434650573162933824445344686218704656287915872123961588447627573997720866328242742571852318042489060, 202, 202], [202, 202, 1162, 1162, 1765410781803487586419751393611024199663462005828921395166413140487819551514222710182317631946835836300828807682234026066354110692, 202, 202, 202], [202, 1162, 1162, 1841225968752103617738403631218613748753761077833397445646607576319351187156321458776187636319673951735329372621896199814665732324, 202, 202, 202, 202], [1162, 1162, 1917041155700719649057055868826203297844060149837873496126802012150882822798420207370057640692512067169829937561558373562977353956, 202, 202, 202, 202, 1162], [1162, 1992856342649335680375708106433792846934359221842349546606996447982414458440518955963927645065350182604330502501220547311288975588, 202, 202, 202, 202, 1162, 1162], [2068671529597951711694360344041382396024658293846825597087190883813946094082617704557797649438188298038831067440882721059600597220, 202, 202, 202, 202, 1162, 1162, 2144486716546567743013012581648971945114957365851301647567385319645477729724716453151667653811026413473331632380544894807912218852]], [[202, 202, 202, 202, 1162, 1162, 2220301903495183774331664819256561494205256437855777698047579755477009365366815201745537658183864528907832197320207068556223840484, 202], [202, 202, 202, 1162, 1162, 2296117090443799805650317056864151043295555509860253748527774191308541001008913950339407662556702644342332762259869242304535462116, 202, 202], [202, 202, 1162, 1162, 2371932277392415836968969294471740592385854581864729799007968627140072636651012698933277666929540759776833327199531416052847083748, 202, 202, 202], [202, 1162, 1162, 2447747464341031868287621532079330141476153653869205849488163062971604272293111447527147671302378875211333892139193589801158705380, 202, 202, 202, 202], [1162, 1162, 2523562651289647899606273769686919690566452725873681899968357498803135907935210196121017675675216990645834457078855763549470327012, 202, 202, 202, 202, 1162], [1162, 2599377838238263930924926007294509239656751797878157950448551934634667543577308944714887680048055106080335022018517937297781948644, 202, 202, 202, 202, 1162, 1162], [2675193025186879962243578244902098788747050869882634000928746370466199179219407693308757684420893221514835586958180111046093570276, 202, 202, 202, 202, 1162, 1162, 1671957873106552938469224763310387274864752584556654], [108, 74859794825915934140998315655429490661373921634975688667909032746616141081831220404659388062056476893520068807, 650, 650, 650, 5772, 682, 650]], [[1162, 106, 106, 7265041773142184906363865400655276335269911403462785313445497151198142075942871930486152481428291654254341677436991893846909972086604171754228044120474053822579757335666472872732344014006782763708984028793680674114037109494302574299789388735840672, 397, 202, 202, 202], [202, 79556879991463600596904591597529070096520515461491309826281645800643980993649948780475637936627413737841623234, 5182088206341248772641590318316229766276448436211450156977661720653780134530050651042428325397503083998828989486791006223554113762138526498953227947493534437099960989204611670611808263266053306683065202335307449691924559049866, 58968162887836583628774290327941701420576894069006881693378223441337877537377325813845730080900918889874163371471040160259290571960934397804717212882639579416128140426, 79571717825565862746586596290188975362966749132440832823624218894583364010618087698071722, 298, 650, 3010945995959322386654752440021423934718375331616742224483893157720124994205845008510181989500604875581909517405255451931473608932], [202, 202, 202, 202, 1162, 1162, 3086761182907938417973404677629013483808674403621218274964087593551656629847943757104051993873442991016410082344917625679785230564, 202], [202, 202, 202, 1162, 1162, 3162576369856554449292056915236603032898973475625694325444282029383188265490042505697921998246281106450910647284579799428096852196, 202, 202], [202, 202, 1162, 1162]]]
def zA3 : zAm := [[[4327788798055727846434435704549466399621158643910048263624973216365837933533632247478817880843858614632707536978549900860272558097700583111911424351449072162890408100365081177698675938568569000064431420391233371716856070076130338620526026557495813624081007239202620154315208, 12884901957, 64011, 1716199414633068614305028194153503858905094402097996845599445757616132115584530314989942844764725262957294557264658751937166381318598425277189074453738291457, 1941116160034846065262793138660002301885501507345041975994785164427430, 5997241238912102500848555436572085695719136337427711529299301362010516391140205087975551267893560448008543420521806391010018505269190422199097213511257287751886139439906392430931513717646410219287807799797885701378447848232179218494693664651208137604687577789964111334850197265614305447367201287264136188355120228387861319995230867655487294327682558030157656249065025482580302630995652347777033586044430918789168329565664368150985956583801581, 12842, 12842], [12845, 436994993873214129706097166956708350993678881411295357199729151951767944417616689248205907735819960637627838877564848711523237646605896649750300541580277223220733595013458973769393669550081626721015604470300816489916197017381353204490366412128672, 397, 202, 202, 202, 202, 6164924279781312223369030002223141422354986922184729226687644306899018827709265111736067971922253199746007234], [5182088206341248772641590318316229766276448436211450156977661720653780134530050651042428325397503083998828989486791006223554113762138526498953227947493534437099960989204611670611808263266053306683065202335307449691924559049866, 58968162887836583628774290327941701420576894069006881693378223441337877537377325813845730080900918889874163371471040160259290571960934397804717212882639579416128140426, 79571717825565862746586596290188975362966749132440832823624218894583364010618087698071722, 298, 650, 303260747794464125274315382607511467207694188599740421619806163736852292702318273014824690470672181492603626703034960920344264932, 202, 202], [202, 202, 1162, 1162, 379075934743080156592967620215101016297993260604216472100000599568383928344417021608694694843510296927104191642697134668655886564, 202, 202, 202], [202, 1162, 1162, 158913790051, 2861005748571272884915074936748712198029353719476881052506483262410446473249982994284417135948050389212852647762501588136157658008308269885799280016802067900224393604533894560786406170258529109932026452659521860956440706108398512412264077269706730345665320296325806184519319497100242699372287540681468179847957513167891785128911624231532458315817443960095933744259627176453406506895815443612982114846007768949699533251890811779959096218952626349304516655838817863243666416347958285633749086947115843601821880698810869605906700480957804137287745316783212758508106103046437341234126, 476552603677015054002663354282001865128377781752828537003107731351781745598543984086527557608587873914319203707977072345056542948, 202, 202], [202, 202, 1162, 1162, 552367790625631085321315591889591414218676853757304587483302167183313381240642732680397561981425989348819768647639246093368164580, 202, 202, 202], [202, 1162, 1162, 628182977574247116639967829497180963308975925761780637963496603014845016882741481274267566354264104783320333587301419841679786212, 202, 202, 202, 202], [1162, 1162, 703998164522863147958620067104770512399274997766256688443691038846376652524840229868137570727102220217820898526963593589991407844, 202, 202, 202, 202, 1162]], [[1162, 779813351471479179277272304712360061489574069770732738923885474677908288166938978462007575099940335652321463466625767338303029476, 202, 202, 202, 202, 1162, 1162], [855628538420095210595924542319949610579873141775208789404079910509439923809037727055877579472778451086822028406287941086614651108, 202, 202, 202, 202, 1162, 1162, 931443725368711241914576779927539159670172213779684839884274346340971559451136475649747583845616566521322593345950114834926272740], [202, 202, 202, 202, 1162, 1162, 1007258912317327273233229017535128708760471285784160890364468782172503195093235224243617588218454681955823158285612288583237894372, 202], [202, 202, 202, 1162, 1162, 1083074099265943304551881255142718257850770357788636940844663218004034830735333972837487592591292797390323723225274462331549516004, 202, 202], [202, 202, 1162, 1162, 1158889286214559335870533492750307806941069429793112991324857653835566466377432721431357596964130912824824288164936636079861137636, 202, 202, 202], [202, 1162, 1162, 1234704473163175367189185730357897356031368501797589041805052089667098102019531470025227601336969028259324853104598809828172759268, 202, 202, 202, 202], [1162, 1162, 1310519660111791398507837967965486905121667573802065092285246525498629737661630218619097605709807143693825418044260983576484380900, 202, 202, 202, 202, 1162], [1162, 1386334847060407429826490205573076454211966645806541142765440961330161373303728967212967610082645259128325982983923157324796002532, 202, 202, 202, 202, 1162, 1162]], [[1462150034009023461145142443180666003302265717811017193245635397161693008945827715806837614455483374562826547923585331073107624164, 202, 202, 202, 202, 1162, 1162, 1537965220957639492463794680788255552392564789815493243725829832993224644587926464400707618828321489997327112863247504821419245796], [202, 202, 202, 202, 1162, 1162, 1613780407906255523782446918395845101482863861819969294206024268824756280230025212994577623201159605431827677802909678569730867428, 202], [202, 202, 202, 1162, 1162, 1689595594854871555101099156003434650573162933824445344686218704656287915872123961588447627573997720866328242742571852318042489060, 202, 202], [202, 202, 1162, 1162, 1765410781803487586419751393611024199663462005828921395166413140487819551514222710182317631946835836300828807682234026066354110692, 202, 202, 202], [202, 1162, 1162, 1841225968752103617738403631218613748753761077833397445646607576319351187156321458776187636319673951735329372621896199814665732324, 202, 202, 202, 202], [1162, 1162, 1917041155700719649057055868826203297844060149837873496126802012150882822798420207370057640692512067169829937561558373562977353956, 202, 202, 202, 202, 1162], [1162, 1992856342649335680375708106433792846934359221842349546606996447982414458440518955963927645065350182604330502501220547311288975588, 202, 202, 202, 202, 1162, 1162], [2068671529597951711694360344041382396024658293846825597087190883813946094082617704557797649438188298038831067440882721059600597220, 202, 202, 202, 202, 1162, 1162, 2144486716546567743013012581648971945114957365851301647567385319645477729724716453151667653811026413473331632380544894807912218852]], [[202, 202, 202, 202, 1162, 1162, 2220301903495183774331664819256561494205256437855777698047579755477009365366815201745537658183864528907832197320207068556223840484, 202], [202, 202, 202, 1162, 1162, 2296117090443799805650317056864151043295555509860253748527774191308541001008913950339407662556702644342332762259869242304535462116, 202, 202], [202, 202, 1162, 1162, 2371932277392415836968969294471740592385854581864729799007968627140072636651012698933277666929540759776833327199531416052847083748, 202, 202, 202], [202, 1162, 1162, 2447747464341031868287621532079330141476153653869205849488163062971604272293111447527147671302378875211333892139193589801158705380, 202, 202, 202, 202], [1162, 1162, 2523562651289647899606273769686919690566452725873681899968357498803135907935210196121017675675216990645834457078855763549470327012, 202, 202, 202, 202, 1162], [1162, 2599377838238263930924926007294509239656751797878157950448551934634667543577308944714887680048055106080335022018517937297781948644, 202, 202, 202, 202, 1162, 1162], [2675193025186879962243578244902098788747050869882634000928746370466199179219407693308757684420893221514835586958180111046093570276, 202, 202, 202, 202, 1162, 1162, 1671957873106552938469224763310387274864752584556654], [108, 74859794825915934140998315655429490661373921634975688667909032746616141081831220404659388062056476893520068807, 650, 650, 650, 5772, 682, 650]], [[1162, 106, 106, 7265041773142184906363865400655276335269911403462785313445497151198142075942871930486152481428291654254341677436991893846909972086604171754228044120474053822579757335666472872732344014006782763708984028793680674114037109494302574299789388735840672, 397, 202, 202, 202], [202, 79556879991463600596904591597529070096520515461491309826281645800643980993649948780475637936627413737841623234, 5182088206341248772641590318316229766276448436211450156977661720653780134530050651042428325397503083998828989486791006223554113762138526498953227947493534437099960989204611670611808263266053306683065202335307449691924559049866, 58968162887836583628774290327941701420576894069006881693378223441337877537377325813845730080900918889874163371471040160259290571960934397804717212882639579416128140426, 79571717825565862746586596290188975362966749132440832823624218894583364010618087698071722, 298, 650, 3010945995959322386654752440021423934718375331616742224483893157720124994205845008510181989500604875581909517405255451931473608932], [202, 202, 202, 202, 1162, 1162, 3086761182907938417973404677629013483808674403621218274964087593551656629847943757104051993873442991016410082344917625679785230564, 202], [202, 202, 202, 1162, 1162, 3162576369856554449292056915236603032898973475625694325444282029383188265490042505697921998246281106450910647284579799428096852196, 202, 202], [202, 202, 1162, 1162, 2089]]]
def zA0 : zAm := [[[4327788798055727846434435704549466399621158643910048263624973216365837933533632247478817880843858614632707536978549900860272558097700583111911424351449072162890408100365081177698675938568569000064431420391233371716856070076130338620526026557495813624081007239202620154315208, 12884901957, 64011, 1716199414633068614305028194153503858905094402097996845599445757616132115584530314989942844764725262957294557264658751937166381318598425277189074453738291457, 1941116160034846065262793138660002301885501507345041975994785164427430, 5997241238912102500848555436572085695719136337427711529299301362010516391140205087975551267893560448008543420521806391010018505269190422199097213511257287751886139439906392430931513717646410219287807799797885701378447848232179218494693664651208137604687577789964111334850197265614305447367201287264136188355120228387861319995230867655487294327682558030157656249065025482580302630995652347777033586044430918789168329565664368150985956583801581, 12842, 12842], [12845, 436994993873214129706097166956708350993678881411295357199729151951767944417616689248205907735819960637627838877564848711523237646605896649750300541580277223220733595013458973769393669550081626721015604470300816489916197017381353204490366412128672, 397, 202, 202, 202, 202, 6164924279781312223369030002223141422354986922184729226687644306899018827709265111736067971922253199746007234], [5182088206341248772641590318316229766276448436211450156977661720653780134530050651042428325397503083998828989486791006223554113762138526498953227947493534437099960989204611670611808263266053306683065202335307449691924559049866, 58968162887836583628774290327941701420576894069006881693378223441337877537377325813845730080900918889874163371471040160259290571960934397804717212882639579416128140426, 79571717825565862746586596290188975362966749132440832823624218894583364010618087698071722, 298, 650, 303260747794464125274315382607511467207694188599740421619806163736852292702318273014824690470672181492603626703034960920344264932, 202, 202], [202, 202, 1162, 1162, 379075934743080156592967620215101016297993260604216472100000599568383928344417021608694694843510296927104191642697134668655886564, 202, 202, 202], [202, 1162, 1162, 158913790051, 2861005748571272884915074936748712198029353719476881052506483262410446473249982994284417135948050389212852647762501588136157658008308269885799280016802067900224393604533894560786406170258529109932026452659521860956440706108398512412264077269706730345665320296325806184519319497100242699372287540681468179847957513167891785128911624231532458315817443960095933744259627176453406506895815443612982114846007768949699533251890811779959096218952626349304516655838817863243666416347958285633749086947115843601821880698810869605906700480957804137287745316783212758508106103046437341234126, 476552603677015054002663354282001865128377781752828537003107731351781745598543984086527557608587873914319203707977072345056542948, 202, 202], [202, 202, 1162, 1162, 552367790625631085321315591889591414218676853757304587483302167183313381240642732680397561981425989348819768647639246093368164580, 202, 202, 202], [202, 1162, 1162, 628182977574247116639967829497180963308975925761780637963496603014845016882741481274267566354264104783320333587301419841679786212, 202, 202, 202, 202], [1162, 1162, 703998164522863147958620067104770512399274997766256688443691038846376652524840229868137570727102220217820898526963593589991407844, 202, 202, 202, 202, 1162]], [[1162, 779813351471479179277272304712360061489574069770732738923885474677908288166938978462007575099940335652321463466625767338303029476, 202, 202, 202, 202, 1162, 1162], [855628538420095210595924542319949610579873141775208789404079910509439923809037727055877579472778451086822028406287941086614651108, 202, 202, 202, 202, 1162, 1162, 931443725368711241914576779927539159670172213779684839884274346340971559451136475649747583845616566521322593345950114834926272740], [202, 202, 202, 202, 1162, 1162, 1007258912317327273233229017535128708760471285784160890364468782172503195093235224243617588218454681955823158285612288583237894372, 202], [202, 202, 202, 1162, 1162, 1083074099265943304551881255142718257850770357788636940844663218004034830735333972837487592591292797390323723225274462331549516004, 202, 202], [202, 202, 1162, 1162, 1158889286214559335870533492750307806941069429793112991324857653835566466377432721431357596964130912824824288164936636079861137636, 202, 202, 202], [202, 1162, 1162, 1234704473163175367189185730357897356031368501797589041805052089667098102019531470025227601336969028259324853104598809828172759268, 202, 202, 202, 202], [1162, 1162, 1310519660111791398507837967965486905121667573802065092285246525498629737661630218619097605709807143693825418044260983576484380900, 202, 202, 202, 202, 1162], [1162, 1386334847060407429826490205573076454211966645806541142765440961330161373303728967212967610082645259128325982983923157324796002532, 202, 202, 202, 202, 1162, 1162]], [[1462150034009023461145142443180666003302265717811017193245635397161693008945827715806837614455483374562826547923585331073107624164, 202, 202, 202, 202, 1162, 1162, 1537965220957639492463794680788255552392564789815493243725829832993224644587926464400707618828321489997327112863247504821419245796], [202, 202, 202, 202, 1162, 1162, 1613780407906255523782446918395845101482863861819969294206024268824756280230025212994577623201159605431827677802909678569730867428, 202], [202, 202, 202, 1162, 1162, 1689595594854871555101099156003434650573162933824445344686218704656287915872123961588447627573997720866328242742571852318042489060, 202, 202], [202, 202, 1162, 1162, 1765410781803487586419751393611024199663462005828921395166413140487819551514222710182317631946835836300828807682234026066354110692, 202, 202, 202], [202, 1162, 1162, 1841225968752103617738403631218613748753761077833397445646607576319351187156321458776187636319673951735329372621896199814665732324, 202, 202, 202, 202], [1162, 1162, 1917041155700719649057055868826203297844060149837873496126802012150882822798420207370057640692512067169829937561558373562977353956, 202, 202, 202, 202, 1162], [1162, 1992856342649335680375708106433792846934359221842349546606996447982414458440518955963927645065350182604330502501220547311288975588, 202, 202, 202, 202, 1162, 1162], [2068671529597951711694360344041382396024658293846825597087190883813946094082617704557797649438188298038831067440882721059600597220, 202, 202, 202, 202, 1162, 1162, 2144486716546567743013012581648971945114957365851301647567385319645477729724716453151667653811026413473331632380544894807912218852]], [[202, 202, 202, 202, 1162, 1162, 2220301903495183774331664819256561494205256437855777698047579755477009365366815201745537658183864528907832197320207068556223840484, 202], [202, 202, 202, 1162, 1162, 2296117090443799805650317056864151043295555509860253748527774191308541001008913950339407662556702644342332762259869242304535462116, 202, 202], [202, 202, 1162, 1162, 2371932277392415836968969294471740592385854581864729799007968627140072636651012698933277666929540759776833327199531416052847083748, 202, 202, 202], [202, 1162, 1162, 2447747464341031868287621532079330141476153653869205849488163062971604272293111447527147671302378875211333892139193589801158705380, 202, 202, 202, 202], [1162, 1162, 2523562651289647899606273769686919690566452725873681899968357498803135907935210196121017675675216990645834457078855763549470327012, 202, 202, 202, 202, 1162], [1162, 2599377838238263930924926007294509239656751797878157950448551934634667543577308944714887680048055106080335022018517937297781948644, 202, 202, 202, 202, 1162, 1162], [2675193025186879962243578244902098788747050869882634000928746370466199179219407693308757684420893221514835586958180111046093570276, 202, 202, 202, 202, 1162, 1162, 1671957873106552938469224763310387274864752584556654], [108, 74859794825915934140998315655429490661373921634975688667909032746616141081831220404659388062056476893520068807, 650, 650, 650, 5772, 682, 650]], [[1162, 106, 106, 7265041773142184906363865400655276335269911403462785313445497151198142075942871930486152481428291654254341677436991893846909972086604171754228044120474053822579757335666472872732344014006782763708984028793680674114037109494302574299789388735840672, 397, 202, 202, 202], [202, 79556879991463600596904591597529070096520515461491309826281645800643980993649948780475637936627413737841623234, 5182088206341248772641590318316229766276448436211450156977661720653780134530050651042428325397503083998828989486791006223554113762138526498953227947493534437099960989204611670611808263266053306683065202335307449691924559049866, 58968162887836583628774290327941701420576894069006881693378223441337877537377325813845730080900918889874163371471040160259290571960934397804717212882639579416128140426, 79571717825565862746586596290188975362966749132440832823624218894583364010618087698071722, 298, 650, 3010945995959322386654752440021423934718375331616742224483893157720124994205845008510181989500604875581909517405255451931473608932], [202, 202, 202, 202, 1162, 1162, 3086761182907938417973404677629013483808674403621218274964087593551656629847943757104051993873442991016410082344917625679785230564, 202], [202, 202, 202, 1162, 1162, 3162576369856554449292056915236603032898973475625694325444282029383188265490042505697921998246281106450910647284579799428096852196, 202, 202], [202, 202, 1162, 1162, 27802324040296509319766169648491939646962842039046924021763329829305907705211017291570640864808568742298106745726551034486089476945565115512766770734799649072951452485217762040195842910404175586370117355600915686394191125632444843255078001713963773768968548640925882180148827549085352176677520601808040593749064537533313622702900781817694418008241201097333761711328307162448486901956853321938296065361174404947250676489563632505218088345413883813016005055347665524166303375749021487250648566051536894442144846104740469758858966591977999369532230275703470845063638852567387962365556313925963003529903164746114472864872296824346953783529073528742251803480586138543840017002354519294186687773540080369550179651208548330203669349519580338967229336684444578765169666941381834987836257321863219350718512347755724304010512198091667333981029497940499651727870587711186876798017863141778308466143813807535670315072863535343554086119261922502991253415970325221792286490475232555567858261363159557906403548535555951857252764419798991902633883570372340578130095315743458225550923441098691038018364783502755360293748169954349970426297660814553460974523347432052620796299315030042445771137567242909163754618043516191978608926622707618165885294446530654954781553731787506111744041, 64011, 64011, 12906], [12906, 12906, 12909, 5997241238912102500848555436572085695719136337427711529299301362010516391140205087975551267893560448008543420521806391010018505269190422199097213511257287751886139439906392430931513717646410219287807799797885701378447848232179218494693664651208137604687577789964111334850197265614305447367201287264136188355120228387861319995230867655487294327682558030157656249065025482580302630995652347777033586044430918789168329565664368150985956583801581, 397, 74, 394, 394], [74, 394, 394, 103079215178, 74, 74, 74, 330], [330, 8332, 8330, 8330, 8330, 8330, 26890, 26890]], [[2058, 298, 12810, 3114, 3114, 93130, 650, 106], [716, 716, 650, 650, 650, 13450, 108, 9322]]]
theorem zx_init : f_X8_init [.inr (.ref 0)] 1 zA1 (zend 292 zA2) = true := by decide +kernel
theorem zx_new : zput zA2 292 (zmk 9 65) = zA3 := zAeq_t (by decide +kernel)
theorem zx_minit : f_X9_init [.inr (.ref 292)] 293 zA3 (zend 336 zA0) = true := by decide +kernel
