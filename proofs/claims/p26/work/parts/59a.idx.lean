section
variable {l : Launch} {G : qG} {gh : zGh}
def n_J0_isLatin1_aae02 : qMn := (yJ0_isLatin1_aae02, cJ0_isLatin1_aae02, 1, (some Jvm.ClassFile.FieldType.boolean), 0, 0)
theorem to_J0_isLatin1_aae02 : qTo n_J0_isLatin1_aae02 0 := ⟨g169, g101, ⟨by decide, by decide, by decide +kernel⟩, by decide⟩
def p_J0_isLatin1_aae02 : List Nat := [0, 6, 13, 17, 18]
noncomputable def b_J0_isLatin1_aae02_0 : zBl := fun jp K => oInt 2147483649 <| oIf zeq zne (jp 3) (jp 1)
theorem s_J0_isLatin1_aae02_0 (d : Nat) : zPb l G gh (d + 1) n_J0_isLatin1_aae02 p_J0_isLatin1_aae02 0 b_J0_isLatin1_aae02_0 := fun K jp hj =>
    z_sCom (idx := 38) (zd (i := .getstatic 38) (n := 3) (by decide +kernel)) g160 <|
    z_if_eq (off := 14) (tgt := 17) (zd (i := .ifCond .eq (14)) (n := 3) (by decide +kernel)) (by decide +kernel) (zj (hj 3) (by decide +kernel)) (zj (hj 1) (by decide +kernel))
noncomputable def b_J0_isLatin1_aae02_1 : zBl := fun jp K => oAld 0 <| oScod <| oIf zne zeq (jp 3) (jp 2)
theorem s_J0_isLatin1_aae02_1 (d : Nat) : zPb l G gh (d + 1) n_J0_isLatin1_aae02 p_J0_isLatin1_aae02 6 b_J0_isLatin1_aae02_1 := fun K jp hj =>
    z_aload_n (n := 0) (i := 0) (zd (i := .aload_n 0) (n := 1) (by decide +kernel)) rfl <|
    z_sCod (idx := 15) (zd (i := .getfield 15) (n := 3) (by decide +kernel)) g1714 <|
    z_if_ne (off := 7) (tgt := 17) (zd (i := .ifCond .ne (7)) (n := 3) (by decide +kernel)) (by decide +kernel) (zj (hj 3) (by decide +kernel)) (zj (hj 2) (by decide +kernel))
noncomputable def b_J0_isLatin1_aae02_2 : zBl := fun jp K => oInt 2147483649 <| jp 4
theorem s_J0_isLatin1_aae02_2 (d : Nat) : zPb l G gh (d + 1) n_J0_isLatin1_aae02 p_J0_isLatin1_aae02 13 b_J0_isLatin1_aae02_2 := fun K jp hj =>
    z_iconst (n := 1) (zd (i := .iconst (1)) (n := 1) (by decide +kernel)) (by decide +kernel) <|
    z_goto (off := 4) (tgt := 18) (zd (i := .goto (4)) (n := 3) (by decide +kernel)) (by decide +kernel) (zj (hj 4) (by decide +kernel))
noncomputable def b_J0_isLatin1_aae02_4 : zBl := fun jp K => oZret K
theorem s_J0_isLatin1_aae02_4 (d : Nat) : zPb l G gh (d + 1) n_J0_isLatin1_aae02 p_J0_isLatin1_aae02 18 b_J0_isLatin1_aae02_4 := fun K jp hj =>
    z_zret (zd (i := .ireturn) (n := 1) (by decide +kernel)) rfl
noncomputable def t_J0_isLatin1_aae02 : List zBl := [b_J0_isLatin1_aae02_0, b_J0_isLatin1_aae02_1, b_J0_isLatin1_aae02_2, zfl, b_J0_isLatin1_aae02_4]
theorem tt_J0_isLatin1_aae02 (d : Nat) : zT (zPb l G gh (d + 1) n_J0_isLatin1_aae02 p_J0_isLatin1_aae02) t_J0_isLatin1_aae02 p_J0_isLatin1_aae02 := ⟨s_J0_isLatin1_aae02_0 d, s_J0_isLatin1_aae02_1 d, s_J0_isLatin1_aae02_2 d, (fun _ _ _ => z_fail), s_J0_isLatin1_aae02_4 d, trivial⟩
noncomputable def f_J0_isLatin1_aae02 : zMt := zmet 1 t_J0_isLatin1_aae02
theorem c_J0_isLatin1_aae02 (d : Nat) : zC l G gh (d + 1) n_J0_isLatin1_aae02 f_J0_isLatin1_aae02 := zmet_ok (pcs := p_J0_isLatin1_aae02) (by decide) rfl rfl (tt_J0_isLatin1_aae02 d)
def n_J0_coder_7d493 : qMn := (yJ0_coder_7d493, cJ0_coder_7d493, 1, (some Jvm.ClassFile.FieldType.byte), 0, 0)
theorem to_J0_coder_7d493 : qTo n_J0_coder_7d493 0 := ⟨g159, g101, ⟨by decide, by decide, by decide +kernel⟩, by decide⟩
def p_J0_coder_7d493 : List Nat := [0, 6, 13, 14]
noncomputable def b_J0_coder_7d493_0 : zBl := fun jp K => oInt 2147483649 <| oIf zeq zne (jp 2) (jp 1)
theorem s_J0_coder_7d493_0 (d : Nat) : zPb l G gh (d + 1) n_J0_coder_7d493 p_J0_coder_7d493 0 b_J0_coder_7d493_0 := fun K jp hj =>
    z_sCom (idx := 38) (zd (i := .getstatic 38) (n := 3) (by decide +kernel)) g160 <|
    z_if_eq (off := 10) (tgt := 13) (zd (i := .ifCond .eq (10)) (n := 3) (by decide +kernel)) (by decide +kernel) (zj (hj 2) (by decide +kernel)) (zj (hj 1) (by decide +kernel))
noncomputable def b_J0_coder_7d493_1 : zBl := fun jp K => oAld 0 <| oScod <| jp 3
theorem s_J0_coder_7d493_1 (d : Nat) : zPb l G gh (d + 1) n_J0_coder_7d493 p_J0_coder_7d493 6 b_J0_coder_7d493_1 := fun K jp hj =>
    z_aload_n (n := 0) (i := 0) (zd (i := .aload_n 0) (n := 1) (by decide +kernel)) rfl <|
    z_sCod (idx := 15) (zd (i := .getfield 15) (n := 3) (by decide +kernel)) g1714 <|
    z_goto (off := 4) (tgt := 14) (zd (i := .goto (4)) (n := 3) (by decide +kernel)) (by decide +kernel) (zj (hj 3) (by decide +kernel))
noncomputable def b_J0_coder_7d493_3 : zBl := fun jp K => oNret .byte K
theorem s_J0_coder_7d493_3 (d : Nat) : zPb l G gh (d + 1) n_J0_coder_7d493 p_J0_coder_7d493 14 b_J0_coder_7d493_3 := fun K jp hj =>
    z_nret (ty := .byte) (zd (i := .ireturn) (n := 1) (by decide +kernel)) rfl (fun _ => rfl)
noncomputable def t_J0_coder_7d493 : List zBl := [b_J0_coder_7d493_0, b_J0_coder_7d493_1, zfl, b_J0_coder_7d493_3]
theorem tt_J0_coder_7d493 (d : Nat) : zT (zPb l G gh (d + 1) n_J0_coder_7d493 p_J0_coder_7d493) t_J0_coder_7d493 p_J0_coder_7d493 := ⟨s_J0_coder_7d493_0 d, s_J0_coder_7d493_1 d, (fun _ _ _ => z_fail), s_J0_coder_7d493_3 d, trivial⟩
noncomputable def f_J0_coder_7d493 : zMt := zmet 1 t_J0_coder_7d493
theorem c_J0_coder_7d493 (d : Nat) : zC l G gh (d + 1) n_J0_coder_7d493 f_J0_coder_7d493 := zmet_ok (pcs := p_J0_coder_7d493) (by decide) rfl rfl (tt_J0_coder_7d493 d)
def n_J1_canEncode_9a6ad : qMn := (yJ1_canEncode_9a6ad, cJ1_canEncode_9a6ad, 1, (some Jvm.ClassFile.FieldType.boolean), 0, 0)
theorem to_J1_canEncode_9a6ad : qTo n_J1_canEncode_9a6ad 1 := ⟨g573, g102, ⟨by decide, by decide, by decide +kernel⟩, by decide⟩
def p_J1_canEncode_9a6ad : List Nat := [0, 4, 11, 15, 16]
noncomputable def b_J1_canEncode_9a6ad_0 : zBl := fun jp K => oNLC 0 2147483648 zltN zgeN zn1_lt zn1_ge (jp 3) (jp 1)
theorem s_J1_canEncode_9a6ad_0 (d : Nat) : zPb l G gh (d + 1) n_J1_canEncode_9a6ad p_J1_canEncode_9a6ad 0 b_J1_canEncode_9a6ad_0 := fun K jp hj =>
    z_nL0_lt (i := 0) (a1 := 1) (off := 14) (tgt := 15) (zLd_n (n := 0) (i := 0) (zd (i := .iload_n 0) (n := 1) (by decide +kernel)) rfl) (zd (i := .ifCond .lt (14)) (n := 3) (by decide +kernel)) (by decide +kernel) (zj (hj 3) (by decide +kernel)) (zj (hj 1) (by decide +kernel))
noncomputable def b_J1_canEncode_9a6ad_1 : zBl := fun jp K => oNLC 0 2147483903 zgtN zleN zn1_gt zn1_le (jp 3) (jp 2)
theorem s_J1_canEncode_9a6ad_1 (d : Nat) : zPb l G gh (d + 1) n_J1_canEncode_9a6ad p_J1_canEncode_9a6ad 4 b_J1_canEncode_9a6ad_1 := fun K jp hj =>
    z_nLC_gt (i := 0) (c0 := 2147483903) (a1 := 1) (a2 := 3) (off := 7) (tgt := 15) (zLd_n (n := 0) (i := 0) (zd (i := .iload_n 0) (n := 1) (by decide +kernel)) rfl) (zCn_s (n := 255) (zd (i := .sipush (255)) (n := 3) (by decide +kernel)) (by decide +kernel)) (zd (i := .if_icmp .gt (7)) (n := 3) (by decide +kernel)) (by decide +kernel) (zj (hj 3) (by decide +kernel)) (zj (hj 2) (by decide +kernel))
noncomputable def b_J1_canEncode_9a6ad_2 : zBl := fun jp K => oInt 2147483649 <| jp 4
theorem s_J1_canEncode_9a6ad_2 (d : Nat) : zPb l G gh (d + 1) n_J1_canEncode_9a6ad p_J1_canEncode_9a6ad 11 b_J1_canEncode_9a6ad_2 := fun K jp hj =>
    z_iconst (n := 1) (zd (i := .iconst (1)) (n := 1) (by decide +kernel)) (by decide +kernel) <|
    z_goto (off := 4) (tgt := 16) (zd (i := .goto (4)) (n := 3) (by decide +kernel)) (by decide +kernel) (zj (hj 4) (by decide +kernel))
noncomputable def b_J1_canEncode_9a6ad_3 : zBl := fun jp K => oInt 2147483648 <| jp 4
theorem s_J1_canEncode_9a6ad_3 (d : Nat) : zPb l G gh (d + 1) n_J1_canEncode_9a6ad p_J1_canEncode_9a6ad 15 b_J1_canEncode_9a6ad_3 := fun K jp hj =>
    z_iconst (n := 0) (zd (i := .iconst (0)) (n := 1) (by decide +kernel)) (by decide +kernel) <|
    (zj (hj 4) (by decide +kernel))
noncomputable def b_J1_canEncode_9a6ad_4 : zBl := fun jp K => oZret K
theorem s_J1_canEncode_9a6ad_4 (d : Nat) : zPb l G gh (d + 1) n_J1_canEncode_9a6ad p_J1_canEncode_9a6ad 16 b_J1_canEncode_9a6ad_4 := fun K jp hj =>
    z_zret (zd (i := .ireturn) (n := 1) (by decide +kernel)) rfl
noncomputable def t_J1_canEncode_9a6ad : List zBl := [b_J1_canEncode_9a6ad_0, b_J1_canEncode_9a6ad_1, b_J1_canEncode_9a6ad_2, b_J1_canEncode_9a6ad_3, b_J1_canEncode_9a6ad_4]
theorem tt_J1_canEncode_9a6ad (d : Nat) : zT (zPb l G gh (d + 1) n_J1_canEncode_9a6ad p_J1_canEncode_9a6ad) t_J1_canEncode_9a6ad p_J1_canEncode_9a6ad := ⟨s_J1_canEncode_9a6ad_0 d, s_J1_canEncode_9a6ad_1 d, s_J1_canEncode_9a6ad_2 d, s_J1_canEncode_9a6ad_3 d, s_J1_canEncode_9a6ad_4 d, trivial⟩
noncomputable def f_J1_canEncode_9a6ad : zMt := zmet 1 t_J1_canEncode_9a6ad
theorem c_J1_canEncode_9a6ad (d : Nat) : zC l G gh (d + 1) n_J1_canEncode_9a6ad f_J1_canEncode_9a6ad := zmet_ok (pcs := p_J1_canEncode_9a6ad) (by decide) rfl rfl (tt_J1_canEncode_9a6ad d)
def n_J1_indexOfChar_4cfef : qMn := (yJ1_indexOfChar_4cfef, cJ1_indexOfChar_4cfef, 6, (some Jvm.ClassFile.FieldType.int), 0, 0)
theorem to_J1_indexOfChar_4cfef : qTo n_J1_indexOfChar_4cfef 4 := ⟨g582, g102, ⟨by decide, by decide, by decide +kernel⟩, by decide⟩
def p_J1_indexOfChar_4cfef : List Nat := [0, 7, 13, 22, 25, 31]
noncomputable def b_J1_indexOfChar_4cfef_0 : zBl := fun jp K => oIld 1 <| oU zi2b <| oIst 4 <| oIld 2 <| oIst 5 <| jp 1
theorem s_J1_indexOfChar_4cfef_0 (d : Nat) : zPb l G gh (d + 1) n_J1_indexOfChar_4cfef p_J1_indexOfChar_4cfef 0 b_J1_indexOfChar_4cfef_0 := fun K jp hj =>
    z_iload_n (n := 1) (i := 1) (zd (i := .iload_n 1) (n := 1) (by decide +kernel)) rfl <|
    z_i2b (zd (i := .i2b) (n := 1) (by decide +kernel)) <|
    z_istore (i := 4) (zd (i := .istore 4) (n := 2) (by decide +kernel)) (by decide +kernel) <|
    z_iload_n (n := 2) (i := 2) (zd (i := .iload_n 2) (n := 1) (by decide +kernel)) rfl <|
    z_istore (i := 5) (zd (i := .istore 5) (n := 2) (by decide +kernel)) (by decide +kernel) <|
    (zj (hj 1) (by decide +kernel))
noncomputable def b_J1_indexOfChar_4cfef_1 : zBl := fun jp K => oNLL 5 3 zgeN zltN zn1_ge zn2_ge zn1_lt zn2_lt (jp 5) (jp 2)
theorem s_J1_indexOfChar_4cfef_1 (d : Nat) : zPb l G gh (d + 1) n_J1_indexOfChar_4cfef p_J1_indexOfChar_4cfef 7 b_J1_indexOfChar_4cfef_1 := fun K jp hj =>
    z_nLL_ge (i := 5) (j := 3) (a1 := 2) (a2 := 1) (off := 21) (tgt := 31) (zLd_w (i := 5) (zd (i := .iload 5) (n := 2) (by decide +kernel))) (zLd_n (n := 3) (i := 3) (zd (i := .iload_n 3) (n := 1) (by decide +kernel)) rfl) (zd (i := .if_icmp .ge (21)) (n := 3) (by decide +kernel)) (by decide +kernel) (zj (hj 5) (by decide +kernel)) (zj (hj 2) (by decide +kernel))
noncomputable def b_J1_indexOfChar_4cfef_2 : zBl := fun jp K => oAld 0 <| oIld 5 <| oSbal <| oIld 4 <| oIc zne zeq (jp 4) (jp 3)
theorem s_J1_indexOfChar_4cfef_2 (d : Nat) : zPb l G gh (d + 1) n_J1_indexOfChar_4cfef p_J1_indexOfChar_4cfef 13 b_J1_indexOfChar_4cfef_2 := fun K jp hj =>
    z_aload_n (n := 0) (i := 0) (zd (i := .aload_n 0) (n := 1) (by decide +kernel)) rfl <|
    z_iload (i := 5) (zd (i := .iload 5) (n := 2) (by decide +kernel)) <|
    z_sBal (zd (i := .baload) (n := 1) (by decide +kernel)) <|
    z_iload (i := 4) (zd (i := .iload 4) (n := 2) (by decide +kernel)) <|
    z_icmp_ne (off := 6) (tgt := 25) (zd (i := .if_icmp .ne (6)) (n := 3) (by decide +kernel)) (by decide +kernel) (zj (hj 4) (by decide +kernel)) (zj (hj 3) (by decide +kernel))
noncomputable def b_J1_indexOfChar_4cfef_3 : zBl := fun jp K => oIld 5 <| oIret K
theorem s_J1_indexOfChar_4cfef_3 (d : Nat) : zPb l G gh (d + 1) n_J1_indexOfChar_4cfef p_J1_indexOfChar_4cfef 22 b_J1_indexOfChar_4cfef_3 := fun K jp hj =>
    z_iload (i := 5) (zd (i := .iload 5) (n := 2) (by decide +kernel)) <|
    z_iret (zd (i := .ireturn) (n := 1) (by decide +kernel)) rfl
noncomputable def b_J1_indexOfChar_4cfef_4 : zBl := fun jp K => oInc 5 2147483649 <| jp 1
theorem s_J1_indexOfChar_4cfef_4 (d : Nat) : zPb l G gh (d + 1) n_J1_indexOfChar_4cfef p_J1_indexOfChar_4cfef 25 b_J1_indexOfChar_4cfef_4 := fun K jp hj =>
    z_iinc (i := 5) (n := 1) (zd (i := .iinc 5 (1)) (n := 3) (by decide +kernel)) (by decide +kernel) (by decide +kernel) <|
    z_goto (off := -21) (tgt := 7) (zd (i := .goto (-21)) (n := 3) (by decide +kernel)) (by decide +kernel) (zj (hj 1) (by decide +kernel))
noncomputable def b_J1_indexOfChar_4cfef_5 : zBl := fun jp K => oInt 2147483647 <| oIret K
theorem s_J1_indexOfChar_4cfef_5 (d : Nat) : zPb l G gh (d + 1) n_J1_indexOfChar_4cfef p_J1_indexOfChar_4cfef 31 b_J1_indexOfChar_4cfef_5 := fun K jp hj =>
    z_iconst (n := -1) (zd (i := .iconst (-1)) (n := 1) (by decide +kernel)) (by decide +kernel) <|
    z_iret (zd (i := .ireturn) (n := 1) (by decide +kernel)) rfl
noncomputable def t_J1_indexOfChar_4cfef : List zBl := [b_J1_indexOfChar_4cfef_0, b_J1_indexOfChar_4cfef_1, b_J1_indexOfChar_4cfef_2, b_J1_indexOfChar_4cfef_3, b_J1_indexOfChar_4cfef_4, b_J1_indexOfChar_4cfef_5]
theorem tt_J1_indexOfChar_4cfef (d : Nat) : zT (zPb l G gh (d + 1) n_J1_indexOfChar_4cfef p_J1_indexOfChar_4cfef) t_J1_indexOfChar_4cfef p_J1_indexOfChar_4cfef := ⟨s_J1_indexOfChar_4cfef_0 d, s_J1_indexOfChar_4cfef_1 d, s_J1_indexOfChar_4cfef_2 d, s_J1_indexOfChar_4cfef_3 d, s_J1_indexOfChar_4cfef_4 d, s_J1_indexOfChar_4cfef_5 d, trivial⟩
noncomputable def f_J1_indexOfChar_4cfef : zMt := zmet 6 t_J1_indexOfChar_4cfef
theorem c_J1_indexOfChar_4cfef (d : Nat) : zC l G gh (d + 1) n_J1_indexOfChar_4cfef f_J1_indexOfChar_4cfef := zmet_ok (pcs := p_J1_indexOfChar_4cfef) (by decide) rfl rfl (tt_J1_indexOfChar_4cfef d)
def n_J0_length_8abf5 : qMn := (yJ0_length_8abf5, cJ0_length_8abf5, 1, (some Jvm.ClassFile.FieldType.int), 0, 0)
theorem to_J0_length_8abf5 : qTo n_J0_length_8abf5 0 := ⟨g155, g101, ⟨by decide, by decide, by decide +kernel⟩, by decide⟩
def p_J0_length_8abf5 : List Nat := [0]
noncomputable def b_J0_length_8abf5_0 : zBl := fun jp K => oAld 0 <| oSval <| oSlen <| oAld 0 <| oCt 0 f_J0_coder_7d493 <| oB2 zishr <| oIret K
theorem s_J0_length_8abf5_0 (d : Nat) : zPb l G gh (d + 2) n_J0_length_8abf5 p_J0_length_8abf5 0 b_J0_length_8abf5_0 := fun K jp hj =>
    z_aload_n (n := 0) (i := 0) (zd (i := .aload_n 0) (n := 1) (by decide +kernel)) rfl <|
    z_sVal (idx := 9) (zd (i := .getfield 9) (n := 3) (by decide +kernel)) g1713 <|
    z_sLen (zd (i := .arraylength) (n := 1) (by decide +kernel)) <|
    z_aload_n (n := 0) (i := 0) (zd (i := .aload_n 0) (n := 1) (by decide +kernel)) rfl <|
    z_callT (idx := 335) (N := n_J0_coder_7d493) (zd (i := .invokevirtual 335) (n := 3) (by decide +kernel)) to_J0_coder_7d493 g156 g157 g158 rfl rfl rfl (c_J0_coder_7d493 (l := l) (G := G) (gh := gh) (d)) <|
    z_ishr (zd (i := .ishr) (n := 1) (by decide +kernel)) <|
    z_iret (zd (i := .ireturn) (n := 1) (by decide +kernel)) rfl
noncomputable def t_J0_length_8abf5 : List zBl := [b_J0_length_8abf5_0]
theorem tt_J0_length_8abf5 (d : Nat) : zT (zPb l G gh (d + 2) n_J0_length_8abf5 p_J0_length_8abf5) t_J0_length_8abf5 p_J0_length_8abf5 := ⟨s_J0_length_8abf5_0 d, trivial⟩
noncomputable def f_J0_length_8abf5 : zMt := zmet 1 t_J0_length_8abf5
theorem c_J0_length_8abf5 (d : Nat) : zC l G gh (d + 2) n_J0_length_8abf5 f_J0_length_8abf5 := zmet_ok (pcs := p_J0_length_8abf5) (by decide) rfl rfl (tt_J0_length_8abf5 d)
def n_J1_indexOf_4cfef : qMn := (yJ1_indexOf_4cfef, cJ1_indexOf_4cfef, 4, (some Jvm.ClassFile.FieldType.int), 0, 0)
theorem to_J1_indexOf_4cfef : qTo n_J1_indexOf_4cfef 4 := ⟨g570, g102, ⟨by decide, by decide, by decide +kernel⟩, by decide⟩
def p_J1_indexOf_4cfef : List Nat := [0, 7, 9, 27, 29]
noncomputable def b_J1_indexOf_4cfef_0 : zBl := fun jp K => oIld 1 <| oCs 1 f_J1_canEncode_9a6ad <| oIf zne zeq (jp 2) (jp 1)
theorem s_J1_indexOf_4cfef_0 (d : Nat) : zPb l G gh (d + 2) n_J1_indexOf_4cfef p_J1_indexOf_4cfef 0 b_J1_indexOf_4cfef_0 := fun K jp hj =>
    z_iload_n (n := 1) (i := 1) (zd (i := .iload_n 1) (n := 1) (by decide +kernel)) rfl <|
    z_callS (idx := 88) (N := n_J1_canEncode_9a6ad) (zd (i := .invokestatic 88) (n := 3) (by decide +kernel)) to_J1_canEncode_9a6ad g571 g572 rfl rfl (c_J1_canEncode_9a6ad (l := l) (G := G) (gh := gh) (d)) <|
    z_if_ne (off := 5) (tgt := 9) (zd (i := .ifCond .ne (5)) (n := 3) (by decide +kernel)) (by decide +kernel) (zj (hj 2) (by decide +kernel)) (zj (hj 1) (by decide +kernel))
noncomputable def b_J1_indexOf_4cfef_1 : zBl := fun jp K => oInt 2147483647 <| oIret K
theorem s_J1_indexOf_4cfef_1 (d : Nat) : zPb l G gh (d + 2) n_J1_indexOf_4cfef p_J1_indexOf_4cfef 7 b_J1_indexOf_4cfef_1 := fun K jp hj =>
    z_iconst (n := -1) (zd (i := .iconst (-1)) (n := 1) (by decide +kernel)) (by decide +kernel) <|
    z_iret (zd (i := .ireturn) (n := 1) (by decide +kernel)) rfl
noncomputable def b_J1_indexOf_4cfef_2 : zBl := fun jp K => oIld 2 <| oInt 2147483648 <| oM2 zmax <| oIst 2 <| oIld 3 <| oAld 0 <| oSlen <| oM2 zmin <| oIst 3 <| oNLL 2 3 zltN zgeN zn1_lt zn2_lt zn1_ge zn2_ge (jp 4) (jp 3)
theorem s_J1_indexOf_4cfef_2 (d : Nat) : zPb l G gh (d + 2) n_J1_indexOf_4cfef p_J1_indexOf_4cfef 9 b_J1_indexOf_4cfef_2 := fun K jp hj =>
    z_iload_n (n := 2) (i := 2) (zd (i := .iload_n 2) (n := 1) (by decide +kernel)) rfl <|
    z_iconst (n := 0) (zd (i := .iconst (0)) (n := 1) (by decide +kernel)) (by decide +kernel) <|
    z_max (idx := 92) (zd (i := .invokestatic 92) (n := 3) (by decide +kernel)) g574 g575 g111 g576 <|
    z_istore_n (n := 2) (i := 2) (zd (i := .istore_n 2) (n := 1) (by decide +kernel)) rfl (by decide +kernel) <|
    z_iload_n (n := 3) (i := 3) (zd (i := .iload_n 3) (n := 1) (by decide +kernel)) rfl <|
    z_aload_n (n := 0) (i := 0) (zd (i := .aload_n 0) (n := 1) (by decide +kernel)) rfl <|
    z_sLen (zd (i := .arraylength) (n := 1) (by decide +kernel)) <|
    z_min (idx := 38) (zd (i := .invokestatic 38) (n := 3) (by decide +kernel)) g577 g578 g111 g579 <|
    z_istore_n (n := 3) (i := 3) (zd (i := .istore_n 3) (n := 1) (by decide +kernel)) rfl (by decide +kernel) <|
    z_nLL_lt (i := 2) (j := 3) (a1 := 1) (a2 := 1) (off := 5) (tgt := 29) (zLd_n (n := 2) (i := 2) (zd (i := .iload_n 2) (n := 1) (by decide +kernel)) rfl) (zLd_n (n := 3) (i := 3) (zd (i := .iload_n 3) (n := 1) (by decide +kernel)) rfl) (zd (i := .if_icmp .lt (5)) (n := 3) (by decide +kernel)) (by decide +kernel) (zj (hj 4) (by decide +kernel)) (zj (hj 3) (by decide +kernel))
noncomputable def b_J1_indexOf_4cfef_4 : zBl := fun jp K => oAld 0 <| oIld 1 <| oIld 2 <| oIld 3 <| oCs 4 f_J1_indexOfChar_4cfef <| oIret K
theorem s_J1_indexOf_4cfef_4 (d : Nat) : zPb l G gh (d + 2) n_J1_indexOf_4cfef p_J1_indexOf_4cfef 29 b_J1_indexOf_4cfef_4 := fun K jp hj =>
    z_aload_n (n := 0) (i := 0) (zd (i := .aload_n 0) (n := 1) (by decide +kernel)) rfl <|
    z_iload_n (n := 1) (i := 1) (zd (i := .iload_n 1) (n := 1) (by decide +kernel)) rfl <|
    z_iload_n (n := 2) (i := 2) (zd (i := .iload_n 2) (n := 1) (by decide +kernel)) rfl <|
    z_iload_n (n := 3) (i := 3) (zd (i := .iload_n 3) (n := 1) (by decide +kernel)) rfl <|
    z_callS (idx := 95) (N := n_J1_indexOfChar_4cfef) (zd (i := .invokestatic 95) (n := 3) (by decide +kernel)) to_J1_indexOfChar_4cfef g580 g581 rfl rfl (c_J1_indexOfChar_4cfef (l := l) (G := G) (gh := gh) (d)) <|
    z_iret (zd (i := .ireturn) (n := 1) (by decide +kernel)) rfl
noncomputable def t_J1_indexOf_4cfef : List zBl := [b_J1_indexOf_4cfef_0, b_J1_indexOf_4cfef_1, b_J1_indexOf_4cfef_2, zfl, b_J1_indexOf_4cfef_4]
theorem tt_J1_indexOf_4cfef (d : Nat) : zT (zPb l G gh (d + 2) n_J1_indexOf_4cfef p_J1_indexOf_4cfef) t_J1_indexOf_4cfef p_J1_indexOf_4cfef := ⟨s_J1_indexOf_4cfef_0 d, s_J1_indexOf_4cfef_1 d, s_J1_indexOf_4cfef_2 d, (fun _ _ _ => z_fail), s_J1_indexOf_4cfef_4 d, trivial⟩
noncomputable def f_J1_indexOf_4cfef : zMt := zmet 4 t_J1_indexOf_4cfef
theorem c_J1_indexOf_4cfef (d : Nat) : zC l G gh (d + 2) n_J1_indexOf_4cfef f_J1_indexOf_4cfef := zmet_ok (pcs := p_J1_indexOf_4cfef) (by decide) rfl rfl (tt_J1_indexOf_4cfef d)
def n_J0_indexOf_7cf53 : qMn := (yJ0_indexOf_7cf53, cJ0_indexOf_7cf53, 3, (some Jvm.ClassFile.FieldType.int), 0, 0)
theorem to_J0_indexOf_7cf53 : qTo n_J0_indexOf_7cf53 2 := ⟨g566, g101, ⟨by decide, by decide, by decide +kernel⟩, by decide⟩
def p_J0_indexOf_7cf53 : List Nat := [0, 7, 23, 36]
noncomputable def b_J0_indexOf_7cf53_0 : zBl := fun jp K => oAld 0 <| oCt 0 f_J0_isLatin1_aae02 <| oIf zeq zne (jp 2) (jp 1)
theorem s_J0_indexOf_7cf53_0 (d : Nat) : zPb l G gh (d + 3) n_J0_indexOf_7cf53 p_J0_indexOf_7cf53 0 b_J0_indexOf_7cf53_0 := fun K jp hj =>
    z_aload_n (n := 0) (i := 0) (zd (i := .aload_n 0) (n := 1) (by decide +kernel)) rfl <|
    z_callT (idx := 492) (N := n_J0_isLatin1_aae02) (zd (i := .invokevirtual 492) (n := 3) (by decide +kernel)) to_J0_isLatin1_aae02 g166 g167 g168 rfl rfl rfl (c_J0_isLatin1_aae02 (l := l) (G := G) (gh := gh) (d + 1)) <|
    z_if_eq (off := 19) (tgt := 23) (zd (i := .ifCond .eq (19)) (n := 3) (by decide +kernel)) (by decide +kernel) (zj (hj 2) (by decide +kernel)) (zj (hj 1) (by decide +kernel))
noncomputable def b_J0_indexOf_7cf53_1 : zBl := fun jp K => oAld 0 <| oSval <| oIld 1 <| oIld 2 <| oAld 0 <| oCt 0 f_J0_length_8abf5 <| oCs 4 f_J1_indexOf_4cfef <| jp 3
theorem s_J0_indexOf_7cf53_1 (d : Nat) : zPb l G gh (d + 3) n_J0_indexOf_7cf53 p_J0_indexOf_7cf53 7 b_J0_indexOf_7cf53_1 := fun K jp hj =>
    z_aload_n (n := 0) (i := 0) (zd (i := .aload_n 0) (n := 1) (by decide +kernel)) rfl <|
    z_sVal (idx := 9) (zd (i := .getfield 9) (n := 3) (by decide +kernel)) g1713 <|
    z_iload_n (n := 1) (i := 1) (zd (i := .iload_n 1) (n := 1) (by decide +kernel)) rfl <|
    z_iload_n (n := 2) (i := 2) (zd (i := .iload_n 2) (n := 1) (by decide +kernel)) rfl <|
    z_aload_n (n := 0) (i := 0) (zd (i := .aload_n 0) (n := 1) (by decide +kernel)) rfl <|
    z_callT (idx := 505) (N := n_J0_length_8abf5) (zd (i := .invokevirtual 505) (n := 3) (by decide +kernel)) to_J0_length_8abf5 g567 g153 g154 rfl rfl rfl (c_J0_length_8abf5 (l := l) (G := G) (gh := gh) (d)) <|
    z_callS (idx := 637) (N := n_J1_indexOf_4cfef) (zd (i := .invokestatic 637) (n := 3) (by decide +kernel)) to_J1_indexOf_4cfef g568 g569 rfl rfl (c_J1_indexOf_4cfef (l := l) (G := G) (gh := gh) (d)) <|
    z_goto (off := 16) (tgt := 36) (zd (i := .goto (16)) (n := 3) (by decide +kernel)) (by decide +kernel) (zj (hj 3) (by decide +kernel))
noncomputable def b_J0_indexOf_7cf53_3 : zBl := fun jp K => oIret K
theorem s_J0_indexOf_7cf53_3 (d : Nat) : zPb l G gh (d + 3) n_J0_indexOf_7cf53 p_J0_indexOf_7cf53 36 b_J0_indexOf_7cf53_3 := fun K jp hj =>
    z_iret (zd (i := .ireturn) (n := 1) (by decide +kernel)) rfl
noncomputable def t_J0_indexOf_7cf53 : List zBl := [b_J0_indexOf_7cf53_0, b_J0_indexOf_7cf53_1, zfl, b_J0_indexOf_7cf53_3]
theorem tt_J0_indexOf_7cf53 (d : Nat) : zT (zPb l G gh (d + 3) n_J0_indexOf_7cf53 p_J0_indexOf_7cf53) t_J0_indexOf_7cf53 p_J0_indexOf_7cf53 := ⟨s_J0_indexOf_7cf53_0 d, s_J0_indexOf_7cf53_1 d, (fun _ _ _ => z_fail), s_J0_indexOf_7cf53_3 d, trivial⟩
noncomputable def f_J0_indexOf_7cf53 : zMt := zmet 3 t_J0_indexOf_7cf53
theorem c_J0_indexOf_7cf53 (d : Nat) : zC l G gh (d + 3) n_J0_indexOf_7cf53 f_J0_indexOf_7cf53 := zmet_ok (pcs := p_J0_indexOf_7cf53) (by decide) rfl rfl (tt_J0_indexOf_7cf53 d)
def n_J0_indexOf_0f7a4 : qMn := (yJ0_indexOf_0f7a4, cJ0_indexOf_0f7a4, 2, (some Jvm.ClassFile.FieldType.int), 0, 0)
theorem to_J0_indexOf_0f7a4 : qTo n_J0_indexOf_0f7a4 1 := ⟨g562, g101, ⟨by decide, by decide, by decide +kernel⟩, by decide⟩
def p_J0_indexOf_0f7a4 : List Nat := [0]
noncomputable def b_J0_indexOf_0f7a4_0 : zBl := fun jp K => oAld 0 <| oIld 1 <| oInt 2147483648 <| oCt 2 f_J0_indexOf_7cf53 <| oIret K
theorem s_J0_indexOf_0f7a4_0 (d : Nat) : zPb l G gh (d + 4) n_J0_indexOf_0f7a4 p_J0_indexOf_0f7a4 0 b_J0_indexOf_0f7a4_0 := fun K jp hj =>
    z_aload_n (n := 0) (i := 0) (zd (i := .aload_n 0) (n := 1) (by decide +kernel)) rfl <|
    z_iload_n (n := 1) (i := 1) (zd (i := .iload_n 1) (n := 1) (by decide +kernel)) rfl <|
    z_iconst (n := 0) (zd (i := .iconst (0)) (n := 1) (by decide +kernel)) (by decide +kernel) <|
    z_callT (idx := 633) (N := n_J0_indexOf_7cf53) (zd (i := .invokevirtual 633) (n := 3) (by decide +kernel)) to_J0_indexOf_7cf53 g563 g564 g565 rfl rfl rfl (c_J0_indexOf_7cf53 (l := l) (G := G) (gh := gh) (d)) <|
    z_iret (zd (i := .ireturn) (n := 1) (by decide +kernel)) rfl
noncomputable def t_J0_indexOf_0f7a4 : List zBl := [b_J0_indexOf_0f7a4_0]
theorem tt_J0_indexOf_0f7a4 (d : Nat) : zT (zPb l G gh (d + 4) n_J0_indexOf_0f7a4 p_J0_indexOf_0f7a4) t_J0_indexOf_0f7a4 p_J0_indexOf_0f7a4 := ⟨s_J0_indexOf_0f7a4_0 d, trivial⟩
noncomputable def f_J0_indexOf_0f7a4 : zMt := zmet 2 t_J0_indexOf_0f7a4
theorem c_J0_indexOf_0f7a4 (d : Nat) : zC l G gh (d + 4) n_J0_indexOf_0f7a4 f_J0_indexOf_0f7a4 := zmet_ok (pcs := p_J0_indexOf_0f7a4) (by decide) rfl rfl (tt_J0_indexOf_0f7a4 d)
end
