section
variable {l : Launch} {G : qG} {gh : zGh}
def n_X9_bits : qMn := (yX9_bits, cX9_bits, 3, (some Jvm.ClassFile.FieldType.int), 0, 0)
theorem to_X9_bits : qTo n_X9_bits 1 := ⟨g1635, g110, ⟨by decide, by decide, by decide +kernel⟩, by decide⟩
def p_X9_bits : List Nat := [0, 4, 10, 24]
noncomputable def b_X9_bits_0 : zBl := fun jp K => oInt 2147483648 <| oIst 1 <| oInt 2147483648 <| oIst 2 <| jp 1
theorem s_X9_bits_0 (d : Nat) : zPb l G gh (d + 1) n_X9_bits p_X9_bits 0 b_X9_bits_0 := fun K jp hj =>
    z_iconst (n := 0) (zd (i := .iconst (0)) (n := 1) (by decide +kernel)) (by decide +kernel) <|
    z_istore_n (n := 1) (i := 1) (zd (i := .istore_n 1) (n := 1) (by decide +kernel)) rfl (by decide +kernel) <|
    z_iconst (n := 0) (zd (i := .iconst (0)) (n := 1) (by decide +kernel)) (by decide +kernel) <|
    z_istore_n (n := 2) (i := 2) (zd (i := .istore_n 2) (n := 1) (by decide +kernel)) rfl (by decide +kernel) <|
    (zj (hj 1) (by decide +kernel))
noncomputable def b_X9_bits_1 : zBl := fun jp K => oNLC 2 2147483654 zgeN zltN zn1_ge zn1_lt (jp 3) (jp 2)
theorem s_X9_bits_1 (d : Nat) : zPb l G gh (d + 1) n_X9_bits p_X9_bits 4 b_X9_bits_1 := fun K jp hj =>
    z_nLC_ge (i := 2) (c0 := 2147483654) (a1 := 1) (a2 := 2) (off := 17) (tgt := 24) (zLd_n (n := 2) (i := 2) (zd (i := .iload_n 2) (n := 1) (by decide +kernel)) rfl) (zCn_b (n := 6) (zd (i := .bipush (6)) (n := 2) (by decide +kernel)) (by decide +kernel)) (zd (i := .if_icmp .ge (17)) (n := 3) (by decide +kernel)) (by decide +kernel) (zj (hj 3) (by decide +kernel)) (zj (hj 2) (by decide +kernel))
noncomputable def b_X9_bits_2 : zBl := fun jp K => oIld 1 <| oIld 0 <| oIld 2 <| oB2 zishr <| oInt 2147483649 <| oB2 ziand <| oB2 zadd <| oIst 1 <| oInc 2 2147483649 <| jp 1
theorem s_X9_bits_2 (d : Nat) : zPb l G gh (d + 1) n_X9_bits p_X9_bits 10 b_X9_bits_2 := fun K jp hj =>
    z_iload_n (n := 1) (i := 1) (zd (i := .iload_n 1) (n := 1) (by decide +kernel)) rfl <|
    z_iload_n (n := 0) (i := 0) (zd (i := .iload_n 0) (n := 1) (by decide +kernel)) rfl <|
    z_iload_n (n := 2) (i := 2) (zd (i := .iload_n 2) (n := 1) (by decide +kernel)) rfl <|
    z_ishr (zd (i := .ishr) (n := 1) (by decide +kernel)) <|
    z_iconst (n := 1) (zd (i := .iconst (1)) (n := 1) (by decide +kernel)) (by decide +kernel) <|
    z_iand (zd (i := .iand) (n := 1) (by decide +kernel)) <|
    z_iadd (zd (i := .iadd) (n := 1) (by decide +kernel)) <|
    z_istore_n (n := 1) (i := 1) (zd (i := .istore_n 1) (n := 1) (by decide +kernel)) rfl (by decide +kernel) <|
    z_iinc (i := 2) (n := 1) (zd (i := .iinc 2 (1)) (n := 3) (by decide +kernel)) (by decide +kernel) (by decide +kernel) <|
    z_goto (off := -17) (tgt := 4) (zd (i := .goto (-17)) (n := 3) (by decide +kernel)) (by decide +kernel) (zj (hj 1) (by decide +kernel))
noncomputable def b_X9_bits_3 : zBl := fun jp K => oIld 1 <| oIret K
theorem s_X9_bits_3 (d : Nat) : zPb l G gh (d + 1) n_X9_bits p_X9_bits 24 b_X9_bits_3 := fun K jp hj =>
    z_iload_n (n := 1) (i := 1) (zd (i := .iload_n 1) (n := 1) (by decide +kernel)) rfl <|
    z_iret (zd (i := .ireturn) (n := 1) (by decide +kernel)) rfl
noncomputable def t_X9_bits : List zBl := [b_X9_bits_0, b_X9_bits_1, b_X9_bits_2, b_X9_bits_3]
theorem tt_X9_bits (d : Nat) : zT (zPb l G gh (d + 1) n_X9_bits p_X9_bits) t_X9_bits p_X9_bits := ⟨s_X9_bits_0 d, s_X9_bits_1 d, s_X9_bits_2 d, s_X9_bits_3 d, trivial⟩
noncomputable def f_X9_bits : zMt := zmet 3 t_X9_bits
theorem c_X9_bits (d : Nat) : zC l G gh (d + 1) n_X9_bits f_X9_bits := zmet_ok (pcs := p_X9_bits) (by decide) rfl rfl (tt_X9_bits d)
def n_J6_bitCount_0f7a4 : qMn := (yJ6_bitCount_0f7a4, cJ6_bitCount_0f7a4, 1, (some Jvm.ClassFile.FieldType.int), 0, 0)
theorem to_J6_bitCount_0f7a4 : qTo n_J6_bitCount_0f7a4 1 := ⟨g972, g114, ⟨by decide, by decide, by decide +kernel⟩, by decide⟩
def p_J6_bitCount_0f7a4 : List Nat := [0, 46]
noncomputable def b_J6_bitCount_0f7a4_0 : zBl := fun jp K => oIld 0 <| oIld 0 <| oInt 2147483649 <| oB2 ziushr <| oInt 3579139413 <| oB2 ziand <| oB2 zsub <| oIst 0 <| oIld 0 <| oInt 3006477107 <| oB2 ziand <| oIld 0 <| oInt 2147483650 <| oB2 ziushr <| oInt 3006477107 <| oB2 ziand <| oB2 zadd <| oIst 0 <| oIld 0 <| oIld 0 <| oInt 2147483652 <| oB2 ziushr <| oB2 zadd <| oInt 2400128783 <| oB2 ziand <| oIst 0 <| oIld 0 <| oIld 0 <| oInt 2147483656 <| oB2 ziushr <| oB2 zadd <| oIst 0 <| oIld 0 <| oIld 0 <| oInt 2147483664 <| oB2 ziushr <| jp 1
theorem s_J6_bitCount_0f7a4_0 (d : Nat) : zPb l G gh (d + 1) n_J6_bitCount_0f7a4 p_J6_bitCount_0f7a4 0 b_J6_bitCount_0f7a4_0 := fun K jp hj =>
    z_iload_n (n := 0) (i := 0) (zd (i := .iload_n 0) (n := 1) (by decide +kernel)) rfl <|
    z_iload_n (n := 0) (i := 0) (zd (i := .iload_n 0) (n := 1) (by decide +kernel)) rfl <|
    z_iconst (n := 1) (zd (i := .iconst (1)) (n := 1) (by decide +kernel)) (by decide +kernel) <|
    z_iushr (zd (i := .iushr) (n := 1) (by decide +kernel)) <|
    z_ldcw (n := 265) (zd (i := .ldc_w 265) (n := 3) (by decide +kernel)) g973 (by decide +kernel) <|
    z_iand (zd (i := .iand) (n := 1) (by decide +kernel)) <|
    z_isub (zd (i := .isub) (n := 1) (by decide +kernel)) <|
    z_istore_n (n := 0) (i := 0) (zd (i := .istore_n 0) (n := 1) (by decide +kernel)) rfl (by decide +kernel) <|
    z_iload_n (n := 0) (i := 0) (zd (i := .iload_n 0) (n := 1) (by decide +kernel)) rfl <|
    z_ldcw (n := 266) (zd (i := .ldc_w 266) (n := 3) (by decide +kernel)) g974 (by decide +kernel) <|
    z_iand (zd (i := .iand) (n := 1) (by decide +kernel)) <|
    z_iload_n (n := 0) (i := 0) (zd (i := .iload_n 0) (n := 1) (by decide +kernel)) rfl <|
    z_iconst (n := 2) (zd (i := .iconst (2)) (n := 1) (by decide +kernel)) (by decide +kernel) <|
    z_iushr (zd (i := .iushr) (n := 1) (by decide +kernel)) <|
    z_ldcw (n := 266) (zd (i := .ldc_w 266) (n := 3) (by decide +kernel)) g974 (by decide +kernel) <|
    z_iand (zd (i := .iand) (n := 1) (by decide +kernel)) <|
    z_iadd (zd (i := .iadd) (n := 1) (by decide +kernel)) <|
    z_istore_n (n := 0) (i := 0) (zd (i := .istore_n 0) (n := 1) (by decide +kernel)) rfl (by decide +kernel) <|
    z_iload_n (n := 0) (i := 0) (zd (i := .iload_n 0) (n := 1) (by decide +kernel)) rfl <|
    z_iload_n (n := 0) (i := 0) (zd (i := .iload_n 0) (n := 1) (by decide +kernel)) rfl <|
    z_iconst (n := 4) (zd (i := .iconst (4)) (n := 1) (by decide +kernel)) (by decide +kernel) <|
    z_iushr (zd (i := .iushr) (n := 1) (by decide +kernel)) <|
    z_iadd (zd (i := .iadd) (n := 1) (by decide +kernel)) <|
    z_ldcw (n := 267) (zd (i := .ldc_w 267) (n := 3) (by decide +kernel)) g975 (by decide +kernel) <|
    z_iand (zd (i := .iand) (n := 1) (by decide +kernel)) <|
    z_istore_n (n := 0) (i := 0) (zd (i := .istore_n 0) (n := 1) (by decide +kernel)) rfl (by decide +kernel) <|
    z_iload_n (n := 0) (i := 0) (zd (i := .iload_n 0) (n := 1) (by decide +kernel)) rfl <|
    z_iload_n (n := 0) (i := 0) (zd (i := .iload_n 0) (n := 1) (by decide +kernel)) rfl <|
    z_bipush (n := 8) (zd (i := .bipush (8)) (n := 2) (by decide +kernel)) (by decide +kernel) <|
    z_iushr (zd (i := .iushr) (n := 1) (by decide +kernel)) <|
    z_iadd (zd (i := .iadd) (n := 1) (by decide +kernel)) <|
    z_istore_n (n := 0) (i := 0) (zd (i := .istore_n 0) (n := 1) (by decide +kernel)) rfl (by decide +kernel) <|
    z_iload_n (n := 0) (i := 0) (zd (i := .iload_n 0) (n := 1) (by decide +kernel)) rfl <|
    z_iload_n (n := 0) (i := 0) (zd (i := .iload_n 0) (n := 1) (by decide +kernel)) rfl <|
    z_bipush (n := 16) (zd (i := .bipush (16)) (n := 2) (by decide +kernel)) (by decide +kernel) <|
    z_iushr (zd (i := .iushr) (n := 1) (by decide +kernel)) <|
    (zj (hj 1) (by decide +kernel))
noncomputable def b_J6_bitCount_0f7a4_1 : zBl := fun jp K => oB2 zadd <| oIst 0 <| oIld 0 <| oInt 2147483711 <| oB2 ziand <| oIret K
theorem s_J6_bitCount_0f7a4_1 (d : Nat) : zPb l G gh (d + 1) n_J6_bitCount_0f7a4 p_J6_bitCount_0f7a4 46 b_J6_bitCount_0f7a4_1 := fun K jp hj =>
    z_iadd (zd (i := .iadd) (n := 1) (by decide +kernel)) <|
    z_istore_n (n := 0) (i := 0) (zd (i := .istore_n 0) (n := 1) (by decide +kernel)) rfl (by decide +kernel) <|
    z_iload_n (n := 0) (i := 0) (zd (i := .iload_n 0) (n := 1) (by decide +kernel)) rfl <|
    z_bipush (n := 63) (zd (i := .bipush (63)) (n := 2) (by decide +kernel)) (by decide +kernel) <|
    z_iand (zd (i := .iand) (n := 1) (by decide +kernel)) <|
    z_iret (zd (i := .ireturn) (n := 1) (by decide +kernel)) rfl
noncomputable def t_J6_bitCount_0f7a4 : List zBl := [b_J6_bitCount_0f7a4_0, b_J6_bitCount_0f7a4_1]
theorem tt_J6_bitCount_0f7a4 (d : Nat) : zT (zPb l G gh (d + 1) n_J6_bitCount_0f7a4 p_J6_bitCount_0f7a4) t_J6_bitCount_0f7a4 p_J6_bitCount_0f7a4 := ⟨s_J6_bitCount_0f7a4_0 d, s_J6_bitCount_0f7a4_1 d, trivial⟩
noncomputable def f_J6_bitCount_0f7a4 : zMt := zmet 1 t_J6_bitCount_0f7a4
theorem c_J6_bitCount_0f7a4 (d : Nat) : zC l G gh (d + 1) n_J6_bitCount_0f7a4 f_J6_bitCount_0f7a4 := zmet_ok (pcs := p_J6_bitCount_0f7a4) (by decide) rfl rfl (tt_J6_bitCount_0f7a4 d)
def n_X8_nextPitch : qMn := (yX8_nextPitch, cX8_nextPitch, 4, (some Jvm.ClassFile.FieldType.boolean), 0, 0)
theorem to_X8_nextPitch : qTo n_X8_nextPitch 1 := ⟨g980, g97, ⟨by decide, by decide, by decide +kernel⟩, by decide⟩
def p_X8_nextPitch : List Nat := [0, 4, 8, 23, 37, 42, 64, 66, 72]
noncomputable def b_X8_nextPitch_0 : zBl := fun jp K => oIld 1 <| oInt 2147483649 <| oB2 zsub <| oIst 2 <| jp 1
theorem s_X8_nextPitch_0 (d : Nat) : zPb l G gh (d + 1) n_X8_nextPitch p_X8_nextPitch 0 b_X8_nextPitch_0 := fun K jp hj =>
    z_iload_n (n := 1) (i := 1) (zd (i := .iload_n 1) (n := 1) (by decide +kernel)) rfl <|
    z_iconst (n := 1) (zd (i := .iconst (1)) (n := 1) (by decide +kernel)) (by decide +kernel) <|
    z_isub (zd (i := .isub) (n := 1) (by decide +kernel)) <|
    z_istore_n (n := 2) (i := 2) (zd (i := .istore_n 2) (n := 1) (by decide +kernel)) rfl (by decide +kernel) <|
    (zj (hj 1) (by decide +kernel))
noncomputable def b_X8_nextPitch_1 : zBl := fun jp K => oNLC 2 2147483648 zltN zgeN zn1_lt zn1_ge (jp 8) (jp 2)
theorem s_X8_nextPitch_1 (d : Nat) : zPb l G gh (d + 1) n_X8_nextPitch p_X8_nextPitch 4 b_X8_nextPitch_1 := fun K jp hj =>
    z_nL0_lt (i := 2) (a1 := 1) (off := 67) (tgt := 72) (zLd_n (n := 2) (i := 2) (zd (i := .iload_n 2) (n := 1) (by decide +kernel)) rfl) (zd (i := .ifCond .lt (67)) (n := 3) (by decide +kernel)) (by decide +kernel) (zj (hj 8) (by decide +kernel)) (zj (hj 2) (by decide +kernel))
noncomputable def b_X8_nextPitch_2 : zBl := fun jp K => oSpE 257 2 20 <| oAld 0 <| oGetR 8 10 <| oIld 2 <| oXald 10 <| oInt 2147483668 <| oIld 1 <| oB2 zsub <| oIld 2 <| oB2 zadd <| oIc zge zlt (jp 7) (jp 3)
theorem s_X8_nextPitch_2 (d : Nat) : zPb l G gh (d + 1) n_X8_nextPitch p_X8_nextPitch 8 b_X8_nextPitch_2 := fun K jp hj =>
    z_spE (a := 257) (i := 2) (n := 20) <|
    z_aload_n (n := 0) (i := 0) (zd (i := .aload_n 0) (n := 1) (by decide +kernel)) rfl <|
    z_getR (ci := 8) (j := 10) (idx := 62) (zd (i := .getfield 62) (n := 3) (by decide +kernel)) (by decide +kernel) (by decide +kernel) rfl g462 <|
    z_iload_n (n := 2) (i := 2) (zd (i := .iload_n 2) (n := 1) (by decide +kernel)) rfl <|
    z_iald (zd (i := .iaload) (n := 1) (by decide +kernel)) <|
    z_bipush (n := 20) (zd (i := .bipush (20)) (n := 2) (by decide +kernel)) (by decide +kernel) <|
    z_iload_n (n := 1) (i := 1) (zd (i := .iload_n 1) (n := 1) (by decide +kernel)) rfl <|
    z_isub (zd (i := .isub) (n := 1) (by decide +kernel)) <|
    z_iload_n (n := 2) (i := 2) (zd (i := .iload_n 2) (n := 1) (by decide +kernel)) rfl <|
    z_iadd (zd (i := .iadd) (n := 1) (by decide +kernel)) <|
    z_icmp_ge (off := 46) (tgt := 66) (zd (i := .if_icmp .ge (46)) (n := 3) (by decide +kernel)) (by decide +kernel) (zj (hj 7) (by decide +kernel)) (zj (hj 3) (by decide +kernel))
noncomputable def b_X8_nextPitch_3 : zBl := fun jp K => oAld 0 <| oGetR 8 10 <| oIld 2 <| oDup2 <| oXald 10 <| oInt 2147483649 <| oB2 zadd <| oXast 10 zid <| oIld 2 <| oInt 2147483649 <| oB2 zadd <| oIst 3 <| jp 4
theorem s_X8_nextPitch_3 (d : Nat) : zPb l G gh (d + 1) n_X8_nextPitch p_X8_nextPitch 23 b_X8_nextPitch_3 := fun K jp hj =>
    z_aload_n (n := 0) (i := 0) (zd (i := .aload_n 0) (n := 1) (by decide +kernel)) rfl <|
    z_getR (ci := 8) (j := 10) (idx := 62) (zd (i := .getfield 62) (n := 3) (by decide +kernel)) (by decide +kernel) (by decide +kernel) rfl g462 <|
    z_iload_n (n := 2) (i := 2) (zd (i := .iload_n 2) (n := 1) (by decide +kernel)) rfl <|
    z_dup2 (zd (i := .dup2) (n := 1) (by decide +kernel)) <|
    z_iald (zd (i := .iaload) (n := 1) (by decide +kernel)) <|
    z_iconst (n := 1) (zd (i := .iconst (1)) (n := 1) (by decide +kernel)) (by decide +kernel) <|
    z_iadd (zd (i := .iadd) (n := 1) (by decide +kernel)) <|
    z_iast (zd (i := .iastore) (n := 1) (by decide +kernel)) <|
    z_iload_n (n := 2) (i := 2) (zd (i := .iload_n 2) (n := 1) (by decide +kernel)) rfl <|
    z_iconst (n := 1) (zd (i := .iconst (1)) (n := 1) (by decide +kernel)) (by decide +kernel) <|
    z_iadd (zd (i := .iadd) (n := 1) (by decide +kernel)) <|
    z_istore_n (n := 3) (i := 3) (zd (i := .istore_n 3) (n := 1) (by decide +kernel)) rfl (by decide +kernel) <|
    (zj (hj 4) (by decide +kernel))
noncomputable def b_X8_nextPitch_4 : zBl := fun jp K => oNLL 3 1 zgeN zltN zn1_ge zn2_ge zn1_lt zn2_lt (jp 6) (jp 5)
theorem s_X8_nextPitch_4 (d : Nat) : zPb l G gh (d + 1) n_X8_nextPitch p_X8_nextPitch 37 b_X8_nextPitch_4 := fun K jp hj =>
    z_nLL_ge (i := 3) (j := 1) (a1 := 1) (a2 := 1) (off := 25) (tgt := 64) (zLd_n (n := 3) (i := 3) (zd (i := .iload_n 3) (n := 1) (by decide +kernel)) rfl) (zLd_n (n := 1) (i := 1) (zd (i := .iload_n 1) (n := 1) (by decide +kernel)) rfl) (zd (i := .if_icmp .ge (25)) (n := 3) (by decide +kernel)) (by decide +kernel) (zj (hj 6) (by decide +kernel)) (zj (hj 5) (by decide +kernel))
noncomputable def b_X8_nextPitch_5 : zBl := fun jp K => oAld 0 <| oGetR 8 10 <| oIld 3 <| oAld 0 <| oGetR 8 10 <| oIld 3 <| oInt 2147483649 <| oB2 zsub <| oXald 10 <| oInt 2147483649 <| oB2 zadd <| oXast 10 zid <| oInc 3 2147483649 <| jp 4
theorem s_X8_nextPitch_5 (d : Nat) : zPb l G gh (d + 1) n_X8_nextPitch p_X8_nextPitch 42 b_X8_nextPitch_5 := fun K jp hj =>
    z_aload_n (n := 0) (i := 0) (zd (i := .aload_n 0) (n := 1) (by decide +kernel)) rfl <|
    z_getR (ci := 8) (j := 10) (idx := 62) (zd (i := .getfield 62) (n := 3) (by decide +kernel)) (by decide +kernel) (by decide +kernel) rfl g462 <|
    z_iload_n (n := 3) (i := 3) (zd (i := .iload_n 3) (n := 1) (by decide +kernel)) rfl <|
    z_aload_n (n := 0) (i := 0) (zd (i := .aload_n 0) (n := 1) (by decide +kernel)) rfl <|
    z_getR (ci := 8) (j := 10) (idx := 62) (zd (i := .getfield 62) (n := 3) (by decide +kernel)) (by decide +kernel) (by decide +kernel) rfl g462 <|
    z_iload_n (n := 3) (i := 3) (zd (i := .iload_n 3) (n := 1) (by decide +kernel)) rfl <|
    z_iconst (n := 1) (zd (i := .iconst (1)) (n := 1) (by decide +kernel)) (by decide +kernel) <|
    z_isub (zd (i := .isub) (n := 1) (by decide +kernel)) <|
    z_iald (zd (i := .iaload) (n := 1) (by decide +kernel)) <|
    z_iconst (n := 1) (zd (i := .iconst (1)) (n := 1) (by decide +kernel)) (by decide +kernel) <|
    z_iadd (zd (i := .iadd) (n := 1) (by decide +kernel)) <|
    z_iast (zd (i := .iastore) (n := 1) (by decide +kernel)) <|
    z_iinc (i := 3) (n := 1) (zd (i := .iinc 3 (1)) (n := 3) (by decide +kernel)) (by decide +kernel) (by decide +kernel) <|
    z_goto (off := -24) (tgt := 37) (zd (i := .goto (-24)) (n := 3) (by decide +kernel)) (by decide +kernel) (zj (hj 4) (by decide +kernel))
noncomputable def b_X8_nextPitch_6 : zBl := fun jp K => oInt 2147483649 <| oZret K
theorem s_X8_nextPitch_6 (d : Nat) : zPb l G gh (d + 1) n_X8_nextPitch p_X8_nextPitch 64 b_X8_nextPitch_6 := fun K jp hj =>
    z_iconst (n := 1) (zd (i := .iconst (1)) (n := 1) (by decide +kernel)) (by decide +kernel) <|
    z_zret (zd (i := .ireturn) (n := 1) (by decide +kernel)) rfl
noncomputable def b_X8_nextPitch_7 : zBl := fun jp K => oInc 2 2147483647 <| jp 1
theorem s_X8_nextPitch_7 (d : Nat) : zPb l G gh (d + 1) n_X8_nextPitch p_X8_nextPitch 66 b_X8_nextPitch_7 := fun K jp hj =>
    z_iinc (i := 2) (n := -1) (zd (i := .iinc 2 (-1)) (n := 3) (by decide +kernel)) (by decide +kernel) (by decide +kernel) <|
    z_goto (off := -65) (tgt := 4) (zd (i := .goto (-65)) (n := 3) (by decide +kernel)) (by decide +kernel) (zj (hj 1) (by decide +kernel))
noncomputable def b_X8_nextPitch_8 : zBl := fun jp K => oInt 2147483648 <| oZret K
theorem s_X8_nextPitch_8 (d : Nat) : zPb l G gh (d + 1) n_X8_nextPitch p_X8_nextPitch 72 b_X8_nextPitch_8 := fun K jp hj =>
    z_iconst (n := 0) (zd (i := .iconst (0)) (n := 1) (by decide +kernel)) (by decide +kernel) <|
    z_zret (zd (i := .ireturn) (n := 1) (by decide +kernel)) rfl
noncomputable def t_X8_nextPitch : List zBl := [b_X8_nextPitch_0, b_X8_nextPitch_1, b_X8_nextPitch_2, b_X8_nextPitch_3, b_X8_nextPitch_4, b_X8_nextPitch_5, b_X8_nextPitch_6, b_X8_nextPitch_7, b_X8_nextPitch_8]
theorem tt_X8_nextPitch (d : Nat) : zT (zPb l G gh (d + 1) n_X8_nextPitch p_X8_nextPitch) t_X8_nextPitch p_X8_nextPitch := ⟨s_X8_nextPitch_0 d, s_X8_nextPitch_1 d, s_X8_nextPitch_2 d, s_X8_nextPitch_3 d, s_X8_nextPitch_4 d, s_X8_nextPitch_5 d, s_X8_nextPitch_6 d, s_X8_nextPitch_7 d, s_X8_nextPitch_8 d, trivial⟩
def q_X8_nextPitch_0 : List (Nat × Nat) := [(0, zk12), (257, zk137)]
noncomputable def al_X8_nextPitch_0 : zAq := [(some (.inl 9223372043297226753), [(0, zk12), (257, zk138)])]
noncomputable def fm_X8_nextPitch_0 : List zFm := [(0, [], (fun vs => [.inr (.ref 0), .inl 2147483649]), (fun vs => zP q_X8_nextPitch_0), (fun vs => Nat.sub (Nat.add 0 0) 0))]
def bf_X8_nextPitch_0 : List Nat := []
theorem r_X8_nextPitch_0_0 : zbox [] (fun vs => zFrun (zpost (zAlq al_X8_nextPitch_0)) 1000 t_X8_nextPitch fm_X8_nextPitch_0 bf_X8_nextPitch_0 (0, vs)) = true := by decide +kernel
set_option maxRecDepth 100000 in
theorem x_X8_nextPitch_0 (d : Nat) : zS l G gh (d + 1) (zpost (zAlq al_X8_nextPitch_0)) n_X8_nextPitch (zn 0 p_X8_nextPitch 0) (zwc (0, [.inr (.ref 0), .inl 2147483649], zP q_X8_nextPitch_0) 0) := zentry (tt_X8_nextPitch d) fm_X8_nextPitch_0 bf_X8_nextPitch_0 1000 (by decide +kernel) rfl ⟨Nat.zero_lt_succ _, trivial⟩ (fun f hf => match f, hf with
  | 0, _ => fun vs hv => (zbox_t r_X8_nextPitch_0_0) vs hv
  | f + 1, h => absurd (show f + 1 < 1 from h) (Nat.not_lt.mpr (Nat.le_add_left 1 f)))
noncomputable def gs_X8_nextPitch_0 : zMt := zgq false [] 4 [.inr (.ref 0), .inl 2147483649] q_X8_nextPitch_0 al_X8_nextPitch_0
set_option maxRecDepth 100000 in
theorem cs_X8_nextPitch_0 (d : Nat) : zC l G gh (d + 1) n_X8_nextPitch gs_X8_nextPitch_0 := zgq_ok0 (pcs := p_X8_nextPitch) (by decide) rfl rfl (fun a ha => by simp only [al_X8_nextPitch_0, List.mem_cons, List.not_mem_nil, or_false] at ha; rcases ha with rfl <;> decide +kernel) (fun gh => x_X8_nextPitch_0 d) (by decide +kernel)
def q_X8_nextPitch_1 : List (Nat × Nat) := [(0, zk12), (257, zk137)]
noncomputable def al_X8_nextPitch_1 : zAq := [(some (.inl 9223372043297226753), [(0, zk12), (257, zk138)])]
noncomputable def fm_X8_nextPitch_1 : List zFm := [(0, [], (fun vs => [.inr (.ref 0), .inl 2147483650]), (fun vs => zP q_X8_nextPitch_1), (fun vs => Nat.sub (Nat.add 0 0) 0))]
def bf_X8_nextPitch_1 : List Nat := []
theorem r_X8_nextPitch_1_0 : zbox [] (fun vs => zFrun (zpost (zAlq al_X8_nextPitch_1)) 1000 t_X8_nextPitch fm_X8_nextPitch_1 bf_X8_nextPitch_1 (0, vs)) = true := by decide +kernel
set_option maxRecDepth 100000 in
theorem x_X8_nextPitch_1 (d : Nat) : zS l G gh (d + 1) (zpost (zAlq al_X8_nextPitch_1)) n_X8_nextPitch (zn 0 p_X8_nextPitch 0) (zwc (0, [.inr (.ref 0), .inl 2147483650], zP q_X8_nextPitch_1) 0) := zentry (tt_X8_nextPitch d) fm_X8_nextPitch_1 bf_X8_nextPitch_1 1000 (by decide +kernel) rfl ⟨Nat.zero_lt_succ _, trivial⟩ (fun f hf => match f, hf with
  | 0, _ => fun vs hv => (zbox_t r_X8_nextPitch_1_0) vs hv
  | f + 1, h => absurd (show f + 1 < 1 from h) (Nat.not_lt.mpr (Nat.le_add_left 1 f)))
noncomputable def gs_X8_nextPitch_1 : zMt := zgq false [] 4 [.inr (.ref 0), .inl 2147483650] q_X8_nextPitch_1 al_X8_nextPitch_1
set_option maxRecDepth 100000 in
theorem cs_X8_nextPitch_1 (d : Nat) : zC l G gh (d + 1) n_X8_nextPitch gs_X8_nextPitch_1 := zgq_ok0 (pcs := p_X8_nextPitch) (by decide) rfl rfl (fun a ha => by simp only [al_X8_nextPitch_1, List.mem_cons, List.not_mem_nil, or_false] at ha; rcases ha with rfl <;> decide +kernel) (fun gh => x_X8_nextPitch_1 d) (by decide +kernel)
def q_X8_nextPitch_2 : List (Nat × Nat) := [(0, zk12), (257, zk137)]
noncomputable def al_X8_nextPitch_2 : zAq := [(some (.inl 9223372043297226753), [(0, zk12), (257, zk138)])]
noncomputable def fm_X8_nextPitch_2 : List zFm := [(0, [], (fun vs => [.inr (.ref 0), .inl 2147483651]), (fun vs => zP q_X8_nextPitch_2), (fun vs => Nat.sub (Nat.add 0 0) 0))]
def bf_X8_nextPitch_2 : List Nat := []
theorem r_X8_nextPitch_2_0 : zbox [] (fun vs => zFrun (zpost (zAlq al_X8_nextPitch_2)) 1000 t_X8_nextPitch fm_X8_nextPitch_2 bf_X8_nextPitch_2 (0, vs)) = true := by decide +kernel
set_option maxRecDepth 100000 in
theorem x_X8_nextPitch_2 (d : Nat) : zS l G gh (d + 1) (zpost (zAlq al_X8_nextPitch_2)) n_X8_nextPitch (zn 0 p_X8_nextPitch 0) (zwc (0, [.inr (.ref 0), .inl 2147483651], zP q_X8_nextPitch_2) 0) := zentry (tt_X8_nextPitch d) fm_X8_nextPitch_2 bf_X8_nextPitch_2 1000 (by decide +kernel) rfl ⟨Nat.zero_lt_succ _, trivial⟩ (fun f hf => match f, hf with
  | 0, _ => fun vs hv => (zbox_t r_X8_nextPitch_2_0) vs hv
  | f + 1, h => absurd (show f + 1 < 1 from h) (Nat.not_lt.mpr (Nat.le_add_left 1 f)))
noncomputable def gs_X8_nextPitch_2 : zMt := zgq false [] 4 [.inr (.ref 0), .inl 2147483651] q_X8_nextPitch_2 al_X8_nextPitch_2
set_option maxRecDepth 100000 in
theorem cs_X8_nextPitch_2 (d : Nat) : zC l G gh (d + 1) n_X8_nextPitch gs_X8_nextPitch_2 := zgq_ok0 (pcs := p_X8_nextPitch) (by decide) rfl rfl (fun a ha => by simp only [al_X8_nextPitch_2, List.mem_cons, List.not_mem_nil, or_false] at ha; rcases ha with rfl <;> decide +kernel) (fun gh => x_X8_nextPitch_2 d) (by decide +kernel)
def q_X8_nextPitch_3 : List (Nat × Nat) := [(0, zk13), (257, zk137)]
noncomputable def al_X8_nextPitch_3 : zAq := [(some (.inl 9223372043297226753), [(0, zk13), (257, zk138)])]
noncomputable def fm_X8_nextPitch_3 : List zFm := [(0, [], (fun vs => [.inr (.ref 0), .inl 2147483649]), (fun vs => zP q_X8_nextPitch_3), (fun vs => Nat.sub (Nat.add 0 0) 0))]
def bf_X8_nextPitch_3 : List Nat := []
theorem r_X8_nextPitch_3_0 : zbox [] (fun vs => zFrun (zpost (zAlq al_X8_nextPitch_3)) 1000 t_X8_nextPitch fm_X8_nextPitch_3 bf_X8_nextPitch_3 (0, vs)) = true := by decide +kernel
set_option maxRecDepth 100000 in
theorem x_X8_nextPitch_3 (d : Nat) : zS l G gh (d + 1) (zpost (zAlq al_X8_nextPitch_3)) n_X8_nextPitch (zn 0 p_X8_nextPitch 0) (zwc (0, [.inr (.ref 0), .inl 2147483649], zP q_X8_nextPitch_3) 0) := zentry (tt_X8_nextPitch d) fm_X8_nextPitch_3 bf_X8_nextPitch_3 1000 (by decide +kernel) rfl ⟨Nat.zero_lt_succ _, trivial⟩ (fun f hf => match f, hf with
  | 0, _ => fun vs hv => (zbox_t r_X8_nextPitch_3_0) vs hv
  | f + 1, h => absurd (show f + 1 < 1 from h) (Nat.not_lt.mpr (Nat.le_add_left 1 f)))
noncomputable def gs_X8_nextPitch_3 : zMt := zgq false [] 4 [.inr (.ref 0), .inl 2147483649] q_X8_nextPitch_3 al_X8_nextPitch_3
set_option maxRecDepth 100000 in
theorem cs_X8_nextPitch_3 (d : Nat) : zC l G gh (d + 1) n_X8_nextPitch gs_X8_nextPitch_3 := zgq_ok0 (pcs := p_X8_nextPitch) (by decide) rfl rfl (fun a ha => by simp only [al_X8_nextPitch_3, List.mem_cons, List.not_mem_nil, or_false] at ha; rcases ha with rfl <;> decide +kernel) (fun gh => x_X8_nextPitch_3 d) (by decide +kernel)
def q_X8_nextPitch_4 : List (Nat × Nat) := [(0, zk13), (257, zk137)]
noncomputable def al_X8_nextPitch_4 : zAq := [(some (.inl 9223372043297226753), [(0, zk13), (257, zk138)])]
noncomputable def fm_X8_nextPitch_4 : List zFm := [(0, [], (fun vs => [.inr (.ref 0), .inl 2147483650]), (fun vs => zP q_X8_nextPitch_4), (fun vs => Nat.sub (Nat.add 0 0) 0))]
def bf_X8_nextPitch_4 : List Nat := []
theorem r_X8_nextPitch_4_0 : zbox [] (fun vs => zFrun (zpost (zAlq al_X8_nextPitch_4)) 1000 t_X8_nextPitch fm_X8_nextPitch_4 bf_X8_nextPitch_4 (0, vs)) = true := by decide +kernel
set_option maxRecDepth 100000 in
theorem x_X8_nextPitch_4 (d : Nat) : zS l G gh (d + 1) (zpost (zAlq al_X8_nextPitch_4)) n_X8_nextPitch (zn 0 p_X8_nextPitch 0) (zwc (0, [.inr (.ref 0), .inl 2147483650], zP q_X8_nextPitch_4) 0) := zentry (tt_X8_nextPitch d) fm_X8_nextPitch_4 bf_X8_nextPitch_4 1000 (by decide +kernel) rfl ⟨Nat.zero_lt_succ _, trivial⟩ (fun f hf => match f, hf with
  | 0, _ => fun vs hv => (zbox_t r_X8_nextPitch_4_0) vs hv
  | f + 1, h => absurd (show f + 1 < 1 from h) (Nat.not_lt.mpr (Nat.le_add_left 1 f)))
noncomputable def gs_X8_nextPitch_4 : zMt := zgq false [] 4 [.inr (.ref 0), .inl 2147483650] q_X8_nextPitch_4 al_X8_nextPitch_4
set_option maxRecDepth 100000 in
theorem cs_X8_nextPitch_4 (d : Nat) : zC l G gh (d + 1) n_X8_nextPitch gs_X8_nextPitch_4 := zgq_ok0 (pcs := p_X8_nextPitch) (by decide) rfl rfl (fun a ha => by simp only [al_X8_nextPitch_4, List.mem_cons, List.not_mem_nil, or_false] at ha; rcases ha with rfl <;> decide +kernel) (fun gh => x_X8_nextPitch_4 d) (by decide +kernel)
def q_X8_nextPitch_5 : List (Nat × Nat) := [(0, zk13), (257, zk137)]
noncomputable def al_X8_nextPitch_5 : zAq := [(some (.inl 9223372043297226753), [(0, zk13), (257, zk138)])]
noncomputable def fm_X8_nextPitch_5 : List zFm := [(0, [], (fun vs => [.inr (.ref 0), .inl 2147483651]), (fun vs => zP q_X8_nextPitch_5), (fun vs => Nat.sub (Nat.add 0 0) 0))]
def bf_X8_nextPitch_5 : List Nat := []
theorem r_X8_nextPitch_5_0 : zbox [] (fun vs => zFrun (zpost (zAlq al_X8_nextPitch_5)) 1000 t_X8_nextPitch fm_X8_nextPitch_5 bf_X8_nextPitch_5 (0, vs)) = true := by decide +kernel
set_option maxRecDepth 100000 in
theorem x_X8_nextPitch_5 (d : Nat) : zS l G gh (d + 1) (zpost (zAlq al_X8_nextPitch_5)) n_X8_nextPitch (zn 0 p_X8_nextPitch 0) (zwc (0, [.inr (.ref 0), .inl 2147483651], zP q_X8_nextPitch_5) 0) := zentry (tt_X8_nextPitch d) fm_X8_nextPitch_5 bf_X8_nextPitch_5 1000 (by decide +kernel) rfl ⟨Nat.zero_lt_succ _, trivial⟩ (fun f hf => match f, hf with
  | 0, _ => fun vs hv => (zbox_t r_X8_nextPitch_5_0) vs hv
  | f + 1, h => absurd (show f + 1 < 1 from h) (Nat.not_lt.mpr (Nat.le_add_left 1 f)))
noncomputable def gs_X8_nextPitch_5 : zMt := zgq false [] 4 [.inr (.ref 0), .inl 2147483651] q_X8_nextPitch_5 al_X8_nextPitch_5
set_option maxRecDepth 100000 in
theorem cs_X8_nextPitch_5 (d : Nat) : zC l G gh (d + 1) n_X8_nextPitch gs_X8_nextPitch_5 := zgq_ok0 (pcs := p_X8_nextPitch) (by decide) rfl rfl (fun a ha => by simp only [al_X8_nextPitch_5, List.mem_cons, List.not_mem_nil, or_false] at ha; rcases ha with rfl <;> decide +kernel) (fun gh => x_X8_nextPitch_5 d) (by decide +kernel)
noncomputable def gs_X8_nextPitch : zMt := (zor gs_X8_nextPitch_0 (zor gs_X8_nextPitch_1 (zor gs_X8_nextPitch_2 (zor gs_X8_nextPitch_3 (zor gs_X8_nextPitch_4 gs_X8_nextPitch_5)))))
theorem cs_X8_nextPitch (d : Nat) : zC l G gh (d + 1) n_X8_nextPitch gs_X8_nextPitch := (zor_ok (cs_X8_nextPitch_0 d) (zor_ok (cs_X8_nextPitch_1 d) (zor_ok (cs_X8_nextPitch_2 d) (zor_ok (cs_X8_nextPitch_3 d) (zor_ok (cs_X8_nextPitch_4 d) (cs_X8_nextPitch_5 d))))))
def n_X9_tries : qMn := (yX9_tries, cX9_tries, 6, none, 0, 0)
theorem to_X9_tries : qTo n_X9_tries 4 := ⟨g1632, g110, ⟨by decide, by decide, by decide +kernel⟩, by decide⟩
def p_X9_tries : List Nat := [0, 11, 20, 21, 27, 37, 38, 53, 54]
noncomputable def b_X9_tries_0 : zBl := fun jp K => oAld 0 <| oGetR 9 53 <| oIld 2 <| oXald 10 <| oNLC 1 2147483649 zleN zgtN zn1_le zn1_gt (jp 2) (jp 1)
theorem s_X9_tries_0 (d : Nat) : zPb l G gh (d + 2) n_X9_tries p_X9_tries 0 b_X9_tries_0 := fun K jp hj =>
    z_aload_n (n := 0) (i := 0) (zd (i := .aload_n 0) (n := 1) (by decide +kernel)) rfl <|
    z_getR (ci := 9) (j := 53) (idx := 119) (zd (i := .getfield 119) (n := 3) (by decide +kernel)) (by decide +kernel) (by decide +kernel) rfl g1181 <|
    z_iload_n (n := 2) (i := 2) (zd (i := .iload_n 2) (n := 1) (by decide +kernel)) rfl <|
    z_iald (zd (i := .iaload) (n := 1) (by decide +kernel)) <|
    z_nLC_le (i := 1) (c0 := 2147483649) (a1 := 1) (a2 := 1) (off := 12) (tgt := 20) (zLd_n (n := 1) (i := 1) (zd (i := .iload_n 1) (n := 1) (by decide +kernel)) rfl) (zCn_c (n := 1) (zd (i := .iconst (1)) (n := 1) (by decide +kernel)) (by decide +kernel)) (zd (i := .if_icmp .le (12)) (n := 3) (by decide +kernel)) (by decide +kernel) (zj (hj 2) (by decide +kernel)) (zj (hj 1) (by decide +kernel))
noncomputable def b_X9_tries_1 : zBl := fun jp K => oAld 0 <| oGetR 9 53 <| oIld 3 <| oXald 10 <| jp 3
theorem s_X9_tries_1 (d : Nat) : zPb l G gh (d + 2) n_X9_tries p_X9_tries 11 b_X9_tries_1 := fun K jp hj =>
    z_aload_n (n := 0) (i := 0) (zd (i := .aload_n 0) (n := 1) (by decide +kernel)) rfl <|
    z_getR (ci := 9) (j := 53) (idx := 119) (zd (i := .getfield 119) (n := 3) (by decide +kernel)) (by decide +kernel) (by decide +kernel) rfl g1181 <|
    z_iload_n (n := 3) (i := 3) (zd (i := .iload_n 3) (n := 1) (by decide +kernel)) rfl <|
    z_iald (zd (i := .iaload) (n := 1) (by decide +kernel)) <|
    z_goto (off := 4) (tgt := 21) (zd (i := .goto (4)) (n := 3) (by decide +kernel)) (by decide +kernel) (zj (hj 3) (by decide +kernel))
noncomputable def b_X9_tries_2 : zBl := fun jp K => oInt 2147483648 <| jp 3
theorem s_X9_tries_2 (d : Nat) : zPb l G gh (d + 2) n_X9_tries p_X9_tries 20 b_X9_tries_2 := fun K jp hj =>
    z_iconst (n := 0) (zd (i := .iconst (0)) (n := 1) (by decide +kernel)) (by decide +kernel) <|
    (zj (hj 3) (by decide +kernel))
noncomputable def b_X9_tries_3 : zBl := fun jp K => oB2 zior <| oNLC 1 2147483650 zleN zgtN zn1_le zn1_gt (jp 5) (jp 4)
theorem s_X9_tries_3 (d : Nat) : zPb l G gh (d + 2) n_X9_tries p_X9_tries 21 b_X9_tries_3 := fun K jp hj =>
    z_ior (zd (i := .ior) (n := 1) (by decide +kernel)) <|
    z_nLC_le (i := 1) (c0 := 2147483650) (a1 := 1) (a2 := 1) (off := 13) (tgt := 37) (zLd_n (n := 1) (i := 1) (zd (i := .iload_n 1) (n := 1) (by decide +kernel)) rfl) (zCn_c (n := 2) (zd (i := .iconst (2)) (n := 1) (by decide +kernel)) (by decide +kernel)) (zd (i := .if_icmp .le (13)) (n := 3) (by decide +kernel)) (by decide +kernel) (zj (hj 5) (by decide +kernel)) (zj (hj 4) (by decide +kernel))
noncomputable def b_X9_tries_4 : zBl := fun jp K => oAld 0 <| oGetR 9 53 <| oIld 4 <| oXald 10 <| jp 6
theorem s_X9_tries_4 (d : Nat) : zPb l G gh (d + 2) n_X9_tries p_X9_tries 27 b_X9_tries_4 := fun K jp hj =>
    z_aload_n (n := 0) (i := 0) (zd (i := .aload_n 0) (n := 1) (by decide +kernel)) rfl <|
    z_getR (ci := 9) (j := 53) (idx := 119) (zd (i := .getfield 119) (n := 3) (by decide +kernel)) (by decide +kernel) (by decide +kernel) rfl g1181 <|
    z_iload (i := 4) (zd (i := .iload 4) (n := 2) (by decide +kernel)) <|
    z_iald (zd (i := .iaload) (n := 1) (by decide +kernel)) <|
    z_goto (off := 4) (tgt := 38) (zd (i := .goto (4)) (n := 3) (by decide +kernel)) (by decide +kernel) (zj (hj 6) (by decide +kernel))
noncomputable def b_X9_tries_5 : zBl := fun jp K => oInt 2147483648 <| jp 6
theorem s_X9_tries_5 (d : Nat) : zPb l G gh (d + 2) n_X9_tries p_X9_tries 37 b_X9_tries_5 := fun K jp hj =>
    z_iconst (n := 0) (zd (i := .iconst (0)) (n := 1) (by decide +kernel)) (by decide +kernel) <|
    (zj (hj 6) (by decide +kernel))
noncomputable def b_X9_tries_6 : zBl := fun jp K => oB2 zior <| oIst 5 <| oIld 5 <| oCs 1 f_X9_bits <| oAld 0 <| oGetI 9 55 <| oIc zgt zle (jp 8) (jp 7)
theorem s_X9_tries_6 (d : Nat) : zPb l G gh (d + 2) n_X9_tries p_X9_tries 38 b_X9_tries_6 := fun K jp hj =>
    z_ior (zd (i := .ior) (n := 1) (by decide +kernel)) <|
    z_istore (i := 5) (zd (i := .istore 5) (n := 2) (by decide +kernel)) (by decide +kernel) <|
    z_iload (i := 5) (zd (i := .iload 5) (n := 2) (by decide +kernel)) <|
    z_callS (idx := 412) (N := n_X9_bits) (zd (i := .invokestatic 412) (n := 3) (by decide +kernel)) to_X9_bits g1633 g1634 rfl rfl (c_X9_bits (l := l) (G := G) (gh := gh) (d)) <|
    z_aload_n (n := 0) (i := 0) (zd (i := .aload_n 0) (n := 1) (by decide +kernel)) rfl <|
    z_getI (ci := 9) (j := 55) (idx := 415) (zd (i := .getfield 415) (n := 3) (by decide +kernel)) (by decide +kernel) (by decide +kernel) rfl g1183 <|
    z_icmp_gt (off := 4) (tgt := 54) (zd (i := .if_icmp .gt (4)) (n := 3) (by decide +kernel)) (by decide +kernel) (zj (hj 8) (by decide +kernel)) (zj (hj 7) (by decide +kernel))
noncomputable def b_X9_tries_7 : zBl := fun jp K => oVret K
theorem s_X9_tries_7 (d : Nat) : zPb l G gh (d + 2) n_X9_tries p_X9_tries 53 b_X9_tries_7 := fun K jp hj =>
    z_vret (zd (i := .return_) (n := 1) (by decide +kernel)) rfl
noncomputable def b_X9_tries_8 : zBl := fun jp K => oAld 0 <| oIld 5 <| oCs 1 f_X9_bits <| oPutI 9 55 <| oAld 0 <| oGetR 9 54 <| oInt 2147483648 <| oIld 2 <| oXast 10 zid <| oAld 0 <| oGetR 9 54 <| oInt 2147483649 <| oIld 3 <| oXast 10 zid <| oAld 0 <| oGetR 9 54 <| oInt 2147483650 <| oIld 4 <| oXast 10 zid <| oVret K
theorem s_X9_tries_8 (d : Nat) : zPb l G gh (d + 2) n_X9_tries p_X9_tries 54 b_X9_tries_8 := fun K jp hj =>
    z_aload_n (n := 0) (i := 0) (zd (i := .aload_n 0) (n := 1) (by decide +kernel)) rfl <|
    z_iload (i := 5) (zd (i := .iload 5) (n := 2) (by decide +kernel)) <|
    z_callS (idx := 412) (N := n_X9_bits) (zd (i := .invokestatic 412) (n := 3) (by decide +kernel)) to_X9_bits g1633 g1634 rfl rfl (c_X9_bits (l := l) (G := G) (gh := gh) (d)) <|
    z_putI (ci := 9) (j := 55) (idx := 415) (zd (i := .putfield 415) (n := 3) (by decide +kernel)) (by decide +kernel) (by decide +kernel) rfl g1183 (Or.inl rfl) <|
    z_aload_n (n := 0) (i := 0) (zd (i := .aload_n 0) (n := 1) (by decide +kernel)) rfl <|
    z_getR (ci := 9) (j := 54) (idx := 122) (zd (i := .getfield 122) (n := 3) (by decide +kernel)) (by decide +kernel) (by decide +kernel) rfl g1182 <|
    z_iconst (n := 0) (zd (i := .iconst (0)) (n := 1) (by decide +kernel)) (by decide +kernel) <|
    z_iload_n (n := 2) (i := 2) (zd (i := .iload_n 2) (n := 1) (by decide +kernel)) rfl <|
    z_iast (zd (i := .iastore) (n := 1) (by decide +kernel)) <|
    z_aload_n (n := 0) (i := 0) (zd (i := .aload_n 0) (n := 1) (by decide +kernel)) rfl <|
    z_getR (ci := 9) (j := 54) (idx := 122) (zd (i := .getfield 122) (n := 3) (by decide +kernel)) (by decide +kernel) (by decide +kernel) rfl g1182 <|
    z_iconst (n := 1) (zd (i := .iconst (1)) (n := 1) (by decide +kernel)) (by decide +kernel) <|
    z_iload_n (n := 3) (i := 3) (zd (i := .iload_n 3) (n := 1) (by decide +kernel)) rfl <|
    z_iast (zd (i := .iastore) (n := 1) (by decide +kernel)) <|
    z_aload_n (n := 0) (i := 0) (zd (i := .aload_n 0) (n := 1) (by decide +kernel)) rfl <|
    z_getR (ci := 9) (j := 54) (idx := 122) (zd (i := .getfield 122) (n := 3) (by decide +kernel)) (by decide +kernel) (by decide +kernel) rfl g1182 <|
    z_iconst (n := 2) (zd (i := .iconst (2)) (n := 1) (by decide +kernel)) (by decide +kernel) <|
    z_iload (i := 4) (zd (i := .iload 4) (n := 2) (by decide +kernel)) <|
    z_iast (zd (i := .iastore) (n := 1) (by decide +kernel)) <|
    z_vret (zd (i := .return_) (n := 1) (by decide +kernel)) rfl
noncomputable def t_X9_tries : List zBl := [b_X9_tries_0, b_X9_tries_1, b_X9_tries_2, b_X9_tries_3, b_X9_tries_4, b_X9_tries_5, b_X9_tries_6, b_X9_tries_7, b_X9_tries_8]
theorem tt_X9_tries (d : Nat) : zT (zPb l G gh (d + 2) n_X9_tries p_X9_tries) t_X9_tries p_X9_tries := ⟨s_X9_tries_0 d, s_X9_tries_1 d, s_X9_tries_2 d, s_X9_tries_3 d, s_X9_tries_4 d, s_X9_tries_5 d, s_X9_tries_6 d, s_X9_tries_7 d, s_X9_tries_8 d, trivial⟩
def q_X9_tries_0 : List (Nat × Nat) := [(292, zk120), (326, zk19), (327, zk139)]
noncomputable def al_X9_tries_0 : zAq := [(none, [(292, zk123), (326, zk19), (327, zk140)])]
noncomputable def fm_X9_tries_0 : List zFm := [(0, [], (fun vs => [.inr (.ref 292), .inl 2147483649, .inl 9223372043297226771, .inl 9223372047592194068, .inl 9223372051887161365]), (fun vs => zP q_X9_tries_0), (fun vs => Nat.sub (Nat.add 0 0) 0))]
def bf_X9_tries_0 : List Nat := []
theorem r_X9_tries_0_0 : zbox [] (fun vs => zFrun (zpost (zAlq al_X9_tries_0)) 1000 t_X9_tries fm_X9_tries_0 bf_X9_tries_0 (0, vs)) = true := by decide +kernel
set_option maxRecDepth 100000 in
theorem x_X9_tries_0 (d : Nat) : zS l G gh (d + 2) (zpost (zAlq al_X9_tries_0)) n_X9_tries (zn 0 p_X9_tries 0) (zwc (0, [.inr (.ref 292), .inl 2147483649, .inl 9223372043297226771, .inl 9223372047592194068, .inl 9223372051887161365], zP q_X9_tries_0) 0) := zentry (tt_X9_tries d) fm_X9_tries_0 bf_X9_tries_0 1000 (by decide +kernel) rfl ⟨Nat.zero_lt_succ _, trivial⟩ (fun f hf => match f, hf with
  | 0, _ => fun vs hv => (zbox_t r_X9_tries_0_0) vs hv
  | f + 1, h => absurd (show f + 1 < 1 from h) (Nat.not_lt.mpr (Nat.le_add_left 1 f)))
noncomputable def gs_X9_tries_0 : zMt := zgq false [] 6 [.inr (.ref 292), .inl 2147483649, .inl 9223372043297226771, .inl 9223372047592194068, .inl 9223372051887161365] q_X9_tries_0 al_X9_tries_0
set_option maxRecDepth 100000 in
theorem cs_X9_tries_0 (d : Nat) : zC l G gh (d + 2) n_X9_tries gs_X9_tries_0 := zgq_ok0 (pcs := p_X9_tries) (by decide) rfl rfl (fun a ha => by simp only [al_X9_tries_0, List.mem_cons, List.not_mem_nil, or_false] at ha; rcases ha with rfl <;> decide +kernel) (fun gh => x_X9_tries_0 d) (by decide +kernel)
def q_X9_tries_1 : List (Nat × Nat) := [(292, zk120), (326, zk19), (327, zk139)]
noncomputable def al_X9_tries_1 : zAq := [(none, [(292, zk123), (326, zk19), (327, zk140)])]
noncomputable def fm_X9_tries_1 : List zFm := [(0, [], (fun vs => [.inr (.ref 292), .inl 2147483650, .inl 9223372043297226770, .inl 9223372047592194067, .inl 9223372051887161364]), (fun vs => zP q_X9_tries_1), (fun vs => Nat.sub (Nat.add 0 0) 0))]
def bf_X9_tries_1 : List Nat := []
theorem r_X9_tries_1_0 : zbox [] (fun vs => zFrun (zpost (zAlq al_X9_tries_1)) 1000 t_X9_tries fm_X9_tries_1 bf_X9_tries_1 (0, vs)) = true := by decide +kernel
set_option maxRecDepth 100000 in
theorem x_X9_tries_1 (d : Nat) : zS l G gh (d + 2) (zpost (zAlq al_X9_tries_1)) n_X9_tries (zn 0 p_X9_tries 0) (zwc (0, [.inr (.ref 292), .inl 2147483650, .inl 9223372043297226770, .inl 9223372047592194067, .inl 9223372051887161364], zP q_X9_tries_1) 0) := zentry (tt_X9_tries d) fm_X9_tries_1 bf_X9_tries_1 1000 (by decide +kernel) rfl ⟨Nat.zero_lt_succ _, trivial⟩ (fun f hf => match f, hf with
  | 0, _ => fun vs hv => (zbox_t r_X9_tries_1_0) vs hv
  | f + 1, h => absurd (show f + 1 < 1 from h) (Nat.not_lt.mpr (Nat.le_add_left 1 f)))
noncomputable def gs_X9_tries_1 : zMt := zgq false [] 6 [.inr (.ref 292), .inl 2147483650, .inl 9223372043297226770, .inl 9223372047592194067, .inl 9223372051887161364] q_X9_tries_1 al_X9_tries_1
set_option maxRecDepth 100000 in
theorem cs_X9_tries_1 (d : Nat) : zC l G gh (d + 2) n_X9_tries gs_X9_tries_1 := zgq_ok0 (pcs := p_X9_tries) (by decide) rfl rfl (fun a ha => by simp only [al_X9_tries_1, List.mem_cons, List.not_mem_nil, or_false] at ha; rcases ha with rfl <;> decide +kernel) (fun gh => x_X9_tries_1 d) (by decide +kernel)
def q_X9_tries_2 : List (Nat × Nat) := [(292, zk120), (326, zk19), (327, zk139)]
noncomputable def al_X9_tries_2 : zAq := [(none, [(292, zk123), (326, zk19), (327, zk140)])]
noncomputable def fm_X9_tries_2 : List zFm := [(0, [], (fun vs => [.inr (.ref 292), .inl 2147483651, .inl 9223372043297226769, .inl 9223372047592194067, .inl 9223372051887161363]), (fun vs => zP q_X9_tries_2), (fun vs => Nat.sub (Nat.add 0 0) 0))]
def bf_X9_tries_2 : List Nat := []
theorem r_X9_tries_2_0 : zbox [] (fun vs => zFrun (zpost (zAlq al_X9_tries_2)) 1000 t_X9_tries fm_X9_tries_2 bf_X9_tries_2 (0, vs)) = true := by decide +kernel
set_option maxRecDepth 100000 in
theorem x_X9_tries_2 (d : Nat) : zS l G gh (d + 2) (zpost (zAlq al_X9_tries_2)) n_X9_tries (zn 0 p_X9_tries 0) (zwc (0, [.inr (.ref 292), .inl 2147483651, .inl 9223372043297226769, .inl 9223372047592194067, .inl 9223372051887161363], zP q_X9_tries_2) 0) := zentry (tt_X9_tries d) fm_X9_tries_2 bf_X9_tries_2 1000 (by decide +kernel) rfl ⟨Nat.zero_lt_succ _, trivial⟩ (fun f hf => match f, hf with
  | 0, _ => fun vs hv => (zbox_t r_X9_tries_2_0) vs hv
  | f + 1, h => absurd (show f + 1 < 1 from h) (Nat.not_lt.mpr (Nat.le_add_left 1 f)))
noncomputable def gs_X9_tries_2 : zMt := zgq false [] 6 [.inr (.ref 292), .inl 2147483651, .inl 9223372043297226769, .inl 9223372047592194067, .inl 9223372051887161363] q_X9_tries_2 al_X9_tries_2
set_option maxRecDepth 100000 in
theorem cs_X9_tries_2 (d : Nat) : zC l G gh (d + 2) n_X9_tries gs_X9_tries_2 := zgq_ok0 (pcs := p_X9_tries) (by decide) rfl rfl (fun a ha => by simp only [al_X9_tries_2, List.mem_cons, List.not_mem_nil, or_false] at ha; rcases ha with rfl <;> decide +kernel) (fun gh => x_X9_tries_2 d) (by decide +kernel)
noncomputable def gs_X9_tries : zMt := (zor gs_X9_tries_0 (zor gs_X9_tries_1 gs_X9_tries_2))
theorem cs_X9_tries (d : Nat) : zC l G gh (d + 2) n_X9_tries gs_X9_tries := (zor_ok (cs_X9_tries_0 d) (zor_ok (cs_X9_tries_1 d) (cs_X9_tries_2 d)))
def n_X9_fillsSeen : qMn := (yX9_fillsSeen, cX9_fillsSeen, 3, none, 0, 0)
theorem to_X9_fillsSeen : qTo n_X9_fillsSeen 0 := ⟨g1628, g110, ⟨by decide, by decide, by decide +kernel⟩, by decide⟩
def p_X9_fillsSeen : List Nat := [0, 2, 8, 17, 30, 46, 58, 64, 70]
noncomputable def b_X9_fillsSeen_0 : zBl := fun jp K => oInt 2147483648 <| oIst 1 <| jp 1
theorem s_X9_fillsSeen_0 (d : Nat) (hG : zGood gh) : zPb l G gh (d + 7) n_X9_fillsSeen p_X9_fillsSeen 0 b_X9_fillsSeen_0 := fun K jp hj =>
    z_iconst (n := 0) (zd (i := .iconst (0)) (n := 1) (by decide +kernel)) (by decide +kernel) <|
    z_istore_n (n := 1) (i := 1) (zd (i := .istore_n 1) (n := 1) (by decide +kernel)) rfl (by decide +kernel) <|
    (zj (hj 1) (by decide +kernel))
noncomputable def b_X9_fillsSeen_1 : zBl := fun jp K => oNLC 1 2147483667 zgtN zleN zn1_gt zn1_le (jp 8) (jp 2)
theorem s_X9_fillsSeen_1 (d : Nat) (hG : zGood gh) : zPb l G gh (d + 7) n_X9_fillsSeen p_X9_fillsSeen 2 b_X9_fillsSeen_1 := fun K jp hj =>
    z_nLC_gt (i := 1) (c0 := 2147483667) (a1 := 1) (a2 := 2) (off := 65) (tgt := 70) (zLd_n (n := 1) (i := 1) (zd (i := .iload_n 1) (n := 1) (by decide +kernel)) rfl) (zCn_b (n := 19) (zd (i := .bipush (19)) (n := 2) (by decide +kernel)) (by decide +kernel)) (zd (i := .if_icmp .gt (65)) (n := 3) (by decide +kernel)) (by decide +kernel) (zj (hj 8) (by decide +kernel)) (zj (hj 2) (by decide +kernel))
noncomputable def b_X9_fillsSeen_2 : zBl := fun jp K => oAld 0 <| oGetR 9 53 <| oIld 1 <| oInt 2147483648 <| oXast 10 zid <| oInt 2147483648 <| oIst 2 <| jp 3
theorem s_X9_fillsSeen_2 (d : Nat) (hG : zGood gh) : zPb l G gh (d + 7) n_X9_fillsSeen p_X9_fillsSeen 8 b_X9_fillsSeen_2 := fun K jp hj =>
    z_aload_n (n := 0) (i := 0) (zd (i := .aload_n 0) (n := 1) (by decide +kernel)) rfl <|
    z_getR (ci := 9) (j := 53) (idx := 119) (zd (i := .getfield 119) (n := 3) (by decide +kernel)) (by decide +kernel) (by decide +kernel) rfl g1181 <|
    z_iload_n (n := 1) (i := 1) (zd (i := .iload_n 1) (n := 1) (by decide +kernel)) rfl <|
    z_iconst (n := 0) (zd (i := .iconst (0)) (n := 1) (by decide +kernel)) (by decide +kernel) <|
    z_iast (zd (i := .iastore) (n := 1) (by decide +kernel)) <|
    z_iconst (n := 0) (zd (i := .iconst (0)) (n := 1) (by decide +kernel)) (by decide +kernel) <|
    z_istore_n (n := 2) (i := 2) (zd (i := .istore_n 2) (n := 1) (by decide +kernel)) rfl (by decide +kernel) <|
    (zj (hj 3) (by decide +kernel))
noncomputable def b_X9_fillsSeen_3 : zBl := fun jp K => oIld 2 <| oAld 0 <| oGetR 9 22 <| oAld 0 <| oGetI 9 18 <| oXald 10 <| oIc zge zlt (jp 7) (jp 4)
theorem s_X9_fillsSeen_3 (d : Nat) (hG : zGood gh) : zPb l G gh (d + 7) n_X9_fillsSeen p_X9_fillsSeen 17 b_X9_fillsSeen_3 := fun K jp hj =>
    z_iload_n (n := 2) (i := 2) (zd (i := .iload_n 2) (n := 1) (by decide +kernel)) rfl <|
    z_aload_n (n := 0) (i := 0) (zd (i := .aload_n 0) (n := 1) (by decide +kernel)) rfl <|
    z_getR (ci := 9) (j := 22) (idx := 43) (zd (i := .getfield 43) (n := 3) (by decide +kernel)) (by decide +kernel) (by decide +kernel) rfl g1150 <|
    z_aload_n (n := 0) (i := 0) (zd (i := .aload_n 0) (n := 1) (by decide +kernel)) rfl <|
    z_getI (ci := 9) (j := 18) (idx := 230) (zd (i := .getfield 230) (n := 3) (by decide +kernel)) (by decide +kernel) (by decide +kernel) rfl g1146 <|
    z_iald (zd (i := .iaload) (n := 1) (by decide +kernel)) <|
    z_icmp_ge (off := 37) (tgt := 64) (zd (i := .if_icmp .ge (37)) (n := 3) (by decide +kernel)) (by decide +kernel) (zj (hj 7) (by decide +kernel)) (zj (hj 4) (by decide +kernel))
noncomputable def b_X9_fillsSeen_4 : zBl := fun jp K => oAld 0 <| oIld 1 <| oIld 2 <| oAld 0 <| oGetR 9 48 <| oInt 2147483744 <| oXald 10 <| oCv 9 3 gs_X9_sees <| oIf zeq zne (jp 6) (jp 5)
theorem s_X9_fillsSeen_4 (d : Nat) (hG : zGood gh) : zPb l G gh (d + 7) n_X9_fillsSeen p_X9_fillsSeen 30 b_X9_fillsSeen_4 := fun K jp hj =>
    z_aload_n (n := 0) (i := 0) (zd (i := .aload_n 0) (n := 1) (by decide +kernel)) rfl <|
    z_iload_n (n := 1) (i := 1) (zd (i := .iload_n 1) (n := 1) (by decide +kernel)) rfl <|
    z_iload_n (n := 2) (i := 2) (zd (i := .iload_n 2) (n := 1) (by decide +kernel)) rfl <|
    z_aload_n (n := 0) (i := 0) (zd (i := .aload_n 0) (n := 1) (by decide +kernel)) rfl <|
    z_getR (ci := 9) (j := 48) (idx := 110) (zd (i := .getfield 110) (n := 3) (by decide +kernel)) (by decide +kernel) (by decide +kernel) rfl g1176 <|
    z_bipush (n := 96) (zd (i := .bipush (96)) (n := 2) (by decide +kernel)) (by decide +kernel) <|
    z_iald (zd (i := .iaload) (n := 1) (by decide +kernel)) <|
    z_callV (idx := 352) (ci := 9) (N := n_X9_sees) (zd (i := .invokevirtual 352) (n := 3) (by decide +kernel)) to_X9_sees g1449 g1451 g68 (by decide +kernel) rfl rfl rfl (cs_X9_sees (l := l) (G := G) (gh := gh) (d) hG) <|
    z_if_eq (off := 15) (tgt := 58) (zd (i := .ifCond .eq (15)) (n := 3) (by decide +kernel)) (by decide +kernel) (zj (hj 6) (by decide +kernel)) (zj (hj 5) (by decide +kernel))
noncomputable def b_X9_fillsSeen_5 : zBl := fun jp K => oAld 0 <| oGetR 9 53 <| oIld 1 <| oDup2 <| oXald 10 <| oInt 2147483649 <| oIld 2 <| oB2 zishl <| oB2 zior <| oXast 10 zid <| jp 6
theorem s_X9_fillsSeen_5 (d : Nat) (hG : zGood gh) : zPb l G gh (d + 7) n_X9_fillsSeen p_X9_fillsSeen 46 b_X9_fillsSeen_5 := fun K jp hj =>
    z_aload_n (n := 0) (i := 0) (zd (i := .aload_n 0) (n := 1) (by decide +kernel)) rfl <|
    z_getR (ci := 9) (j := 53) (idx := 119) (zd (i := .getfield 119) (n := 3) (by decide +kernel)) (by decide +kernel) (by decide +kernel) rfl g1181 <|
    z_iload_n (n := 1) (i := 1) (zd (i := .iload_n 1) (n := 1) (by decide +kernel)) rfl <|
    z_dup2 (zd (i := .dup2) (n := 1) (by decide +kernel)) <|
    z_iald (zd (i := .iaload) (n := 1) (by decide +kernel)) <|
    z_iconst (n := 1) (zd (i := .iconst (1)) (n := 1) (by decide +kernel)) (by decide +kernel) <|
    z_iload_n (n := 2) (i := 2) (zd (i := .iload_n 2) (n := 1) (by decide +kernel)) rfl <|
    z_ishl (zd (i := .ishl) (n := 1) (by decide +kernel)) <|
    z_ior (zd (i := .ior) (n := 1) (by decide +kernel)) <|
    z_iast (zd (i := .iastore) (n := 1) (by decide +kernel)) <|
    (zj (hj 6) (by decide +kernel))
noncomputable def b_X9_fillsSeen_6 : zBl := fun jp K => oInc 2 2147483649 <| jp 3
theorem s_X9_fillsSeen_6 (d : Nat) (hG : zGood gh) : zPb l G gh (d + 7) n_X9_fillsSeen p_X9_fillsSeen 58 b_X9_fillsSeen_6 := fun K jp hj =>
    z_iinc (i := 2) (n := 1) (zd (i := .iinc 2 (1)) (n := 3) (by decide +kernel)) (by decide +kernel) (by decide +kernel) <|
    z_goto (off := -44) (tgt := 17) (zd (i := .goto (-44)) (n := 3) (by decide +kernel)) (by decide +kernel) (zj (hj 3) (by decide +kernel))
noncomputable def b_X9_fillsSeen_7 : zBl := fun jp K => oInc 1 2147483649 <| jp 1
theorem s_X9_fillsSeen_7 (d : Nat) (hG : zGood gh) : zPb l G gh (d + 7) n_X9_fillsSeen p_X9_fillsSeen 64 b_X9_fillsSeen_7 := fun K jp hj =>
    z_iinc (i := 1) (n := 1) (zd (i := .iinc 1 (1)) (n := 3) (by decide +kernel)) (by decide +kernel) (by decide +kernel) <|
    z_goto (off := -65) (tgt := 2) (zd (i := .goto (-65)) (n := 3) (by decide +kernel)) (by decide +kernel) (zj (hj 1) (by decide +kernel))
noncomputable def b_X9_fillsSeen_8 : zBl := fun jp K => oVret K
theorem s_X9_fillsSeen_8 (d : Nat) (hG : zGood gh) : zPb l G gh (d + 7) n_X9_fillsSeen p_X9_fillsSeen 70 b_X9_fillsSeen_8 := fun K jp hj =>
    z_vret (zd (i := .return_) (n := 1) (by decide +kernel)) rfl
noncomputable def t_X9_fillsSeen : List zBl := [b_X9_fillsSeen_0, b_X9_fillsSeen_1, b_X9_fillsSeen_2, b_X9_fillsSeen_3, b_X9_fillsSeen_4, b_X9_fillsSeen_5, b_X9_fillsSeen_6, b_X9_fillsSeen_7, b_X9_fillsSeen_8]
theorem tt_X9_fillsSeen (d : Nat) (hG : zGood gh) : zT (zPb l G gh (d + 7) n_X9_fillsSeen p_X9_fillsSeen) t_X9_fillsSeen p_X9_fillsSeen := ⟨s_X9_fillsSeen_0 d hG, s_X9_fillsSeen_1 d hG, s_X9_fillsSeen_2 d hG, s_X9_fillsSeen_3 d hG, s_X9_fillsSeen_4 d hG, s_X9_fillsSeen_5 d hG, s_X9_fillsSeen_6 d hG, s_X9_fillsSeen_7 d hG, s_X9_fillsSeen_8 d hG, trivial⟩
def q_X9_fillsSeen_0 : List (Nat × Nat) := [(292, zk120), (301, zk125), (302, zk128), (303, zk128), (321, zk15), (322, zk133), (323, zk122), (326, zk19)]
noncomputable def al_X9_fillsSeen_0 : zAq := [(none, [(292, zk123), (301, zk125), (302, zk128), (303, zk128), (321, zk16), (322, zk134), (323, zk122), (326, zk21)])]
def mq_X9_fillsSeen_0_1 : List (Nat × Nat) := [(292, zk123), (301, zk125), (302, zk128), (303, zk128), (321, zk16), (322, zk134), (323, zk122), (326, zk21)]
def mq_X9_fillsSeen_0_2 : List (Nat × Nat) := [(292, zk123), (301, zk125), (302, zk128), (303, zk128), (321, zk16), (322, zk134), (323, zk122), (326, zk21)]
noncomputable def fm_X9_fillsSeen_0 : List zFm := [(0, [], (fun vs => [.inr (.ref 292)]), (fun vs => zP q_X9_fillsSeen_0), (fun vs => Nat.sub (Nat.add 294 0) 0)),
  (1, [(1, 2147483648, 2147483668)], (fun vs => [.inr (.ref 292), .inl (zn 0 vs 0)]), (fun vs => zP mq_X9_fillsSeen_0_1), (fun vs => Nat.sub (Nat.add 30064771359 0) (Nat.add 0 (Nat.mul 14 (zn 0 vs 0))))),
  (3, [(1, 2147483648, 2147483667), (2, 2147483648, 2147483654)], (fun vs => [.inr (.ref 292), .inl (zn 0 vs 0), .inl (zn 0 vs 1)]), (fun vs => zP mq_X9_fillsSeen_0_2), (fun vs => Nat.sub (Nat.add 32212255006 0) (Nat.add (Nat.add 0 (Nat.mul 14 (zn 0 vs 0))) (Nat.mul 1 (zn 0 vs 1)))))]
def bf_X9_fillsSeen_0 : List Nat := [0, 2, 0, 3]
theorem r_X9_fillsSeen_0_0 : zbox [] (fun vs => zFrun (zpost (zAlq al_X9_fillsSeen_0)) 1000 t_X9_fillsSeen fm_X9_fillsSeen_0 bf_X9_fillsSeen_0 (0, vs)) = true := by decide +kernel
theorem r_X9_fillsSeen_0_1 : zbox [(1, 2147483648, 2147483668)] (fun vs => zFrun (zpost (zAlq al_X9_fillsSeen_0)) 1000 t_X9_fillsSeen fm_X9_fillsSeen_0 bf_X9_fillsSeen_0 (1, vs)) = true := by decide +kernel
theorem r_X9_fillsSeen_0_2 : zbox [(1, 2147483648, 2147483667), (2, 2147483648, 2147483654)] (fun vs => zFrun (zpost (zAlq al_X9_fillsSeen_0)) 1000 t_X9_fillsSeen fm_X9_fillsSeen_0 bf_X9_fillsSeen_0 (2, vs)) = true := by decide +kernel
set_option maxRecDepth 100000 in
theorem x_X9_fillsSeen_0 (d : Nat) (hG : zGood gh) : zS l G gh (d + 7) (zpost (zAlq al_X9_fillsSeen_0)) n_X9_fillsSeen (zn 0 p_X9_fillsSeen 0) (zwc (0, [.inr (.ref 292)], zP q_X9_fillsSeen_0) 0) := zentry (tt_X9_fillsSeen d hG) fm_X9_fillsSeen_0 bf_X9_fillsSeen_0 1000 (by decide +kernel) rfl ⟨Nat.zero_lt_succ _, trivial⟩ (fun f hf => match f, hf with
  | 0, _ => fun vs hv => (zbox_t r_X9_fillsSeen_0_0) vs hv
  | 1, _ => fun vs hv => (zbox_t r_X9_fillsSeen_0_1) vs hv
  | 2, _ => fun vs hv => (zbox_t r_X9_fillsSeen_0_2) vs hv
  | f + 3, h => absurd (show f + 3 < 3 from h) (Nat.not_lt.mpr (Nat.le_add_left 3 f)))
noncomputable def gs_X9_fillsSeen_0 : zMt := zgq true zUN 3 [.inr (.ref 292)] q_X9_fillsSeen_0 al_X9_fillsSeen_0
set_option maxRecDepth 100000 in
theorem cs_X9_fillsSeen_0 (d : Nat) (hG : zGood gh) : zC l G gh (d + 7) n_X9_fillsSeen gs_X9_fillsSeen_0 := zgq_ok zGood_ok (pcs := p_X9_fillsSeen) (by decide) rfl rfl (fun a ha => by simp only [al_X9_fillsSeen_0, List.mem_cons, List.not_mem_nil, or_false] at ha; rcases ha with rfl <;> decide +kernel) (fun gh hG => x_X9_fillsSeen_0 d hG) (by decide +kernel) hG
noncomputable def gs_X9_fillsSeen : zMt := gs_X9_fillsSeen_0
theorem cs_X9_fillsSeen (d : Nat) (hG : zGood gh) : zC l G gh (d + 7) n_X9_fillsSeen gs_X9_fillsSeen := (cs_X9_fillsSeen_0 d hG)
def n_X8_pitchUmbrellas : qMn := (yX8_pitchUmbrellas, cX8_pitchUmbrellas, 8, (some Jvm.ClassFile.FieldType.int), 0, 0)
theorem to_X8_pitchUmbrellas : qTo n_X8_pitchUmbrellas 1 := ⟨g969, g97, ⟨by decide, by decide, by decide +kernel⟩, by decide⟩
def p_X8_pitchUmbrellas : List Nat := [0, 17, 23, 41, 43, 48, 61, 69, 77, 82, 88, 94, 117, 126, 146, 159]
noncomputable def b_X8_pitchUmbrellas_0 : zBl := fun jp K => oAld 0 <| oGetR 8 12 <| oAld 0 <| oGetR 8 2 <| oGetI 4 0 <| oCv 0 1 f_X0_heat <| oIst 2 <| oInt 2147483648 <| oIst 3 <| jp 1
theorem s_X8_pitchUmbrellas_0 (d : Nat) : zPb l G gh (d + 7) n_X8_pitchUmbrellas p_X8_pitchUmbrellas 0 b_X8_pitchUmbrellas_0 := fun K jp hj =>
    z_aload_n (n := 0) (i := 0) (zd (i := .aload_n 0) (n := 1) (by decide +kernel)) rfl <|
    z_getR (ci := 8) (j := 12) (idx := 71) (zd (i := .getfield 71) (n := 3) (by decide +kernel)) (by decide +kernel) (by decide +kernel) rfl g464 <|
    z_aload_n (n := 0) (i := 0) (zd (i := .aload_n 0) (n := 1) (by decide +kernel)) rfl <|
    z_getR (ci := 8) (j := 2) (idx := 26) (zd (i := .getfield 26) (n := 3) (by decide +kernel)) (by decide +kernel) (by decide +kernel) rfl g454 <|
    z_getI (ci := 4) (j := 0) (idx := 140) (zd (i := .getfield 140) (n := 3) (by decide +kernel)) (by decide +kernel) (by decide +kernel) rfl g368 <|
    z_callV (idx := 143) (ci := 0) (N := n_X0_heat) (zd (i := .invokevirtual 143) (n := 3) (by decide +kernel)) to_X0_heat g716 g717 g718 (by decide +kernel) rfl rfl rfl (c_X0_heat (l := l) (G := G) (gh := gh) (d + 2)) <|
    z_istore_n (n := 2) (i := 2) (zd (i := .istore_n 2) (n := 1) (by decide +kernel)) rfl (by decide +kernel) <|
    z_iconst (n := 0) (zd (i := .iconst (0)) (n := 1) (by decide +kernel)) (by decide +kernel) <|
    z_istore_n (n := 3) (i := 3) (zd (i := .istore_n 3) (n := 1) (by decide +kernel)) rfl (by decide +kernel) <|
    (zj (hj 1) (by decide +kernel))
noncomputable def b_X8_pitchUmbrellas_1 : zBl := fun jp K => oNLC 3 2147483668 zgeN zltN zn1_ge zn1_lt (jp 3) (jp 2)
theorem s_X8_pitchUmbrellas_1 (d : Nat) : zPb l G gh (d + 7) n_X8_pitchUmbrellas p_X8_pitchUmbrellas 17 b_X8_pitchUmbrellas_1 := fun K jp hj =>
    z_nLC_ge (i := 3) (c0 := 2147483668) (a1 := 1) (a2 := 2) (off := 21) (tgt := 41) (zLd_n (n := 3) (i := 3) (zd (i := .iload_n 3) (n := 1) (by decide +kernel)) rfl) (zCn_b (n := 20) (zd (i := .bipush (20)) (n := 2) (by decide +kernel)) (by decide +kernel)) (zd (i := .if_icmp .ge (21)) (n := 3) (by decide +kernel)) (by decide +kernel) (zj (hj 3) (by decide +kernel)) (zj (hj 2) (by decide +kernel))
noncomputable def b_X8_pitchUmbrellas_2 : zBl := fun jp K => oAld 0 <| oGetR 8 8 <| oIld 3 <| oAld 0 <| oIld 3 <| oIld 2 <| oCv 8 2 f_X8_thingsSeenFrom <| oXast 10 zid <| oInc 3 2147483649 <| jp 1
theorem s_X8_pitchUmbrellas_2 (d : Nat) : zPb l G gh (d + 7) n_X8_pitchUmbrellas p_X8_pitchUmbrellas 23 b_X8_pitchUmbrellas_2 := fun K jp hj =>
    z_aload_n (n := 0) (i := 0) (zd (i := .aload_n 0) (n := 1) (by decide +kernel)) rfl <|
    z_getR (ci := 8) (j := 8) (idx := 55) (zd (i := .getfield 55) (n := 3) (by decide +kernel)) (by decide +kernel) (by decide +kernel) rfl g460 <|
    z_iload_n (n := 3) (i := 3) (zd (i := .iload_n 3) (n := 1) (by decide +kernel)) rfl <|
    z_aload_n (n := 0) (i := 0) (zd (i := .aload_n 0) (n := 1) (by decide +kernel)) rfl <|
    z_iload_n (n := 3) (i := 3) (zd (i := .iload_n 3) (n := 1) (by decide +kernel)) rfl <|
    z_iload_n (n := 2) (i := 2) (zd (i := .iload_n 2) (n := 1) (by decide +kernel)) rfl <|
    z_callV (idx := 146) (ci := 8) (N := n_X8_thingsSeenFrom) (zd (i := .invokevirtual 146) (n := 3) (by decide +kernel)) to_X8_thingsSeenFrom g775 g777 g24 (by decide +kernel) rfl rfl rfl (c_X8_thingsSeenFrom (l := l) (G := G) (gh := gh) (d)) <|
    z_iast (zd (i := .iastore) (n := 1) (by decide +kernel)) <|
    z_iinc (i := 3) (n := 1) (zd (i := .iinc 3 (1)) (n := 3) (by decide +kernel)) (by decide +kernel) (by decide +kernel) <|
    z_goto (off := -21) (tgt := 17) (zd (i := .goto (-21)) (n := 3) (by decide +kernel)) (by decide +kernel) (zj (hj 1) (by decide +kernel))
noncomputable def b_X8_pitchUmbrellas_3 : zBl := fun jp K => oInt 2147483648 <| oIst 3 <| jp 4
theorem s_X8_pitchUmbrellas_3 (d : Nat) : zPb l G gh (d + 7) n_X8_pitchUmbrellas p_X8_pitchUmbrellas 41 b_X8_pitchUmbrellas_3 := fun K jp hj =>
    z_iconst (n := 0) (zd (i := .iconst (0)) (n := 1) (by decide +kernel)) (by decide +kernel) <|
    z_istore_n (n := 3) (i := 3) (zd (i := .istore_n 3) (n := 1) (by decide +kernel)) rfl (by decide +kernel) <|
    (zj (hj 4) (by decide +kernel))
noncomputable def b_X8_pitchUmbrellas_4 : zBl := fun jp K => oNLL 3 1 zgeN zltN zn1_ge zn2_ge zn1_lt zn2_lt (jp 6) (jp 5)
theorem s_X8_pitchUmbrellas_4 (d : Nat) : zPb l G gh (d + 7) n_X8_pitchUmbrellas p_X8_pitchUmbrellas 43 b_X8_pitchUmbrellas_4 := fun K jp hj =>
    z_nLL_ge (i := 3) (j := 1) (a1 := 1) (a2 := 1) (off := 16) (tgt := 61) (zLd_n (n := 3) (i := 3) (zd (i := .iload_n 3) (n := 1) (by decide +kernel)) rfl) (zLd_n (n := 1) (i := 1) (zd (i := .iload_n 1) (n := 1) (by decide +kernel)) rfl) (zd (i := .if_icmp .ge (16)) (n := 3) (by decide +kernel)) (by decide +kernel) (zj (hj 6) (by decide +kernel)) (zj (hj 5) (by decide +kernel))
noncomputable def b_X8_pitchUmbrellas_5 : zBl := fun jp K => oAld 0 <| oGetR 8 10 <| oIld 3 <| oIld 3 <| oXast 10 zid <| oInc 3 2147483649 <| jp 4
theorem s_X8_pitchUmbrellas_5 (d : Nat) : zPb l G gh (d + 7) n_X8_pitchUmbrellas p_X8_pitchUmbrellas 48 b_X8_pitchUmbrellas_5 := fun K jp hj =>
    z_aload_n (n := 0) (i := 0) (zd (i := .aload_n 0) (n := 1) (by decide +kernel)) rfl <|
    z_getR (ci := 8) (j := 10) (idx := 62) (zd (i := .getfield 62) (n := 3) (by decide +kernel)) (by decide +kernel) (by decide +kernel) rfl g462 <|
    z_iload_n (n := 3) (i := 3) (zd (i := .iload_n 3) (n := 1) (by decide +kernel)) rfl <|
    z_iload_n (n := 3) (i := 3) (zd (i := .iload_n 3) (n := 1) (by decide +kernel)) rfl <|
    z_iast (zd (i := .iastore) (n := 1) (by decide +kernel)) <|
    z_iinc (i := 3) (n := 1) (zd (i := .iinc 3 (1)) (n := 3) (by decide +kernel)) (by decide +kernel) (by decide +kernel) <|
    z_goto (off := -15) (tgt := 43) (zd (i := .goto (-15)) (n := 3) (by decide +kernel)) (by decide +kernel) (zj (hj 4) (by decide +kernel))
noncomputable def b_X8_pitchUmbrellas_6 : zBl := fun jp K => oInt 2147483647 <| oIst 3 <| oInt 2147483649 <| oIst 4 <| oInt 2147483648 <| oIst 5 <| jp 7
theorem s_X8_pitchUmbrellas_6 (d : Nat) : zPb l G gh (d + 7) n_X8_pitchUmbrellas p_X8_pitchUmbrellas 61 b_X8_pitchUmbrellas_6 := fun K jp hj =>
    z_iconst (n := -1) (zd (i := .iconst (-1)) (n := 1) (by decide +kernel)) (by decide +kernel) <|
    z_istore_n (n := 3) (i := 3) (zd (i := .istore_n 3) (n := 1) (by decide +kernel)) rfl (by decide +kernel) <|
    z_iconst (n := 1) (zd (i := .iconst (1)) (n := 1) (by decide +kernel)) (by decide +kernel) <|
    z_istore (i := 4) (zd (i := .istore 4) (n := 2) (by decide +kernel)) (by decide +kernel) <|
    z_iconst (n := 0) (zd (i := .iconst (0)) (n := 1) (by decide +kernel)) (by decide +kernel) <|
    z_istore (i := 5) (zd (i := .istore 5) (n := 2) (by decide +kernel)) (by decide +kernel) <|
    (zj (hj 7) (by decide +kernel))
noncomputable def b_X8_pitchUmbrellas_7 : zBl := fun jp K => oNLC 5 2147484788 zgeN zltN zn1_ge zn1_lt (jp 15) (jp 8)
theorem s_X8_pitchUmbrellas_7 (d : Nat) : zPb l G gh (d + 7) n_X8_pitchUmbrellas p_X8_pitchUmbrellas 69 b_X8_pitchUmbrellas_7 := fun K jp hj =>
    z_nLC_ge (i := 5) (c0 := 2147484788) (a1 := 2) (a2 := 3) (off := 85) (tgt := 159) (zLd_w (i := 5) (zd (i := .iload 5) (n := 2) (by decide +kernel))) (zCn_s (n := 1140) (zd (i := .sipush (1140)) (n := 3) (by decide +kernel)) (by decide +kernel)) (zd (i := .if_icmp .ge (85)) (n := 3) (by decide +kernel)) (by decide +kernel) (zj (hj 15) (by decide +kernel)) (zj (hj 8) (by decide +kernel))
noncomputable def b_X8_pitchUmbrellas_8 : zBl := fun jp K => oNLC 4 2147483648 zeqN zneN zn1_eq zn1_ne (jp 15) (jp 9)
theorem s_X8_pitchUmbrellas_8 (d : Nat) : zPb l G gh (d + 7) n_X8_pitchUmbrellas p_X8_pitchUmbrellas 77 b_X8_pitchUmbrellas_8 := fun K jp hj =>
    z_nL0_eq (i := 4) (a1 := 2) (off := 80) (tgt := 159) (zLd_w (i := 4) (zd (i := .iload 4) (n := 2) (by decide +kernel))) (zd (i := .ifCond .eq (80)) (n := 3) (by decide +kernel)) (by decide +kernel) (zj (hj 15) (by decide +kernel)) (zj (hj 9) (by decide +kernel))
noncomputable def b_X8_pitchUmbrellas_9 : zBl := fun jp K => oInt 2147483648 <| oIst 6 <| oInt 2147483648 <| oIst 7 <| jp 10
theorem s_X8_pitchUmbrellas_9 (d : Nat) : zPb l G gh (d + 7) n_X8_pitchUmbrellas p_X8_pitchUmbrellas 82 b_X8_pitchUmbrellas_9 := fun K jp hj =>
    z_iconst (n := 0) (zd (i := .iconst (0)) (n := 1) (by decide +kernel)) (by decide +kernel) <|
    z_istore (i := 6) (zd (i := .istore 6) (n := 2) (by decide +kernel)) (by decide +kernel) <|
    z_iconst (n := 0) (zd (i := .iconst (0)) (n := 1) (by decide +kernel)) (by decide +kernel) <|
    z_istore (i := 7) (zd (i := .istore 7) (n := 2) (by decide +kernel)) (by decide +kernel) <|
    (zj (hj 10) (by decide +kernel))
noncomputable def b_X8_pitchUmbrellas_10 : zBl := fun jp K => oNLL 7 1 zgeN zltN zn1_ge zn2_ge zn1_lt zn2_lt (jp 12) (jp 11)
theorem s_X8_pitchUmbrellas_10 (d : Nat) : zPb l G gh (d + 7) n_X8_pitchUmbrellas p_X8_pitchUmbrellas 88 b_X8_pitchUmbrellas_10 := fun K jp hj =>
    z_nLL_ge (i := 7) (j := 1) (a1 := 2) (a2 := 1) (off := 26) (tgt := 117) (zLd_w (i := 7) (zd (i := .iload 7) (n := 2) (by decide +kernel))) (zLd_n (n := 1) (i := 1) (zd (i := .iload_n 1) (n := 1) (by decide +kernel)) rfl) (zd (i := .if_icmp .ge (26)) (n := 3) (by decide +kernel)) (by decide +kernel) (zj (hj 12) (by decide +kernel)) (zj (hj 11) (by decide +kernel))
noncomputable def b_X8_pitchUmbrellas_11 : zBl := fun jp K => oIld 6 <| oAld 0 <| oGetR 8 8 <| oAld 0 <| oGetR 8 10 <| oIld 7 <| oXald 10 <| oXald 10 <| oB2 zior <| oIst 6 <| oInc 7 2147483649 <| jp 10
theorem s_X8_pitchUmbrellas_11 (d : Nat) : zPb l G gh (d + 7) n_X8_pitchUmbrellas p_X8_pitchUmbrellas 94 b_X8_pitchUmbrellas_11 := fun K jp hj =>
    z_iload (i := 6) (zd (i := .iload 6) (n := 2) (by decide +kernel)) <|
    z_aload_n (n := 0) (i := 0) (zd (i := .aload_n 0) (n := 1) (by decide +kernel)) rfl <|
    z_getR (ci := 8) (j := 8) (idx := 55) (zd (i := .getfield 55) (n := 3) (by decide +kernel)) (by decide +kernel) (by decide +kernel) rfl g460 <|
    z_aload_n (n := 0) (i := 0) (zd (i := .aload_n 0) (n := 1) (by decide +kernel)) rfl <|
    z_getR (ci := 8) (j := 10) (idx := 62) (zd (i := .getfield 62) (n := 3) (by decide +kernel)) (by decide +kernel) (by decide +kernel) rfl g462 <|
    z_iload (i := 7) (zd (i := .iload 7) (n := 2) (by decide +kernel)) <|
    z_iald (zd (i := .iaload) (n := 1) (by decide +kernel)) <|
    z_iald (zd (i := .iaload) (n := 1) (by decide +kernel)) <|
    z_ior (zd (i := .ior) (n := 1) (by decide +kernel)) <|
    z_istore (i := 6) (zd (i := .istore 6) (n := 2) (by decide +kernel)) (by decide +kernel) <|
    z_iinc (i := 7) (n := 1) (zd (i := .iinc 7 (1)) (n := 3) (by decide +kernel)) (by decide +kernel) (by decide +kernel) <|
    z_goto (off := -26) (tgt := 88) (zd (i := .goto (-26)) (n := 3) (by decide +kernel)) (by decide +kernel) (zj (hj 10) (by decide +kernel))
noncomputable def b_X8_pitchUmbrellas_12 : zBl := fun jp K => oIld 6 <| oCs 1 f_J6_bitCount_0f7a4 <| oIld 3 <| oIc zle zgt (jp 14) (jp 13)
theorem s_X8_pitchUmbrellas_12 (d : Nat) : zPb l G gh (d + 7) n_X8_pitchUmbrellas p_X8_pitchUmbrellas 117 b_X8_pitchUmbrellas_12 := fun K jp hj =>
    z_iload (i := 6) (zd (i := .iload 6) (n := 2) (by decide +kernel)) <|
    z_callS (idx := 264) (N := n_J6_bitCount_0f7a4) (zd (i := .invokestatic 264) (n := 3) (by decide +kernel)) to_J6_bitCount_0f7a4 g970 g971 rfl rfl (c_J6_bitCount_0f7a4 (l := l) (G := G) (gh := gh) (d + 5)) <|
    z_iload_n (n := 3) (i := 3) (zd (i := .iload_n 3) (n := 1) (by decide +kernel)) rfl <|
    z_icmp_le (off := 23) (tgt := 146) (zd (i := .if_icmp .le (23)) (n := 3) (by decide +kernel)) (by decide +kernel) (zj (hj 14) (by decide +kernel)) (zj (hj 13) (by decide +kernel))
noncomputable def b_X8_pitchUmbrellas_13 : zBl := fun jp K => oIld 6 <| oCs 1 f_J6_bitCount_0f7a4 <| oIst 3 <| oAld 0 <| oGetR 8 10 <| oInt 2147483648 <| oAld 0 <| oGetR 8 11 <| oInt 2147483648 <| oIld 1 <| oCopy <| jp 14
theorem s_X8_pitchUmbrellas_13 (d : Nat) : zPb l G gh (d + 7) n_X8_pitchUmbrellas p_X8_pitchUmbrellas 126 b_X8_pitchUmbrellas_13 := fun K jp hj =>
    z_iload (i := 6) (zd (i := .iload 6) (n := 2) (by decide +kernel)) <|
    z_callS (idx := 264) (N := n_J6_bitCount_0f7a4) (zd (i := .invokestatic 264) (n := 3) (by decide +kernel)) to_J6_bitCount_0f7a4 g970 g971 rfl rfl (c_J6_bitCount_0f7a4 (l := l) (G := G) (gh := gh) (d + 5)) <|
    z_istore_n (n := 3) (i := 3) (zd (i := .istore_n 3) (n := 1) (by decide +kernel)) rfl (by decide +kernel) <|
    z_aload_n (n := 0) (i := 0) (zd (i := .aload_n 0) (n := 1) (by decide +kernel)) rfl <|
    z_getR (ci := 8) (j := 10) (idx := 62) (zd (i := .getfield 62) (n := 3) (by decide +kernel)) (by decide +kernel) (by decide +kernel) rfl g462 <|
    z_iconst (n := 0) (zd (i := .iconst (0)) (n := 1) (by decide +kernel)) (by decide +kernel) <|
    z_aload_n (n := 0) (i := 0) (zd (i := .aload_n 0) (n := 1) (by decide +kernel)) rfl <|
    z_getR (ci := 8) (j := 11) (idx := 65) (zd (i := .getfield 65) (n := 3) (by decide +kernel)) (by decide +kernel) (by decide +kernel) rfl g463 <|
    z_iconst (n := 0) (zd (i := .iconst (0)) (n := 1) (by decide +kernel)) (by decide +kernel) <|
    z_iload_n (n := 1) (i := 1) (zd (i := .iload_n 1) (n := 1) (by decide +kernel)) rfl <|
    z_copy (idx := 269) (zd (i := .invokestatic 269) (n := 3) (by decide +kernel)) g976 g846 g845 g113 <|
    (zj (hj 14) (by decide +kernel))
noncomputable def b_X8_pitchUmbrellas_14 : zBl := fun jp K => oAld 0 <| oIld 1 <| oCv 8 1 gs_X8_nextPitch <| oIst 4 <| oInc 5 2147483649 <| jp 7
theorem s_X8_pitchUmbrellas_14 (d : Nat) : zPb l G gh (d + 7) n_X8_pitchUmbrellas p_X8_pitchUmbrellas 146 b_X8_pitchUmbrellas_14 := fun K jp hj =>
    z_aload_n (n := 0) (i := 0) (zd (i := .aload_n 0) (n := 1) (by decide +kernel)) rfl <|
    z_iload_n (n := 1) (i := 1) (zd (i := .iload_n 1) (n := 1) (by decide +kernel)) rfl <|
    z_callV (idx := 275) (ci := 8) (N := n_X8_nextPitch) (zd (i := .invokevirtual 275) (n := 3) (by decide +kernel)) to_X8_nextPitch g977 g979 g34 (by decide +kernel) rfl rfl rfl (cs_X8_nextPitch (l := l) (G := G) (gh := gh) (d + 5)) <|
    z_istore (i := 4) (zd (i := .istore 4) (n := 2) (by decide +kernel)) (by decide +kernel) <|
    z_iinc (i := 5) (n := 1) (zd (i := .iinc 5 (1)) (n := 3) (by decide +kernel)) (by decide +kernel) (by decide +kernel) <|
    z_goto (off := -87) (tgt := 69) (zd (i := .goto (-87)) (n := 3) (by decide +kernel)) (by decide +kernel) (zj (hj 7) (by decide +kernel))
noncomputable def b_X8_pitchUmbrellas_15 : zBl := fun jp K => oIld 3 <| oIret K
theorem s_X8_pitchUmbrellas_15 (d : Nat) : zPb l G gh (d + 7) n_X8_pitchUmbrellas p_X8_pitchUmbrellas 159 b_X8_pitchUmbrellas_15 := fun K jp hj =>
    z_iload_n (n := 3) (i := 3) (zd (i := .iload_n 3) (n := 1) (by decide +kernel)) rfl <|
    z_iret (zd (i := .ireturn) (n := 1) (by decide +kernel)) rfl
noncomputable def t_X8_pitchUmbrellas : List zBl := [b_X8_pitchUmbrellas_0, b_X8_pitchUmbrellas_1, b_X8_pitchUmbrellas_2, b_X8_pitchUmbrellas_3, b_X8_pitchUmbrellas_4, b_X8_pitchUmbrellas_5, b_X8_pitchUmbrellas_6, b_X8_pitchUmbrellas_7, b_X8_pitchUmbrellas_8, b_X8_pitchUmbrellas_9, b_X8_pitchUmbrellas_10, b_X8_pitchUmbrellas_11, b_X8_pitchUmbrellas_12, b_X8_pitchUmbrellas_13, b_X8_pitchUmbrellas_14, b_X8_pitchUmbrellas_15]
theorem tt_X8_pitchUmbrellas (d : Nat) : zT (zPb l G gh (d + 7) n_X8_pitchUmbrellas p_X8_pitchUmbrellas) t_X8_pitchUmbrellas p_X8_pitchUmbrellas := ⟨s_X8_pitchUmbrellas_0 d, s_X8_pitchUmbrellas_1 d, s_X8_pitchUmbrellas_2 d, s_X8_pitchUmbrellas_3 d, s_X8_pitchUmbrellas_4 d, s_X8_pitchUmbrellas_5 d, s_X8_pitchUmbrellas_6 d, s_X8_pitchUmbrellas_7 d, s_X8_pitchUmbrellas_8 d, s_X8_pitchUmbrellas_9 d, s_X8_pitchUmbrellas_10 d, s_X8_pitchUmbrellas_11 d, s_X8_pitchUmbrellas_12 d, s_X8_pitchUmbrellas_13 d, s_X8_pitchUmbrellas_14 d, s_X8_pitchUmbrellas_15 d, trivial⟩
def q_X8_pitchUmbrellas_0 : List (Nat × Nat) := [(0, zk12), (21, zk22), (255, zk19), (257, zk137), (258, zk141), (259, zk8), (261, zk10), (262, zk10), (265, zk14), (266, zk33), (267, zk33), (268, zk34), (269, zk15), (270, zk19)]
noncomputable def al_X8_pitchUmbrellas_0 : zAq := [(some (.inl 9223372039002259519), [(0, zk12), (21, zk22), (255, zk21), (257, zk138), (258, zk142), (259, zk8), (261, zk10), (262, zk10), (265, zk14), (266, zk33), (267, zk33), (268, zk34), (269, zk16), (270, zk21)])]
def mq_X8_pitchUmbrellas_0_1 : List (Nat × Nat) := [(0, zk12), (21, zk22), (255, zk21), (257, zk137), (258, zk141), (259, zk8), (261, zk10), (262, zk10), (265, zk14), (266, zk33), (267, zk33), (268, zk34), (269, zk16), (270, zk21)]
def mq_X8_pitchUmbrellas_0_2 : List (Nat × Nat) := [(0, zk12), (21, zk22), (255, zk21), (257, zk138), (258, zk141), (259, zk8), (261, zk10), (262, zk10), (265, zk14), (266, zk33), (267, zk33), (268, zk34), (269, zk16), (270, zk21)]
def mq_X8_pitchUmbrellas_0_3 : List (Nat × Nat) := [(0, zk12), (21, zk22), (255, zk21), (257, zk138), (258, zk142), (259, zk8), (261, zk10), (262, zk10), (265, zk14), (266, zk33), (267, zk33), (268, zk34), (269, zk16), (270, zk21)]
def mq_X8_pitchUmbrellas_0_4 : List (Nat × Nat) := [(0, zk12), (21, zk22), (255, zk21), (257, zk138), (258, zk142), (259, zk8), (261, zk10), (262, zk10), (265, zk14), (266, zk33), (267, zk33), (268, zk34), (269, zk16), (270, zk21)]
noncomputable def fm_X8_pitchUmbrellas_0 : List zFm := [(0, [], (fun vs => [.inr (.ref 0), .inl 2147483649]), (fun vs => zP q_X8_pitchUmbrellas_0), (fun vs => Nat.sub (Nat.add 13692 0) 0)),
  (1, [(3, 2147483648, 2147483668)], (fun vs => [.inr (.ref 0), .inl 2147483649, .inl 9223372043297226851, .inl (zn 0 vs 0)]), (fun vs => zP mq_X8_pitchUmbrellas_0_1), (fun vs => Nat.sub (Nat.add 8589948282 0) (Nat.add 0 (Nat.mul 4 (zn 0 vs 0))))),
  (4, [(3, 2147483648, 2147483649)], (fun vs => [.inr (.ref 0), .inl 2147483649, .inl 9223372043297226851, .inl (zn 0 vs 0)]), (fun vs => zP mq_X8_pitchUmbrellas_0_2), (fun vs => Nat.sub (Nat.add 8589943718 0) (Nat.add 0 (Nat.mul 4 (zn 0 vs 0))))),
  (7, [(5, 2147483648, 2147484788)], (fun vs => [.inr (.ref 0), .inl 2147483649, .inl 9223372043297226851, .inl 9223372039002259519, .inl 9223372043297226753, .inl (zn 0 vs 0)]), (fun vs => zP mq_X8_pitchUmbrellas_0_3), (fun vs => Nat.sub (Nat.add 8589939154 0) (Nat.add 0 (Nat.mul 4 (zn 0 vs 0))))),
  (10, [(5, 2147483648, 2147484787), (7, 2147483648, 2147483649)], (fun vs => [.inr (.ref 0), .inl 2147483649, .inl 9223372043297226851, .inl 9223372039002259519, .inl 2147483649, .inl (zn 0 vs 0), .inl 8589934591, .inl (zn 0 vs 1)]), (fun vs => zP mq_X8_pitchUmbrellas_0_4), (fun vs => Nat.sub (Nat.add 10737422801 0) (Nat.add (Nat.add 0 (Nat.mul 4 (zn 0 vs 0))) (Nat.mul 1 (zn 0 vs 1)))))]
def bf_X8_pitchUmbrellas_0 : List Nat := [0, 2, 0, 0, 3, 0, 0, 4, 0, 0, 5]
theorem r_X8_pitchUmbrellas_0_0 : zbox [] (fun vs => zFrun (zpost (zAlq al_X8_pitchUmbrellas_0)) 1000 t_X8_pitchUmbrellas fm_X8_pitchUmbrellas_0 bf_X8_pitchUmbrellas_0 (0, vs)) = true := by decide +kernel
theorem r_X8_pitchUmbrellas_0_1 : zbox [(3, 2147483648, 2147483668)] (fun vs => zFrun (zpost (zAlq al_X8_pitchUmbrellas_0)) 1000 t_X8_pitchUmbrellas fm_X8_pitchUmbrellas_0 bf_X8_pitchUmbrellas_0 (1, vs)) = true := by decide +kernel
theorem r_X8_pitchUmbrellas_0_2 : zbox [(3, 2147483648, 2147483649)] (fun vs => zFrun (zpost (zAlq al_X8_pitchUmbrellas_0)) 1000 t_X8_pitchUmbrellas fm_X8_pitchUmbrellas_0 bf_X8_pitchUmbrellas_0 (2, vs)) = true := by decide +kernel
theorem r_X8_pitchUmbrellas_0_3 : zbox [(5, 2147483648, 2147484788)] (fun vs => zFrun (zpost (zAlq al_X8_pitchUmbrellas_0)) 1000 t_X8_pitchUmbrellas fm_X8_pitchUmbrellas_0 bf_X8_pitchUmbrellas_0 (3, vs)) = true := by decide +kernel
theorem r_X8_pitchUmbrellas_0_4 : zbox [(5, 2147483648, 2147484787), (7, 2147483648, 2147483649)] (fun vs => zFrun (zpost (zAlq al_X8_pitchUmbrellas_0)) 1000 t_X8_pitchUmbrellas fm_X8_pitchUmbrellas_0 bf_X8_pitchUmbrellas_0 (4, vs)) = true := by decide +kernel
set_option maxRecDepth 100000 in
theorem x_X8_pitchUmbrellas_0 (d : Nat) : zS l G gh (d + 7) (zpost (zAlq al_X8_pitchUmbrellas_0)) n_X8_pitchUmbrellas (zn 0 p_X8_pitchUmbrellas 0) (zwc (0, [.inr (.ref 0), .inl 2147483649], zP q_X8_pitchUmbrellas_0) 0) := zentry (tt_X8_pitchUmbrellas d) fm_X8_pitchUmbrellas_0 bf_X8_pitchUmbrellas_0 1000 (by decide +kernel) rfl ⟨Nat.zero_lt_succ _, trivial⟩ (fun f hf => match f, hf with
  | 0, _ => fun vs hv => (zbox_t r_X8_pitchUmbrellas_0_0) vs hv
  | 1, _ => fun vs hv => (zbox_t r_X8_pitchUmbrellas_0_1) vs hv
  | 2, _ => fun vs hv => (zbox_t r_X8_pitchUmbrellas_0_2) vs hv
  | 3, _ => fun vs hv => (zbox_t r_X8_pitchUmbrellas_0_3) vs hv
  | 4, _ => fun vs hv => (zbox_t r_X8_pitchUmbrellas_0_4) vs hv
  | f + 5, h => absurd (show f + 5 < 5 from h) (Nat.not_lt.mpr (Nat.le_add_left 5 f)))
noncomputable def gs_X8_pitchUmbrellas_0 : zMt := zgq false [] 8 [.inr (.ref 0), .inl 2147483649] q_X8_pitchUmbrellas_0 al_X8_pitchUmbrellas_0
set_option maxRecDepth 100000 in
theorem cs_X8_pitchUmbrellas_0 (d : Nat) : zC l G gh (d + 7) n_X8_pitchUmbrellas gs_X8_pitchUmbrellas_0 := zgq_ok0 (pcs := p_X8_pitchUmbrellas) (by decide) rfl rfl (fun a ha => by simp only [al_X8_pitchUmbrellas_0, List.mem_cons, List.not_mem_nil, or_false] at ha; rcases ha with rfl <;> decide +kernel) (fun gh => x_X8_pitchUmbrellas_0 d) (by decide +kernel)
def q_X8_pitchUmbrellas_1 : List (Nat × Nat) := [(0, zk12), (21, zk22), (255, zk19), (257, zk137), (258, zk141), (259, zk8), (261, zk10), (262, zk10), (265, zk14), (266, zk33), (267, zk33), (268, zk34), (269, zk15), (270, zk19)]
noncomputable def al_X8_pitchUmbrellas_1 : zAq := [(some (.inl 9223372039002259519), [(0, zk12), (21, zk22), (255, zk21), (257, zk138), (258, zk142), (259, zk8), (261, zk10), (262, zk10), (265, zk14), (266, zk33), (267, zk33), (268, zk34), (269, zk16), (270, zk21)])]
def mq_X8_pitchUmbrellas_1_1 : List (Nat × Nat) := [(0, zk12), (21, zk22), (255, zk21), (257, zk137), (258, zk141), (259, zk8), (261, zk10), (262, zk10), (265, zk14), (266, zk33), (267, zk33), (268, zk34), (269, zk16), (270, zk21)]
def mq_X8_pitchUmbrellas_1_2 : List (Nat × Nat) := [(0, zk12), (21, zk22), (255, zk21), (257, zk138), (258, zk141), (259, zk8), (261, zk10), (262, zk10), (265, zk14), (266, zk33), (267, zk33), (268, zk34), (269, zk16), (270, zk21)]
def mq_X8_pitchUmbrellas_1_3 : List (Nat × Nat) := [(0, zk12), (21, zk22), (255, zk21), (257, zk138), (258, zk142), (259, zk8), (261, zk10), (262, zk10), (265, zk14), (266, zk33), (267, zk33), (268, zk34), (269, zk16), (270, zk21)]
def mq_X8_pitchUmbrellas_1_4 : List (Nat × Nat) := [(0, zk12), (21, zk22), (255, zk21), (257, zk138), (258, zk142), (259, zk8), (261, zk10), (262, zk10), (265, zk14), (266, zk33), (267, zk33), (268, zk34), (269, zk16), (270, zk21)]
noncomputable def fm_X8_pitchUmbrellas_1 : List zFm := [(0, [], (fun vs => [.inr (.ref 0), .inl 2147483650]), (fun vs => zP q_X8_pitchUmbrellas_1), (fun vs => Nat.sub (Nat.add 20538 0) 0)),
  (1, [(3, 2147483648, 2147483668)], (fun vs => [.inr (.ref 0), .inl 2147483650, .inl 9223372043297226851, .inl (zn 0 vs 0)]), (fun vs => zP mq_X8_pitchUmbrellas_1_1), (fun vs => Nat.sub (Nat.add 12884922423 0) (Nat.add 0 (Nat.mul 6 (zn 0 vs 0))))),
  (4, [(3, 2147483648, 2147483650)], (fun vs => [.inr (.ref 0), .inl 2147483650, .inl 9223372043297226851, .inl (zn 0 vs 0)]), (fun vs => zP mq_X8_pitchUmbrellas_1_2), (fun vs => Nat.sub (Nat.add 12884915577 0) (Nat.add 0 (Nat.mul 6 (zn 0 vs 0))))),
  (7, [(5, 2147483648, 2147484788)], (fun vs => [.inr (.ref 0), .inl 2147483650, .inl 9223372043297226851, .inl 9223372039002259519, .inl 9223372043297226753, .inl (zn 0 vs 0)]), (fun vs => zP mq_X8_pitchUmbrellas_1_3), (fun vs => Nat.sub (Nat.add 12884908731 0) (Nat.add 0 (Nat.mul 6 (zn 0 vs 0))))),
  (10, [(5, 2147483648, 2147484787), (7, 2147483648, 2147483650)], (fun vs => [.inr (.ref 0), .inl 2147483650, .inl 9223372043297226851, .inl 9223372039002259519, .inl 2147483649, .inl (zn 0 vs 0), .inl 8589934591, .inl (zn 0 vs 1)]), (fun vs => zP mq_X8_pitchUmbrellas_1_4), (fun vs => Nat.sub (Nat.add 15032392378 0) (Nat.add (Nat.add 0 (Nat.mul 6 (zn 0 vs 0))) (Nat.mul 1 (zn 0 vs 1)))))]
def bf_X8_pitchUmbrellas_1 : List Nat := [0, 2, 0, 0, 3, 0, 0, 4, 0, 0, 5]
theorem r_X8_pitchUmbrellas_1_0 : zbox [] (fun vs => zFrun (zpost (zAlq al_X8_pitchUmbrellas_1)) 1000 t_X8_pitchUmbrellas fm_X8_pitchUmbrellas_1 bf_X8_pitchUmbrellas_1 (0, vs)) = true := by decide +kernel
theorem r_X8_pitchUmbrellas_1_1 : zbox [(3, 2147483648, 2147483668)] (fun vs => zFrun (zpost (zAlq al_X8_pitchUmbrellas_1)) 1000 t_X8_pitchUmbrellas fm_X8_pitchUmbrellas_1 bf_X8_pitchUmbrellas_1 (1, vs)) = true := by decide +kernel
theorem r_X8_pitchUmbrellas_1_2 : zbox [(3, 2147483648, 2147483650)] (fun vs => zFrun (zpost (zAlq al_X8_pitchUmbrellas_1)) 1000 t_X8_pitchUmbrellas fm_X8_pitchUmbrellas_1 bf_X8_pitchUmbrellas_1 (2, vs)) = true := by decide +kernel
theorem r_X8_pitchUmbrellas_1_3 : zbox [(5, 2147483648, 2147484788)] (fun vs => zFrun (zpost (zAlq al_X8_pitchUmbrellas_1)) 1000 t_X8_pitchUmbrellas fm_X8_pitchUmbrellas_1 bf_X8_pitchUmbrellas_1 (3, vs)) = true := by decide +kernel
theorem r_X8_pitchUmbrellas_1_4 : zbox [(5, 2147483648, 2147484787), (7, 2147483648, 2147483650)] (fun vs => zFrun (zpost (zAlq al_X8_pitchUmbrellas_1)) 1000 t_X8_pitchUmbrellas fm_X8_pitchUmbrellas_1 bf_X8_pitchUmbrellas_1 (4, vs)) = true := by decide +kernel
set_option maxRecDepth 100000 in
theorem x_X8_pitchUmbrellas_1 (d : Nat) : zS l G gh (d + 7) (zpost (zAlq al_X8_pitchUmbrellas_1)) n_X8_pitchUmbrellas (zn 0 p_X8_pitchUmbrellas 0) (zwc (0, [.inr (.ref 0), .inl 2147483650], zP q_X8_pitchUmbrellas_1) 0) := zentry (tt_X8_pitchUmbrellas d) fm_X8_pitchUmbrellas_1 bf_X8_pitchUmbrellas_1 1000 (by decide +kernel) rfl ⟨Nat.zero_lt_succ _, trivial⟩ (fun f hf => match f, hf with
  | 0, _ => fun vs hv => (zbox_t r_X8_pitchUmbrellas_1_0) vs hv
  | 1, _ => fun vs hv => (zbox_t r_X8_pitchUmbrellas_1_1) vs hv
  | 2, _ => fun vs hv => (zbox_t r_X8_pitchUmbrellas_1_2) vs hv
  | 3, _ => fun vs hv => (zbox_t r_X8_pitchUmbrellas_1_3) vs hv
  | 4, _ => fun vs hv => (zbox_t r_X8_pitchUmbrellas_1_4) vs hv
  | f + 5, h => absurd (show f + 5 < 5 from h) (Nat.not_lt.mpr (Nat.le_add_left 5 f)))
noncomputable def gs_X8_pitchUmbrellas_1 : zMt := zgq false [] 8 [.inr (.ref 0), .inl 2147483650] q_X8_pitchUmbrellas_1 al_X8_pitchUmbrellas_1
set_option maxRecDepth 100000 in
theorem cs_X8_pitchUmbrellas_1 (d : Nat) : zC l G gh (d + 7) n_X8_pitchUmbrellas gs_X8_pitchUmbrellas_1 := zgq_ok0 (pcs := p_X8_pitchUmbrellas) (by decide) rfl rfl (fun a ha => by simp only [al_X8_pitchUmbrellas_1, List.mem_cons, List.not_mem_nil, or_false] at ha; rcases ha with rfl <;> decide +kernel) (fun gh => x_X8_pitchUmbrellas_1 d) (by decide +kernel)
def q_X8_pitchUmbrellas_2 : List (Nat × Nat) := [(0, zk12), (21, zk22), (255, zk19), (257, zk137), (258, zk141), (259, zk8), (261, zk10), (262, zk10), (265, zk14), (266, zk33), (267, zk33), (268, zk34), (269, zk15), (270, zk19)]
noncomputable def al_X8_pitchUmbrellas_2 : zAq := [(some (.inl 9223372039002259519), [(0, zk12), (21, zk22), (255, zk21), (257, zk138), (258, zk142), (259, zk8), (261, zk10), (262, zk10), (265, zk14), (266, zk33), (267, zk33), (268, zk34), (269, zk16), (270, zk21)])]
def mq_X8_pitchUmbrellas_2_1 : List (Nat × Nat) := [(0, zk12), (21, zk22), (255, zk21), (257, zk137), (258, zk141), (259, zk8), (261, zk10), (262, zk10), (265, zk14), (266, zk33), (267, zk33), (268, zk34), (269, zk16), (270, zk21)]
def mq_X8_pitchUmbrellas_2_2 : List (Nat × Nat) := [(0, zk12), (21, zk22), (255, zk21), (257, zk138), (258, zk141), (259, zk8), (261, zk10), (262, zk10), (265, zk14), (266, zk33), (267, zk33), (268, zk34), (269, zk16), (270, zk21)]
def mq_X8_pitchUmbrellas_2_3 : List (Nat × Nat) := [(0, zk12), (21, zk22), (255, zk21), (257, zk138), (258, zk142), (259, zk8), (261, zk10), (262, zk10), (265, zk14), (266, zk33), (267, zk33), (268, zk34), (269, zk16), (270, zk21)]
def mq_X8_pitchUmbrellas_2_4 : List (Nat × Nat) := [(0, zk12), (21, zk22), (255, zk21), (257, zk138), (258, zk142), (259, zk8), (261, zk10), (262, zk10), (265, zk14), (266, zk33), (267, zk33), (268, zk34), (269, zk16), (270, zk21)]
noncomputable def fm_X8_pitchUmbrellas_2 : List zFm := [(0, [], (fun vs => [.inr (.ref 0), .inl 2147483651]), (fun vs => zP q_X8_pitchUmbrellas_2), (fun vs => Nat.sub (Nat.add 27384 0) 0)),
  (1, [(3, 2147483648, 2147483668)], (fun vs => [.inr (.ref 0), .inl 2147483651, .inl 9223372043297226851, .inl (zn 0 vs 0)]), (fun vs => zP mq_X8_pitchUmbrellas_2_1), (fun vs => Nat.sub (Nat.add 17179896564 0) (Nat.add 0 (Nat.mul 8 (zn 0 vs 0))))),
  (4, [(3, 2147483648, 2147483651)], (fun vs => [.inr (.ref 0), .inl 2147483651, .inl 9223372043297226851, .inl (zn 0 vs 0)]), (fun vs => zP mq_X8_pitchUmbrellas_2_2), (fun vs => Nat.sub (Nat.add 17179887436 0) (Nat.add 0 (Nat.mul 8 (zn 0 vs 0))))),
  (7, [(5, 2147483648, 2147484788)], (fun vs => [.inr (.ref 0), .inl 2147483651, .inl 9223372043297226851, .inl 9223372039002259519, .inl 9223372043297226753, .inl (zn 0 vs 0)]), (fun vs => zP mq_X8_pitchUmbrellas_2_3), (fun vs => Nat.sub (Nat.add 17179878308 0) (Nat.add 0 (Nat.mul 8 (zn 0 vs 0))))),
  (10, [(5, 2147483648, 2147484787), (7, 2147483648, 2147483651)], (fun vs => [.inr (.ref 0), .inl 2147483651, .inl 9223372043297226851, .inl 9223372039002259519, .inl 2147483649, .inl (zn 0 vs 0), .inl 8589934591, .inl (zn 0 vs 1)]), (fun vs => zP mq_X8_pitchUmbrellas_2_4), (fun vs => Nat.sub (Nat.add 19327361955 0) (Nat.add (Nat.add 0 (Nat.mul 8 (zn 0 vs 0))) (Nat.mul 1 (zn 0 vs 1)))))]
def bf_X8_pitchUmbrellas_2 : List Nat := [0, 2, 0, 0, 3, 0, 0, 4, 0, 0, 5]
theorem r_X8_pitchUmbrellas_2_0 : zbox [] (fun vs => zFrun (zpost (zAlq al_X8_pitchUmbrellas_2)) 1000 t_X8_pitchUmbrellas fm_X8_pitchUmbrellas_2 bf_X8_pitchUmbrellas_2 (0, vs)) = true := by decide +kernel
theorem r_X8_pitchUmbrellas_2_1 : zbox [(3, 2147483648, 2147483668)] (fun vs => zFrun (zpost (zAlq al_X8_pitchUmbrellas_2)) 1000 t_X8_pitchUmbrellas fm_X8_pitchUmbrellas_2 bf_X8_pitchUmbrellas_2 (1, vs)) = true := by decide +kernel
theorem r_X8_pitchUmbrellas_2_2 : zbox [(3, 2147483648, 2147483651)] (fun vs => zFrun (zpost (zAlq al_X8_pitchUmbrellas_2)) 1000 t_X8_pitchUmbrellas fm_X8_pitchUmbrellas_2 bf_X8_pitchUmbrellas_2 (2, vs)) = true := by decide +kernel
theorem r_X8_pitchUmbrellas_2_3 : zbox [(5, 2147483648, 2147484788)] (fun vs => zFrun (zpost (zAlq al_X8_pitchUmbrellas_2)) 1000 t_X8_pitchUmbrellas fm_X8_pitchUmbrellas_2 bf_X8_pitchUmbrellas_2 (3, vs)) = true := by decide +kernel
theorem r_X8_pitchUmbrellas_2_4 : zbox [(5, 2147483648, 2147484787), (7, 2147483648, 2147483651)] (fun vs => zFrun (zpost (zAlq al_X8_pitchUmbrellas_2)) 1000 t_X8_pitchUmbrellas fm_X8_pitchUmbrellas_2 bf_X8_pitchUmbrellas_2 (4, vs)) = true := by decide +kernel
set_option maxRecDepth 100000 in
theorem x_X8_pitchUmbrellas_2 (d : Nat) : zS l G gh (d + 7) (zpost (zAlq al_X8_pitchUmbrellas_2)) n_X8_pitchUmbrellas (zn 0 p_X8_pitchUmbrellas 0) (zwc (0, [.inr (.ref 0), .inl 2147483651], zP q_X8_pitchUmbrellas_2) 0) := zentry (tt_X8_pitchUmbrellas d) fm_X8_pitchUmbrellas_2 bf_X8_pitchUmbrellas_2 1000 (by decide +kernel) rfl ⟨Nat.zero_lt_succ _, trivial⟩ (fun f hf => match f, hf with
  | 0, _ => fun vs hv => (zbox_t r_X8_pitchUmbrellas_2_0) vs hv
  | 1, _ => fun vs hv => (zbox_t r_X8_pitchUmbrellas_2_1) vs hv
  | 2, _ => fun vs hv => (zbox_t r_X8_pitchUmbrellas_2_2) vs hv
  | 3, _ => fun vs hv => (zbox_t r_X8_pitchUmbrellas_2_3) vs hv
  | 4, _ => fun vs hv => (zbox_t r_X8_pitchUmbrellas_2_4) vs hv
  | f + 5, h => absurd (show f + 5 < 5 from h) (Nat.not_lt.mpr (Nat.le_add_left 5 f)))
noncomputable def gs_X8_pitchUmbrellas_2 : zMt := zgq false [] 8 [.inr (.ref 0), .inl 2147483651] q_X8_pitchUmbrellas_2 al_X8_pitchUmbrellas_2
set_option maxRecDepth 100000 in
theorem cs_X8_pitchUmbrellas_2 (d : Nat) : zC l G gh (d + 7) n_X8_pitchUmbrellas gs_X8_pitchUmbrellas_2 := zgq_ok0 (pcs := p_X8_pitchUmbrellas) (by decide) rfl rfl (fun a ha => by simp only [al_X8_pitchUmbrellas_2, List.mem_cons, List.not_mem_nil, or_false] at ha; rcases ha with rfl <;> decide +kernel) (fun gh => x_X8_pitchUmbrellas_2 d) (by decide +kernel)
def q_X8_pitchUmbrellas_3 : List (Nat × Nat) := [(0, zk13), (9, zk6), (11, zk10), (12, zk10), (15, zk17), (16, zk33), (17, zk33), (18, zk34), (19, zk15), (20, zk19), (21, zk22), (255, zk19), (257, zk137), (258, zk141)]
noncomputable def al_X8_pitchUmbrellas_3 : zAq := [(some (.inl 9223372039002259519), [(0, zk13), (9, zk6), (11, zk10), (12, zk10), (15, zk17), (16, zk33), (17, zk33), (18, zk34), (19, zk16), (20, zk21), (21, zk22), (255, zk21), (257, zk138), (258, zk142)])]
def mq_X8_pitchUmbrellas_3_1 : List (Nat × Nat) := [(0, zk13), (9, zk6), (11, zk10), (12, zk10), (15, zk17), (16, zk33), (17, zk33), (18, zk34), (19, zk16), (20, zk21), (21, zk22), (255, zk21), (257, zk137), (258, zk141)]
def mq_X8_pitchUmbrellas_3_2 : List (Nat × Nat) := [(0, zk13), (9, zk6), (11, zk10), (12, zk10), (15, zk17), (16, zk33), (17, zk33), (18, zk34), (19, zk16), (20, zk21), (21, zk22), (255, zk21), (257, zk138), (258, zk141)]
def mq_X8_pitchUmbrellas_3_3 : List (Nat × Nat) := [(0, zk13), (9, zk6), (11, zk10), (12, zk10), (15, zk17), (16, zk33), (17, zk33), (18, zk34), (19, zk16), (20, zk21), (21, zk22), (255, zk21), (257, zk138), (258, zk142)]
def mq_X8_pitchUmbrellas_3_4 : List (Nat × Nat) := [(0, zk13), (9, zk6), (11, zk10), (12, zk10), (15, zk17), (16, zk33), (17, zk33), (18, zk34), (19, zk16), (20, zk21), (21, zk22), (255, zk21), (257, zk138), (258, zk142)]
noncomputable def fm_X8_pitchUmbrellas_3 : List zFm := [(0, [], (fun vs => [.inr (.ref 0), .inl 2147483649]), (fun vs => zP q_X8_pitchUmbrellas_3), (fun vs => Nat.sub (Nat.add 13692 0) 0)),
  (1, [(3, 2147483648, 2147483668)], (fun vs => [.inr (.ref 0), .inl 2147483649, .inl 9223372043297226851, .inl (zn 0 vs 0)]), (fun vs => zP mq_X8_pitchUmbrellas_3_1), (fun vs => Nat.sub (Nat.add 8589948282 0) (Nat.add 0 (Nat.mul 4 (zn 0 vs 0))))),
  (4, [(3, 2147483648, 2147483649)], (fun vs => [.inr (.ref 0), .inl 2147483649, .inl 9223372043297226851, .inl (zn 0 vs 0)]), (fun vs => zP mq_X8_pitchUmbrellas_3_2), (fun vs => Nat.sub (Nat.add 8589943718 0) (Nat.add 0 (Nat.mul 4 (zn 0 vs 0))))),
  (7, [(5, 2147483648, 2147484788)], (fun vs => [.inr (.ref 0), .inl 2147483649, .inl 9223372043297226851, .inl 9223372039002259519, .inl 9223372043297226753, .inl (zn 0 vs 0)]), (fun vs => zP mq_X8_pitchUmbrellas_3_3), (fun vs => Nat.sub (Nat.add 8589939154 0) (Nat.add 0 (Nat.mul 4 (zn 0 vs 0))))),
  (10, [(5, 2147483648, 2147484787), (7, 2147483648, 2147483649)], (fun vs => [.inr (.ref 0), .inl 2147483649, .inl 9223372043297226851, .inl 9223372039002259519, .inl 2147483649, .inl (zn 0 vs 0), .inl 8589934591, .inl (zn 0 vs 1)]), (fun vs => zP mq_X8_pitchUmbrellas_3_4), (fun vs => Nat.sub (Nat.add 10737422801 0) (Nat.add (Nat.add 0 (Nat.mul 4 (zn 0 vs 0))) (Nat.mul 1 (zn 0 vs 1)))))]
def bf_X8_pitchUmbrellas_3 : List Nat := [0, 2, 0, 0, 3, 0, 0, 4, 0, 0, 5]
theorem r_X8_pitchUmbrellas_3_0 : zbox [] (fun vs => zFrun (zpost (zAlq al_X8_pitchUmbrellas_3)) 1000 t_X8_pitchUmbrellas fm_X8_pitchUmbrellas_3 bf_X8_pitchUmbrellas_3 (0, vs)) = true := by decide +kernel
theorem r_X8_pitchUmbrellas_3_1 : zbox [(3, 2147483648, 2147483668)] (fun vs => zFrun (zpost (zAlq al_X8_pitchUmbrellas_3)) 1000 t_X8_pitchUmbrellas fm_X8_pitchUmbrellas_3 bf_X8_pitchUmbrellas_3 (1, vs)) = true := by decide +kernel
theorem r_X8_pitchUmbrellas_3_2 : zbox [(3, 2147483648, 2147483649)] (fun vs => zFrun (zpost (zAlq al_X8_pitchUmbrellas_3)) 1000 t_X8_pitchUmbrellas fm_X8_pitchUmbrellas_3 bf_X8_pitchUmbrellas_3 (2, vs)) = true := by decide +kernel
theorem r_X8_pitchUmbrellas_3_3 : zbox [(5, 2147483648, 2147484788)] (fun vs => zFrun (zpost (zAlq al_X8_pitchUmbrellas_3)) 1000 t_X8_pitchUmbrellas fm_X8_pitchUmbrellas_3 bf_X8_pitchUmbrellas_3 (3, vs)) = true := by decide +kernel
theorem r_X8_pitchUmbrellas_3_4 : zbox [(5, 2147483648, 2147484787), (7, 2147483648, 2147483649)] (fun vs => zFrun (zpost (zAlq al_X8_pitchUmbrellas_3)) 1000 t_X8_pitchUmbrellas fm_X8_pitchUmbrellas_3 bf_X8_pitchUmbrellas_3 (4, vs)) = true := by decide +kernel
set_option maxRecDepth 100000 in
theorem x_X8_pitchUmbrellas_3 (d : Nat) : zS l G gh (d + 7) (zpost (zAlq al_X8_pitchUmbrellas_3)) n_X8_pitchUmbrellas (zn 0 p_X8_pitchUmbrellas 0) (zwc (0, [.inr (.ref 0), .inl 2147483649], zP q_X8_pitchUmbrellas_3) 0) := zentry (tt_X8_pitchUmbrellas d) fm_X8_pitchUmbrellas_3 bf_X8_pitchUmbrellas_3 1000 (by decide +kernel) rfl ⟨Nat.zero_lt_succ _, trivial⟩ (fun f hf => match f, hf with
  | 0, _ => fun vs hv => (zbox_t r_X8_pitchUmbrellas_3_0) vs hv
  | 1, _ => fun vs hv => (zbox_t r_X8_pitchUmbrellas_3_1) vs hv
  | 2, _ => fun vs hv => (zbox_t r_X8_pitchUmbrellas_3_2) vs hv
  | 3, _ => fun vs hv => (zbox_t r_X8_pitchUmbrellas_3_3) vs hv
  | 4, _ => fun vs hv => (zbox_t r_X8_pitchUmbrellas_3_4) vs hv
  | f + 5, h => absurd (show f + 5 < 5 from h) (Nat.not_lt.mpr (Nat.le_add_left 5 f)))
noncomputable def gs_X8_pitchUmbrellas_3 : zMt := zgq false [] 8 [.inr (.ref 0), .inl 2147483649] q_X8_pitchUmbrellas_3 al_X8_pitchUmbrellas_3
set_option maxRecDepth 100000 in
theorem cs_X8_pitchUmbrellas_3 (d : Nat) : zC l G gh (d + 7) n_X8_pitchUmbrellas gs_X8_pitchUmbrellas_3 := zgq_ok0 (pcs := p_X8_pitchUmbrellas) (by decide) rfl rfl (fun a ha => by simp only [al_X8_pitchUmbrellas_3, List.mem_cons, List.not_mem_nil, or_false] at ha; rcases ha with rfl <;> decide +kernel) (fun gh => x_X8_pitchUmbrellas_3 d) (by decide +kernel)
def q_X8_pitchUmbrellas_4 : List (Nat × Nat) := [(0, zk13), (9, zk6), (11, zk10), (12, zk10), (15, zk17), (16, zk33), (17, zk33), (18, zk34), (19, zk15), (20, zk19), (21, zk22), (255, zk19), (257, zk137), (258, zk141)]
noncomputable def al_X8_pitchUmbrellas_4 : zAq := [(some (.inl 9223372039002259519), [(0, zk13), (9, zk6), (11, zk10), (12, zk10), (15, zk17), (16, zk33), (17, zk33), (18, zk34), (19, zk16), (20, zk21), (21, zk22), (255, zk21), (257, zk138), (258, zk142)])]
def mq_X8_pitchUmbrellas_4_1 : List (Nat × Nat) := [(0, zk13), (9, zk6), (11, zk10), (12, zk10), (15, zk17), (16, zk33), (17, zk33), (18, zk34), (19, zk16), (20, zk21), (21, zk22), (255, zk21), (257, zk137), (258, zk141)]
def mq_X8_pitchUmbrellas_4_2 : List (Nat × Nat) := [(0, zk13), (9, zk6), (11, zk10), (12, zk10), (15, zk17), (16, zk33), (17, zk33), (18, zk34), (19, zk16), (20, zk21), (21, zk22), (255, zk21), (257, zk138), (258, zk141)]
def mq_X8_pitchUmbrellas_4_3 : List (Nat × Nat) := [(0, zk13), (9, zk6), (11, zk10), (12, zk10), (15, zk17), (16, zk33), (17, zk33), (18, zk34), (19, zk16), (20, zk21), (21, zk22), (255, zk21), (257, zk138), (258, zk142)]
def mq_X8_pitchUmbrellas_4_4 : List (Nat × Nat) := [(0, zk13), (9, zk6), (11, zk10), (12, zk10), (15, zk17), (16, zk33), (17, zk33), (18, zk34), (19, zk16), (20, zk21), (21, zk22), (255, zk21), (257, zk138), (258, zk142)]
noncomputable def fm_X8_pitchUmbrellas_4 : List zFm := [(0, [], (fun vs => [.inr (.ref 0), .inl 2147483650]), (fun vs => zP q_X8_pitchUmbrellas_4), (fun vs => Nat.sub (Nat.add 20538 0) 0)),
  (1, [(3, 2147483648, 2147483668)], (fun vs => [.inr (.ref 0), .inl 2147483650, .inl 9223372043297226851, .inl (zn 0 vs 0)]), (fun vs => zP mq_X8_pitchUmbrellas_4_1), (fun vs => Nat.sub (Nat.add 12884922423 0) (Nat.add 0 (Nat.mul 6 (zn 0 vs 0))))),
  (4, [(3, 2147483648, 2147483650)], (fun vs => [.inr (.ref 0), .inl 2147483650, .inl 9223372043297226851, .inl (zn 0 vs 0)]), (fun vs => zP mq_X8_pitchUmbrellas_4_2), (fun vs => Nat.sub (Nat.add 12884915577 0) (Nat.add 0 (Nat.mul 6 (zn 0 vs 0))))),
  (7, [(5, 2147483648, 2147484788)], (fun vs => [.inr (.ref 0), .inl 2147483650, .inl 9223372043297226851, .inl 9223372039002259519, .inl 9223372043297226753, .inl (zn 0 vs 0)]), (fun vs => zP mq_X8_pitchUmbrellas_4_3), (fun vs => Nat.sub (Nat.add 12884908731 0) (Nat.add 0 (Nat.mul 6 (zn 0 vs 0))))),
  (10, [(5, 2147483648, 2147484787), (7, 2147483648, 2147483650)], (fun vs => [.inr (.ref 0), .inl 2147483650, .inl 9223372043297226851, .inl 9223372039002259519, .inl 2147483649, .inl (zn 0 vs 0), .inl 8589934591, .inl (zn 0 vs 1)]), (fun vs => zP mq_X8_pitchUmbrellas_4_4), (fun vs => Nat.sub (Nat.add 15032392378 0) (Nat.add (Nat.add 0 (Nat.mul 6 (zn 0 vs 0))) (Nat.mul 1 (zn 0 vs 1)))))]
def bf_X8_pitchUmbrellas_4 : List Nat := [0, 2, 0, 0, 3, 0, 0, 4, 0, 0, 5]
theorem r_X8_pitchUmbrellas_4_0 : zbox [] (fun vs => zFrun (zpost (zAlq al_X8_pitchUmbrellas_4)) 1000 t_X8_pitchUmbrellas fm_X8_pitchUmbrellas_4 bf_X8_pitchUmbrellas_4 (0, vs)) = true := by decide +kernel
theorem r_X8_pitchUmbrellas_4_1 : zbox [(3, 2147483648, 2147483668)] (fun vs => zFrun (zpost (zAlq al_X8_pitchUmbrellas_4)) 1000 t_X8_pitchUmbrellas fm_X8_pitchUmbrellas_4 bf_X8_pitchUmbrellas_4 (1, vs)) = true := by decide +kernel
theorem r_X8_pitchUmbrellas_4_2 : zbox [(3, 2147483648, 2147483650)] (fun vs => zFrun (zpost (zAlq al_X8_pitchUmbrellas_4)) 1000 t_X8_pitchUmbrellas fm_X8_pitchUmbrellas_4 bf_X8_pitchUmbrellas_4 (2, vs)) = true := by decide +kernel
theorem r_X8_pitchUmbrellas_4_3 : zbox [(5, 2147483648, 2147484788)] (fun vs => zFrun (zpost (zAlq al_X8_pitchUmbrellas_4)) 1000 t_X8_pitchUmbrellas fm_X8_pitchUmbrellas_4 bf_X8_pitchUmbrellas_4 (3, vs)) = true := by decide +kernel
theorem r_X8_pitchUmbrellas_4_4 : zbox [(5, 2147483648, 2147484787), (7, 2147483648, 2147483650)] (fun vs => zFrun (zpost (zAlq al_X8_pitchUmbrellas_4)) 1000 t_X8_pitchUmbrellas fm_X8_pitchUmbrellas_4 bf_X8_pitchUmbrellas_4 (4, vs)) = true := by decide +kernel
set_option maxRecDepth 100000 in
theorem x_X8_pitchUmbrellas_4 (d : Nat) : zS l G gh (d + 7) (zpost (zAlq al_X8_pitchUmbrellas_4)) n_X8_pitchUmbrellas (zn 0 p_X8_pitchUmbrellas 0) (zwc (0, [.inr (.ref 0), .inl 2147483650], zP q_X8_pitchUmbrellas_4) 0) := zentry (tt_X8_pitchUmbrellas d) fm_X8_pitchUmbrellas_4 bf_X8_pitchUmbrellas_4 1000 (by decide +kernel) rfl ⟨Nat.zero_lt_succ _, trivial⟩ (fun f hf => match f, hf with
  | 0, _ => fun vs hv => (zbox_t r_X8_pitchUmbrellas_4_0) vs hv
  | 1, _ => fun vs hv => (zbox_t r_X8_pitchUmbrellas_4_1) vs hv
  | 2, _ => fun vs hv => (zbox_t r_X8_pitchUmbrellas_4_2) vs hv
  | 3, _ => fun vs hv => (zbox_t r_X8_pitchUmbrellas_4_3) vs hv
  | 4, _ => fun vs hv => (zbox_t r_X8_pitchUmbrellas_4_4) vs hv
  | f + 5, h => absurd (show f + 5 < 5 from h) (Nat.not_lt.mpr (Nat.le_add_left 5 f)))
noncomputable def gs_X8_pitchUmbrellas_4 : zMt := zgq false [] 8 [.inr (.ref 0), .inl 2147483650] q_X8_pitchUmbrellas_4 al_X8_pitchUmbrellas_4
set_option maxRecDepth 100000 in
theorem cs_X8_pitchUmbrellas_4 (d : Nat) : zC l G gh (d + 7) n_X8_pitchUmbrellas gs_X8_pitchUmbrellas_4 := zgq_ok0 (pcs := p_X8_pitchUmbrellas) (by decide) rfl rfl (fun a ha => by simp only [al_X8_pitchUmbrellas_4, List.mem_cons, List.not_mem_nil, or_false] at ha; rcases ha with rfl <;> decide +kernel) (fun gh => x_X8_pitchUmbrellas_4 d) (by decide +kernel)
def q_X8_pitchUmbrellas_5 : List (Nat × Nat) := [(0, zk13), (9, zk6), (11, zk10), (12, zk10), (15, zk17), (16, zk33), (17, zk33), (18, zk34), (19, zk15), (20, zk19), (21, zk22), (255, zk19), (257, zk137), (258, zk141)]
noncomputable def al_X8_pitchUmbrellas_5 : zAq := [(some (.inl 9223372039002259519), [(0, zk13), (9, zk6), (11, zk10), (12, zk10), (15, zk17), (16, zk33), (17, zk33), (18, zk34), (19, zk16), (20, zk21), (21, zk22), (255, zk21), (257, zk138), (258, zk142)])]
def mq_X8_pitchUmbrellas_5_1 : List (Nat × Nat) := [(0, zk13), (9, zk6), (11, zk10), (12, zk10), (15, zk17), (16, zk33), (17, zk33), (18, zk34), (19, zk16), (20, zk21), (21, zk22), (255, zk21), (257, zk137), (258, zk141)]
def mq_X8_pitchUmbrellas_5_2 : List (Nat × Nat) := [(0, zk13), (9, zk6), (11, zk10), (12, zk10), (15, zk17), (16, zk33), (17, zk33), (18, zk34), (19, zk16), (20, zk21), (21, zk22), (255, zk21), (257, zk138), (258, zk141)]
def mq_X8_pitchUmbrellas_5_3 : List (Nat × Nat) := [(0, zk13), (9, zk6), (11, zk10), (12, zk10), (15, zk17), (16, zk33), (17, zk33), (18, zk34), (19, zk16), (20, zk21), (21, zk22), (255, zk21), (257, zk138), (258, zk142)]
def mq_X8_pitchUmbrellas_5_4 : List (Nat × Nat) := [(0, zk13), (9, zk6), (11, zk10), (12, zk10), (15, zk17), (16, zk33), (17, zk33), (18, zk34), (19, zk16), (20, zk21), (21, zk22), (255, zk21), (257, zk138), (258, zk142)]
noncomputable def fm_X8_pitchUmbrellas_5 : List zFm := [(0, [], (fun vs => [.inr (.ref 0), .inl 2147483651]), (fun vs => zP q_X8_pitchUmbrellas_5), (fun vs => Nat.sub (Nat.add 27384 0) 0)),
  (1, [(3, 2147483648, 2147483668)], (fun vs => [.inr (.ref 0), .inl 2147483651, .inl 9223372043297226851, .inl (zn 0 vs 0)]), (fun vs => zP mq_X8_pitchUmbrellas_5_1), (fun vs => Nat.sub (Nat.add 17179896564 0) (Nat.add 0 (Nat.mul 8 (zn 0 vs 0))))),
  (4, [(3, 2147483648, 2147483651)], (fun vs => [.inr (.ref 0), .inl 2147483651, .inl 9223372043297226851, .inl (zn 0 vs 0)]), (fun vs => zP mq_X8_pitchUmbrellas_5_2), (fun vs => Nat.sub (Nat.add 17179887436 0) (Nat.add 0 (Nat.mul 8 (zn 0 vs 0))))),
  (7, [(5, 2147483648, 2147484788)], (fun vs => [.inr (.ref 0), .inl 2147483651, .inl 9223372043297226851, .inl 9223372039002259519, .inl 9223372043297226753, .inl (zn 0 vs 0)]), (fun vs => zP mq_X8_pitchUmbrellas_5_3), (fun vs => Nat.sub (Nat.add 17179878308 0) (Nat.add 0 (Nat.mul 8 (zn 0 vs 0))))),
  (10, [(5, 2147483648, 2147484787), (7, 2147483648, 2147483651)], (fun vs => [.inr (.ref 0), .inl 2147483651, .inl 9223372043297226851, .inl 9223372039002259519, .inl 2147483649, .inl (zn 0 vs 0), .inl 8589934591, .inl (zn 0 vs 1)]), (fun vs => zP mq_X8_pitchUmbrellas_5_4), (fun vs => Nat.sub (Nat.add 19327361955 0) (Nat.add (Nat.add 0 (Nat.mul 8 (zn 0 vs 0))) (Nat.mul 1 (zn 0 vs 1)))))]
def bf_X8_pitchUmbrellas_5 : List Nat := [0, 2, 0, 0, 3, 0, 0, 4, 0, 0, 5]
theorem r_X8_pitchUmbrellas_5_0 : zbox [] (fun vs => zFrun (zpost (zAlq al_X8_pitchUmbrellas_5)) 1000 t_X8_pitchUmbrellas fm_X8_pitchUmbrellas_5 bf_X8_pitchUmbrellas_5 (0, vs)) = true := by decide +kernel
theorem r_X8_pitchUmbrellas_5_1 : zbox [(3, 2147483648, 2147483668)] (fun vs => zFrun (zpost (zAlq al_X8_pitchUmbrellas_5)) 1000 t_X8_pitchUmbrellas fm_X8_pitchUmbrellas_5 bf_X8_pitchUmbrellas_5 (1, vs)) = true := by decide +kernel
theorem r_X8_pitchUmbrellas_5_2 : zbox [(3, 2147483648, 2147483651)] (fun vs => zFrun (zpost (zAlq al_X8_pitchUmbrellas_5)) 1000 t_X8_pitchUmbrellas fm_X8_pitchUmbrellas_5 bf_X8_pitchUmbrellas_5 (2, vs)) = true := by decide +kernel
theorem r_X8_pitchUmbrellas_5_3 : zbox [(5, 2147483648, 2147484788)] (fun vs => zFrun (zpost (zAlq al_X8_pitchUmbrellas_5)) 1000 t_X8_pitchUmbrellas fm_X8_pitchUmbrellas_5 bf_X8_pitchUmbrellas_5 (3, vs)) = true := by decide +kernel
theorem r_X8_pitchUmbrellas_5_4 : zbox [(5, 2147483648, 2147484787), (7, 2147483648, 2147483651)] (fun vs => zFrun (zpost (zAlq al_X8_pitchUmbrellas_5)) 1000 t_X8_pitchUmbrellas fm_X8_pitchUmbrellas_5 bf_X8_pitchUmbrellas_5 (4, vs)) = true := by decide +kernel
set_option maxRecDepth 100000 in
theorem x_X8_pitchUmbrellas_5 (d : Nat) : zS l G gh (d + 7) (zpost (zAlq al_X8_pitchUmbrellas_5)) n_X8_pitchUmbrellas (zn 0 p_X8_pitchUmbrellas 0) (zwc (0, [.inr (.ref 0), .inl 2147483651], zP q_X8_pitchUmbrellas_5) 0) := zentry (tt_X8_pitchUmbrellas d) fm_X8_pitchUmbrellas_5 bf_X8_pitchUmbrellas_5 1000 (by decide +kernel) rfl ⟨Nat.zero_lt_succ _, trivial⟩ (fun f hf => match f, hf with
  | 0, _ => fun vs hv => (zbox_t r_X8_pitchUmbrellas_5_0) vs hv
  | 1, _ => fun vs hv => (zbox_t r_X8_pitchUmbrellas_5_1) vs hv
  | 2, _ => fun vs hv => (zbox_t r_X8_pitchUmbrellas_5_2) vs hv
  | 3, _ => fun vs hv => (zbox_t r_X8_pitchUmbrellas_5_3) vs hv
  | 4, _ => fun vs hv => (zbox_t r_X8_pitchUmbrellas_5_4) vs hv
  | f + 5, h => absurd (show f + 5 < 5 from h) (Nat.not_lt.mpr (Nat.le_add_left 5 f)))
noncomputable def gs_X8_pitchUmbrellas_5 : zMt := zgq false [] 8 [.inr (.ref 0), .inl 2147483651] q_X8_pitchUmbrellas_5 al_X8_pitchUmbrellas_5
set_option maxRecDepth 100000 in
theorem cs_X8_pitchUmbrellas_5 (d : Nat) : zC l G gh (d + 7) n_X8_pitchUmbrellas gs_X8_pitchUmbrellas_5 := zgq_ok0 (pcs := p_X8_pitchUmbrellas) (by decide) rfl rfl (fun a ha => by simp only [al_X8_pitchUmbrellas_5, List.mem_cons, List.not_mem_nil, or_false] at ha; rcases ha with rfl <;> decide +kernel) (fun gh => x_X8_pitchUmbrellas_5 d) (by decide +kernel)
noncomputable def gs_X8_pitchUmbrellas : zMt := (zor gs_X8_pitchUmbrellas_0 (zor gs_X8_pitchUmbrellas_1 (zor gs_X8_pitchUmbrellas_2 (zor gs_X8_pitchUmbrellas_3 (zor gs_X8_pitchUmbrellas_4 gs_X8_pitchUmbrellas_5)))))
theorem cs_X8_pitchUmbrellas (d : Nat) : zC l G gh (d + 7) n_X8_pitchUmbrellas gs_X8_pitchUmbrellas := (zor_ok (cs_X8_pitchUmbrellas_0 d) (zor_ok (cs_X8_pitchUmbrellas_1 d) (zor_ok (cs_X8_pitchUmbrellas_2 d) (zor_ok (cs_X8_pitchUmbrellas_3 d) (zor_ok (cs_X8_pitchUmbrellas_4 d) (cs_X8_pitchUmbrellas_5 d))))))
end
