section
variable {l : Launch} {G : qG} {gh : zGh}
def p_X9_bits : List Nat := [0, 4, 10, 24]
noncomputable def b_X9_bits_0 : zBl := fun jp K => oInt 2147483648 <| oIst 1 <| oInt 2147483648 <| oIst 2 <| jp 1
theorem s_X9_bits_0 (d : Nat) : zPb l G gh (d + 1) n_X9_bits p_X9_bits 0 b_X9_bits_0 := fun K jp hj =>
    z_iconst (n := 0) (zd (i := .iconst (0)) (n := 1) (by decide +kernel)) (by decide +kernel) <|
    z_istore_n (n := 1) (i := 1) (zd (i := .istore_n 1) (n := 1) (by decide +kernel)) rfl (by decide +kernel) <|
    z_iconst (n := 0) (zd (i := .iconst (0)) (n := 1) (by decide +kernel)) (by decide +kernel) <|
    z_istore_n (n := 2) (i := 2) (zd (i := .istore_n 2) (n := 1) (by decide +kernel)) rfl (by decide +kernel) <|
    (zj (hj 1) (by decide +kernel))
noncomputable def b_X9_bits_1 : zBl := fun jp K => oNLC 2 2147483654 zgeN zltN zn1_ge zn1_lt (jp 3) (jp 2)
theorem s_X9_bits_1 (d : Nat) : zPb l G gh (d + 1) n_X9_bits p_X9_bits 4 b_X9_bits_1 := fun K jp hj =>
    z_nLC_ge (i := 2) (c0 := 2147483654) (a1 := 1) (a2 := 2) (off := 17) (tgt := 24) (zLd_n (n := 2) (i := 2) (zd (i := .iload_n 2) (n := 1) (by decide +kernel)) rfl) (zCn_b (n := 6) (zd (i := .bipush (6)) (n := 2) (by decide +kernel)) (by decide +kernel)) (zd (i := .if_icmp .ge (17)) (n := 3) (by decide +kernel)) (by decide +kernel) (zj (hj 3) (by decide +kernel)) (zj (hj 2) (by decide +kernel))
noncomputable def b_X9_bits_2 : zBl := fun jp K => oIld 1 <| oIld 0 <| oIld 2 <| oB2 zishr <| oInt 2147483649 <| oB2 ziand <| oB2 zadd <| oIst 1 <| oInc 2 2147483649 <| jp 1
theorem s_X9_bits_2 (d : Nat) : zPb l G gh (d + 1) n_X9_bits p_X9_bits 10 b_X9_bits_2 := fun K jp hj =>
    z_iload_n (n := 1) (i := 1) (zd (i := .iload_n 1) (n := 1) (by decide +kernel)) rfl <|
    z_iload_n (n := 0) (i := 0) (zd (i := .iload_n 0) (n := 1) (by decide +kernel)) rfl <|
    z_iload_n (n := 2) (i := 2) (zd (i := .iload_n 2) (n := 1) (by decide +kernel)) rfl <|
    z_ishr (zd (i := .ishr) (n := 1) (by decide +kernel)) <|
    z_iconst (n := 1) (zd (i := .iconst (1)) (n := 1) (by decide +kernel)) (by decide +kernel) <|
    z_iand (zd (i := .iand) (n := 1) (by decide +kernel)) <|
    z_iadd (zd (i := .iadd) (n := 1) (by decide +kernel)) <|
    z_istore_n (n := 1) (i := 1) (zd (i := .istore_n 1) (n := 1) (by decide +kernel)) rfl (by decide +kernel) <|
    z_iinc (i := 2) (n := 1) (zd (i := .iinc 2 (1)) (n := 3) (by decide +kernel)) (by decide +kernel) (by decide +kernel) <|
    z_goto (off := -17) (tgt := 4) (zd (i := .goto (-17)) (n := 3) (by decide +kernel)) (by decide +kernel) (zj (hj 1) (by decide +kernel))
noncomputable def b_X9_bits_3 : zBl := fun jp K => oIld 1 <| oIret K
theorem s_X9_bits_3 (d : Nat) : zPb l G gh (d + 1) n_X9_bits p_X9_bits 24 b_X9_bits_3 := fun K jp hj =>
    z_iload_n (n := 1) (i := 1) (zd (i := .iload_n 1) (n := 1) (by decide +kernel)) rfl <|
    z_iret (zd (i := .ireturn) (n := 1) (by decide +kernel)) rfl
noncomputable def t_X9_bits : List zBl := [b_X9_bits_0, b_X9_bits_1, b_X9_bits_2, b_X9_bits_3]
theorem tt_X9_bits (d : Nat) : zT (zPb l G gh (d + 1) n_X9_bits p_X9_bits) t_X9_bits p_X9_bits := ⟨s_X9_bits_0 d, s_X9_bits_1 d, s_X9_bits_2 d, s_X9_bits_3 d, trivial⟩
noncomputable def f_X9_bits : zMt := zmet 3 t_X9_bits
theorem c_X9_bits (d : Nat) : zC l G gh (d + 1) n_X9_bits f_X9_bits := zmet_ok (pcs := p_X9_bits) (by decide) rfl rfl (tt_X9_bits d)
def p_J6_bitCount_0f7a4 : List Nat := [0, 46]
noncomputable def b_J6_bitCount_0f7a4_0 : zBl := fun jp K => oIld 0 <| oIld 0 <| oInt 2147483649 <| oB2 ziushr <| oInt 3579139413 <| oB2 ziand <| oB2 zsub <| oIst 0 <| oIld 0 <| oInt 3006477107 <| oB2 ziand <| oIld 0 <| oInt 2147483650 <| oB2 ziushr <| oInt 3006477107 <| oB2 ziand <| oB2 zadd <| oIst 0 <| oIld 0 <| oIld 0 <| oInt 2147483652 <| oB2 ziushr <| oB2 zadd <| oInt 2400128783 <| oB2 ziand <| oIst 0 <| oIld 0 <| oIld 0 <| oInt 2147483656 <| oB2 ziushr <| oB2 zadd <| oIst 0 <| oIld 0 <| oIld 0 <| oInt 2147483664 <| oB2 ziushr <| jp 1
theorem s_J6_bitCount_0f7a4_0 (d : Nat) : zPb l G gh (d + 1) n_J6_bitCount_0f7a4 p_J6_bitCount_0f7a4 0 b_J6_bitCount_0f7a4_0 := fun K jp hj =>
    z_iload_n (n := 0) (i := 0) (zd (i := .iload_n 0) (n := 1) (by decide +kernel)) rfl <|
    z_iload_n (n := 0) (i := 0) (zd (i := .iload_n 0) (n := 1) (by decide +kernel)) rfl <|
    z_iconst (n := 1) (zd (i := .iconst (1)) (n := 1) (by decide +kernel)) (by decide +kernel) <|
    z_iushr (zd (i := .iushr) (n := 1) (by decide +kernel)) <|
    z_ldcw (n := 265) (zd (i := .ldc_w 265) (n := 3) (by decide +kernel)) g973 (by decide +kernel) <|
    z_iand (zd (i := .iand) (n := 1) (by decide +kernel)) <|
    z_isub (zd (i := .isub) (n := 1) (by decide +kernel)) <|
    z_istore_n (n := 0) (i := 0) (zd (i := .istore_n 0) (n := 1) (by decide +kernel)) rfl (by decide +kernel) <|
    z_iload_n (n := 0) (i := 0) (zd (i := .iload_n 0) (n := 1) (by decide +kernel)) rfl <|
    z_ldcw (n := 266) (zd (i := .ldc_w 266) (n := 3) (by decide +kernel)) g974 (by decide +kernel) <|
    z_iand (zd (i := .iand) (n := 1) (by decide +kernel)) <|
    z_iload_n (n := 0) (i := 0) (zd (i := .iload_n 0) (n := 1) (by decide +kernel)) rfl <|
    z_iconst (n := 2) (zd (i := .iconst (2)) (n := 1) (by decide +kernel)) (by decide +kernel) <|
    z_iushr (zd (i := .iushr) (n := 1) (by decide +kernel)) <|
    z_ldcw (n := 266) (zd (i := .ldc_w 266) (n := 3) (by decide +kernel)) g974 (by decide +kernel) <|
    z_iand (zd (i := .iand) (n := 1) (by decide +kernel)) <|
    z_iadd (zd (i := .iadd) (n := 1) (by decide +kernel)) <|
    z_istore_n (n := 0) (i := 0) (zd (i := .istore_n 0) (n := 1) (by decide +kernel)) rfl (by decide +kernel) <|
    z_iload_n (n := 0) (i := 0) (zd (i := .iload_n 0) (n := 1) (by decide +kernel)) rfl <|
    z_iload_n (n := 0) (i := 0) (zd (i := .iload_n 0) (n := 1) (by decide +kernel)) rfl <|
    z_iconst (n := 4) (zd (i := .iconst (4)) (n := 1) (by decide +kernel)) (by decide +kernel) <|
    z_iushr (zd (i := .iushr) (n := 1) (by decide +kernel)) <|
    z_iadd (zd (i := .iadd) (n := 1) (by decide +kernel)) <|
    z_ldcw (n := 267) (zd (i := .ldc_w 267) (n := 3) (by decide +kernel)) g975 (by decide +kernel) <|
    z_iand (zd (i := .iand) (n := 1) (by decide +kernel)) <|
    z_istore_n (n := 0) (i := 0) (zd (i := .istore_n 0) (n := 1) (by decide +kernel)) rfl (by decide +kernel) <|
    z_iload_n (n := 0) (i := 0) (zd (i := .iload_n 0) (n := 1) (by decide +kernel)) rfl <|
    z_iload_n (n := 0) (i := 0) (zd (i := .iload_n 0) (n := 1) (by decide +kernel)) rfl <|
    z_bipush (n := 8) (zd (i := .bipush (8)) (n := 2) (by decide +kernel)) (by decide +kernel) <|
    z_iushr (zd (i := .iushr) (n := 1) (by decide +kernel)) <|
    z_iadd (zd (i := .iadd) (n := 1) (by decide +kernel)) <|
    z_istore_n (n := 0) (i := 0) (zd (i := .istore_n 0) (n := 1) (by decide +kernel)) rfl (by decide +kernel) <|
    z_iload_n (n := 0) (i := 0) (zd (i := .iload_n 0) (n := 1) (by decide +kernel)) rfl <|
    z_iload_n (n := 0) (i := 0) (zd (i := .iload_n 0) (n := 1) (by decide +kernel)) rfl <|
    z_bipush (n := 16) (zd (i := .bipush (16)) (n := 2) (by decide +kernel)) (by decide +kernel) <|
    z_iushr (zd (i := .iushr) (n := 1) (by decide +kernel)) <|
    (zj (hj 1) (by decide +kernel))
noncomputable def b_J6_bitCount_0f7a4_1 : zBl := fun jp K => oB2 zadd <| oIst 0 <| oIld 0 <| oInt 2147483711 <| oB2 ziand <| oIret K
theorem s_J6_bitCount_0f7a4_1 (d : Nat) : zPb l G gh (d + 1) n_J6_bitCount_0f7a4 p_J6_bitCount_0f7a4 46 b_J6_bitCount_0f7a4_1 := fun K jp hj =>
    z_iadd (zd (i := .iadd) (n := 1) (by decide +kernel)) <|
    z_istore_n (n := 0) (i := 0) (zd (i := .istore_n 0) (n := 1) (by decide +kernel)) rfl (by decide +kernel) <|
    z_iload_n (n := 0) (i := 0) (zd (i := .iload_n 0) (n := 1) (by decide +kernel)) rfl <|
    z_bipush (n := 63) (zd (i := .bipush (63)) (n := 2) (by decide +kernel)) (by decide +kernel) <|
    z_iand (zd (i := .iand) (n := 1) (by decide +kernel)) <|
    z_iret (zd (i := .ireturn) (n := 1) (by decide +kernel)) rfl
noncomputable def t_J6_bitCount_0f7a4 : List zBl := [b_J6_bitCount_0f7a4_0, b_J6_bitCount_0f7a4_1]
theorem tt_J6_bitCount_0f7a4 (d : Nat) : zT (zPb l G gh (d + 1) n_J6_bitCount_0f7a4 p_J6_bitCount_0f7a4) t_J6_bitCount_0f7a4 p_J6_bitCount_0f7a4 := ⟨s_J6_bitCount_0f7a4_0 d, s_J6_bitCount_0f7a4_1 d, trivial⟩
noncomputable def f_J6_bitCount_0f7a4 : zMt := zmet 1 t_J6_bitCount_0f7a4
theorem c_J6_bitCount_0f7a4 (d : Nat) : zC l G gh (d + 1) n_J6_bitCount_0f7a4 f_J6_bitCount_0f7a4 := zmet_ok (pcs := p_J6_bitCount_0f7a4) (by decide) rfl rfl (tt_J6_bitCount_0f7a4 d)
def p_X8_nextPitch : List Nat := [0, 4, 8, 23, 37, 42, 64, 66, 72]
noncomputable def b_X8_nextPitch_0 : zBl := fun jp K => oIld 1 <| oInt 2147483649 <| oB2 zsub <| oIst 2 <| jp 1
theorem s_X8_nextPitch_0 (d : Nat) : zPb l G gh (d + 1) n_X8_nextPitch p_X8_nextPitch 0 b_X8_nextPitch_0 := fun K jp hj =>
    z_iload_n (n := 1) (i := 1) (zd (i := .iload_n 1) (n := 1) (by decide +kernel)) rfl <|
    z_iconst (n := 1) (zd (i := .iconst (1)) (n := 1) (by decide +kernel)) (by decide +kernel) <|
    z_isub (zd (i := .isub) (n := 1) (by decide +kernel)) <|
    z_istore_n (n := 2) (i := 2) (zd (i := .istore_n 2) (n := 1) (by decide +kernel)) rfl (by decide +kernel) <|
    (zj (hj 1) (by decide +kernel))
noncomputable def b_X8_nextPitch_1 : zBl := fun jp K => oNLC 2 2147483648 zltN zgeN zn1_lt zn1_ge (jp 8) (jp 2)
theorem s_X8_nextPitch_1 (d : Nat) : zPb l G gh (d + 1) n_X8_nextPitch p_X8_nextPitch 4 b_X8_nextPitch_1 := fun K jp hj =>
    z_nL0_lt (i := 2) (a1 := 1) (off := 67) (tgt := 72) (zLd_n (n := 2) (i := 2) (zd (i := .iload_n 2) (n := 1) (by decide +kernel)) rfl) (zd (i := .ifCond .lt (67)) (n := 3) (by decide +kernel)) (by decide +kernel) (zj (hj 8) (by decide +kernel)) (zj (hj 2) (by decide +kernel))
noncomputable def b_X8_nextPitch_2 : zBl := fun jp K => oSpE 257 2 20 <| oAld 0 <| oGetR 8 10 <| oIld 2 <| oXald 10 <| oInt 2147483668 <| oIld 1 <| oB2 zsub <| oIld 2 <| oB2 zadd <| oIc zge zlt (jp 7) (jp 3)
theorem s_X8_nextPitch_2 (d : Nat) : zPb l G gh (d + 1) n_X8_nextPitch p_X8_nextPitch 8 b_X8_nextPitch_2 := fun K jp hj =>
    z_spE (a := 257) (i := 2) (n := 20) <|
    z_aload_n (n := 0) (i := 0) (zd (i := .aload_n 0) (n := 1) (by decide +kernel)) rfl <|
    z_getR (ci := 8) (j := 10) (idx := 62) (zd (i := .getfield 62) (n := 3) (by decide +kernel)) (by decide +kernel) (by decide +kernel) rfl g462 <|
    z_iload_n (n := 2) (i := 2) (zd (i := .iload_n 2) (n := 1) (by decide +kernel)) rfl <|
    z_iald (zd (i := .iaload) (n := 1) (by decide +kernel)) <|
    z_bipush (n := 20) (zd (i := .bipush (20)) (n := 2) (by decide +kernel)) (by decide +kernel) <|
    z_iload_n (n := 1) (i := 1) (zd (i := .iload_n 1) (n := 1) (by decide +kernel)) rfl <|
    z_isub (zd (i := .isub) (n := 1) (by decide +kernel)) <|
    z_iload_n (n := 2) (i := 2) (zd (i := .iload_n 2) (n := 1) (by decide +kernel)) rfl <|
    z_iadd (zd (i := .iadd) (n := 1) (by decide +kernel)) <|
    z_icmp_ge (off := 46) (tgt := 66) (zd (i := .if_icmp .ge (46)) (n := 3) (by decide +kernel)) (by decide +kernel) (zj (hj 7) (by decide +kernel)) (zj (hj 3) (by decide +kernel))
noncomputable def b_X8_nextPitch_3 : zBl := fun jp K => oAld 0 <| oGetR 8 10 <| oIld 2 <| oDup2 <| oXald 10 <| oInt 2147483649 <| oB2 zadd <| oXast 10 zid <| oIld 2 <| oInt 2147483649 <| oB2 zadd <| oIst 3 <| jp 4
theorem s_X8_nextPitch_3 (d : Nat) : zPb l G gh (d + 1) n_X8_nextPitch p_X8_nextPitch 23 b_X8_nextPitch_3 := fun K jp hj =>
    z_aload_n (n := 0) (i := 0) (zd (i := .aload_n 0) (n := 1) (by decide +kernel)) rfl <|
    z_getR (ci := 8) (j := 10) (idx := 62) (zd (i := .getfield 62) (n := 3) (by decide +kernel)) (by decide +kernel) (by decide +kernel) rfl g462 <|
    z_iload_n (n := 2) (i := 2) (zd (i := .iload_n 2) (n := 1) (by decide +kernel)) rfl <|
    z_dup2 (zd (i := .dup2) (n := 1) (by decide +kernel)) <|
    z_iald (zd (i := .iaload) (n := 1) (by decide +kernel)) <|
    z_iconst (n := 1) (zd (i := .iconst (1)) (n := 1) (by decide +kernel)) (by decide +kernel) <|
    z_iadd (zd (i := .iadd) (n := 1) (by decide +kernel)) <|
    z_iast (zd (i := .iastore) (n := 1) (by decide +kernel)) <|
    z_iload_n (n := 2) (i := 2) (zd (i := .iload_n 2) (n := 1) (by decide +kernel)) rfl <|
    z_iconst (n := 1) (zd (i := .iconst (1)) (n := 1) (by decide +kernel)) (by decide +kernel) <|
    z_iadd (zd (i := .iadd) (n := 1) (by decide +kernel)) <|
    z_istore_n (n := 3) (i := 3) (zd (i := .istore_n 3) (n := 1) (by decide +kernel)) rfl (by decide +kernel) <|
    (zj (hj 4) (by decide +kernel))
noncomputable def b_X8_nextPitch_4 : zBl := fun jp K => oNLL 3 1 zgeN zltN zn1_ge zn2_ge zn1_lt zn2_lt (jp 6) (jp 5)
theorem s_X8_nextPitch_4 (d : Nat) : zPb l G gh (d + 1) n_X8_nextPitch p_X8_nextPitch 37 b_X8_nextPitch_4 := fun K jp hj =>
    z_nLL_ge (i := 3) (j := 1) (a1 := 1) (a2 := 1) (off := 25) (tgt := 64) (zLd_n (n := 3) (i := 3) (zd (i := .iload_n 3) (n := 1) (by decide +kernel)) rfl) (zLd_n (n := 1) (i := 1) (zd (i := .iload_n 1) (n := 1) (by decide +kernel)) rfl) (zd (i := .if_icmp .ge (25)) (n := 3) (by decide +kernel)) (by decide +kernel) (zj (hj 6) (by decide +kernel)) (zj (hj 5) (by decide +kernel))
noncomputable def b_X8_nextPitch_5 : zBl := fun jp K => oAld 0 <| oGetR 8 10 <| oIld 3 <| oAld 0 <| oGetR 8 10 <| oIld 3 <| oInt 2147483649 <| oB2 zsub <| oXald 10 <| oInt 2147483649 <| oB2 zadd <| oXast 10 zid <| oInc 3 2147483649 <| jp 4
theorem s_X8_nextPitch_5 (d : Nat) : zPb l G gh (d + 1) n_X8_nextPitch p_X8_nextPitch 42 b_X8_nextPitch_5 := fun K jp hj =>
    z_aload_n (n := 0) (i := 0) (zd (i := .aload_n 0) (n := 1) (by decide +kernel)) rfl <|
    z_getR (ci := 8) (j := 10) (idx := 62) (zd (i := .getfield 62) (n := 3) (by decide +kernel)) (by decide +kernel) (by decide +kernel) rfl g462 <|
    z_iload_n (n := 3) (i := 3) (zd (i := .iload_n 3) (n := 1) (by decide +kernel)) rfl <|
    z_aload_n (n := 0) (i := 0) (zd (i := .aload_n 0) (n := 1) (by decide +kernel)) rfl <|
    z_getR (ci := 8) (j := 10) (idx := 62) (zd (i := .getfield 62) (n := 3) (by decide +kernel)) (by decide +kernel) (by decide +kernel) rfl g462 <|
    z_iload_n (n := 3) (i := 3) (zd (i := .iload_n 3) (n := 1) (by decide +kernel)) rfl <|
    z_iconst (n := 1) (zd (i := .iconst (1)) (n := 1) (by decide +kernel)) (by decide +kernel) <|
    z_isub (zd (i := .isub) (n := 1) (by decide +kernel)) <|
    z_iald (zd (i := .iaload) (n := 1) (by decide +kernel)) <|
    z_iconst (n := 1) (zd (i := .iconst (1)) (n := 1) (by decide +kernel)) (by decide +kernel) <|
    z_iadd (zd (i := .iadd) (n := 1) (by decide +kernel)) <|
    z_iast (zd (i := .iastore) (n := 1) (by decide +kernel)) <|
    z_iinc (i := 3) (n := 1) (zd (i := .iinc 3 (1)) (n := 3) (by decide +kernel)) (by decide +kernel) (by decide +kernel) <|
    z_goto (off := -24) (tgt := 37) (zd (i := .goto (-24)) (n := 3) (by decide +kernel)) (by decide +kernel) (zj (hj 4) (by decide +kernel))
noncomputable def b_X8_nextPitch_6 : zBl := fun jp K => oInt 2147483649 <| oZret K
theorem s_X8_nextPitch_6 (d : Nat) : zPb l G gh (d + 1) n_X8_nextPitch p_X8_nextPitch 64 b_X8_nextPitch_6 := fun K jp hj =>
    z_iconst (n := 1) (zd (i := .iconst (1)) (n := 1) (by decide +kernel)) (by decide +kernel) <|
    z_zret (zd (i := .ireturn) (n := 1) (by decide +kernel)) rfl
noncomputable def b_X8_nextPitch_7 : zBl := fun jp K => oInc 2 2147483647 <| jp 1
theorem s_X8_nextPitch_7 (d : Nat) : zPb l G gh (d + 1) n_X8_nextPitch p_X8_nextPitch 66 b_X8_nextPitch_7 := fun K jp hj =>
    z_iinc (i := 2) (n := -1) (zd (i := .iinc 2 (-1)) (n := 3) (by decide +kernel)) (by decide +kernel) (by decide +kernel) <|
    z_goto (off := -65) (tgt := 4) (zd (i := .goto (-65)) (n := 3) (by decide +kernel)) (by decide +kernel) (zj (hj 1) (by decide +kernel))
noncomputable def b_X8_nextPitch_8 : zBl := fun jp K => oInt 2147483648 <| oZret K
theorem s_X8_nextPitch_8 (d : Nat) : zPb l G gh (d + 1) n_X8_nextPitch p_X8_nextPitch 72 b_X8_nextPitch_8 := fun K jp hj =>
    z_iconst (n := 0) (zd (i := .iconst (0)) (n := 1) (by decide +kernel)) (by decide +kernel) <|
    z_zret (zd (i := .ireturn) (n := 1) (by decide +kernel)) rfl
noncomputable def t_X8_nextPitch : List zBl := [b_X8_nextPitch_0, b_X8_nextPitch_1, b_X8_nextPitch_2, b_X8_nextPitch_3, b_X8_nextPitch_4, b_X8_nextPitch_5, b_X8_nextPitch_6, b_X8_nextPitch_7, b_X8_nextPitch_8]
theorem tt_X8_nextPitch (d : Nat) : zT (zPb l G gh (d + 1) n_X8_nextPitch p_X8_nextPitch) t_X8_nextPitch p_X8_nextPitch := ⟨s_X8_nextPitch_0 d, s_X8_nextPitch_1 d, s_X8_nextPitch_2 d, s_X8_nextPitch_3 d, s_X8_nextPitch_4 d, s_X8_nextPitch_5 d, s_X8_nextPitch_6 d, s_X8_nextPitch_7 d, s_X8_nextPitch_8 d, trivial⟩
def q_X8_nextPitch_0 : List (Nat × Nat) := [(0, zk0), (257, zk121)]
noncomputable def al_X8_nextPitch_0 : zAq := [(some (.inl 9223372043297226753), [(0, zk0), (257, zk122)])]
noncomputable def fm_X8_nextPitch_0 : List zFm := [(0, [], (fun vs => [.inr (.ref 0), .inl 2147483649]), (fun vs => zP q_X8_nextPitch_0), (fun vs => Nat.sub (Nat.add 0 0) 0))]
def bf_X8_nextPitch_0 : List Nat := []
theorem r_X8_nextPitch_0_0 : zbox [] (fun vs => zFrun (zpost (zAlq al_X8_nextPitch_0)) 1000 t_X8_nextPitch fm_X8_nextPitch_0 bf_X8_nextPitch_0 (0, vs)) = true := by decide +kernel
set_option maxRecDepth 100000 in
theorem x_X8_nextPitch_0 (d : Nat) : zS l G gh (d + 1) (zpost (zAlq al_X8_nextPitch_0)) n_X8_nextPitch (zn 0 p_X8_nextPitch 0) (zwc (0, [.inr (.ref 0), .inl 2147483649], zP q_X8_nextPitch_0) 0) := zentry (tt_X8_nextPitch d) fm_X8_nextPitch_0 bf_X8_nextPitch_0 1000 (by decide +kernel) rfl ⟨Nat.zero_lt_succ _, trivial⟩ (fun f hf => match f, hf with
  | 0, _ => fun vs hv => (zbox_t r_X8_nextPitch_0_0) vs hv
  | f + 1, h => absurd (show f + 1 < 1 from h) (Nat.not_lt.mpr (Nat.le_add_left 1 f)))
noncomputable def gs_X8_nextPitch_0 : zMt := zgq false [] 4 [.inr (.ref 0), .inl 2147483649] q_X8_nextPitch_0 al_X8_nextPitch_0
set_option maxRecDepth 100000 in
theorem cs_X8_nextPitch_0 (d : Nat) : zC l G gh (d + 1) n_X8_nextPitch gs_X8_nextPitch_0 := zgq_ok0 (pcs := p_X8_nextPitch) (by decide) rfl rfl (fun a ha => by simp only [al_X8_nextPitch_0, List.mem_cons, List.not_mem_nil, or_false] at ha; rcases ha with rfl <;> decide +kernel) (fun gh => x_X8_nextPitch_0 d) (by decide +kernel)
def q_X8_nextPitch_1 : List (Nat × Nat) := [(0, zk0), (257, zk121)]
noncomputable def al_X8_nextPitch_1 : zAq := [(some (.inl 9223372043297226753), [(0, zk0), (257, zk122)])]
noncomputable def fm_X8_nextPitch_1 : List zFm := [(0, [], (fun vs => [.inr (.ref 0), .inl 2147483650]), (fun vs => zP q_X8_nextPitch_1), (fun vs => Nat.sub (Nat.add 0 0) 0))]
def bf_X8_nextPitch_1 : List Nat := []
theorem r_X8_nextPitch_1_0 : zbox [] (fun vs => zFrun (zpost (zAlq al_X8_nextPitch_1)) 1000 t_X8_nextPitch fm_X8_nextPitch_1 bf_X8_nextPitch_1 (0, vs)) = true := by decide +kernel
set_option maxRecDepth 100000 in
theorem x_X8_nextPitch_1 (d : Nat) : zS l G gh (d + 1) (zpost (zAlq al_X8_nextPitch_1)) n_X8_nextPitch (zn 0 p_X8_nextPitch 0) (zwc (0, [.inr (.ref 0), .inl 2147483650], zP q_X8_nextPitch_1) 0) := zentry (tt_X8_nextPitch d) fm_X8_nextPitch_1 bf_X8_nextPitch_1 1000 (by decide +kernel) rfl ⟨Nat.zero_lt_succ _, trivial⟩ (fun f hf => match f, hf with
  | 0, _ => fun vs hv => (zbox_t r_X8_nextPitch_1_0) vs hv
  | f + 1, h => absurd (show f + 1 < 1 from h) (Nat.not_lt.mpr (Nat.le_add_left 1 f)))
noncomputable def gs_X8_nextPitch_1 : zMt := zgq false [] 4 [.inr (.ref 0), .inl 2147483650] q_X8_nextPitch_1 al_X8_nextPitch_1
set_option maxRecDepth 100000 in
theorem cs_X8_nextPitch_1 (d : Nat) : zC l G gh (d + 1) n_X8_nextPitch gs_X8_nextPitch_1 := zgq_ok0 (pcs := p_X8_nextPitch) (by decide) rfl rfl (fun a ha => by simp only [al_X8_nextPitch_1, List.mem_cons, List.not_mem_nil, or_false] at ha; rcases ha with rfl <;> decide +kernel) (fun gh => x_X8_nextPitch_1 d) (by decide +kernel)
def q_X8_nextPitch_2 : List (Nat × Nat) := [(0, zk0), (257, zk121)]
noncomputable def al_X8_nextPitch_2 : zAq := [(some (.inl 9223372043297226753), [(0, zk0), (257, zk122)])]
noncomputable def fm_X8_nextPitch_2 : List zFm := [(0, [], (fun vs => [.inr (.ref 0), .inl 2147483651]), (fun vs => zP q_X8_nextPitch_2), (fun vs => Nat.sub (Nat.add 0 0) 0))]
def bf_X8_nextPitch_2 : List Nat := []
theorem r_X8_nextPitch_2_0 : zbox [] (fun vs => zFrun (zpost (zAlq al_X8_nextPitch_2)) 1000 t_X8_nextPitch fm_X8_nextPitch_2 bf_X8_nextPitch_2 (0, vs)) = true := by decide +kernel
set_option maxRecDepth 100000 in
theorem x_X8_nextPitch_2 (d : Nat) : zS l G gh (d + 1) (zpost (zAlq al_X8_nextPitch_2)) n_X8_nextPitch (zn 0 p_X8_nextPitch 0) (zwc (0, [.inr (.ref 0), .inl 2147483651], zP q_X8_nextPitch_2) 0) := zentry (tt_X8_nextPitch d) fm_X8_nextPitch_2 bf_X8_nextPitch_2 1000 (by decide +kernel) rfl ⟨Nat.zero_lt_succ _, trivial⟩ (fun f hf => match f, hf with
  | 0, _ => fun vs hv => (zbox_t r_X8_nextPitch_2_0) vs hv
  | f + 1, h => absurd (show f + 1 < 1 from h) (Nat.not_lt.mpr (Nat.le_add_left 1 f)))
noncomputable def gs_X8_nextPitch_2 : zMt := zgq false [] 4 [.inr (.ref 0), .inl 2147483651] q_X8_nextPitch_2 al_X8_nextPitch_2
set_option maxRecDepth 100000 in
theorem cs_X8_nextPitch_2 (d : Nat) : zC l G gh (d + 1) n_X8_nextPitch gs_X8_nextPitch_2 := zgq_ok0 (pcs := p_X8_nextPitch) (by decide) rfl rfl (fun a ha => by simp only [al_X8_nextPitch_2, List.mem_cons, List.not_mem_nil, or_false] at ha; rcases ha with rfl <;> decide +kernel) (fun gh => x_X8_nextPitch_2 d) (by decide +kernel)
def q_X8_nextPitch_3 : List (Nat × Nat) := [(0, zk1), (257, zk121)]
noncomputable def al_X8_nextPitch_3 : zAq := [(some (.inl 9223372043297226753), [(0, zk1), (257, zk122)])]
noncomputable def fm_X8_nextPitch_3 : List zFm := [(0, [], (fun vs => [.inr (.ref 0), .inl 2147483649]), (fun vs => zP q_X8_nextPitch_3), (fun vs => Nat.sub (Nat.add 0 0) 0))]
def bf_X8_nextPitch_3 : List Nat := []
theorem r_X8_nextPitch_3_0 : zbox [] (fun vs => zFrun (zpost (zAlq al_X8_nextPitch_3)) 1000 t_X8_nextPitch fm_X8_nextPitch_3 bf_X8_nextPitch_3 (0, vs)) = true := by decide +kernel
set_option maxRecDepth 100000 in
theorem x_X8_nextPitch_3 (d : Nat) : zS l G gh (d + 1) (zpost (zAlq al_X8_nextPitch_3)) n_X8_nextPitch (zn 0 p_X8_nextPitch 0) (zwc (0, [.inr (.ref 0), .inl 2147483649], zP q_X8_nextPitch_3) 0) := zentry (tt_X8_nextPitch d) fm_X8_nextPitch_3 bf_X8_nextPitch_3 1000 (by decide +kernel) rfl ⟨Nat.zero_lt_succ _, trivial⟩ (fun f hf => match f, hf with
  | 0, _ => fun vs hv => (zbox_t r_X8_nextPitch_3_0) vs hv
  | f + 1, h => absurd (show f + 1 < 1 from h) (Nat.not_lt.mpr (Nat.le_add_left 1 f)))
noncomputable def gs_X8_nextPitch_3 : zMt := zgq false [] 4 [.inr (.ref 0), .inl 2147483649] q_X8_nextPitch_3 al_X8_nextPitch_3
set_option maxRecDepth 100000 in
theorem cs_X8_nextPitch_3 (d : Nat) : zC l G gh (d + 1) n_X8_nextPitch gs_X8_nextPitch_3 := zgq_ok0 (pcs := p_X8_nextPitch) (by decide) rfl rfl (fun a ha => by simp only [al_X8_nextPitch_3, List.mem_cons, List.not_mem_nil, or_false] at ha; rcases ha with rfl <;> decide +kernel) (fun gh => x_X8_nextPitch_3 d) (by decide +kernel)
def q_X8_nextPitch_4 : List (Nat × Nat) := [(0, zk1), (257, zk121)]
noncomputable def al_X8_nextPitch_4 : zAq := [(some (.inl 9223372043297226753), [(0, zk1), (257, zk122)])]
noncomputable def fm_X8_nextPitch_4 : List zFm := [(0, [], (fun vs => [.inr (.ref 0), .inl 2147483650]), (fun vs => zP q_X8_nextPitch_4), (fun vs => Nat.sub (Nat.add 0 0) 0))]
def bf_X8_nextPitch_4 : List Nat := []
theorem r_X8_nextPitch_4_0 : zbox [] (fun vs => zFrun (zpost (zAlq al_X8_nextPitch_4)) 1000 t_X8_nextPitch fm_X8_nextPitch_4 bf_X8_nextPitch_4 (0, vs)) = true := by decide +kernel
set_option maxRecDepth 100000 in
theorem x_X8_nextPitch_4 (d : Nat) : zS l G gh (d + 1) (zpost (zAlq al_X8_nextPitch_4)) n_X8_nextPitch (zn 0 p_X8_nextPitch 0) (zwc (0, [.inr (.ref 0), .inl 2147483650], zP q_X8_nextPitch_4) 0) := zentry (tt_X8_nextPitch d) fm_X8_nextPitch_4 bf_X8_nextPitch_4 1000 (by decide +kernel) rfl ⟨Nat.zero_lt_succ _, trivial⟩ (fun f hf => match f, hf with
  | 0, _ => fun vs hv => (zbox_t r_X8_nextPitch_4_0) vs hv
  | f + 1, h => absurd (show f + 1 < 1 from h) (Nat.not_lt.mpr (Nat.le_add_left 1 f)))
noncomputable def gs_X8_nextPitch_4 : zMt := zgq false [] 4 [.inr (.ref 0), .inl 2147483650] q_X8_nextPitch_4 al_X8_nextPitch_4
set_option maxRecDepth 100000 in
theorem cs_X8_nextPitch_4 (d : Nat) : zC l G gh (d + 1) n_X8_nextPitch gs_X8_nextPitch_4 := zgq_ok0 (pcs := p_X8_nextPitch) (by decide) rfl rfl (fun a ha => by simp only [al_X8_nextPitch_4, List.mem_cons, List.not_mem_nil, or_false] at ha; rcases ha with rfl <;> decide +kernel) (fun gh => x_X8_nextPitch_4 d) (by decide +kernel)
def q_X8_nextPitch_5 : List (Nat × Nat) := [(0, zk1), (257, zk121)]
noncomputable def al_X8_nextPitch_5 : zAq := [(some (.inl 9223372043297226753), [(0, zk1), (257, zk122)])]
noncomputable def fm_X8_nextPitch_5 : List zFm := [(0, [], (fun vs => [.inr (.ref 0), .inl 2147483651]), (fun vs => zP q_X8_nextPitch_5), (fun vs => Nat.sub (Nat.add 0 0) 0))]
def bf_X8_nextPitch_5 : List Nat := []
theorem r_X8_nextPitch_5_0 : zbox [] (fun vs => zFrun (zpost (zAlq al_X8_nextPitch_5)) 1000 t_X8_nextPitch fm_X8_nextPitch_5 bf_X8_nextPitch_5 (0, vs)) = true := by decide +kernel
set_option maxRecDepth 100000 in
theorem x_X8_nextPitch_5 (d : Nat) : zS l G gh (d + 1) (zpost (zAlq al_X8_nextPitch_5)) n_X8_nextPitch (zn 0 p_X8_nextPitch 0) (zwc (0, [.inr (.ref 0), .inl 2147483651], zP q_X8_nextPitch_5) 0) := zentry (tt_X8_nextPitch d) fm_X8_nextPitch_5 bf_X8_nextPitch_5 1000 (by decide +kernel) rfl ⟨Nat.zero_lt_succ _, trivial⟩ (fun f hf => match f, hf with
  | 0, _ => fun vs hv => (zbox_t r_X8_nextPitch_5_0) vs hv
  | f + 1, h => absurd (show f + 1 < 1 from h) (Nat.not_lt.mpr (Nat.le_add_left 1 f)))
noncomputable def gs_X8_nextPitch_5 : zMt := zgq false [] 4 [.inr (.ref 0), .inl 2147483651] q_X8_nextPitch_5 al_X8_nextPitch_5
set_option maxRecDepth 100000 in
theorem cs_X8_nextPitch_5 (d : Nat) : zC l G gh (d + 1) n_X8_nextPitch gs_X8_nextPitch_5 := zgq_ok0 (pcs := p_X8_nextPitch) (by decide) rfl rfl (fun a ha => by simp only [al_X8_nextPitch_5, List.mem_cons, List.not_mem_nil, or_false] at ha; rcases ha with rfl <;> decide +kernel) (fun gh => x_X8_nextPitch_5 d) (by decide +kernel)
noncomputable def gs_X8_nextPitch : zMt := (zor gs_X8_nextPitch_0 (zor gs_X8_nextPitch_1 (zor gs_X8_nextPitch_2 (zor gs_X8_nextPitch_3 (zor gs_X8_nextPitch_4 gs_X8_nextPitch_5)))))
theorem cs_X8_nextPitch (d : Nat) : zC l G gh (d + 1) n_X8_nextPitch gs_X8_nextPitch := (zor_ok (cs_X8_nextPitch_0 d) (zor_ok (cs_X8_nextPitch_1 d) (zor_ok (cs_X8_nextPitch_2 d) (zor_ok (cs_X8_nextPitch_3 d) (zor_ok (cs_X8_nextPitch_4 d) (cs_X8_nextPitch_5 d))))))
def p_X9_tries : List Nat := [0, 11, 20, 21, 27, 37, 38, 53, 54]
noncomputable def b_X9_tries_0 : zBl := fun jp K => oAld 0 <| oGetR 9 53 <| oIld 2 <| oXald 10 <| oNLC 1 2147483649 zleN zgtN zn1_le zn1_gt (jp 2) (jp 1)
theorem s_X9_tries_0 (d : Nat) : zPb l G gh (d + 2) n_X9_tries p_X9_tries 0 b_X9_tries_0 := fun K jp hj =>
    z_aload_n (n := 0) (i := 0) (zd (i := .aload_n 0) (n := 1) (by decide +kernel)) rfl <|
    z_getR (ci := 9) (j := 53) (idx := 119) (zd (i := .getfield 119) (n := 3) (by decide +kernel)) (by decide +kernel) (by decide +kernel) rfl g1181 <|
    z_iload_n (n := 2) (i := 2) (zd (i := .iload_n 2) (n := 1) (by decide +kernel)) rfl <|
    z_iald (zd (i := .iaload) (n := 1) (by decide +kernel)) <|
    z_nLC_le (i := 1) (c0 := 2147483649) (a1 := 1) (a2 := 1) (off := 12) (tgt := 20) (zLd_n (n := 1) (i := 1) (zd (i := .iload_n 1) (n := 1) (by decide +kernel)) rfl) (zCn_c (n := 1) (zd (i := .iconst (1)) (n := 1) (by decide +kernel)) (by decide +kernel)) (zd (i := .if_icmp .le (12)) (n := 3) (by decide +kernel)) (by decide +kernel) (zj (hj 2) (by decide +kernel)) (zj (hj 1) (by decide +kernel))
noncomputable def b_X9_tries_1 : zBl := fun jp K => oAld 0 <| oGetR 9 53 <| oIld 3 <| oXald 10 <| jp 3
theorem s_X9_tries_1 (d : Nat) : zPb l G gh (d + 2) n_X9_tries p_X9_tries 11 b_X9_tries_1 := fun K jp hj =>
    z_aload_n (n := 0) (i := 0) (zd (i := .aload_n 0) (n := 1) (by decide +kernel)) rfl <|
    z_getR (ci := 9) (j := 53) (idx := 119) (zd (i := .getfield 119) (n := 3) (by decide +kernel)) (by decide +kernel) (by decide +kernel) rfl g1181 <|
    z_iload_n (n := 3) (i := 3) (zd (i := .iload_n 3) (n := 1) (by decide +kernel)) rfl <|
    z_iald (zd (i := .iaload) (n := 1) (by decide +kernel)) <|
    z_goto (off := 4) (tgt := 21) (zd (i := .goto (4)) (n := 3) (by decide +kernel)) (by decide +kernel) (zj (hj 3) (by decide +kernel))
noncomputable def b_X9_tries_2 : zBl := fun jp K => oInt 2147483648 <| jp 3
theorem s_X9_tries_2 (d : Nat) : zPb l G gh (d + 2) n_X9_tries p_X9_tries 20 b_X9_tries_2 := fun K jp hj =>
    z_iconst (n := 0) (zd (i := .iconst (0)) (n := 1) (by decide +kernel)) (by decide +kernel) <|
    (zj (hj 3) (by decide +kernel))
noncomputable def b_X9_tries_3 : zBl := fun jp K => oB2 zior <| oNLC 1 2147483650 zleN zgtN zn1_le zn1_gt (jp 5) (jp 4)
theorem s_X9_tries_3 (d : Nat) : zPb l G gh (d + 2) n_X9_tries p_X9_tries 21 b_X9_tries_3 := fun K jp hj =>
    z_ior (zd (i := .ior) (n := 1) (by decide +kernel)) <|
    z_nLC_le (i := 1) (c0 := 2147483650) (a1 := 1) (a2 := 1) (off := 13) (tgt := 37) (zLd_n (n := 1) (i := 1) (zd (i := .iload_n 1) (n := 1) (by decide +kernel)) rfl) (zCn_c (n := 2) (zd (i := .iconst (2)) (n := 1) (by decide +kernel)) (by decide +kernel)) (zd (i := .if_icmp .le (13)) (n := 3) (by decide +kernel)) (by decide +kernel) (zj (hj 5) (by decide +kernel)) (zj (hj 4) (by decide +kernel))
noncomputable def b_X9_tries_4 : zBl := fun jp K => oAld 0 <| oGetR 9 53 <| oIld 4 <| oXald 10 <| jp 6
theorem s_X9_tries_4 (d : Nat) : zPb l G gh (d + 2) n_X9_tries p_X9_tries 27 b_X9_tries_4 := fun K jp hj =>
    z_aload_n (n := 0) (i := 0) (zd (i := .aload_n 0) (n := 1) (by decide +kernel)) rfl <|
    z_getR (ci := 9) (j := 53) (idx := 119) (zd (i := .getfield 119) (n := 3) (by decide +kernel)) (by decide +kernel) (by decide +kernel) rfl g1181 <|
    z_iload (i := 4) (zd (i := .iload 4) (n := 2) (by decide +kernel)) <|
    z_iald (zd (i := .iaload) (n := 1) (by decide +kernel)) <|
    z_goto (off := 4) (tgt := 38) (zd (i := .goto (4)) (n := 3) (by decide +kernel)) (by decide +kernel) (zj (hj 6) (by decide +kernel))
noncomputable def b_X9_tries_5 : zBl := fun jp K => oInt 2147483648 <| jp 6
theorem s_X9_tries_5 (d : Nat) : zPb l G gh (d + 2) n_X9_tries p_X9_tries 37 b_X9_tries_5 := fun K jp hj =>
    z_iconst (n := 0) (zd (i := .iconst (0)) (n := 1) (by decide +kernel)) (by decide +kernel) <|
    (zj (hj 6) (by decide +kernel))
noncomputable def b_X9_tries_6 : zBl := fun jp K => oB2 zior <| oIst 5 <| oIld 5 <| oCs 1 f_X9_bits <| oAld 0 <| oGetI 9 55 <| oIc zgt zle (jp 8) (jp 7)
theorem s_X9_tries_6 (d : Nat) : zPb l G gh (d + 2) n_X9_tries p_X9_tries 38 b_X9_tries_6 := fun K jp hj =>
    z_ior (zd (i := .ior) (n := 1) (by decide +kernel)) <|
    z_istore (i := 5) (zd (i := .istore 5) (n := 2) (by decide +kernel)) (by decide +kernel) <|
    z_iload (i := 5) (zd (i := .iload 5) (n := 2) (by decide +kernel)) <|
    z_callS (idx := 412) (N := n_X9_bits) (zd (i := .invokestatic 412) (n := 3) (by decide +kernel)) to_X9_bits g1633 g1634 rfl rfl (c_X9_bits (l := l) (G := G) (gh := gh) (d)) <|
    z_aload_n (n := 0) (i := 0) (zd (i := .aload_n 0) (n := 1) (by decide +kernel)) rfl <|
    z_getI (ci := 9) (j := 55) (idx := 415) (zd (i := .getfield 415) (n := 3) (by decide +kernel)) (by decide +kernel) (by decide +kernel) rfl g1183 <|
    z_icmp_gt (off := 4) (tgt := 54) (zd (i := .if_icmp .gt (4)) (n := 3) (by decide +kernel)) (by decide +kernel) (zj (hj 8) (by decide +kernel)) (zj (hj 7) (by decide +kernel))
noncomputable def b_X9_tries_7 : zBl := fun jp K => oVret K
theorem s_X9_tries_7 (d : Nat) : zPb l G gh (d + 2) n_X9_tries p_X9_tries 53 b_X9_tries_7 := fun K jp hj =>
    z_vret (zd (i := .return_) (n := 1) (by decide +kernel)) rfl
noncomputable def b_X9_tries_8 : zBl := fun jp K => oAld 0 <| oIld 5 <| oCs 1 f_X9_bits <| oPutI 9 55 <| oAld 0 <| oGetR 9 54 <| oInt 2147483648 <| oIld 2 <| oXast 10 zid <| oAld 0 <| oGetR 9 54 <| oInt 2147483649 <| oIld 3 <| oXast 10 zid <| oAld 0 <| oGetR 9 54 <| oInt 2147483650 <| oIld 4 <| oXast 10 zid <| oVret K
theorem s_X9_tries_8 (d : Nat) : zPb l G gh (d + 2) n_X9_tries p_X9_tries 54 b_X9_tries_8 := fun K jp hj =>
    z_aload_n (n := 0) (i := 0) (zd (i := .aload_n 0) (n := 1) (by decide +kernel)) rfl <|
    z_iload (i := 5) (zd (i := .iload 5) (n := 2) (by decide +kernel)) <|
    z_callS (idx := 412) (N := n_X9_bits) (zd (i := .invokestatic 412) (n := 3) (by decide +kernel)) to_X9_bits g1633 g1634 rfl rfl (c_X9_bits (l := l) (G := G) (gh := gh) (d)) <|
    z_putI (ci := 9) (j := 55) (idx := 415) (zd (i := .putfield 415) (n := 3) (by decide +kernel)) (by decide +kernel) (by decide +kernel) rfl g1183 (Or.inl rfl) <|
    z_aload_n (n := 0) (i := 0) (zd (i := .aload_n 0) (n := 1) (by decide +kernel)) rfl <|
    z_getR (ci := 9) (j := 54) (idx := 122) (zd (i := .getfield 122) (n := 3) (by decide +kernel)) (by decide +kernel) (by decide +kernel) rfl g1182 <|
    z_iconst (n := 0) (zd (i := .iconst (0)) (n := 1) (by decide +kernel)) (by decide +kernel) <|
    z_iload_n (n := 2) (i := 2) (zd (i := .iload_n 2) (n := 1) (by decide +kernel)) rfl <|
    z_iast (zd (i := .iastore) (n := 1) (by decide +kernel)) <|
    z_aload_n (n := 0) (i := 0) (zd (i := .aload_n 0) (n := 1) (by decide +kernel)) rfl <|
    z_getR (ci := 9) (j := 54) (idx := 122) (zd (i := .getfield 122) (n := 3) (by decide +kernel)) (by decide +kernel) (by decide +kernel) rfl g1182 <|
    z_iconst (n := 1) (zd (i := .iconst (1)) (n := 1) (by decide +kernel)) (by decide +kernel) <|
    z_iload_n (n := 3) (i := 3) (zd (i := .iload_n 3) (n := 1) (by decide +kernel)) rfl <|
    z_iast (zd (i := .iastore) (n := 1) (by decide +kernel)) <|
    z_aload_n (n := 0) (i := 0) (zd (i := .aload_n 0) (n := 1) (by decide +kernel)) rfl <|
    z_getR (ci := 9) (j := 54) (idx := 122) (zd (i := .getfield 122) (n := 3) (by decide +kernel)) (by decide +kernel) (by decide +kernel) rfl g1182 <|
    z_iconst (n := 2) (zd (i := .iconst (2)) (n := 1) (by decide +kernel)) (by decide +kernel) <|
    z_iload (i := 4) (zd (i := .iload 4) (n := 2) (by decide +kernel)) <|
    z_iast (zd (i := .iastore) (n := 1) (by decide +kernel)) <|
    z_vret (zd (i := .return_) (n := 1) (by decide +kernel)) rfl
noncomputable def t_X9_tries : List zBl := [b_X9_tries_0, b_X9_tries_1, b_X9_tries_2, b_X9_tries_3, b_X9_tries_4, b_X9_tries_5, b_X9_tries_6, b_X9_tries_7, b_X9_tries_8]
theorem tt_X9_tries (d : Nat) : zT (zPb l G gh (d + 2) n_X9_tries p_X9_tries) t_X9_tries p_X9_tries := ⟨s_X9_tries_0 d, s_X9_tries_1 d, s_X9_tries_2 d, s_X9_tries_3 d, s_X9_tries_4 d, s_X9_tries_5 d, s_X9_tries_6 d, s_X9_tries_7 d, s_X9_tries_8 d, trivial⟩
def q_X9_tries_0 : List (Nat × Nat) := [(292, zk102), (326, zk7), (327, zk123)]
noncomputable def al_X9_tries_0 : zAq := [(none, [(292, zk105), (326, zk7), (327, zk124)])]
noncomputable def fm_X9_tries_0 : List zFm := [(0, [], (fun vs => [.inr (.ref 292), .inl 2147483649, .inl 9223372043297226771, .inl 9223372047592194068, .inl 9223372051887161365]), (fun vs => zP q_X9_tries_0), (fun vs => Nat.sub (Nat.add 0 0) 0))]
def bf_X9_tries_0 : List Nat := []
theorem r_X9_tries_0_0 : zbox [] (fun vs => zFrun (zpost (zAlq al_X9_tries_0)) 1000 t_X9_tries fm_X9_tries_0 bf_X9_tries_0 (0, vs)) = true := by decide +kernel
set_option maxRecDepth 100000 in
theorem x_X9_tries_0 (d : Nat) : zS l G gh (d + 2) (zpost (zAlq al_X9_tries_0)) n_X9_tries (zn 0 p_X9_tries 0) (zwc (0, [.inr (.ref 292), .inl 2147483649, .inl 9223372043297226771, .inl 9223372047592194068, .inl 9223372051887161365], zP q_X9_tries_0) 0) := zentry (tt_X9_tries d) fm_X9_tries_0 bf_X9_tries_0 1000 (by decide +kernel) rfl ⟨Nat.zero_lt_succ _, trivial⟩ (fun f hf => match f, hf with
  | 0, _ => fun vs hv => (zbox_t r_X9_tries_0_0) vs hv
  | f + 1, h => absurd (show f + 1 < 1 from h) (Nat.not_lt.mpr (Nat.le_add_left 1 f)))
noncomputable def gs_X9_tries_0 : zMt := zgq false [] 6 [.inr (.ref 292), .inl 2147483649, .inl 9223372043297226771, .inl 9223372047592194068, .inl 9223372051887161365] q_X9_tries_0 al_X9_tries_0
set_option maxRecDepth 100000 in
theorem cs_X9_tries_0 (d : Nat) : zC l G gh (d + 2) n_X9_tries gs_X9_tries_0 := zgq_ok0 (pcs := p_X9_tries) (by decide) rfl rfl (fun a ha => by simp only [al_X9_tries_0, List.mem_cons, List.not_mem_nil, or_false] at ha; rcases ha with rfl <;> decide +kernel) (fun gh => x_X9_tries_0 d) (by decide +kernel)
def q_X9_tries_1 : List (Nat × Nat) := [(292, zk102), (326, zk7), (327, zk123)]
noncomputable def al_X9_tries_1 : zAq := [(none, [(292, zk105), (326, zk7), (327, zk124)])]
noncomputable def fm_X9_tries_1 : List zFm := [(0, [], (fun vs => [.inr (.ref 292), .inl 2147483650, .inl 9223372043297226770, .inl 9223372047592194067, .inl 9223372051887161364]), (fun vs => zP q_X9_tries_1), (fun vs => Nat.sub (Nat.add 0 0) 0))]
def bf_X9_tries_1 : List Nat := []
theorem r_X9_tries_1_0 : zbox [] (fun vs => zFrun (zpost (zAlq al_X9_tries_1)) 1000 t_X9_tries fm_X9_tries_1 bf_X9_tries_1 (0, vs)) = true := by decide +kernel
set_option maxRecDepth 100000 in
theorem x_X9_tries_1 (d : Nat) : zS l G gh (d + 2) (zpost (zAlq al_X9_tries_1)) n_X9_tries (zn 0 p_X9_tries 0) (zwc (0, [.inr (.ref 292), .inl 2147483650, .inl 9223372043297226770, .inl 9223372047592194067, .inl 9223372051887161364], zP q_X9_tries_1) 0) := zentry (tt_X9_tries d) fm_X9_tries_1 bf_X9_tries_1 1000 (by decide +kernel) rfl ⟨Nat.zero_lt_succ _, trivial⟩ (fun f hf => match f, hf with
  | 0, _ => fun vs hv => (zbox_t r_X9_tries_1_0) vs hv
  | f + 1, h => absurd (show f + 1 < 1 from h) (Nat.not_lt.mpr (Nat.le_add_left 1 f)))
noncomputable def gs_X9_tries_1 : zMt := zgq false [] 6 [.inr (.ref 292), .inl 2147483650, .inl 9223372043297226770, .inl 9223372047592194067, .inl 9223372051887161364] q_X9_tries_1 al_X9_tries_1
set_option maxRecDepth 100000 in
theorem cs_X9_tries_1 (d : Nat) : zC l G gh (d + 2) n_X9_tries gs_X9_tries_1 := zgq_ok0 (pcs := p_X9_tries) (by decide) rfl rfl (fun a ha => by simp only [al_X9_tries_1, List.mem_cons, List.not_mem_nil, or_false] at ha; rcases ha with rfl <;> decide +kernel) (fun gh => x_X9_tries_1 d) (by decide +kernel)
def q_X9_tries_2 : List (Nat × Nat) := [(292, zk102), (326, zk7), (327, zk123)]
noncomputable def al_X9_tries_2 : zAq := [(none, [(292, zk105), (326, zk7), (327, zk124)])]
noncomputable def fm_X9_tries_2 : List zFm := [(0, [], (fun vs => [.inr (.ref 292), .inl 2147483651, .inl 9223372043297226769, .inl 9223372047592194067, .inl 9223372051887161363]), (fun vs => zP q_X9_tries_2), (fun vs => Nat.sub (Nat.add 0 0) 0))]
def bf_X9_tries_2 : List Nat := []
theorem r_X9_tries_2_0 : zbox [] (fun vs => zFrun (zpost (zAlq al_X9_tries_2)) 1000 t_X9_tries fm_X9_tries_2 bf_X9_tries_2 (0, vs)) = true := by decide +kernel
set_option maxRecDepth 100000 in
theorem x_X9_tries_2 (d : Nat) : zS l G gh (d + 2) (zpost (zAlq al_X9_tries_2)) n_X9_tries (zn 0 p_X9_tries 0) (zwc (0, [.inr (.ref 292), .inl 2147483651, .inl 9223372043297226769, .inl 9223372047592194067, .inl 9223372051887161363], zP q_X9_tries_2) 0) := zentry (tt_X9_tries d) fm_X9_tries_2 bf_X9_tries_2 1000 (by decide +kernel) rfl ⟨Nat.zero_lt_succ _, trivial⟩ (fun f hf => match f, hf with
  | 0, _ => fun vs hv => (zbox_t r_X9_tries_2_0) vs hv
  | f + 1, h => absurd (show f + 1 < 1 from h) (Nat.not_lt.mpr (Nat.le_add_left 1 f)))
noncomputable def gs_X9_tries_2 : zMt := zgq false [] 6 [.inr (.ref 292), .inl 2147483651, .inl 9223372043297226769, .inl 9223372047592194067, .inl 9223372051887161363] q_X9_tries_2 al_X9_tries_2
set_option maxRecDepth 100000 in
theorem cs_X9_tries_2 (d : Nat) : zC l G gh (d + 2) n_X9_tries gs_X9_tries_2 := zgq_ok0 (pcs := p_X9_tries) (by decide) rfl rfl (fun a ha => by simp only [al_X9_tries_2, List.mem_cons, List.not_mem_nil, or_false] at ha; rcases ha with rfl <;> decide +kernel) (fun gh => x_X9_tries_2 d) (by decide +kernel)
noncomputable def gs_X9_tries : zMt := (zor gs_X9_tries_0 (zor gs_X9_tries_1 gs_X9_tries_2))
theorem cs_X9_tries (d : Nat) : zC l G gh (d + 2) n_X9_tries gs_X9_tries := (zor_ok (cs_X9_tries_0 d) (zor_ok (cs_X9_tries_1 d) (cs_X9_tries_2 d)))
def p_X8_longFrom : List Nat := [0, 7, 15, 20, 26, 28, 40, 54, 77, 80, 86]
noncomputable def b_X8_longFrom_0 : zBl := fun jp K => oIld 1 <| oCs 1 f_X8_isX <| oIf zeq zne (jp 4) (jp 1)
theorem s_X8_longFrom_0 (d : Nat) : zPb l G gh (d + 5) n_X8_longFrom p_X8_longFrom 0 b_X8_longFrom_0 := fun K jp hj =>
    z_iload_n (n := 1) (i := 1) (zd (i := .iload_n 1) (n := 1) (by decide +kernel)) rfl <|
    z_callS (idx := 175) (N := n_X8_isX) (zd (i := .invokestatic 175) (n := 3) (by decide +kernel)) to_X8_isX g805 g806 rfl rfl (c_X8_isX (l := l) (G := G) (gh := gh) (d + 3)) <|
    z_if_eq (off := 22) (tgt := 26) (zd (i := .ifCond .eq (22)) (n := 3) (by decide +kernel)) (by decide +kernel) (zj (hj 4) (by decide +kernel)) (zj (hj 1) (by decide +kernel))
noncomputable def b_X8_longFrom_1 : zBl := fun jp K => oAld 0 <| oIld 2 <| oCv 8 1 f_X8_isThing <| oIf zeq zne (jp 4) (jp 2)
theorem s_X8_longFrom_1 (d : Nat) : zPb l G gh (d + 5) n_X8_longFrom p_X8_longFrom 7 b_X8_longFrom_1 := fun K jp hj =>
    z_aload_n (n := 0) (i := 0) (zd (i := .aload_n 0) (n := 1) (by decide +kernel)) rfl <|
    z_iload_n (n := 2) (i := 2) (zd (i := .iload_n 2) (n := 1) (by decide +kernel)) rfl <|
    z_callV (idx := 115) (ci := 8) (N := n_X8_isThing) (zd (i := .invokevirtual 115) (n := 3) (by decide +kernel)) to_X8_isThing g708 g710 g17 (by decide +kernel) rfl rfl rfl (c_X8_isThing (l := l) (G := G) (gh := gh) (d + 3)) <|
    z_if_eq (off := 14) (tgt := 26) (zd (i := .ifCond .eq (14)) (n := 3) (by decide +kernel)) (by decide +kernel) (zj (hj 4) (by decide +kernel)) (zj (hj 2) (by decide +kernel))
noncomputable def b_X8_longFrom_2 : zBl := fun jp K => oNLC 3 2147483649 zltN zgeN zn1_lt zn1_ge (jp 4) (jp 3)
theorem s_X8_longFrom_2 (d : Nat) : zPb l G gh (d + 5) n_X8_longFrom p_X8_longFrom 15 b_X8_longFrom_2 := fun K jp hj =>
    z_nLC_lt (i := 3) (c0 := 2147483649) (a1 := 1) (a2 := 1) (off := 9) (tgt := 26) (zLd_n (n := 3) (i := 3) (zd (i := .iload_n 3) (n := 1) (by decide +kernel)) rfl) (zCn_c (n := 1) (zd (i := .iconst (1)) (n := 1) (by decide +kernel)) (by decide +kernel)) (zd (i := .if_icmp .lt (9)) (n := 3) (by decide +kernel)) (by decide +kernel) (zj (hj 4) (by decide +kernel)) (zj (hj 3) (by decide +kernel))
noncomputable def b_X8_longFrom_3 : zBl := fun jp K => oNLC 3 2147483696 zleN zgtN zn1_le zn1_gt (jp 5) (jp 4)
theorem s_X8_longFrom_3 (d : Nat) : zPb l G gh (d + 5) n_X8_longFrom p_X8_longFrom 20 b_X8_longFrom_3 := fun K jp hj =>
    z_nLC_le (i := 3) (c0 := 2147483696) (a1 := 1) (a2 := 2) (off := 5) (tgt := 28) (zLd_n (n := 3) (i := 3) (zd (i := .iload_n 3) (n := 1) (by decide +kernel)) rfl) (zCn_b (n := 48) (zd (i := .bipush (48)) (n := 2) (by decide +kernel)) (by decide +kernel)) (zd (i := .if_icmp .le (5)) (n := 3) (by decide +kernel)) (by decide +kernel) (zj (hj 5) (by decide +kernel)) (zj (hj 4) (by decide +kernel))
noncomputable def b_X8_longFrom_4 : zBl := fun jp K => oInt 2147483647 <| oIret K
theorem s_X8_longFrom_4 (d : Nat) : zPb l G gh (d + 5) n_X8_longFrom p_X8_longFrom 26 b_X8_longFrom_4 := fun K jp hj =>
    z_iconst (n := -1) (zd (i := .iconst (-1)) (n := 1) (by decide +kernel)) (by decide +kernel) <|
    z_iret (zd (i := .ireturn) (n := 1) (by decide +kernel)) rfl
noncomputable def b_X8_longFrom_5 : zBl := fun jp K => oInt 2147483648 <| oIst 4 <| oAld 0 <| oGetR 8 2 <| oGetI 4 0 <| oIst 5 <| jp 6
theorem s_X8_longFrom_5 (d : Nat) : zPb l G gh (d + 5) n_X8_longFrom p_X8_longFrom 28 b_X8_longFrom_5 := fun K jp hj =>
    z_iconst (n := 0) (zd (i := .iconst (0)) (n := 1) (by decide +kernel)) (by decide +kernel) <|
    z_istore (i := 4) (zd (i := .istore 4) (n := 2) (by decide +kernel)) (by decide +kernel) <|
    z_aload_n (n := 0) (i := 0) (zd (i := .aload_n 0) (n := 1) (by decide +kernel)) rfl <|
    z_getR (ci := 8) (j := 2) (idx := 26) (zd (i := .getfield 26) (n := 3) (by decide +kernel)) (by decide +kernel) (by decide +kernel) rfl g454 <|
    z_getI (ci := 4) (j := 0) (idx := 140) (zd (i := .getfield 140) (n := 3) (by decide +kernel)) (by decide +kernel) (by decide +kernel) rfl g368 <|
    z_istore (i := 5) (zd (i := .istore 5) (n := 2) (by decide +kernel)) (by decide +kernel) <|
    (zj (hj 6) (by decide +kernel))
section
variable {d : Nat}
theorem w_X8_longFrom_40 {Q : qQ} {I : qMI} {L : qML} {R : qMR} {a1 : Int32} {a2 : Int32} {a3 : Int32} {a4 : Int32} {a5 : Int32} (h1 : R 0 2 = some 21) (kt : ((I 21 0) + a3) ≤ a5 → wkB l G (d + 1) n_X8_longFrom Q 86 [.ref 0, .int a1, .int a2, .int a3, .int a4, .int a5] [] I L R) (kf : ¬ ((I 21 0) + a3) ≤ a5 → wkB l G (d + 1) n_X8_longFrom Q 54 [.ref 0, .int a1, .int a2, .int a3, .int a4, .int a5] [] I L R) : wkB l G (d + 1) n_X8_longFrom Q 40 [.ref 0, .int a1, .int a2, .int a3, .int a4, .int a5] [] I L R :=
  bb_iload (i := 5) (zd (i := .iload 5) (n := 2) (by decide +kernel)) rfl <|
  bb_aload_n (n := 0) (i := 0) (zd (i := .aload_n 0) (n := 1) (by decide +kernel)) rfl rfl <|
  bb_getr (k := 0) (ci := 8) (j := 2) (idx := 26) (a := 21) (zd (i := .getfield 26) (n := 3) (by decide +kernel)) (by decide +kernel) (by decide +kernel) (by decide +kernel) (by decide +kernel) rfl g454 h1 <|
  bb_geti (k := 21) (ci := 4) (j := 0) (idx := 140) (zd (i := .getfield 140) (n := 3) (by decide +kernel)) (by decide +kernel) (by decide +kernel) (by decide +kernel) (by decide +kernel) rfl g368 <|
  bb_iload_n (n := 3) (i := 3) (zd (i := .iload_n 3) (n := 1) (by decide +kernel)) rfl rfl <|
  bb_lift (fun _ => q_iadd (zd (i := .iadd) (n := 1) (by decide +kernel))) <|
  (fun lv hl => q_icmp_ge (off := 35) (tgt := 86) (zd (i := .if_icmp .ge (35)) (n := 3) (by decide +kernel)) (by decide) (fun h => (kt h) lv hl) (fun h => (kf h) lv hl))
theorem w_X8_longFrom_54 {Q : qQ} {I : qMI} {L : qML} {R : qMR} {fl : Nat} {a1 : Int32} {a2 : Int32} {a3 : Int32} {a4 : Int32} {a5 : Int32} (h1 : R 0 12 = some fl) (h2 : R 0 12 = some fl) (h3 : fl < 336) (h4 : (qSh fl).1 = 0) {P : Int32 → qMI → qML → qMR → Prop} (hc : wkCi l G d n_X0_heat [.ref fl, .int a5] I L R P) (kk : ∀ y I' L' R', P y I' L' R' → wkB l G (d + 1) n_X8_longFrom Q 71 [.ref 0, .int a1, .int a2, .int a3, .int a4, .int a5] [.int y, .int a5, .int a2, .int a1, .ref fl] I' L' R') : wkB l G (d + 1) n_X8_longFrom Q 54 [.ref 0, .int a1, .int a2, .int a3, .int a4, .int a5] [] I L R :=
  bb_aload_n (n := 0) (i := 0) (zd (i := .aload_n 0) (n := 1) (by decide +kernel)) rfl rfl <|
  bb_getr (k := 0) (ci := 8) (j := 12) (idx := 71) (a := fl) (zd (i := .getfield 71) (n := 3) (by decide +kernel)) (by decide +kernel) (by decide +kernel) (by decide +kernel) (by decide +kernel) rfl g464 h1 <|
  bb_iload_n (n := 1) (i := 1) (zd (i := .iload_n 1) (n := 1) (by decide +kernel)) rfl rfl <|
  bb_iload_n (n := 2) (i := 2) (zd (i := .iload_n 2) (n := 1) (by decide +kernel)) rfl rfl <|
  bb_iload (i := 5) (zd (i := .iload 5) (n := 2) (by decide +kernel)) rfl <|
  bb_aload_n (n := 0) (i := 0) (zd (i := .aload_n 0) (n := 1) (by decide +kernel)) rfl rfl <|
  bb_getr (k := 0) (ci := 8) (j := 12) (idx := 71) (a := fl) (zd (i := .getfield 71) (n := 3) (by decide +kernel)) (by decide +kernel) (by decide +kernel) (by decide +kernel) (by decide +kernel) rfl g464 h2 <|
  bb_iload (i := 5) (zd (i := .iload 5) (n := 2) (by decide +kernel)) rfl <|
  bb_callV (idx := 143) (k := fl) (ci := 0) (N := n_X0_heat) (As := [.int a5]) (st := [.int a5, .int a2, .int a1, .ref fl]) (zd (i := .invokevirtual 143) (n := 3) (by decide +kernel)) to_X0_heat g716 g717 g718 (Nat.le_of_ble_eq_true rfl) h3 h4 (by decide +kernel) rfl rfl rfl hc (fun r I' L' R' hq => by obtain ⟨y, rfl, hp⟩ := hq; exact kk y I' L' R' hp)
theorem w_X8_longFrom_71 {Q : qQ} {I : qMI} {L : qML} {R : qMR} {fl : Nat} {a1 : Int32} {a2 : Int32} {a3 : Int32} {a4 : Int32} {a5 : Int32} {s1 : Int32} {s2 : Int32} {s3 : Int32} {s4 : Int32} (h1 : fl < 336) (h2 : (qSh fl).1 = 0) {P : Int32 → qMI → qML → qMR → Prop} (hc : wkCi l G d n_X0_isSeenFrom [.ref fl, .int s1, .int s2, .int s3, .int s4] I L R P) (kk : ∀ y I' L' R', P y I' L' R' → wkB l G (d + 1) n_X8_longFrom Q 74 [.ref 0, .int a1, .int a2, .int a3, .int a4, .int a5] [.int y] I' L' R') : wkB l G (d + 1) n_X8_longFrom Q 71 [.ref 0, .int a1, .int a2, .int a3, .int a4, .int a5] [.int s4, .int s3, .int s2, .int s1, .ref fl] I L R :=
  bb_callV (idx := 239) (k := fl) (ci := 0) (N := n_X0_isSeenFrom) (As := [.int s1, .int s2, .int s3, .int s4]) (st := []) (zd (i := .invokevirtual 239) (n := 3) (by decide +kernel)) to_X0_isSeenFrom g745 g746 g747 (Nat.le_of_ble_eq_true rfl) h1 h2 (by decide +kernel) rfl rfl rfl hc (fun r I' L' R' hq => by obtain ⟨y, rfl, hp⟩ := hq; exact kk y I' L' R' hp)
theorem w_X8_longFrom_74 {Q : qQ} {I : qMI} {L : qML} {R : qMR} {a1 : Int32} {a2 : Int32} {a3 : Int32} {a4 : Int32} {a5 : Int32} {s0 : Int32} (kt : s0 = 0 → wkB l G (d + 1) n_X8_longFrom Q 80 [.ref 0, .int a1, .int a2, .int a3, .int a4, .int a5] [] I L R) (kf : ¬ s0 = 0 → wkB l G (d + 1) n_X8_longFrom Q 77 [.ref 0, .int a1, .int a2, .int a3, .int a4, .int a5] [] I L R) : wkB l G (d + 1) n_X8_longFrom Q 74 [.ref 0, .int a1, .int a2, .int a3, .int a4, .int a5] [.int s0] I L R :=
  (fun lv hl => q_if_eq (off := 6) (tgt := 80) (zd (i := .ifCond .eq (6)) (n := 3) (by decide +kernel)) (by decide) (fun h => (kt h) lv hl) (fun h => (kf h) lv hl))
theorem w_X8_longFrom_77 {Q : qQ} {I : qMI} {L : qML} {R : qMR} {a1 : Int32} {a2 : Int32} {a3 : Int32} {a4 : Int32} {a5 : Int32} (k : wkB l G (d + 1) n_X8_longFrom Q 80 [.ref 0, .int a1, .int a2, .int a3, .int (a4 + 1), .int a5] [] I L R) : wkB l G (d + 1) n_X8_longFrom Q 77 [.ref 0, .int a1, .int a2, .int a3, .int a4, .int a5] [] I L R :=
  bb_iinc (i := 4) (n := 1) (zd (i := .iinc 4 (1)) (n := 3) (by decide +kernel)) rfl rfl (by decide +kernel) (wkNl_i rfl) <|
  k
theorem w_X8_longFrom_80 {Q : qQ} {I : qMI} {L : qML} {R : qMR} {a1 : Int32} {a2 : Int32} {a3 : Int32} {a4 : Int32} {a5 : Int32} (k : wkB l G (d + 1) n_X8_longFrom Q 40 [.ref 0, .int a1, .int a2, .int a3, .int a4, .int (a5 + 1)] [] I L R) : wkB l G (d + 1) n_X8_longFrom Q 80 [.ref 0, .int a1, .int a2, .int a3, .int a4, .int a5] [] I L R :=
  bb_iinc (i := 5) (n := 1) (zd (i := .iinc 5 (1)) (n := 3) (by decide +kernel)) rfl rfl (by decide +kernel) (wkNl_i rfl) <|
  bb_lift (fun _ => q_goto (off := -43) (tgt := 40) (zd (i := .goto (-43)) (n := 3) (by decide +kernel)) (by decide)) k
end
noncomputable def bx_lf : zBl := fun jp _ => fun lv st ce sl t A => zR (zn zdum lv 0) (fun o => zI (zn zdum lv 1) (fun c1 => zI (zn zdum lv 2) (fun c2 => zI (zn zdum lv 3) (fun c3 => zI (zn zdum lv 4) (fun _ => zI (zn zdum lv 5) (fun _ => zE st (bif Nat.beq o 0 then (bif Nat.beq ce 0 then (bif Nat.beq sl 0 then (bif Nat.beq t 336 then (
  bif (bif zAw A (zucs A [269, 270]) then (bif zhk f_X0_heat gs_X0_isSeenFrom 259 [.inl c1, .inl c2, .inl ztop, .inl ztop] (zucs A [269, 270]) then jp 10 [.inr (.ref 0), .inl c1, .inl c2, .inl c3, .inl ztop, .inl ztop] [] 0 0 336 (zucs A [269, 270]) else false) else false) then true
  else (bif zAw A (zucs A [19, 20]) then (bif zhk f_X0_heat gs_X0_isSeenFrom 9 [.inl c1, .inl c2, .inl ztop, .inl ztop] (zucs A [19, 20]) then jp 10 [.inr (.ref 0), .inl c1, .inl c2, .inl c3, .inl ztop, .inl ztop] [] 0 0 336 (zucs A [19, 20]) else false) else false)) else false) else false) else false) else false)))))))
theorem sx_lf (d : Nat) : zPb l G gh (d + 5) n_X8_longFrom p_X8_longFrom 40 bx_lf := by
  intro K jp hj lv st ce sl t A h lv' st' I L R hl hs hm
  obtain ⟨v0, k0, z0⟩ := zgl_get hl (zRn h)
  obtain ⟨o, rfl, h⟩ := zR_t h z0
  obtain ⟨v1, k1, z1⟩ := zgl_get hl (zI_nd h)
  obtain ⟨c1, a1, rfl, hx1, h⟩ := zI_t h z1
  obtain ⟨v2, k2, z2⟩ := zgl_get hl (zI_nd h)
  obtain ⟨c2, a2, rfl, hx2, h⟩ := zI_t h z2
  obtain ⟨v3, k3, z3⟩ := zgl_get hl (zI_nd h)
  obtain ⟨c3, a3, rfl, hx3, h⟩ := zI_t h z3
  obtain ⟨v4, k4, z4⟩ := zgl_get hl (zI_nd h)
  obtain ⟨c4, a4, rfl, hx4, h⟩ := zI_t h z4
  obtain ⟨v5, k5, z5⟩ := zgl_get hl (zI_nd h)
  obtain ⟨c5, a5, rfl, hx5, h⟩ := zI_t h z5
  obtain ⟨rfl, h⟩ := zE_t h hs
  obtain ⟨b0, h⟩ := zand h
  obtain ⟨b1, h⟩ := zand h
  obtain ⟨b2, h⟩ := zand h
  obtain ⟨b3, hh⟩ := zand h
  have e0 := Nat.eq_of_beq_eq_true b0
  have e1 := Nat.eq_of_beq_eq_true b1
  have e2 := Nat.eq_of_beq_eq_true b2
  have e3 := Nat.eq_of_beq_eq_true b3
  subst e0 e1 e2 e3
  obtain ⟨fl, A2, w1, w2, w3⟩ : ∃ fl A2, zAw A A2 = true ∧ zhk f_X0_heat gs_X0_isSeenFrom fl [.inl c1, .inl c2, .inl ztop, .inl ztop] A2 = true ∧ jp 10 [.inr (.ref 0), .inl c1, .inl c2, .inl c3, .inl ztop, .inl ztop] [] 0 0 336 A2 = true := by
    rcases zelse hh with ⟨h, -⟩ | h
    · obtain ⟨q1, h⟩ := zand h
      obtain ⟨q2, q3⟩ := zand h
      exact ⟨_, _, q1, q2, q3⟩
    · obtain ⟨q1, h⟩ := zand h
      obtain ⟨q2, q3⟩ := zand h
      exact ⟨_, _, q1, q2, q3⟩
  obtain ⟨F, w4, w5⟩ := zhk_t (gh := gh) w2
  have loop : ∀ (m : Nat) (a4 a5 : Int32) (I : qMI) (L : qML) (R : qMR), ((gh.1 21 0 + a3).toInt - a5.toInt).toNat = m → zM gh 336 A2 I L R → wkB l G (d + 4 + 1) n_X8_longFrom (zQ gh K) 40 [.ref 0, .int a1, .int a2, .int a3, .int a4, .int a5] [] I L R := by
    intro m
    induction m using Nat.strongRecOn with
    | ind m ih =>
      intro a4 a5 I L R hmm hm
      obtain ⟨r1, r2, i1, f1, f2⟩ := F I L R hm
      refine w_X8_longFrom_40 r1 (fun _ lv'' hl'' => hj 10 _ [] 0 0 336 A2 w3 lv'' [] I L R (fun i => ?_) trivial ⟨hm, Nat.zero_le _, Nat.zero_le _⟩) (fun q => ?_)
      · match i with
        | 0 => exact Or.inr ⟨_, hl'' 0 _ rfl (wkU_r _), ⟨rfl, rfl⟩⟩
        | 1 => exact Or.inr ⟨_, hl'' 1 _ rfl (wkU_i _), ⟨_, rfl, hx1⟩⟩
        | 2 => exact Or.inr ⟨_, hl'' 2 _ rfl (wkU_i _), ⟨_, rfl, hx2⟩⟩
        | 3 => exact Or.inr ⟨_, hl'' 3 _ rfl (wkU_i _), ⟨_, rfl, hx3⟩⟩
        | 4 => exact Or.inr ⟨_, hl'' 4 _ rfl (wkU_i _), ⟨_, rfl, zin_top _⟩⟩
        | 5 => exact Or.inr ⟨_, hl'' 5 _ rfl (wkU_i _), ⟨_, rfl, zin_top _⟩⟩
        | i + 6 => exact Or.inl rfl
      rw [i1] at q
      have q2 := i_lt.mp (Int32.not_le.mp q)
      have h1 := i_hi (gh.1 21 0 + a3)
      have e5 : (a5 + 1).toInt = a5.toInt + 1 := i_s (by omega)
      refine w_X8_longFrom_54 r2 r2 f1 f2 (zcallA (c_X0_heat (l := l) (G := G) (gh := gh) (d)) w4 ⟨⟨rfl, rfl⟩, ⟨_, rfl, zin_top _⟩, trivial⟩ hm) (fun y I L R hm => ?_)
      refine w_X8_longFrom_71 f1 f2 (zcallA (cs_X0_isSeenFrom (l := l) (G := G) (gh := gh) (d)) w5 ⟨⟨rfl, rfl⟩, ⟨_, rfl, hx1⟩, ⟨_, rfl, hx2⟩, ⟨_, rfl, zin_top _⟩, ⟨_, rfl, zin_top _⟩, trivial⟩ hm) (fun y I L R hm => ?_)
      have go : ∀ a4', wkB l G (d + 4 + 1) n_X8_longFrom (zQ gh K) 80 [.ref 0, .int a1, .int a2, .int a3, .int a4', .int a5] [] I L R := fun a4' => w_X8_longFrom_80 (ih _ (by omega) a4' (a5 + 1) I L R rfl hm)
      exact w_X8_longFrom_74 (fun _ => go _) (fun _ => w_X8_longFrom_77 (go _))
  refine loop _ a4 a5 I L R rfl (zM_w hm.1 w1) lv' (fun i v hi hv => ?_)
  match i with
  | 0 => cases hi; exact k0
  | 1 => cases hi; exact k1
  | 2 => cases hi; exact k2
  | 3 => cases hi; exact k3
  | 4 => cases hi; exact k4
  | 5 => cases hi; exact k5
  | i + 6 => cases hi
noncomputable def b_X8_longFrom_10 : zBl := fun jp K => oIld 4 <| oIret K
theorem s_X8_longFrom_10 (d : Nat) : zPb l G gh (d + 5) n_X8_longFrom p_X8_longFrom 86 b_X8_longFrom_10 := fun K jp hj =>
    z_iload (i := 4) (zd (i := .iload 4) (n := 2) (by decide +kernel)) <|
    z_iret (zd (i := .ireturn) (n := 1) (by decide +kernel)) rfl
noncomputable def t_X8_longFrom : List zBl := [b_X8_longFrom_0, b_X8_longFrom_1, b_X8_longFrom_2, b_X8_longFrom_3, b_X8_longFrom_4, b_X8_longFrom_5, bx_lf, zfl, zfl, zfl, b_X8_longFrom_10]
theorem tt_X8_longFrom (d : Nat) : zT (zPb l G gh (d + 5) n_X8_longFrom p_X8_longFrom) t_X8_longFrom p_X8_longFrom := ⟨s_X8_longFrom_0 d, s_X8_longFrom_1 d, s_X8_longFrom_2 d, s_X8_longFrom_3 d, s_X8_longFrom_4 d, s_X8_longFrom_5 d, sx_lf d, (fun _ _ _ => z_fail), (fun _ _ _ => z_fail), (fun _ _ _ => z_fail), s_X8_longFrom_10 d, trivial⟩
def q_X8_longFrom_0 : List (Nat × Nat) := [(0, zk0), (21, zk10), (259, zk20), (261, zk12), (262, zk12), (265, zk2), (266, zk18), (267, zk18), (268, zk19), (269, zk3), (270, zk7)]
noncomputable def al_X8_longFrom_0 : zAq := [(some (.inl 8589934591), [(0, zk0), (21, zk10), (259, zk20), (261, zk12), (262, zk12), (265, zk2), (266, zk18), (267, zk18), (268, zk19), (269, zk4), (270, zk9)])]
noncomputable def fm_X8_longFrom_0 : List zFm := [(0, [], (fun vs => [.inr (.ref 0), .inl 8589934591, .inl 9223372043297226757, .inl 9223372047592194096]), (fun vs => zP q_X8_longFrom_0), (fun vs => Nat.sub (Nat.add 0 0) 0))]
def bf_X8_longFrom_0 : List Nat := []
theorem r_X8_longFrom_0_0 : zbox [] (fun vs => zFrun (zpost (zAlq al_X8_longFrom_0)) 1000 t_X8_longFrom fm_X8_longFrom_0 bf_X8_longFrom_0 (0, vs)) = true := by decide +kernel
set_option maxRecDepth 100000 in
theorem x_X8_longFrom_0 (d : Nat) : zS l G gh (d + 5) (zpost (zAlq al_X8_longFrom_0)) n_X8_longFrom (zn 0 p_X8_longFrom 0) (zwc (0, [.inr (.ref 0), .inl 8589934591, .inl 9223372043297226757, .inl 9223372047592194096], zP q_X8_longFrom_0) 0) := zentry (tt_X8_longFrom d) fm_X8_longFrom_0 bf_X8_longFrom_0 1000 (by decide +kernel) rfl ⟨Nat.zero_lt_succ _, trivial⟩ (fun f hf => match f, hf with
  | 0, _ => fun vs hv => (zbox_t r_X8_longFrom_0_0) vs hv
  | f + 1, h => absurd (show f + 1 < 1 from h) (Nat.not_lt.mpr (Nat.le_add_left 1 f)))
noncomputable def gs_X8_longFrom_0 : zMt := zgq false [] 6 [.inr (.ref 0), .inl 8589934591, .inl 9223372043297226757, .inl 9223372047592194096] q_X8_longFrom_0 al_X8_longFrom_0
set_option maxRecDepth 100000 in
theorem cs_X8_longFrom_0 (d : Nat) : zC l G gh (d + 5) n_X8_longFrom gs_X8_longFrom_0 := zgq_ok0 (pcs := p_X8_longFrom) (by decide) rfl rfl (fun a ha => by simp only [al_X8_longFrom_0, List.mem_cons, List.not_mem_nil, or_false] at ha; rcases ha with rfl <;> decide +kernel) (fun gh => x_X8_longFrom_0 d) (by decide +kernel)
def q_X8_longFrom_1 : List (Nat × Nat) := [(0, zk0), (259, zk20)]
noncomputable def al_X8_longFrom_1 : zAq := [(some (.inl 2147483647), [(0, zk0), (259, zk20)])]
noncomputable def fm_X8_longFrom_1 : List zFm := [(0, [], (fun vs => [.inr (.ref 0), .inl 8589934591, .inl 9223372043297226757, .inl 6442450944]), (fun vs => zP q_X8_longFrom_1), (fun vs => Nat.sub (Nat.add 0 0) 0))]
def bf_X8_longFrom_1 : List Nat := []
theorem r_X8_longFrom_1_0 : zbox [] (fun vs => zFrun (zpost (zAlq al_X8_longFrom_1)) 1000 t_X8_longFrom fm_X8_longFrom_1 bf_X8_longFrom_1 (0, vs)) = true := by decide +kernel
set_option maxRecDepth 100000 in
theorem x_X8_longFrom_1 (d : Nat) : zS l G gh (d + 5) (zpost (zAlq al_X8_longFrom_1)) n_X8_longFrom (zn 0 p_X8_longFrom 0) (zwc (0, [.inr (.ref 0), .inl 8589934591, .inl 9223372043297226757, .inl 6442450944], zP q_X8_longFrom_1) 0) := zentry (tt_X8_longFrom d) fm_X8_longFrom_1 bf_X8_longFrom_1 1000 (by decide +kernel) rfl ⟨Nat.zero_lt_succ _, trivial⟩ (fun f hf => match f, hf with
  | 0, _ => fun vs hv => (zbox_t r_X8_longFrom_1_0) vs hv
  | f + 1, h => absurd (show f + 1 < 1 from h) (Nat.not_lt.mpr (Nat.le_add_left 1 f)))
noncomputable def gs_X8_longFrom_1 : zMt := zgq false [] 6 [.inr (.ref 0), .inl 8589934591, .inl 9223372043297226757, .inl 6442450944] q_X8_longFrom_1 al_X8_longFrom_1
set_option maxRecDepth 100000 in
theorem cs_X8_longFrom_1 (d : Nat) : zC l G gh (d + 5) n_X8_longFrom gs_X8_longFrom_1 := zgq_ok0 (pcs := p_X8_longFrom) (by decide) rfl rfl (fun a ha => by simp only [al_X8_longFrom_1, List.mem_cons, List.not_mem_nil, or_false] at ha; rcases ha with rfl <;> decide +kernel) (fun gh => x_X8_longFrom_1 d) (by decide +kernel)
def q_X8_longFrom_2 : List (Nat × Nat) := [(0, zk0), (259, zk20)]
noncomputable def al_X8_longFrom_2 : zAq := [(some (.inl 2147483647), [(0, zk0), (259, zk20)])]
noncomputable def fm_X8_longFrom_2 : List zFm := [(0, [], (fun vs => [.inr (.ref 0), .inl 8589934591, .inl 9223372043297226757, .inl 9223372255898107903]), (fun vs => zP q_X8_longFrom_2), (fun vs => Nat.sub (Nat.add 0 0) 0))]
def bf_X8_longFrom_2 : List Nat := []
theorem r_X8_longFrom_2_0 : zbox [] (fun vs => zFrun (zpost (zAlq al_X8_longFrom_2)) 1000 t_X8_longFrom fm_X8_longFrom_2 bf_X8_longFrom_2 (0, vs)) = true := by decide +kernel
set_option maxRecDepth 100000 in
theorem x_X8_longFrom_2 (d : Nat) : zS l G gh (d + 5) (zpost (zAlq al_X8_longFrom_2)) n_X8_longFrom (zn 0 p_X8_longFrom 0) (zwc (0, [.inr (.ref 0), .inl 8589934591, .inl 9223372043297226757, .inl 9223372255898107903], zP q_X8_longFrom_2) 0) := zentry (tt_X8_longFrom d) fm_X8_longFrom_2 bf_X8_longFrom_2 1000 (by decide +kernel) rfl ⟨Nat.zero_lt_succ _, trivial⟩ (fun f hf => match f, hf with
  | 0, _ => fun vs hv => (zbox_t r_X8_longFrom_2_0) vs hv
  | f + 1, h => absurd (show f + 1 < 1 from h) (Nat.not_lt.mpr (Nat.le_add_left 1 f)))
noncomputable def gs_X8_longFrom_2 : zMt := zgq false [] 6 [.inr (.ref 0), .inl 8589934591, .inl 9223372043297226757, .inl 9223372255898107903] q_X8_longFrom_2 al_X8_longFrom_2
set_option maxRecDepth 100000 in
theorem cs_X8_longFrom_2 (d : Nat) : zC l G gh (d + 5) n_X8_longFrom gs_X8_longFrom_2 := zgq_ok0 (pcs := p_X8_longFrom) (by decide) rfl rfl (fun a ha => by simp only [al_X8_longFrom_2, List.mem_cons, List.not_mem_nil, or_false] at ha; rcases ha with rfl <;> decide +kernel) (fun gh => x_X8_longFrom_2 d) (by decide +kernel)
def q_X8_longFrom_3 : List (Nat × Nat) := [(0, zk0)]
noncomputable def al_X8_longFrom_3 : zAq := [(some (.inl 2147483647), [(0, zk0)])]
noncomputable def fm_X8_longFrom_3 : List zFm := [(0, [], (fun vs => [.inr (.ref 0), .inl 8589934591, .inl 6442450943, .inl 8589934591]), (fun vs => zP q_X8_longFrom_3), (fun vs => Nat.sub (Nat.add 0 0) 0))]
def bf_X8_longFrom_3 : List Nat := []
theorem r_X8_longFrom_3_0 : zbox [] (fun vs => zFrun (zpost (zAlq al_X8_longFrom_3)) 1000 t_X8_longFrom fm_X8_longFrom_3 bf_X8_longFrom_3 (0, vs)) = true := by decide +kernel
set_option maxRecDepth 100000 in
theorem x_X8_longFrom_3 (d : Nat) : zS l G gh (d + 5) (zpost (zAlq al_X8_longFrom_3)) n_X8_longFrom (zn 0 p_X8_longFrom 0) (zwc (0, [.inr (.ref 0), .inl 8589934591, .inl 6442450943, .inl 8589934591], zP q_X8_longFrom_3) 0) := zentry (tt_X8_longFrom d) fm_X8_longFrom_3 bf_X8_longFrom_3 1000 (by decide +kernel) rfl ⟨Nat.zero_lt_succ _, trivial⟩ (fun f hf => match f, hf with
  | 0, _ => fun vs hv => (zbox_t r_X8_longFrom_3_0) vs hv
  | f + 1, h => absurd (show f + 1 < 1 from h) (Nat.not_lt.mpr (Nat.le_add_left 1 f)))
noncomputable def gs_X8_longFrom_3 : zMt := zgq false [] 6 [.inr (.ref 0), .inl 8589934591, .inl 6442450943, .inl 8589934591] q_X8_longFrom_3 al_X8_longFrom_3
set_option maxRecDepth 100000 in
theorem cs_X8_longFrom_3 (d : Nat) : zC l G gh (d + 5) n_X8_longFrom gs_X8_longFrom_3 := zgq_ok0 (pcs := p_X8_longFrom) (by decide) rfl rfl (fun a ha => by simp only [al_X8_longFrom_3, List.mem_cons, List.not_mem_nil, or_false] at ha; rcases ha with rfl <;> decide +kernel) (fun gh => x_X8_longFrom_3 d) (by decide +kernel)
def q_X8_longFrom_4 : List (Nat × Nat) := [(0, zk0), (259, zk20)]
noncomputable def al_X8_longFrom_4 : zAq := [(some (.inl 2147483647), [(0, zk0), (259, zk20)])]
noncomputable def fm_X8_longFrom_4 : List zFm := [(0, [], (fun vs => [.inr (.ref 0), .inl 8589934591, .inl 9223372071214514175, .inl 8589934591]), (fun vs => zP q_X8_longFrom_4), (fun vs => Nat.sub (Nat.add 0 0) 0))]
def bf_X8_longFrom_4 : List Nat := []
theorem r_X8_longFrom_4_0 : zbox [] (fun vs => zFrun (zpost (zAlq al_X8_longFrom_4)) 1000 t_X8_longFrom fm_X8_longFrom_4 bf_X8_longFrom_4 (0, vs)) = true := by decide +kernel
set_option maxRecDepth 100000 in
theorem x_X8_longFrom_4 (d : Nat) : zS l G gh (d + 5) (zpost (zAlq al_X8_longFrom_4)) n_X8_longFrom (zn 0 p_X8_longFrom 0) (zwc (0, [.inr (.ref 0), .inl 8589934591, .inl 9223372071214514175, .inl 8589934591], zP q_X8_longFrom_4) 0) := zentry (tt_X8_longFrom d) fm_X8_longFrom_4 bf_X8_longFrom_4 1000 (by decide +kernel) rfl ⟨Nat.zero_lt_succ _, trivial⟩ (fun f hf => match f, hf with
  | 0, _ => fun vs hv => (zbox_t r_X8_longFrom_4_0) vs hv
  | f + 1, h => absurd (show f + 1 < 1 from h) (Nat.not_lt.mpr (Nat.le_add_left 1 f)))
noncomputable def gs_X8_longFrom_4 : zMt := zgq false [] 6 [.inr (.ref 0), .inl 8589934591, .inl 9223372071214514175, .inl 8589934591] q_X8_longFrom_4 al_X8_longFrom_4
set_option maxRecDepth 100000 in
theorem cs_X8_longFrom_4 (d : Nat) : zC l G gh (d + 5) n_X8_longFrom gs_X8_longFrom_4 := zgq_ok0 (pcs := p_X8_longFrom) (by decide) rfl rfl (fun a ha => by simp only [al_X8_longFrom_4, List.mem_cons, List.not_mem_nil, or_false] at ha; rcases ha with rfl <;> decide +kernel) (fun gh => x_X8_longFrom_4 d) (by decide +kernel)
def q_X8_longFrom_5 : List (Nat × Nat) := [(0, zk1), (9, zk21), (11, zk12), (12, zk12), (15, zk5), (16, zk18), (17, zk18), (18, zk19), (19, zk3), (20, zk7), (21, zk10)]
noncomputable def al_X8_longFrom_5 : zAq := [(some (.inl 8589934591), [(0, zk1), (9, zk21), (11, zk12), (12, zk12), (15, zk5), (16, zk18), (17, zk18), (18, zk19), (19, zk4), (20, zk9), (21, zk10)])]
noncomputable def fm_X8_longFrom_5 : List zFm := [(0, [], (fun vs => [.inr (.ref 0), .inl 8589934591, .inl 9223372043297226757, .inl 9223372047592194096]), (fun vs => zP q_X8_longFrom_5), (fun vs => Nat.sub (Nat.add 0 0) 0))]
def bf_X8_longFrom_5 : List Nat := []
theorem r_X8_longFrom_5_0 : zbox [] (fun vs => zFrun (zpost (zAlq al_X8_longFrom_5)) 1000 t_X8_longFrom fm_X8_longFrom_5 bf_X8_longFrom_5 (0, vs)) = true := by decide +kernel
set_option maxRecDepth 100000 in
theorem x_X8_longFrom_5 (d : Nat) : zS l G gh (d + 5) (zpost (zAlq al_X8_longFrom_5)) n_X8_longFrom (zn 0 p_X8_longFrom 0) (zwc (0, [.inr (.ref 0), .inl 8589934591, .inl 9223372043297226757, .inl 9223372047592194096], zP q_X8_longFrom_5) 0) := zentry (tt_X8_longFrom d) fm_X8_longFrom_5 bf_X8_longFrom_5 1000 (by decide +kernel) rfl ⟨Nat.zero_lt_succ _, trivial⟩ (fun f hf => match f, hf with
  | 0, _ => fun vs hv => (zbox_t r_X8_longFrom_5_0) vs hv
  | f + 1, h => absurd (show f + 1 < 1 from h) (Nat.not_lt.mpr (Nat.le_add_left 1 f)))
noncomputable def gs_X8_longFrom_5 : zMt := zgq false [] 6 [.inr (.ref 0), .inl 8589934591, .inl 9223372043297226757, .inl 9223372047592194096] q_X8_longFrom_5 al_X8_longFrom_5
set_option maxRecDepth 100000 in
theorem cs_X8_longFrom_5 (d : Nat) : zC l G gh (d + 5) n_X8_longFrom gs_X8_longFrom_5 := zgq_ok0 (pcs := p_X8_longFrom) (by decide) rfl rfl (fun a ha => by simp only [al_X8_longFrom_5, List.mem_cons, List.not_mem_nil, or_false] at ha; rcases ha with rfl <;> decide +kernel) (fun gh => x_X8_longFrom_5 d) (by decide +kernel)
def q_X8_longFrom_6 : List (Nat × Nat) := [(0, zk1), (9, zk21)]
noncomputable def al_X8_longFrom_6 : zAq := [(some (.inl 2147483647), [(0, zk1), (9, zk21)])]
noncomputable def fm_X8_longFrom_6 : List zFm := [(0, [], (fun vs => [.inr (.ref 0), .inl 8589934591, .inl 9223372043297226757, .inl 6442450944]), (fun vs => zP q_X8_longFrom_6), (fun vs => Nat.sub (Nat.add 0 0) 0))]
def bf_X8_longFrom_6 : List Nat := []
theorem r_X8_longFrom_6_0 : zbox [] (fun vs => zFrun (zpost (zAlq al_X8_longFrom_6)) 1000 t_X8_longFrom fm_X8_longFrom_6 bf_X8_longFrom_6 (0, vs)) = true := by decide +kernel
set_option maxRecDepth 100000 in
theorem x_X8_longFrom_6 (d : Nat) : zS l G gh (d + 5) (zpost (zAlq al_X8_longFrom_6)) n_X8_longFrom (zn 0 p_X8_longFrom 0) (zwc (0, [.inr (.ref 0), .inl 8589934591, .inl 9223372043297226757, .inl 6442450944], zP q_X8_longFrom_6) 0) := zentry (tt_X8_longFrom d) fm_X8_longFrom_6 bf_X8_longFrom_6 1000 (by decide +kernel) rfl ⟨Nat.zero_lt_succ _, trivial⟩ (fun f hf => match f, hf with
  | 0, _ => fun vs hv => (zbox_t r_X8_longFrom_6_0) vs hv
  | f + 1, h => absurd (show f + 1 < 1 from h) (Nat.not_lt.mpr (Nat.le_add_left 1 f)))
noncomputable def gs_X8_longFrom_6 : zMt := zgq false [] 6 [.inr (.ref 0), .inl 8589934591, .inl 9223372043297226757, .inl 6442450944] q_X8_longFrom_6 al_X8_longFrom_6
set_option maxRecDepth 100000 in
theorem cs_X8_longFrom_6 (d : Nat) : zC l G gh (d + 5) n_X8_longFrom gs_X8_longFrom_6 := zgq_ok0 (pcs := p_X8_longFrom) (by decide) rfl rfl (fun a ha => by simp only [al_X8_longFrom_6, List.mem_cons, List.not_mem_nil, or_false] at ha; rcases ha with rfl <;> decide +kernel) (fun gh => x_X8_longFrom_6 d) (by decide +kernel)
def q_X8_longFrom_7 : List (Nat × Nat) := [(0, zk1), (9, zk21)]
noncomputable def al_X8_longFrom_7 : zAq := [(some (.inl 2147483647), [(0, zk1), (9, zk21)])]
noncomputable def fm_X8_longFrom_7 : List zFm := [(0, [], (fun vs => [.inr (.ref 0), .inl 8589934591, .inl 9223372043297226757, .inl 9223372255898107903]), (fun vs => zP q_X8_longFrom_7), (fun vs => Nat.sub (Nat.add 0 0) 0))]
def bf_X8_longFrom_7 : List Nat := []
theorem r_X8_longFrom_7_0 : zbox [] (fun vs => zFrun (zpost (zAlq al_X8_longFrom_7)) 1000 t_X8_longFrom fm_X8_longFrom_7 bf_X8_longFrom_7 (0, vs)) = true := by decide +kernel
set_option maxRecDepth 100000 in
theorem x_X8_longFrom_7 (d : Nat) : zS l G gh (d + 5) (zpost (zAlq al_X8_longFrom_7)) n_X8_longFrom (zn 0 p_X8_longFrom 0) (zwc (0, [.inr (.ref 0), .inl 8589934591, .inl 9223372043297226757, .inl 9223372255898107903], zP q_X8_longFrom_7) 0) := zentry (tt_X8_longFrom d) fm_X8_longFrom_7 bf_X8_longFrom_7 1000 (by decide +kernel) rfl ⟨Nat.zero_lt_succ _, trivial⟩ (fun f hf => match f, hf with
  | 0, _ => fun vs hv => (zbox_t r_X8_longFrom_7_0) vs hv
  | f + 1, h => absurd (show f + 1 < 1 from h) (Nat.not_lt.mpr (Nat.le_add_left 1 f)))
noncomputable def gs_X8_longFrom_7 : zMt := zgq false [] 6 [.inr (.ref 0), .inl 8589934591, .inl 9223372043297226757, .inl 9223372255898107903] q_X8_longFrom_7 al_X8_longFrom_7
set_option maxRecDepth 100000 in
theorem cs_X8_longFrom_7 (d : Nat) : zC l G gh (d + 5) n_X8_longFrom gs_X8_longFrom_7 := zgq_ok0 (pcs := p_X8_longFrom) (by decide) rfl rfl (fun a ha => by simp only [al_X8_longFrom_7, List.mem_cons, List.not_mem_nil, or_false] at ha; rcases ha with rfl <;> decide +kernel) (fun gh => x_X8_longFrom_7 d) (by decide +kernel)
def q_X8_longFrom_8 : List (Nat × Nat) := [(0, zk1)]
noncomputable def al_X8_longFrom_8 : zAq := [(some (.inl 2147483647), [(0, zk1)])]
noncomputable def fm_X8_longFrom_8 : List zFm := [(0, [], (fun vs => [.inr (.ref 0), .inl 8589934591, .inl 6442450943, .inl 8589934591]), (fun vs => zP q_X8_longFrom_8), (fun vs => Nat.sub (Nat.add 0 0) 0))]
def bf_X8_longFrom_8 : List Nat := []
theorem r_X8_longFrom_8_0 : zbox [] (fun vs => zFrun (zpost (zAlq al_X8_longFrom_8)) 1000 t_X8_longFrom fm_X8_longFrom_8 bf_X8_longFrom_8 (0, vs)) = true := by decide +kernel
set_option maxRecDepth 100000 in
theorem x_X8_longFrom_8 (d : Nat) : zS l G gh (d + 5) (zpost (zAlq al_X8_longFrom_8)) n_X8_longFrom (zn 0 p_X8_longFrom 0) (zwc (0, [.inr (.ref 0), .inl 8589934591, .inl 6442450943, .inl 8589934591], zP q_X8_longFrom_8) 0) := zentry (tt_X8_longFrom d) fm_X8_longFrom_8 bf_X8_longFrom_8 1000 (by decide +kernel) rfl ⟨Nat.zero_lt_succ _, trivial⟩ (fun f hf => match f, hf with
  | 0, _ => fun vs hv => (zbox_t r_X8_longFrom_8_0) vs hv
  | f + 1, h => absurd (show f + 1 < 1 from h) (Nat.not_lt.mpr (Nat.le_add_left 1 f)))
noncomputable def gs_X8_longFrom_8 : zMt := zgq false [] 6 [.inr (.ref 0), .inl 8589934591, .inl 6442450943, .inl 8589934591] q_X8_longFrom_8 al_X8_longFrom_8
set_option maxRecDepth 100000 in
theorem cs_X8_longFrom_8 (d : Nat) : zC l G gh (d + 5) n_X8_longFrom gs_X8_longFrom_8 := zgq_ok0 (pcs := p_X8_longFrom) (by decide) rfl rfl (fun a ha => by simp only [al_X8_longFrom_8, List.mem_cons, List.not_mem_nil, or_false] at ha; rcases ha with rfl <;> decide +kernel) (fun gh => x_X8_longFrom_8 d) (by decide +kernel)
def q_X8_longFrom_9 : List (Nat × Nat) := [(0, zk1), (9, zk21)]
noncomputable def al_X8_longFrom_9 : zAq := [(some (.inl 2147483647), [(0, zk1), (9, zk21)])]
noncomputable def fm_X8_longFrom_9 : List zFm := [(0, [], (fun vs => [.inr (.ref 0), .inl 8589934591, .inl 9223372071214514175, .inl 8589934591]), (fun vs => zP q_X8_longFrom_9), (fun vs => Nat.sub (Nat.add 0 0) 0))]
def bf_X8_longFrom_9 : List Nat := []
theorem r_X8_longFrom_9_0 : zbox [] (fun vs => zFrun (zpost (zAlq al_X8_longFrom_9)) 1000 t_X8_longFrom fm_X8_longFrom_9 bf_X8_longFrom_9 (0, vs)) = true := by decide +kernel
set_option maxRecDepth 100000 in
theorem x_X8_longFrom_9 (d : Nat) : zS l G gh (d + 5) (zpost (zAlq al_X8_longFrom_9)) n_X8_longFrom (zn 0 p_X8_longFrom 0) (zwc (0, [.inr (.ref 0), .inl 8589934591, .inl 9223372071214514175, .inl 8589934591], zP q_X8_longFrom_9) 0) := zentry (tt_X8_longFrom d) fm_X8_longFrom_9 bf_X8_longFrom_9 1000 (by decide +kernel) rfl ⟨Nat.zero_lt_succ _, trivial⟩ (fun f hf => match f, hf with
  | 0, _ => fun vs hv => (zbox_t r_X8_longFrom_9_0) vs hv
  | f + 1, h => absurd (show f + 1 < 1 from h) (Nat.not_lt.mpr (Nat.le_add_left 1 f)))
noncomputable def gs_X8_longFrom_9 : zMt := zgq false [] 6 [.inr (.ref 0), .inl 8589934591, .inl 9223372071214514175, .inl 8589934591] q_X8_longFrom_9 al_X8_longFrom_9
set_option maxRecDepth 100000 in
theorem cs_X8_longFrom_9 (d : Nat) : zC l G gh (d + 5) n_X8_longFrom gs_X8_longFrom_9 := zgq_ok0 (pcs := p_X8_longFrom) (by decide) rfl rfl (fun a ha => by simp only [al_X8_longFrom_9, List.mem_cons, List.not_mem_nil, or_false] at ha; rcases ha with rfl <;> decide +kernel) (fun gh => x_X8_longFrom_9 d) (by decide +kernel)
noncomputable def gs_X8_longFrom : zMt := (zor gs_X8_longFrom_0 (zor gs_X8_longFrom_1 (zor gs_X8_longFrom_2 (zor gs_X8_longFrom_3 (zor gs_X8_longFrom_4 (zor gs_X8_longFrom_5 (zor gs_X8_longFrom_6 (zor gs_X8_longFrom_7 (zor gs_X8_longFrom_8 gs_X8_longFrom_9)))))))))
theorem cs_X8_longFrom (d : Nat) : zC l G gh (d + 5) n_X8_longFrom gs_X8_longFrom := (zor_ok (cs_X8_longFrom_0 d) (zor_ok (cs_X8_longFrom_1 d) (zor_ok (cs_X8_longFrom_2 d) (zor_ok (cs_X8_longFrom_3 d) (zor_ok (cs_X8_longFrom_4 d) (zor_ok (cs_X8_longFrom_5 d) (zor_ok (cs_X8_longFrom_6 d) (zor_ok (cs_X8_longFrom_7 d) (zor_ok (cs_X8_longFrom_8 d) (cs_X8_longFrom_9 d))))))))))
def p_X8_tallySeenHours : List Nat := [0, 2, 8, 21, 29, 42, 55, 62, 78, 89, 95, 101]
noncomputable def b_X8_tallySeenHours_0 : zBl := fun jp K => oInt 2147483648 <| oIst 3 <| jp 1
theorem s_X8_tallySeenHours_0 (d : Nat) : zPb l G gh (d + 5) n_X8_tallySeenHours p_X8_tallySeenHours 0 b_X8_tallySeenHours_0 := fun K jp hj =>
    z_iconst (n := 0) (zd (i := .iconst (0)) (n := 1) (by decide +kernel)) (by decide +kernel) <|
    z_istore_n (n := 3) (i := 3) (zd (i := .istore_n 3) (n := 1) (by decide +kernel)) rfl (by decide +kernel) <|
    (zj (hj 1) (by decide +kernel))
noncomputable def b_X8_tallySeenHours_1 : zBl := fun jp K => oNLC 3 2147483668 zgeN zltN zn1_ge zn1_lt (jp 3) (jp 2)
theorem s_X8_tallySeenHours_1 (d : Nat) : zPb l G gh (d + 5) n_X8_tallySeenHours p_X8_tallySeenHours 2 b_X8_tallySeenHours_1 := fun K jp hj =>
    z_nLC_ge (i := 3) (c0 := 2147483668) (a1 := 1) (a2 := 2) (off := 16) (tgt := 21) (zLd_n (n := 3) (i := 3) (zd (i := .iload_n 3) (n := 1) (by decide +kernel)) rfl) (zCn_b (n := 20) (zd (i := .bipush (20)) (n := 2) (by decide +kernel)) (by decide +kernel)) (zd (i := .if_icmp .ge (16)) (n := 3) (by decide +kernel)) (by decide +kernel) (zj (hj 3) (by decide +kernel)) (zj (hj 2) (by decide +kernel))
noncomputable def b_X8_tallySeenHours_2 : zBl := fun jp K => oAld 0 <| oGetR 8 8 <| oIld 3 <| oInt 2147483648 <| oXast 10 zid <| oInc 3 2147483649 <| jp 1
theorem s_X8_tallySeenHours_2 (d : Nat) : zPb l G gh (d + 5) n_X8_tallySeenHours p_X8_tallySeenHours 8 b_X8_tallySeenHours_2 := fun K jp hj =>
    z_aload_n (n := 0) (i := 0) (zd (i := .aload_n 0) (n := 1) (by decide +kernel)) rfl <|
    z_getR (ci := 8) (j := 8) (idx := 55) (zd (i := .getfield 55) (n := 3) (by decide +kernel)) (by decide +kernel) (by decide +kernel) rfl g460 <|
    z_iload_n (n := 3) (i := 3) (zd (i := .iload_n 3) (n := 1) (by decide +kernel)) rfl <|
    z_iconst (n := 0) (zd (i := .iconst (0)) (n := 1) (by decide +kernel)) (by decide +kernel) <|
    z_iast (zd (i := .iastore) (n := 1) (by decide +kernel)) <|
    z_iinc (i := 3) (n := 1) (zd (i := .iinc 3 (1)) (n := 3) (by decide +kernel)) (by decide +kernel) (by decide +kernel) <|
    z_goto (off := -16) (tgt := 2) (zd (i := .goto (-16)) (n := 3) (by decide +kernel)) (by decide +kernel) (zj (hj 1) (by decide +kernel))
noncomputable def b_X8_tallySeenHours_3 : zBl := fun jp K => oAld 0 <| oGetR 8 2 <| oGetI 4 0 <| oIst 3 <| jp 4
theorem s_X8_tallySeenHours_3 (d : Nat) : zPb l G gh (d + 5) n_X8_tallySeenHours p_X8_tallySeenHours 21 b_X8_tallySeenHours_3 := fun K jp hj =>
    z_aload_n (n := 0) (i := 0) (zd (i := .aload_n 0) (n := 1) (by decide +kernel)) rfl <|
    z_getR (ci := 8) (j := 2) (idx := 26) (zd (i := .getfield 26) (n := 3) (by decide +kernel)) (by decide +kernel) (by decide +kernel) rfl g454 <|
    z_getI (ci := 4) (j := 0) (idx := 140) (zd (i := .getfield 140) (n := 3) (by decide +kernel)) (by decide +kernel) (by decide +kernel) rfl g368 <|
    z_istore_n (n := 3) (i := 3) (zd (i := .istore_n 3) (n := 1) (by decide +kernel)) rfl (by decide +kernel) <|
    (zj (hj 4) (by decide +kernel))
noncomputable def zcap (A : zAm) : Bool := bif Nat.beq (zraw (zcell A 0) 8) 256 then zfree A 255 20 else false
section
variable {d : Nat}
theorem w_X8_tallySeenHours_29 {Q : qQ} {I : qMI} {L : qML} {R : qMR} {a1 : Int32} {a2 : Int32} {a3 : Int32} (h1 : R 0 2 = some 21) (kt : ((I 21 0) + a2) ≤ a3 → wkB l G (d + 1) n_X8_tallySeenHours Q 101 [.ref 0, .int a1, .int a2, .int a3, wkU, wkU] [] I L R) (kf : ¬ ((I 21 0) + a2) ≤ a3 → wkB l G (d + 1) n_X8_tallySeenHours Q 42 [.ref 0, .int a1, .int a2, .int a3, wkU, wkU] [] I L R) : wkB l G (d + 1) n_X8_tallySeenHours Q 29 [.ref 0, .int a1, .int a2, .int a3, wkU, wkU] [] I L R :=
  bb_iload_n (n := 3) (i := 3) (zd (i := .iload_n 3) (n := 1) (by decide +kernel)) rfl rfl <|
  bb_aload_n (n := 0) (i := 0) (zd (i := .aload_n 0) (n := 1) (by decide +kernel)) rfl rfl <|
  bb_getr (k := 0) (ci := 8) (j := 2) (idx := 26) (a := 21) (zd (i := .getfield 26) (n := 3) (by decide +kernel)) (by decide +kernel) (by decide +kernel) (by decide +kernel) (by decide +kernel) rfl g454 h1 <|
  bb_geti (k := 21) (ci := 4) (j := 0) (idx := 140) (zd (i := .getfield 140) (n := 3) (by decide +kernel)) (by decide +kernel) (by decide +kernel) (by decide +kernel) (by decide +kernel) rfl g368 <|
  bb_iload_n (n := 2) (i := 2) (zd (i := .iload_n 2) (n := 1) (by decide +kernel)) rfl rfl <|
  bb_lift (fun _ => q_iadd (zd (i := .iadd) (n := 1) (by decide +kernel))) <|
  (fun lv hl => q_icmp_ge (off := 62) (tgt := 101) (zd (i := .if_icmp .ge (62)) (n := 3) (by decide +kernel)) (by decide) (fun h => (kt h) lv hl) (fun h => (kf h) lv hl))
theorem w_X8_tallySeenHours_42 {Q : qQ} {I : qMI} {L : qML} {R : qMR} {fl : Nat} {a1 : Int32} {a2 : Int32} {a3 : Int32} (h1 : R 0 12 = some fl) (h2 : fl < 336) (h3 : (qSh fl).1 = 0) {P : Int32 → qMI → qML → qMR → Prop} (hc : wkCi l G d n_X0_heat [.ref fl, .int a3] I L R P) (kk : ∀ y I' L' R', P y I' L' R' → wkB l G (d + 1) n_X8_tallySeenHours Q 50 [.ref 0, .int a1, .int a2, .int a3, wkU, wkU] [.int y] I' L' R') : wkB l G (d + 1) n_X8_tallySeenHours Q 42 [.ref 0, .int a1, .int a2, .int a3, wkU, wkU] [] I L R :=
  bb_aload_n (n := 0) (i := 0) (zd (i := .aload_n 0) (n := 1) (by decide +kernel)) rfl rfl <|
  bb_getr (k := 0) (ci := 8) (j := 12) (idx := 71) (a := fl) (zd (i := .getfield 71) (n := 3) (by decide +kernel)) (by decide +kernel) (by decide +kernel) (by decide +kernel) (by decide +kernel) rfl g464 h1 <|
  bb_iload_n (n := 3) (i := 3) (zd (i := .iload_n 3) (n := 1) (by decide +kernel)) rfl rfl <|
  bb_callV (idx := 143) (k := fl) (ci := 0) (N := n_X0_heat) (As := [.int a3]) (st := []) (zd (i := .invokevirtual 143) (n := 3) (by decide +kernel)) to_X0_heat g716 g717 g718 (Nat.le_of_ble_eq_true rfl) h2 h3 (by decide +kernel) rfl rfl rfl hc (fun r I' L' R' hq => by obtain ⟨y, rfl, hp⟩ := hq; exact kk y I' L' R' hp)
theorem w_X8_tallySeenHours_50 {Q : qQ} {I : qMI} {L : qML} {R : qMR} {a1 : Int32} {a2 : Int32} {a3 : Int32} {s0 : Int32} (k : wkB l G (d + 1) n_X8_tallySeenHours Q 55 [.ref 0, .int a1, .int a2, .int a3, .int s0, .int 0] [] I L R) : wkB l G (d + 1) n_X8_tallySeenHours Q 50 [.ref 0, .int a1, .int a2, .int a3, wkU, wkU] [.int s0] I L R :=
  bb_istore (i := 4) (zd (i := .istore 4) (n := 2) (by decide +kernel)) (by decide +kernel) (wkNl_i rfl) <|
  bb_lift (fun _ => q_iconst (n := 0) (zd (i := .iconst (0)) (n := 1) (by decide +kernel)) rfl) <|
  bb_istore (i := 5) (zd (i := .istore 5) (n := 2) (by decide +kernel)) (by decide +kernel) (wkNl_i rfl) <|
  k
theorem w_X8_tallySeenHours_55 {Q : qQ} {I : qMI} {L : qML} {R : qMR} {a1 : Int32} {a2 : Int32} {a3 : Int32} {a4 : Int32} {a5 : Int32} (kt : 20 ≤ a5 → wkB l G (d + 1) n_X8_tallySeenHours Q 95 [.ref 0, .int a1, .int a2, .int a3, .int a4, .int a5] [] I L R) (kf : ¬ 20 ≤ a5 → wkB l G (d + 1) n_X8_tallySeenHours Q 62 [.ref 0, .int a1, .int a2, .int a3, .int a4, .int a5] [] I L R) : wkB l G (d + 1) n_X8_tallySeenHours Q 55 [.ref 0, .int a1, .int a2, .int a3, .int a4, .int a5] [] I L R :=
  bb_iload (i := 5) (zd (i := .iload 5) (n := 2) (by decide +kernel)) rfl <|
  bb_lift (fun _ => q_bipush (n := 20) (zd (i := .bipush (20)) (n := 2) (by decide +kernel)) rfl) <|
  (fun lv hl => q_icmp_ge (off := 36) (tgt := 95) (zd (i := .if_icmp .ge (36)) (n := 3) (by decide +kernel)) (by decide) (fun h => (kt h) lv hl) (fun h => (kf h) lv hl))
theorem w_X8_tallySeenHours_62 {Q : qQ} {I : qMI} {L : qML} {R : qMR} {fl : Nat} {a1 : Int32} {a2 : Int32} {a3 : Int32} {a4 : Int32} {a5 : Int32} (h1 : R 0 12 = some fl) (h2 : fl < 336) (h3 : (qSh fl).1 = 0) {P : Int32 → qMI → qML → qMR → Prop} (hc : wkCi l G d n_X0_isSeenFrom [.ref fl, .int a5, .int a1, .int a3, .int a4] I L R P) (kk : ∀ y I' L' R', P y I' L' R' → wkB l G (d + 1) n_X8_tallySeenHours Q 75 [.ref 0, .int a1, .int a2, .int a3, .int a4, .int a5] [.int y] I' L' R') : wkB l G (d + 1) n_X8_tallySeenHours Q 62 [.ref 0, .int a1, .int a2, .int a3, .int a4, .int a5] [] I L R :=
  bb_aload_n (n := 0) (i := 0) (zd (i := .aload_n 0) (n := 1) (by decide +kernel)) rfl rfl <|
  bb_getr (k := 0) (ci := 8) (j := 12) (idx := 71) (a := fl) (zd (i := .getfield 71) (n := 3) (by decide +kernel)) (by decide +kernel) (by decide +kernel) (by decide +kernel) (by decide +kernel) rfl g464 h1 <|
  bb_iload (i := 5) (zd (i := .iload 5) (n := 2) (by decide +kernel)) rfl <|
  bb_iload_n (n := 1) (i := 1) (zd (i := .iload_n 1) (n := 1) (by decide +kernel)) rfl rfl <|
  bb_iload_n (n := 3) (i := 3) (zd (i := .iload_n 3) (n := 1) (by decide +kernel)) rfl rfl <|
  bb_iload (i := 4) (zd (i := .iload 4) (n := 2) (by decide +kernel)) rfl <|
  bb_callV (idx := 239) (k := fl) (ci := 0) (N := n_X0_isSeenFrom) (As := [.int a5, .int a1, .int a3, .int a4]) (st := []) (zd (i := .invokevirtual 239) (n := 3) (by decide +kernel)) to_X0_isSeenFrom g745 g746 g747 (Nat.le_of_ble_eq_true rfl) h2 h3 (by decide +kernel) rfl rfl rfl hc (fun r I' L' R' hq => by obtain ⟨y, rfl, hp⟩ := hq; exact kk y I' L' R' hp)
theorem w_X8_tallySeenHours_75 {Q : qQ} {I : qMI} {L : qML} {R : qMR} {a1 : Int32} {a2 : Int32} {a3 : Int32} {a4 : Int32} {a5 : Int32} {s0 : Int32} (kt : s0 = 0 → wkB l G (d + 1) n_X8_tallySeenHours Q 89 [.ref 0, .int a1, .int a2, .int a3, .int a4, .int a5] [] I L R) (kf : ¬ s0 = 0 → wkB l G (d + 1) n_X8_tallySeenHours Q 78 [.ref 0, .int a1, .int a2, .int a3, .int a4, .int a5] [] I L R) : wkB l G (d + 1) n_X8_tallySeenHours Q 75 [.ref 0, .int a1, .int a2, .int a3, .int a4, .int a5] [.int s0] I L R :=
  (fun lv hl => q_if_eq (off := 14) (tgt := 89) (zd (i := .ifCond .eq (14)) (n := 3) (by decide +kernel)) (by decide) (fun h => (kt h) lv hl) (fun h => (kf h) lv hl))
theorem w_X8_tallySeenHours_78 {Q : qQ} {I : qMI} {L : qML} {R : qMR} {a1 : Int32} {a2 : Int32} {a3 : Int32} {a4 : Int32} {a5 : Int32} (h1 : R 0 8 = some 255) (h2 : vp_in a5 20) (h3 : vp_in a5 20) (k : wkB l G (d + 1) n_X8_tallySeenHours Q 89 [.ref 0, .int a1, .int a2, .int a3, .int a4, .int a5] [] (qUp I 255 a5.toNatClampNeg ((I 255 a5.toNatClampNeg) + 1)) L R) : wkB l G (d + 1) n_X8_tallySeenHours Q 78 [.ref 0, .int a1, .int a2, .int a3, .int a4, .int a5] [] I L R :=
  bb_aload_n (n := 0) (i := 0) (zd (i := .aload_n 0) (n := 1) (by decide +kernel)) rfl rfl <|
  bb_getr (k := 0) (ci := 8) (j := 8) (idx := 55) (a := 255) (zd (i := .getfield 55) (n := 3) (by decide +kernel)) (by decide +kernel) (by decide +kernel) (by decide +kernel) (by decide +kernel) rfl g460 h1 <|
  bb_iload (i := 5) (zd (i := .iload 5) (n := 2) (by decide +kernel)) rfl <|
  bb_lift (fun _ => q_dup2 (zd (i := .dup2) (n := 1) (by decide +kernel)) rfl rfl) <|
  bb_lift (fun _ => q_iald (k := 255) (zd (i := .iaload) (n := 1) (by decide +kernel)) (by decide +kernel) (by decide +kernel) h2) <|
  bb_lift (fun _ => q_iconst (n := 1) (zd (i := .iconst (1)) (n := 1) (by decide +kernel)) rfl) <|
  bb_lift (fun _ => q_iadd (zd (i := .iadd) (n := 1) (by decide +kernel))) <|
  bb_lift (fun _ => q_iast (k := 255) (zd (i := .iastore) (n := 1) (by decide +kernel)) (by decide +kernel) (by decide +kernel) h3) <|
  k
theorem w_X8_tallySeenHours_89 {Q : qQ} {I : qMI} {L : qML} {R : qMR} {a1 : Int32} {a2 : Int32} {a3 : Int32} {a4 : Int32} {a5 : Int32} (k : wkB l G (d + 1) n_X8_tallySeenHours Q 55 [.ref 0, .int a1, .int a2, .int a3, .int a4, .int (a5 + 1)] [] I L R) : wkB l G (d + 1) n_X8_tallySeenHours Q 89 [.ref 0, .int a1, .int a2, .int a3, .int a4, .int a5] [] I L R :=
  bb_iinc (i := 5) (n := 1) (zd (i := .iinc 5 (1)) (n := 3) (by decide +kernel)) rfl rfl (by decide +kernel) (wkNl_i rfl) <|
  bb_lift (fun _ => q_goto (off := -37) (tgt := 55) (zd (i := .goto (-37)) (n := 3) (by decide +kernel)) (by decide)) k
theorem w_X8_tallySeenHours_95 {Q : qQ} {I : qMI} {L : qML} {R : qMR} {a1 : Int32} {a2 : Int32} {a3 : Int32} {a4 : Int32} {a5 : Int32} (k : wkB l G (d + 1) n_X8_tallySeenHours Q 29 [.ref 0, .int a1, .int a2, .int (a3 + 1), wkU, wkU] [] I L R) : wkB l G (d + 1) n_X8_tallySeenHours Q 95 [.ref 0, .int a1, .int a2, .int a3, .int a4, .int a5] [] I L R :=
  bb_iinc (i := 3) (n := 1) (zd (i := .iinc 3 (1)) (n := 3) (by decide +kernel)) rfl rfl (by decide +kernel) (wkNl_i rfl) <|
  bb_lift (fun _ => q_goto (off := -69) (tgt := 29) (zd (i := .goto (-69)) (n := 3) (by decide +kernel)) (by decide)) (wkB_le (vs := [.ref 0, .int a1, .int a2, .int (a3 + 1), wkU, wkU]) (ws := [.ref 0, .int a1, .int a2, .int (a3 + 1), .int a4, .int a5]) ⟨Or.inr rfl, Or.inr rfl, Or.inr rfl, Or.inr rfl, Or.inl rfl, Or.inl rfl, trivial⟩ (k))
end
noncomputable def bx_ts : zBl := fun jp _ => fun lv st ce sl t A => zR (zn zdum lv 0) (fun o => zI (zn zdum lv 1) (fun c1 => zI (zn zdum lv 2) (fun c2 => zI (zn zdum lv 3) (fun _ => zE st (bif Nat.beq o 0 then (bif Nat.beq ce 0 then (bif Nat.beq sl 0 then (bif Nat.beq t 336 then (
  bif (bif zAw A (zucs A [255, 269, 270]) then (bif zhk f_X0_heat gs_X0_isSeenFrom 259 [.inl ztop, .inl c1, .inl ztop, .inl ztop] (zucs A [255, 269, 270]) then (bif zcap (zucs A [255, 269, 270]) then jp 11 [.inr (.ref 0), .inl c1, .inl c2, .inl ztop] [] 0 0 336 (zucs A [255, 269, 270]) else false) else false) else false) then true
  else (bif zAw A (zucs A [255, 19, 20]) then (bif zhk f_X0_heat gs_X0_isSeenFrom 9 [.inl ztop, .inl c1, .inl ztop, .inl ztop] (zucs A [255, 19, 20]) then (bif zcap (zucs A [255, 19, 20]) then jp 11 [.inr (.ref 0), .inl c1, .inl c2, .inl ztop] [] 0 0 336 (zucs A [255, 19, 20]) else false) else false) else false)) else false) else false) else false) else false)))))
theorem sx_ts (d : Nat) : zPb l G gh (d + 5) n_X8_tallySeenHours p_X8_tallySeenHours 29 bx_ts := by
  intro K jp hj lv st ce sl t A h lv' st' I L R hl hs hm
  obtain ⟨v0, k0, z0⟩ := zgl_get hl (zRn h)
  obtain ⟨o, rfl, h⟩ := zR_t h z0
  obtain ⟨v1, k1, z1⟩ := zgl_get hl (zI_nd h)
  obtain ⟨c1, a1, rfl, hx1, h⟩ := zI_t h z1
  obtain ⟨v2, k2, z2⟩ := zgl_get hl (zI_nd h)
  obtain ⟨c2, a2, rfl, hx2, h⟩ := zI_t h z2
  obtain ⟨v3, k3, z3⟩ := zgl_get hl (zI_nd h)
  obtain ⟨c3, a3, rfl, hx3, h⟩ := zI_t h z3
  obtain ⟨rfl, h⟩ := zE_t h hs
  obtain ⟨b0, h⟩ := zand h
  obtain ⟨b1, h⟩ := zand h
  obtain ⟨b2, h⟩ := zand h
  obtain ⟨b3, hh⟩ := zand h
  have e0 := Nat.eq_of_beq_eq_true b0
  have e1 := Nat.eq_of_beq_eq_true b1
  have e2 := Nat.eq_of_beq_eq_true b2
  have e3 := Nat.eq_of_beq_eq_true b3
  subst e0 e1 e2 e3
  obtain ⟨fl, A2, w1, w2, w0, w3⟩ : ∃ fl A2, zAw A A2 = true ∧ zhk f_X0_heat gs_X0_isSeenFrom fl [.inl ztop, .inl c1, .inl ztop, .inl ztop] A2 = true ∧ zcap A2 = true ∧ jp 11 [.inr (.ref 0), .inl c1, .inl c2, .inl ztop] [] 0 0 336 A2 = true := by
    rcases zelse hh with ⟨h, -⟩ | h
    · obtain ⟨q1, h⟩ := zand h
      obtain ⟨q2, h⟩ := zand h
      obtain ⟨q3, q4⟩ := zand h
      exact ⟨_, _, q1, q2, q3, q4⟩
    · obtain ⟨q1, h⟩ := zand h
      obtain ⟨q2, h⟩ := zand h
      obtain ⟨q3, q4⟩ := zand h
      exact ⟨_, _, q1, q2, q3, q4⟩
  obtain ⟨F, w4, w5⟩ := zhk_t (gh := gh) w2
  obtain ⟨w6, w7⟩ := zand w0
  have T : ∀ (I : qMI) (L : qML) (R : qMR), zM gh 336 A2 I L R → R 0 8 = some 255 := fun I L R hm => by
    obtain ⟨-, -, -, -, f5⟩ := zM_at hm (tg := 8) (zand w2).1 (by omega)
    have e := (f5 8).2.2 (zkd_R (by decide) rfl)
    rw [Nat.eq_of_beq_eq_true w6] at e
    exact e
  have loop : ∀ (m : Nat) (a3 : Int32) (I : qMI) (L : qML) (R : qMR), ((gh.1 21 0 + a2).toInt - a3.toInt).toNat = m → zM gh 336 A2 I L R → wkB l G (d + 4 + 1) n_X8_tallySeenHours (zQ gh K) 29 [.ref 0, .int a1, .int a2, .int a3, wkU, wkU] [] I L R := by
    intro m
    induction m using Nat.strongRecOn with
    | ind m ih =>
      intro a3 I L R hmm hm
      obtain ⟨r1, r2, i1, f1, f2⟩ := F I L R hm
      refine w_X8_tallySeenHours_29 r1 (fun _ lv'' hl'' => hj 11 _ [] 0 0 336 A2 w3 lv'' [] I L R (fun i => ?_) trivial ⟨hm, Nat.zero_le _, Nat.zero_le _⟩) (fun q => ?_)
      · match i with
        | 0 => exact Or.inr ⟨_, hl'' 0 _ rfl (wkU_r _), ⟨rfl, rfl⟩⟩
        | 1 => exact Or.inr ⟨_, hl'' 1 _ rfl (wkU_i _), ⟨_, rfl, hx1⟩⟩
        | 2 => exact Or.inr ⟨_, hl'' 2 _ rfl (wkU_i _), ⟨_, rfl, hx2⟩⟩
        | 3 => exact Or.inr ⟨_, hl'' 3 _ rfl (wkU_i _), ⟨_, rfl, zin_top _⟩⟩
        | i + 4 => exact Or.inl rfl
      rw [i1] at q
      have q2 := i_lt.mp (Int32.not_le.mp q)
      have h1 := i_hi (gh.1 21 0 + a2)
      have e5 : (a3 + 1).toInt = a3.toInt + 1 := i_s (by omega)
      have inner : ∀ (k : Nat) (a4 a5 : Int32) (I : qMI) (L : qML) (R : qMR), 20 - a5.toInt = k → 0 ≤ a5.toInt → zM gh 336 A2 I L R → wkB l G (d + 4 + 1) n_X8_tallySeenHours (zQ gh K) 55 [.ref 0, .int a1, .int a2, .int a3, .int a4, .int a5] [] I L R := by
        intro k
        induction k with
        | zero =>
          intro a4 a5 I L R hk h0 hm
          exact w_X8_tallySeenHours_55 (fun _ => w_X8_tallySeenHours_95 (ih _ (by omega) (a3 + 1) I L R rfl hm)) (fun q => absurd (i_le.mpr (by rw [show (20 : Int32).toInt = 20 from rfl]; omega)) q)
        | succ k ihk =>
          intro a4 a5 I L R hk h0 hm
          obtain ⟨r1, r2, i1, f1, f2⟩ := F I L R hm
          have hv : vp_in a5 20 := vin h0 (by omega)
          have e6 : (a5 + 1).toInt = a5.toInt + 1 := i_s (by omega)
          refine w_X8_tallySeenHours_55 (fun q => absurd (i_le.mp q) (by rw [show (20 : Int32).toInt = 20 from rfl]; omega)) (fun _ => ?_)
          refine w_X8_tallySeenHours_62 r2 f1 f2 (zcallA (cs_X0_isSeenFrom (l := l) (G := G) (gh := gh) (d)) w5 ⟨⟨rfl, rfl⟩, ⟨_, rfl, zin_top _⟩, ⟨_, rfl, hx1⟩, ⟨_, rfl, zin_top _⟩, ⟨_, rfl, zin_top _⟩, trivial⟩ hm) (fun y I L R hm => ?_)
          have go : ∀ I, zM gh 336 A2 I L R → wkB l G (d + 4 + 1) n_X8_tallySeenHours (zQ gh K) 89 [.ref 0, .int a1, .int a2, .int a3, .int a4, .int a5] [] I L R := fun I hm => w_X8_tallySeenHours_89 (ihk a4 (a5 + 1) I L R (by omega) (by omega) hm)
          exact w_X8_tallySeenHours_75 (fun _ => go I hm) (fun _ => w_X8_tallySeenHours_78 (T I L R hm) hv hv (go _ (zfree_t w7 hm _ _)))
      refine w_X8_tallySeenHours_42 r2 f1 f2 (zcallA (c_X0_heat (l := l) (G := G) (gh := gh) (d)) w4 ⟨⟨rfl, rfl⟩, ⟨_, rfl, zin_top _⟩, trivial⟩ hm) (fun y I L R hm => ?_)
      exact w_X8_tallySeenHours_50 (inner 20 y 0 I L R (by rfl) (by decide) hm)
  refine loop _ a3 I L R rfl (zM_w hm.1 w1) lv' (fun i v hi hv => ?_)
  match i with
  | 0 => cases hi; exact k0
  | 1 => cases hi; exact k1
  | 2 => cases hi; exact k2
  | 3 => cases hi; exact k3
  | 4 => cases hi; exact absurd rfl hv
  | 5 => cases hi; exact absurd rfl hv
  | i + 6 => cases hi
noncomputable def b_X8_tallySeenHours_11 : zBl := fun jp K => oVret K
theorem s_X8_tallySeenHours_11 (d : Nat) : zPb l G gh (d + 5) n_X8_tallySeenHours p_X8_tallySeenHours 101 b_X8_tallySeenHours_11 := fun K jp hj =>
    z_vret (zd (i := .return_) (n := 1) (by decide +kernel)) rfl
noncomputable def t_X8_tallySeenHours : List zBl := [b_X8_tallySeenHours_0, b_X8_tallySeenHours_1, b_X8_tallySeenHours_2, b_X8_tallySeenHours_3, bx_ts, zfl, zfl, zfl, zfl, zfl, zfl, b_X8_tallySeenHours_11]
theorem tt_X8_tallySeenHours (d : Nat) : zT (zPb l G gh (d + 5) n_X8_tallySeenHours p_X8_tallySeenHours) t_X8_tallySeenHours p_X8_tallySeenHours := ⟨s_X8_tallySeenHours_0 d, s_X8_tallySeenHours_1 d, s_X8_tallySeenHours_2 d, s_X8_tallySeenHours_3 d, sx_ts d, (fun _ _ _ => z_fail), (fun _ _ _ => z_fail), (fun _ _ _ => z_fail), (fun _ _ _ => z_fail), (fun _ _ _ => z_fail), (fun _ _ _ => z_fail), s_X8_tallySeenHours_11 d, trivial⟩
def q_X8_tallySeenHours_0 : List (Nat × Nat) := [(0, zk0), (21, zk10), (255, zk7), (259, zk20), (261, zk12), (262, zk12), (265, zk2), (266, zk18), (267, zk18), (268, zk19), (269, zk3), (270, zk7)]
noncomputable def al_X8_tallySeenHours_0 : zAq := [(none, [(0, zk0), (21, zk10), (255, zk9), (259, zk20), (261, zk12), (262, zk12), (265, zk2), (266, zk18), (267, zk18), (268, zk19), (269, zk4), (270, zk9)])]
def mq_X8_tallySeenHours_0_1 : List (Nat × Nat) := [(0, zk0), (21, zk10), (255, zk9), (259, zk20), (261, zk12), (262, zk12), (265, zk2), (266, zk18), (267, zk18), (268, zk19), (269, zk3), (270, zk7)]
noncomputable def fm_X8_tallySeenHours_0 : List zFm := [(0, [], (fun vs => [.inr (.ref 0), .inl 9223372043297226757, .inl 9223372047592194096]), (fun vs => zP q_X8_tallySeenHours_0), (fun vs => Nat.sub (Nat.add 21 0) 0)),
  (1, [(3, 2147483648, 2147483668)], (fun vs => [.inr (.ref 0), .inl 9223372043297226757, .inl 9223372047592194096, .inl (zn 0 vs 0)]), (fun vs => zP mq_X8_tallySeenHours_0_1), (fun vs => Nat.sub (Nat.add 2147483668 0) (Nat.add 0 (Nat.mul 1 (zn 0 vs 0)))))]
def bf_X8_tallySeenHours_0 : List Nat := [0, 2]
theorem r_X8_tallySeenHours_0_0 : zbox [] (fun vs => zFrun (zpost (zAlq al_X8_tallySeenHours_0)) 1000 t_X8_tallySeenHours fm_X8_tallySeenHours_0 bf_X8_tallySeenHours_0 (0, vs)) = true := by decide +kernel
theorem r_X8_tallySeenHours_0_1 : zbox [(3, 2147483648, 2147483668)] (fun vs => zFrun (zpost (zAlq al_X8_tallySeenHours_0)) 1000 t_X8_tallySeenHours fm_X8_tallySeenHours_0 bf_X8_tallySeenHours_0 (1, vs)) = true := by decide +kernel
set_option maxRecDepth 100000 in
theorem x_X8_tallySeenHours_0 (d : Nat) : zS l G gh (d + 5) (zpost (zAlq al_X8_tallySeenHours_0)) n_X8_tallySeenHours (zn 0 p_X8_tallySeenHours 0) (zwc (0, [.inr (.ref 0), .inl 9223372043297226757, .inl 9223372047592194096], zP q_X8_tallySeenHours_0) 0) := zentry (tt_X8_tallySeenHours d) fm_X8_tallySeenHours_0 bf_X8_tallySeenHours_0 1000 (by decide +kernel) rfl ⟨Nat.zero_lt_succ _, trivial⟩ (fun f hf => match f, hf with
  | 0, _ => fun vs hv => (zbox_t r_X8_tallySeenHours_0_0) vs hv
  | 1, _ => fun vs hv => (zbox_t r_X8_tallySeenHours_0_1) vs hv
  | f + 2, h => absurd (show f + 2 < 2 from h) (Nat.not_lt.mpr (Nat.le_add_left 2 f)))
noncomputable def gs_X8_tallySeenHours_0 : zMt := zgq false [] 6 [.inr (.ref 0), .inl 9223372043297226757, .inl 9223372047592194096] q_X8_tallySeenHours_0 al_X8_tallySeenHours_0
set_option maxRecDepth 100000 in
theorem cs_X8_tallySeenHours_0 (d : Nat) : zC l G gh (d + 5) n_X8_tallySeenHours gs_X8_tallySeenHours_0 := zgq_ok0 (pcs := p_X8_tallySeenHours) (by decide) rfl rfl (fun a ha => by simp only [al_X8_tallySeenHours_0, List.mem_cons, List.not_mem_nil, or_false] at ha; rcases ha with rfl <;> decide +kernel) (fun gh => x_X8_tallySeenHours_0 d) (by decide +kernel)
def q_X8_tallySeenHours_1 : List (Nat × Nat) := [(0, zk1), (9, zk21), (11, zk12), (12, zk12), (15, zk5), (16, zk18), (17, zk18), (18, zk19), (19, zk3), (20, zk7), (21, zk10), (255, zk7)]
noncomputable def al_X8_tallySeenHours_1 : zAq := [(none, [(0, zk1), (9, zk21), (11, zk12), (12, zk12), (15, zk5), (16, zk18), (17, zk18), (18, zk19), (19, zk4), (20, zk9), (21, zk10), (255, zk9)])]
def mq_X8_tallySeenHours_1_1 : List (Nat × Nat) := [(0, zk1), (9, zk21), (11, zk12), (12, zk12), (15, zk5), (16, zk18), (17, zk18), (18, zk19), (19, zk3), (20, zk7), (21, zk10), (255, zk9)]
noncomputable def fm_X8_tallySeenHours_1 : List zFm := [(0, [], (fun vs => [.inr (.ref 0), .inl 9223372043297226757, .inl 9223372047592194096]), (fun vs => zP q_X8_tallySeenHours_1), (fun vs => Nat.sub (Nat.add 21 0) 0)),
  (1, [(3, 2147483648, 2147483668)], (fun vs => [.inr (.ref 0), .inl 9223372043297226757, .inl 9223372047592194096, .inl (zn 0 vs 0)]), (fun vs => zP mq_X8_tallySeenHours_1_1), (fun vs => Nat.sub (Nat.add 2147483668 0) (Nat.add 0 (Nat.mul 1 (zn 0 vs 0)))))]
def bf_X8_tallySeenHours_1 : List Nat := [0, 2]
theorem r_X8_tallySeenHours_1_0 : zbox [] (fun vs => zFrun (zpost (zAlq al_X8_tallySeenHours_1)) 1000 t_X8_tallySeenHours fm_X8_tallySeenHours_1 bf_X8_tallySeenHours_1 (0, vs)) = true := by decide +kernel
theorem r_X8_tallySeenHours_1_1 : zbox [(3, 2147483648, 2147483668)] (fun vs => zFrun (zpost (zAlq al_X8_tallySeenHours_1)) 1000 t_X8_tallySeenHours fm_X8_tallySeenHours_1 bf_X8_tallySeenHours_1 (1, vs)) = true := by decide +kernel
set_option maxRecDepth 100000 in
theorem x_X8_tallySeenHours_1 (d : Nat) : zS l G gh (d + 5) (zpost (zAlq al_X8_tallySeenHours_1)) n_X8_tallySeenHours (zn 0 p_X8_tallySeenHours 0) (zwc (0, [.inr (.ref 0), .inl 9223372043297226757, .inl 9223372047592194096], zP q_X8_tallySeenHours_1) 0) := zentry (tt_X8_tallySeenHours d) fm_X8_tallySeenHours_1 bf_X8_tallySeenHours_1 1000 (by decide +kernel) rfl ⟨Nat.zero_lt_succ _, trivial⟩ (fun f hf => match f, hf with
  | 0, _ => fun vs hv => (zbox_t r_X8_tallySeenHours_1_0) vs hv
  | 1, _ => fun vs hv => (zbox_t r_X8_tallySeenHours_1_1) vs hv
  | f + 2, h => absurd (show f + 2 < 2 from h) (Nat.not_lt.mpr (Nat.le_add_left 2 f)))
noncomputable def gs_X8_tallySeenHours_1 : zMt := zgq false [] 6 [.inr (.ref 0), .inl 9223372043297226757, .inl 9223372047592194096] q_X8_tallySeenHours_1 al_X8_tallySeenHours_1
set_option maxRecDepth 100000 in
theorem cs_X8_tallySeenHours_1 (d : Nat) : zC l G gh (d + 5) n_X8_tallySeenHours gs_X8_tallySeenHours_1 := zgq_ok0 (pcs := p_X8_tallySeenHours) (by decide) rfl rfl (fun a ha => by simp only [al_X8_tallySeenHours_1, List.mem_cons, List.not_mem_nil, or_false] at ha; rcases ha with rfl <;> decide +kernel) (fun gh => x_X8_tallySeenHours_1 d) (by decide +kernel)
noncomputable def gs_X8_tallySeenHours : zMt := (zor gs_X8_tallySeenHours_0 gs_X8_tallySeenHours_1)
theorem cs_X8_tallySeenHours (d : Nat) : zC l G gh (d + 5) n_X8_tallySeenHours gs_X8_tallySeenHours := (zor_ok (cs_X8_tallySeenHours_0 d) (cs_X8_tallySeenHours_1 d))
end
