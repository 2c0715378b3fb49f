section
variable {l : Launch} {G : qG} {gh : zGh}
def n_X9_sure : qMn := (yX9_sure, cX9_sure, 6, (some Jvm.ClassFile.FieldType.int), 0, 0)
theorem to_X9_sure : qTo n_X9_sure 2 := ⟨g1692, g110, ⟨by decide, by decide, by decide +kernel⟩, by decide⟩
def p_X9_sure : List Nat := [0, 12, 21, 23, 29, 37, 50, 54, 62, 69, 75, 81, 84, 87]
noncomputable def b_X9_sure_0 : zBl := fun jp K => oIld 1 <| oInt 2147483648 <| oAld 0 <| oGetI 9 58 <| oCs 3 f_X9_in <| oIf zeq zne (jp 2) (jp 1)
theorem s_X9_sure_0 (d : Nat) : zPb l G gh (d + 2) n_X9_sure p_X9_sure 0 b_X9_sure_0 := fun K jp hj =>
    z_iload_n (n := 1) (i := 1) (zd (i := .iload_n 1) (n := 1) (by decide +kernel)) rfl <|
    z_iconst (n := 0) (zd (i := .iconst (0)) (n := 1) (by decide +kernel)) (by decide +kernel) <|
    z_aload_n (n := 0) (i := 0) (zd (i := .aload_n 0) (n := 1) (by decide +kernel)) rfl <|
    z_getI (ci := 9) (j := 58) (idx := 251) (zd (i := .getfield 251) (n := 3) (by decide +kernel)) (by decide +kernel) (by decide +kernel) rfl g1186 <|
    z_callS (idx := 304) (N := n_X9_in) (zd (i := .invokestatic 304) (n := 3) (by decide +kernel)) to_X9_in g1442 g1443 rfl rfl (c_X9_in (l := l) (G := G) (gh := gh) d) <|
    z_if_eq (off := 12) (tgt := 21) (zd (i := .ifCond .eq (12)) (n := 3) (by decide +kernel)) (by decide +kernel) (zj (hj 2) (by decide +kernel)) (zj (hj 1) (by decide +kernel))
noncomputable def b_X9_sure_1 : zBl := fun jp K => oIld 2 <| oInt 2147483648 <| oInt 2147483649 <| oCs 3 f_X9_in <| oIf zne zeq (jp 3) (jp 2)
theorem s_X9_sure_1 (d : Nat) : zPb l G gh (d + 2) n_X9_sure p_X9_sure 12 b_X9_sure_1 := fun K jp hj =>
    z_iload_n (n := 2) (i := 2) (zd (i := .iload_n 2) (n := 1) (by decide +kernel)) rfl <|
    z_iconst (n := 0) (zd (i := .iconst (0)) (n := 1) (by decide +kernel)) (by decide +kernel) <|
    z_iconst (n := 1) (zd (i := .iconst (1)) (n := 1) (by decide +kernel)) (by decide +kernel) <|
    z_callS (idx := 304) (N := n_X9_in) (zd (i := .invokestatic 304) (n := 3) (by decide +kernel)) to_X9_in g1442 g1443 rfl rfl (c_X9_in (l := l) (G := G) (gh := gh) d) <|
    z_if_ne (off := 5) (tgt := 23) (zd (i := .ifCond .ne (5)) (n := 3) (by decide +kernel)) (by decide +kernel) (zj (hj 3) (by decide +kernel)) (zj (hj 2) (by decide +kernel))
noncomputable def b_X9_sure_2 : zBl := fun jp K => oInt 2147483647 <| oIret K
theorem s_X9_sure_2 (d : Nat) : zPb l G gh (d + 2) n_X9_sure p_X9_sure 21 b_X9_sure_2 := fun K jp hj =>
    z_iconst (n := -1) (zd (i := .iconst (-1)) (n := 1) (by decide +kernel)) (by decide +kernel) <|
    z_iret (zd (i := .ireturn) (n := 1) (by decide +kernel)) rfl
noncomputable def b_X9_sure_3 : zBl := fun jp K => oInt 2147483646 <| oIst 3 <| oInt 2147483648 <| oIst 4 <| jp 4
theorem s_X9_sure_3 (d : Nat) : zPb l G gh (d + 2) n_X9_sure p_X9_sure 23 b_X9_sure_3 := fun K jp hj =>
    z_bipush (n := -2) (zd (i := .bipush (-2)) (n := 2) (by decide +kernel)) (by decide +kernel) <|
    z_istore_n (n := 3) (i := 3) (zd (i := .istore_n 3) (n := 1) (by decide +kernel)) rfl (by decide +kernel) <|
    z_iconst (n := 0) (zd (i := .iconst (0)) (n := 1) (by decide +kernel)) (by decide +kernel) <|
    z_istore (i := 4) (zd (i := .istore 4) (n := 2) (by decide +kernel)) (by decide +kernel) <|
    (zj (hj 4) (by decide +kernel))
noncomputable def b_X9_sure_4 : zBl := fun jp K => oIld 4 <| oInt 2147483828 <| oIc zge zlt (oFail) (jp 5)
theorem s_X9_sure_4 (d : Nat) : zPb l G gh (d + 2) n_X9_sure p_X9_sure 29 b_X9_sure_4 := fun K jp hj =>
    z_iload (i := 4) (zd (i := .iload 4) (n := 2) (by decide +kernel)) <|
    z_sipush (n := 180) (zd (i := .sipush (180)) (n := 3) (by decide +kernel)) (by decide +kernel) <|
    z_icmp_ge (off := 59) (tgt := 93) (zd (i := .if_icmp .ge (59)) (n := 3) (by decide +kernel)) (by decide +kernel) z_fail (zj (hj 5) (by decide +kernel))
noncomputable def b_X9_sure_5 : zBl := fun jp K => oAld 0 <| oIld 4 <| oIld 1 <| oCv 9 2 f_X9_isSo <| oIf zne zeq (jp 6) (oFail)
theorem s_X9_sure_5 (d : Nat) : zPb l G gh (d + 2) n_X9_sure p_X9_sure 37 b_X9_sure_5 := fun K jp hj =>
    z_aload_n (n := 0) (i := 0) (zd (i := .aload_n 0) (n := 1) (by decide +kernel)) rfl <|
    z_iload (i := 4) (zd (i := .iload 4) (n := 2) (by decide +kernel)) <|
    z_iload_n (n := 1) (i := 1) (zd (i := .iload_n 1) (n := 1) (by decide +kernel)) rfl <|
    z_callV (idx := 428) (ci := 9) (N := n_X9_isSo) (zd (i := .invokevirtual 428) (n := 3) (by decide +kernel)) to_X9_isSo g1685 g1687 g94 (by decide +kernel) rfl rfl rfl (c_X9_isSo (l := l) (G := G) (gh := gh) d) <|
    z_if_ne (off := 6) (tgt := 50) (zd (i := .ifCond .ne (6)) (n := 3) (by decide +kernel)) (by decide +kernel) (zj (hj 6) (by decide +kernel)) z_fail
noncomputable def b_X9_sure_6 : zBl := fun jp K => oIld 2 <| oIf zne zeq (jp 8) (jp 7)
theorem s_X9_sure_6 (d : Nat) : zPb l G gh (d + 2) n_X9_sure p_X9_sure 50 b_X9_sure_6 := fun K jp hj =>
    z_iload_n (n := 2) (i := 2) (zd (i := .iload_n 2) (n := 1) (by decide +kernel)) rfl <|
    z_if_ne (off := 11) (tgt := 62) (zd (i := .ifCond .ne (11)) (n := 3) (by decide +kernel)) (by decide +kernel) (zj (hj 8) (by decide +kernel)) (zj (hj 7) (by decide +kernel))
noncomputable def b_X9_sure_7 : zBl := fun jp K => oIld 4 <| oInt 2147483657 <| oB2z zidiv <| jp 9
theorem s_X9_sure_7 (d : Nat) : zPb l G gh (d + 2) n_X9_sure p_X9_sure 54 b_X9_sure_7 := fun K jp hj =>
    z_iload (i := 4) (zd (i := .iload 4) (n := 2) (by decide +kernel)) <|
    z_bipush (n := 9) (zd (i := .bipush (9)) (n := 2) (by decide +kernel)) (by decide +kernel) <|
    z_idiv (zd (i := .idiv) (n := 1) (by decide +kernel)) <|
    z_goto (off := 10) (tgt := 69) (zd (i := .goto (10)) (n := 3) (by decide +kernel)) (by decide +kernel) (zj (hj 9) (by decide +kernel))
noncomputable def b_X9_sure_8 : zBl := fun jp K => oIld 4 <| oInt 2147483657 <| oB2z zirem <| oInt 2147483649 <| oB2 zadd <| jp 9
theorem s_X9_sure_8 (d : Nat) : zPb l G gh (d + 2) n_X9_sure p_X9_sure 62 b_X9_sure_8 := fun K jp hj =>
    z_iload (i := 4) (zd (i := .iload 4) (n := 2) (by decide +kernel)) <|
    z_bipush (n := 9) (zd (i := .bipush (9)) (n := 2) (by decide +kernel)) (by decide +kernel) <|
    z_irem (zd (i := .irem) (n := 1) (by decide +kernel)) <|
    z_iconst (n := 1) (zd (i := .iconst (1)) (n := 1) (by decide +kernel)) (by decide +kernel) <|
    z_iadd (zd (i := .iadd) (n := 1) (by decide +kernel)) <|
    (zj (hj 9) (by decide +kernel))
noncomputable def b_X9_sure_9 : zBl := fun jp K => oIst 5 <| oIld 3 <| oIf zlt zge (jp 12) (jp 10)
theorem s_X9_sure_9 (d : Nat) : zPb l G gh (d + 2) n_X9_sure p_X9_sure 69 b_X9_sure_9 := fun K jp hj =>
    z_istore (i := 5) (zd (i := .istore 5) (n := 2) (by decide +kernel)) (by decide +kernel) <|
    z_iload_n (n := 3) (i := 3) (zd (i := .iload_n 3) (n := 1) (by decide +kernel)) rfl <|
    z_if_lt (off := 12) (tgt := 84) (zd (i := .ifCond .lt (12)) (n := 3) (by decide +kernel)) (by decide +kernel) (zj (hj 12) (by decide +kernel)) (zj (hj 10) (by decide +kernel))
noncomputable def b_X9_sure_10 : zBl := fun jp K => oIld 3 <| oIld 5 <| oIc zeq zne (jp 12) (jp 11)
theorem s_X9_sure_10 (d : Nat) : zPb l G gh (d + 2) n_X9_sure p_X9_sure 75 b_X9_sure_10 := fun K jp hj =>
    z_iload_n (n := 3) (i := 3) (zd (i := .iload_n 3) (n := 1) (by decide +kernel)) rfl <|
    z_iload (i := 5) (zd (i := .iload 5) (n := 2) (by decide +kernel)) <|
    z_icmp_eq (off := 6) (tgt := 84) (zd (i := .if_icmp .eq (6)) (n := 3) (by decide +kernel)) (by decide +kernel) (zj (hj 12) (by decide +kernel)) (zj (hj 11) (by decide +kernel))
noncomputable def b_X9_sure_11 : zBl := fun jp K => oInt 2147483646 <| oIret K
theorem s_X9_sure_11 (d : Nat) : zPb l G gh (d + 2) n_X9_sure p_X9_sure 81 b_X9_sure_11 := fun K jp hj =>
    z_bipush (n := -2) (zd (i := .bipush (-2)) (n := 2) (by decide +kernel)) (by decide +kernel) <|
    z_iret (zd (i := .ireturn) (n := 1) (by decide +kernel)) rfl
noncomputable def b_X9_sure_12 : zBl := fun jp K => oIld 5 <| oIst 3 <| jp 13
theorem s_X9_sure_12 (d : Nat) : zPb l G gh (d + 2) n_X9_sure p_X9_sure 84 b_X9_sure_12 := fun K jp hj =>
    z_iload (i := 5) (zd (i := .iload 5) (n := 2) (by decide +kernel)) <|
    z_istore_n (n := 3) (i := 3) (zd (i := .istore_n 3) (n := 1) (by decide +kernel)) rfl (by decide +kernel) <|
    (zj (hj 13) (by decide +kernel))
noncomputable def b_X9_sure_13 : zBl := fun jp K => oInc 4 2147483649 <| jp 4
theorem s_X9_sure_13 (d : Nat) : zPb l G gh (d + 2) n_X9_sure p_X9_sure 87 b_X9_sure_13 := fun K jp hj =>
    z_iinc (i := 4) (n := 1) (zd (i := .iinc 4 (1)) (n := 3) (by decide +kernel)) (by decide +kernel) (by decide +kernel) <|
    z_goto (off := -61) (tgt := 29) (zd (i := .goto (-61)) (n := 3) (by decide +kernel)) (by decide +kernel) (zj (hj 4) (by decide +kernel))
noncomputable def f_X9_sure : zMt := zmet 6 [b_X9_sure_0, b_X9_sure_1, b_X9_sure_2, b_X9_sure_3, b_X9_sure_4, b_X9_sure_5, b_X9_sure_6, b_X9_sure_7, b_X9_sure_8, b_X9_sure_9, b_X9_sure_10, b_X9_sure_11, b_X9_sure_12, b_X9_sure_13]
theorem c_X9_sure (d : Nat) : zC l G gh (d + 2) n_X9_sure f_X9_sure := zmet_ok (pcs := p_X9_sure) (by decide) rfl rfl ⟨s_X9_sure_0 d, s_X9_sure_1 d, s_X9_sure_2 d, s_X9_sure_3 d, s_X9_sure_4 d, s_X9_sure_5 d, s_X9_sure_6 d, s_X9_sure_7 d, s_X9_sure_8 d, s_X9_sure_9 d, s_X9_sure_10 d, s_X9_sure_11 d, s_X9_sure_12 d, s_X9_sure_13 d, trivial⟩
def n_X2_aim : qMn := (yX2_aim, cX2_aim, 6, none, 0, 0)
theorem to_X2_aim : qTo n_X2_aim 5 := ⟨g752, g106, ⟨by decide, by decide, by decide +kernel⟩, by decide⟩
def p_X2_aim : List Nat := [0, 55, 76, 80, 81]
noncomputable def b_X2_aim_0 : zBl := fun jp K => oAld 0 <| oGetR 2 4 <| oInt 2147483648 <| oIld 1 <| oInt 2147483672 <| oB2z zirem <| oXast 10 zid <| oAld 0 <| oGetR 2 4 <| oInt 2147483649 <| oIld 1 <| oInt 2147483672 <| oB2z zidiv <| oXast 10 zid <| oAld 0 <| oGetR 2 4 <| oInt 2147483650 <| oIld 2 <| oXast 10 zid <| oAld 0 <| oGetR 2 4 <| oInt 2147483651 <| oIld 4 <| oIld 3 <| oB2 zsub <| oM1 zabs <| oXast 10 zid <| oAld 0 <| oGetR 2 4 <| oInt 2147483652 <| oIld 5 <| oXast 10 zid <| oAld 0 <| oGetR 2 4 <| oInt 2147483653 <| oIld 4 <| jp 1
theorem s_X2_aim_0 (d : Nat) : zPb l G gh (d + 1) n_X2_aim p_X2_aim 0 b_X2_aim_0 := fun K jp hj =>
    z_aload_n (n := 0) (i := 0) (zd (i := .aload_n 0) (n := 1) (by decide +kernel)) rfl <|
    z_getR (ci := 2) (j := 4) (idx := 25) (zd (i := .getfield 25) (n := 3) (by decide +kernel)) (by decide +kernel) (by decide +kernel) rfl g241 <|
    z_iconst (n := 0) (zd (i := .iconst (0)) (n := 1) (by decide +kernel)) (by decide +kernel) <|
    z_iload_n (n := 1) (i := 1) (zd (i := .iload_n 1) (n := 1) (by decide +kernel)) rfl <|
    z_bipush (n := 24) (zd (i := .bipush (24)) (n := 2) (by decide +kernel)) (by decide +kernel) <|
    z_irem (zd (i := .irem) (n := 1) (by decide +kernel)) <|
    z_iast (zd (i := .iastore) (n := 1) (by decide +kernel)) <|
    z_aload_n (n := 0) (i := 0) (zd (i := .aload_n 0) (n := 1) (by decide +kernel)) rfl <|
    z_getR (ci := 2) (j := 4) (idx := 25) (zd (i := .getfield 25) (n := 3) (by decide +kernel)) (by decide +kernel) (by decide +kernel) rfl g241 <|
    z_iconst (n := 1) (zd (i := .iconst (1)) (n := 1) (by decide +kernel)) (by decide +kernel) <|
    z_iload_n (n := 1) (i := 1) (zd (i := .iload_n 1) (n := 1) (by decide +kernel)) rfl <|
    z_bipush (n := 24) (zd (i := .bipush (24)) (n := 2) (by decide +kernel)) (by decide +kernel) <|
    z_idiv (zd (i := .idiv) (n := 1) (by decide +kernel)) <|
    z_iast (zd (i := .iastore) (n := 1) (by decide +kernel)) <|
    z_aload_n (n := 0) (i := 0) (zd (i := .aload_n 0) (n := 1) (by decide +kernel)) rfl <|
    z_getR (ci := 2) (j := 4) (idx := 25) (zd (i := .getfield 25) (n := 3) (by decide +kernel)) (by decide +kernel) (by decide +kernel) rfl g241 <|
    z_iconst (n := 2) (zd (i := .iconst (2)) (n := 1) (by decide +kernel)) (by decide +kernel) <|
    z_iload_n (n := 2) (i := 2) (zd (i := .iload_n 2) (n := 1) (by decide +kernel)) rfl <|
    z_iast (zd (i := .iastore) (n := 1) (by decide +kernel)) <|
    z_aload_n (n := 0) (i := 0) (zd (i := .aload_n 0) (n := 1) (by decide +kernel)) rfl <|
    z_getR (ci := 2) (j := 4) (idx := 25) (zd (i := .getfield 25) (n := 3) (by decide +kernel)) (by decide +kernel) (by decide +kernel) rfl g241 <|
    z_iconst (n := 3) (zd (i := .iconst (3)) (n := 1) (by decide +kernel)) (by decide +kernel) <|
    z_iload (i := 4) (zd (i := .iload 4) (n := 2) (by decide +kernel)) <|
    z_iload_n (n := 3) (i := 3) (zd (i := .iload_n 3) (n := 1) (by decide +kernel)) rfl <|
    z_isub (zd (i := .isub) (n := 1) (by decide +kernel)) <|
    z_abs (idx := 54) (zd (i := .invokestatic 54) (n := 3) (by decide +kernel)) g753 g754 g111 g755 <|
    z_iast (zd (i := .iastore) (n := 1) (by decide +kernel)) <|
    z_aload_n (n := 0) (i := 0) (zd (i := .aload_n 0) (n := 1) (by decide +kernel)) rfl <|
    z_getR (ci := 2) (j := 4) (idx := 25) (zd (i := .getfield 25) (n := 3) (by decide +kernel)) (by decide +kernel) (by decide +kernel) rfl g241 <|
    z_iconst (n := 4) (zd (i := .iconst (4)) (n := 1) (by decide +kernel)) (by decide +kernel) <|
    z_iload (i := 5) (zd (i := .iload 5) (n := 2) (by decide +kernel)) <|
    z_iast (zd (i := .iastore) (n := 1) (by decide +kernel)) <|
    z_aload_n (n := 0) (i := 0) (zd (i := .aload_n 0) (n := 1) (by decide +kernel)) rfl <|
    z_getR (ci := 2) (j := 4) (idx := 25) (zd (i := .getfield 25) (n := 3) (by decide +kernel)) (by decide +kernel) (by decide +kernel) rfl g241 <|
    z_iconst (n := 5) (zd (i := .iconst (5)) (n := 1) (by decide +kernel)) (by decide +kernel) <|
    z_iload (i := 4) (zd (i := .iload 4) (n := 2) (by decide +kernel)) <|
    (zj (hj 1) (by decide +kernel))
noncomputable def b_X2_aim_1 : zBl := fun jp K => oXast 10 zid <| oAld 0 <| oGetR 2 4 <| oInt 2147483654 <| oInt 2147483648 <| oXast 10 zid <| oAld 0 <| oGetR 2 4 <| oInt 2147483655 <| oIld 4 <| oIld 3 <| oIc zle zgt (jp 3) (jp 2)
theorem s_X2_aim_1 (d : Nat) : zPb l G gh (d + 1) n_X2_aim p_X2_aim 55 b_X2_aim_1 := fun K jp hj =>
    z_iast (zd (i := .iastore) (n := 1) (by decide +kernel)) <|
    z_aload_n (n := 0) (i := 0) (zd (i := .aload_n 0) (n := 1) (by decide +kernel)) rfl <|
    z_getR (ci := 2) (j := 4) (idx := 25) (zd (i := .getfield 25) (n := 3) (by decide +kernel)) (by decide +kernel) (by decide +kernel) rfl g241 <|
    z_bipush (n := 6) (zd (i := .bipush (6)) (n := 2) (by decide +kernel)) (by decide +kernel) <|
    z_iconst (n := 0) (zd (i := .iconst (0)) (n := 1) (by decide +kernel)) (by decide +kernel) <|
    z_iast (zd (i := .iastore) (n := 1) (by decide +kernel)) <|
    z_aload_n (n := 0) (i := 0) (zd (i := .aload_n 0) (n := 1) (by decide +kernel)) rfl <|
    z_getR (ci := 2) (j := 4) (idx := 25) (zd (i := .getfield 25) (n := 3) (by decide +kernel)) (by decide +kernel) (by decide +kernel) rfl g241 <|
    z_bipush (n := 7) (zd (i := .bipush (7)) (n := 2) (by decide +kernel)) (by decide +kernel) <|
    z_iload (i := 4) (zd (i := .iload 4) (n := 2) (by decide +kernel)) <|
    z_iload_n (n := 3) (i := 3) (zd (i := .iload_n 3) (n := 1) (by decide +kernel)) rfl <|
    z_icmp_le (off := 7) (tgt := 80) (zd (i := .if_icmp .le (7)) (n := 3) (by decide +kernel)) (by decide +kernel) (zj (hj 3) (by decide +kernel)) (zj (hj 2) (by decide +kernel))
noncomputable def b_X2_aim_2 : zBl := fun jp K => oInt 2147483649 <| jp 4
theorem s_X2_aim_2 (d : Nat) : zPb l G gh (d + 1) n_X2_aim p_X2_aim 76 b_X2_aim_2 := fun K jp hj =>
    z_iconst (n := 1) (zd (i := .iconst (1)) (n := 1) (by decide +kernel)) (by decide +kernel) <|
    z_goto (off := 4) (tgt := 81) (zd (i := .goto (4)) (n := 3) (by decide +kernel)) (by decide +kernel) (zj (hj 4) (by decide +kernel))
noncomputable def b_X2_aim_3 : zBl := fun jp K => oInt 2147483648 <| jp 4
theorem s_X2_aim_3 (d : Nat) : zPb l G gh (d + 1) n_X2_aim p_X2_aim 80 b_X2_aim_3 := fun K jp hj =>
    z_iconst (n := 0) (zd (i := .iconst (0)) (n := 1) (by decide +kernel)) (by decide +kernel) <|
    (zj (hj 4) (by decide +kernel))
noncomputable def b_X2_aim_4 : zBl := fun jp K => oXast 10 zid <| oAld 0 <| oGetR 2 4 <| oInt 2147483656 <| oIld 3 <| oXast 10 zid <| oVret K
theorem s_X2_aim_4 (d : Nat) : zPb l G gh (d + 1) n_X2_aim p_X2_aim 81 b_X2_aim_4 := fun K jp hj =>
    z_iast (zd (i := .iastore) (n := 1) (by decide +kernel)) <|
    z_aload_n (n := 0) (i := 0) (zd (i := .aload_n 0) (n := 1) (by decide +kernel)) rfl <|
    z_getR (ci := 2) (j := 4) (idx := 25) (zd (i := .getfield 25) (n := 3) (by decide +kernel)) (by decide +kernel) (by decide +kernel) rfl g241 <|
    z_bipush (n := 8) (zd (i := .bipush (8)) (n := 2) (by decide +kernel)) (by decide +kernel) <|
    z_iload_n (n := 3) (i := 3) (zd (i := .iload_n 3) (n := 1) (by decide +kernel)) rfl <|
    z_iast (zd (i := .iastore) (n := 1) (by decide +kernel)) <|
    z_vret (zd (i := .return_) (n := 1) (by decide +kernel)) rfl
noncomputable def f_X2_aim : zMt := zmet 6 [b_X2_aim_0, b_X2_aim_1, b_X2_aim_2, b_X2_aim_3, b_X2_aim_4]
theorem c_X2_aim (d : Nat) : zC l G gh (d + 1) n_X2_aim f_X2_aim := zmet_ok (pcs := p_X2_aim) (by decide) rfl rfl ⟨s_X2_aim_0 d, s_X2_aim_1 d, s_X2_aim_2 d, s_X2_aim_3 d, s_X2_aim_4 d, trivial⟩
def n_X2_isSeen : qMn := (yX2_isSeen, cX2_isSeen, 1, (some Jvm.ClassFile.FieldType.boolean), 0, 0)
theorem to_X2_isSeen : qTo n_X2_isSeen 0 := ⟨g759, g106, ⟨by decide, by decide, by decide +kernel⟩, by decide⟩
def p_X2_isSeen : List Nat := [0, 8, 12, 13]
noncomputable def b_X2_isSeen_0 : zBl := fun jp K => oAld 0 <| oInt 2147483649 <| oCv 2 1 f_X2_reckon <| oIf zle zgt (jp 2) (jp 1)
theorem s_X2_isSeen_0 (d : Nat) : zPb l G gh (d + 3) n_X2_isSeen p_X2_isSeen 0 b_X2_isSeen_0 := fun K jp hj =>
    z_aload_n (n := 0) (i := 0) (zd (i := .aload_n 0) (n := 1) (by decide +kernel)) rfl <|
    z_iconst (n := 1) (zd (i := .iconst (1)) (n := 1) (by decide +kernel)) (by decide +kernel) <|
    z_callV (idx := 46) (ci := 2) (N := n_X2_reckon) (zd (i := .invokevirtual 46) (n := 3) (by decide +kernel)) to_X2_reckon g728 g730 g20 (by decide +kernel) rfl rfl rfl (c_X2_reckon (l := l) (G := G) (gh := gh) d) <|
    z_if_le (off := 7) (tgt := 12) (zd (i := .ifCond .le (7)) (n := 3) (by decide +kernel)) (by decide +kernel) (zj (hj 2) (by decide +kernel)) (zj (hj 1) (by decide +kernel))
noncomputable def b_X2_isSeen_1 : zBl := fun jp K => oInt 2147483649 <| jp 3
theorem s_X2_isSeen_1 (d : Nat) : zPb l G gh (d + 3) n_X2_isSeen p_X2_isSeen 8 b_X2_isSeen_1 := fun K jp hj =>
    z_iconst (n := 1) (zd (i := .iconst (1)) (n := 1) (by decide +kernel)) (by decide +kernel) <|
    z_goto (off := 4) (tgt := 13) (zd (i := .goto (4)) (n := 3) (by decide +kernel)) (by decide +kernel) (zj (hj 3) (by decide +kernel))
noncomputable def b_X2_isSeen_2 : zBl := fun jp K => oInt 2147483648 <| jp 3
theorem s_X2_isSeen_2 (d : Nat) : zPb l G gh (d + 3) n_X2_isSeen p_X2_isSeen 12 b_X2_isSeen_2 := fun K jp hj =>
    z_iconst (n := 0) (zd (i := .iconst (0)) (n := 1) (by decide +kernel)) (by decide +kernel) <|
    (zj (hj 3) (by decide +kernel))
noncomputable def b_X2_isSeen_3 : zBl := fun jp K => oZret K
theorem s_X2_isSeen_3 (d : Nat) : zPb l G gh (d + 3) n_X2_isSeen p_X2_isSeen 13 b_X2_isSeen_3 := fun K jp hj =>
    z_zret (zd (i := .ireturn) (n := 1) (by decide +kernel)) rfl
noncomputable def f_X2_isSeen : zMt := zmet 1 [b_X2_isSeen_0, b_X2_isSeen_1, b_X2_isSeen_2, b_X2_isSeen_3]
theorem c_X2_isSeen (d : Nat) : zC l G gh (d + 3) n_X2_isSeen f_X2_isSeen := zmet_ok (pcs := p_X2_isSeen) (by decide) rfl rfl ⟨s_X2_isSeen_0 d, s_X2_isSeen_1 d, s_X2_isSeen_2 d, s_X2_isSeen_3 d, trivial⟩
def n_X2_moved : qMn := (yX2_moved, cX2_moved, 1, (some Jvm.ClassFile.FieldType.int), 0, 0)
theorem to_X2_moved : qTo n_X2_moved 0 := ⟨g815, g106, ⟨by decide, by decide, by decide +kernel⟩, by decide⟩
def p_X2_moved : List Nat := [0]
noncomputable def b_X2_moved_0 : zBl := fun jp K => oInt 2147483639 <| oAld 0 <| oInt 2147483650 <| oCv 2 1 f_X2_reckon <| oInt 2147483657 <| oCs 3 f_X8_within <| oIret K
theorem s_X2_moved_0 (d : Nat) : zPb l G gh (d + 3) n_X2_moved p_X2_moved 0 b_X2_moved_0 := fun K jp hj =>
    z_bipush (n := -9) (zd (i := .bipush (-9)) (n := 2) (by decide +kernel)) (by decide +kernel) <|
    z_aload_n (n := 0) (i := 0) (zd (i := .aload_n 0) (n := 1) (by decide +kernel)) rfl <|
    z_iconst (n := 2) (zd (i := .iconst (2)) (n := 1) (by decide +kernel)) (by decide +kernel) <|
    z_callV (idx := 46) (ci := 2) (N := n_X2_reckon) (zd (i := .invokevirtual 46) (n := 3) (by decide +kernel)) to_X2_reckon g728 g730 g20 (by decide +kernel) rfl rfl rfl (c_X2_reckon (l := l) (G := G) (gh := gh) d) <|
    z_bipush (n := 9) (zd (i := .bipush (9)) (n := 2) (by decide +kernel)) (by decide +kernel) <|
    z_callSN (idx := 50) (N := n_X8_within) (host := "MirageLoans") (zd (i := .invokestatic 50) (n := 3) (by decide +kernel)) to_X8_within (by decide +kernel) g741 rfl rfl (c_X8_within (l := l) (G := G) (gh := gh) (d + 1)) <|
    z_iret (zd (i := .ireturn) (n := 1) (by decide +kernel)) rfl
noncomputable def f_X2_moved : zMt := zmet 1 [b_X2_moved_0]
theorem c_X2_moved (d : Nat) : zC l G gh (d + 3) n_X2_moved f_X2_moved := zmet_ok (pcs := p_X2_moved) (by decide) rfl rfl ⟨s_X2_moved_0 d, trivial⟩
def n_X2_spot : qMn := (yX2_spot, cX2_spot, 2, (some Jvm.ClassFile.FieldType.int), 0, 0)
theorem to_X2_spot : qTo n_X2_spot 0 := ⟨g908, g106, ⟨by decide, by decide, by decide +kernel⟩, by decide⟩
def p_X2_spot : List Nat := [0, 7, 9, 25, 32, 37]
noncomputable def b_X2_spot_0 : zBl := fun jp K => oAld 0 <| oCv 2 0 f_X2_isSeen <| oIf zne zeq (jp 2) (jp 1)
theorem s_X2_spot_0 (d : Nat) : zPb l G gh (d + 4) n_X2_spot p_X2_spot 0 b_X2_spot_0 := fun K jp hj =>
    z_aload_n (n := 0) (i := 0) (zd (i := .aload_n 0) (n := 1) (by decide +kernel)) rfl <|
    z_callV (idx := 59) (ci := 2) (N := n_X2_isSeen) (zd (i := .invokevirtual 59) (n := 3) (by decide +kernel)) to_X2_isSeen g909 g757 g758 (by decide +kernel) rfl rfl rfl (c_X2_isSeen (l := l) (G := G) (gh := gh) d) <|
    z_if_ne (off := 5) (tgt := 9) (zd (i := .ifCond .ne (5)) (n := 3) (by decide +kernel)) (by decide +kernel) (zj (hj 2) (by decide +kernel)) (zj (hj 1) (by decide +kernel))
noncomputable def b_X2_spot_1 : zBl := fun jp K => oInt 2147483647 <| oIret K
theorem s_X2_spot_1 (d : Nat) : zPb l G gh (d + 4) n_X2_spot p_X2_spot 7 b_X2_spot_1 := fun K jp hj =>
    z_iconst (n := -1) (zd (i := .iconst (-1)) (n := 1) (by decide +kernel)) (by decide +kernel) <|
    z_iret (zd (i := .ireturn) (n := 1) (by decide +kernel)) rfl
noncomputable def b_X2_spot_2 : zBl := fun jp K => oAld 0 <| oGetR 2 4 <| oInt 2147483653 <| oXald 10 <| oAld 0 <| oGetR 2 4 <| oInt 2147483656 <| oXald 10 <| oIc zlt zge (jp 4) (jp 3)
theorem s_X2_spot_2 (d : Nat) : zPb l G gh (d + 4) n_X2_spot p_X2_spot 9 b_X2_spot_2 := fun K jp hj =>
    z_aload_n (n := 0) (i := 0) (zd (i := .aload_n 0) (n := 1) (by decide +kernel)) rfl <|
    z_getR (ci := 2) (j := 4) (idx := 25) (zd (i := .getfield 25) (n := 3) (by decide +kernel)) (by decide +kernel) (by decide +kernel) rfl g241 <|
    z_iconst (n := 5) (zd (i := .iconst (5)) (n := 1) (by decide +kernel)) (by decide +kernel) <|
    z_iald (zd (i := .iaload) (n := 1) (by decide +kernel)) <|
    z_aload_n (n := 0) (i := 0) (zd (i := .aload_n 0) (n := 1) (by decide +kernel)) rfl <|
    z_getR (ci := 2) (j := 4) (idx := 25) (zd (i := .getfield 25) (n := 3) (by decide +kernel)) (by decide +kernel) (by decide +kernel) rfl g241 <|
    z_bipush (n := 8) (zd (i := .bipush (8)) (n := 2) (by decide +kernel)) (by decide +kernel) <|
    z_iald (zd (i := .iaload) (n := 1) (by decide +kernel)) <|
    z_icmp_lt (off := 10) (tgt := 32) (zd (i := .if_icmp .lt (10)) (n := 3) (by decide +kernel)) (by decide +kernel) (zj (hj 4) (by decide +kernel)) (zj (hj 3) (by decide +kernel))
noncomputable def b_X2_spot_3 : zBl := fun jp K => oAld 0 <| oCv 2 0 f_X2_moved <| jp 5
theorem s_X2_spot_3 (d : Nat) : zPb l G gh (d + 4) n_X2_spot p_X2_spot 25 b_X2_spot_3 := fun K jp hj =>
    z_aload_n (n := 0) (i := 0) (zd (i := .aload_n 0) (n := 1) (by decide +kernel)) rfl <|
    z_callV (idx := 63) (ci := 2) (N := n_X2_moved) (zd (i := .invokevirtual 63) (n := 3) (by decide +kernel)) to_X2_moved g910 g813 g814 (by decide +kernel) rfl rfl rfl (c_X2_moved (l := l) (G := G) (gh := gh) d) <|
    z_goto (off := 8) (tgt := 37) (zd (i := .goto (8)) (n := 3) (by decide +kernel)) (by decide +kernel) (zj (hj 5) (by decide +kernel))
noncomputable def b_X2_spot_4 : zBl := fun jp K => oAld 0 <| oCv 2 0 f_X2_moved <| oU zineg <| jp 5
theorem s_X2_spot_4 (d : Nat) : zPb l G gh (d + 4) n_X2_spot p_X2_spot 32 b_X2_spot_4 := fun K jp hj =>
    z_aload_n (n := 0) (i := 0) (zd (i := .aload_n 0) (n := 1) (by decide +kernel)) rfl <|
    z_callV (idx := 63) (ci := 2) (N := n_X2_moved) (zd (i := .invokevirtual 63) (n := 3) (by decide +kernel)) to_X2_moved g910 g813 g814 (by decide +kernel) rfl rfl rfl (c_X2_moved (l := l) (G := G) (gh := gh) d) <|
    z_ineg (zd (i := .ineg) (n := 1) (by decide +kernel)) <|
    (zj (hj 5) (by decide +kernel))
noncomputable def b_X2_spot_5 : zBl := fun jp K => oIst 1 <| oInt 2147483648 <| oAld 0 <| oGetR 2 4 <| oInt 2147483653 <| oXald 10 <| oIld 1 <| oB2 zadd <| oInt 2147483667 <| oCs 3 f_X8_within <| oIret K
theorem s_X2_spot_5 (d : Nat) : zPb l G gh (d + 4) n_X2_spot p_X2_spot 37 b_X2_spot_5 := fun K jp hj =>
    z_istore_n (n := 1) (i := 1) (zd (i := .istore_n 1) (n := 1) (by decide +kernel)) rfl (by decide +kernel) <|
    z_iconst (n := 0) (zd (i := .iconst (0)) (n := 1) (by decide +kernel)) (by decide +kernel) <|
    z_aload_n (n := 0) (i := 0) (zd (i := .aload_n 0) (n := 1) (by decide +kernel)) rfl <|
    z_getR (ci := 2) (j := 4) (idx := 25) (zd (i := .getfield 25) (n := 3) (by decide +kernel)) (by decide +kernel) (by decide +kernel) rfl g241 <|
    z_iconst (n := 5) (zd (i := .iconst (5)) (n := 1) (by decide +kernel)) (by decide +kernel) <|
    z_iald (zd (i := .iaload) (n := 1) (by decide +kernel)) <|
    z_iload_n (n := 1) (i := 1) (zd (i := .iload_n 1) (n := 1) (by decide +kernel)) rfl <|
    z_iadd (zd (i := .iadd) (n := 1) (by decide +kernel)) <|
    z_bipush (n := 19) (zd (i := .bipush (19)) (n := 2) (by decide +kernel)) (by decide +kernel) <|
    z_callSN (idx := 50) (N := n_X8_within) (host := "MirageLoans") (zd (i := .invokestatic 50) (n := 3) (by decide +kernel)) to_X8_within (by decide +kernel) g741 rfl rfl (c_X8_within (l := l) (G := G) (gh := gh) (d + 2)) <|
    z_iret (zd (i := .ireturn) (n := 1) (by decide +kernel)) rfl
noncomputable def f_X2_spot : zMt := zmet 2 [b_X2_spot_0, b_X2_spot_1, b_X2_spot_2, b_X2_spot_3, b_X2_spot_4, b_X2_spot_5]
theorem c_X2_spot (d : Nat) : zC l G gh (d + 4) n_X2_spot f_X2_spot := zmet_ok (pcs := p_X2_spot) (by decide) rfl rfl ⟨s_X2_spot_0 d, s_X2_spot_1 d, s_X2_spot_2 d, s_X2_spot_3 d, s_X2_spot_4 d, s_X2_spot_5 d, trivial⟩
def n_X7_worstLeft : qMn := (yX7_worstLeft, cX7_worstLeft, 8, (some Jvm.ClassFile.FieldType.int), 0, 0)
theorem to_X7_worstLeft : qTo n_X7_worstLeft 4 := ⟨g1078, g109, ⟨by decide, by decide, by decide +kernel⟩, by decide⟩
def p_X7_worstLeft : List Nat := [0, 3, 10, 24, 30, 38, 48, 105, 111]
noncomputable def b_X7_worstLeft_0 : zBl := fun jp K => oInt 2147483648 <| oIst 5 <| jp 1
theorem s_X7_worstLeft_0 (d : Nat) : zPb l G gh (d + 5) n_X7_worstLeft p_X7_worstLeft 0 b_X7_worstLeft_0 := fun K jp hj =>
    z_iconst (n := 0) (zd (i := .iconst (0)) (n := 1) (by decide +kernel)) (by decide +kernel) <|
    z_istore (i := 5) (zd (i := .istore 5) (n := 2) (by decide +kernel)) (by decide +kernel) <|
    (zj (hj 1) (by decide +kernel))
noncomputable def b_X7_worstLeft_1 : zBl := fun jp K => oIld 5 <| oInt 2147483668 <| oIc zgt zle (jp 3) (jp 2)
theorem s_X7_worstLeft_1 (d : Nat) : zPb l G gh (d + 5) n_X7_worstLeft p_X7_worstLeft 3 b_X7_worstLeft_1 := fun K jp hj =>
    z_iload (i := 5) (zd (i := .iload 5) (n := 2) (by decide +kernel)) <|
    z_bipush (n := 20) (zd (i := .bipush (20)) (n := 2) (by decide +kernel)) (by decide +kernel) <|
    z_icmp_gt (off := 17) (tgt := 24) (zd (i := .if_icmp .gt (17)) (n := 3) (by decide +kernel)) (by decide +kernel) (zj (hj 3) (by decide +kernel)) (zj (hj 2) (by decide +kernel))
noncomputable def b_X7_worstLeft_2 : zBl := fun jp K => oAld 0 <| oGetR 7 5 <| oIld 5 <| oInt 2147483648 <| oXast 10 zid <| oInc 5 2147483649 <| jp 1
theorem s_X7_worstLeft_2 (d : Nat) : zPb l G gh (d + 5) n_X7_worstLeft p_X7_worstLeft 10 b_X7_worstLeft_2 := fun K jp hj =>
    z_aload_n (n := 0) (i := 0) (zd (i := .aload_n 0) (n := 1) (by decide +kernel)) rfl <|
    z_getR (ci := 7) (j := 5) (idx := 29) (zd (i := .getfield 29) (n := 3) (by decide +kernel)) (by decide +kernel) (by decide +kernel) rfl g435 <|
    z_iload (i := 5) (zd (i := .iload 5) (n := 2) (by decide +kernel)) <|
    z_iconst (n := 0) (zd (i := .iconst (0)) (n := 1) (by decide +kernel)) (by decide +kernel) <|
    z_iast (zd (i := .iastore) (n := 1) (by decide +kernel)) <|
    z_iinc (i := 5) (n := 1) (zd (i := .iinc 5 (1)) (n := 3) (by decide +kernel)) (by decide +kernel) (by decide +kernel) <|
    z_goto (off := -18) (tgt := 3) (zd (i := .goto (-18)) (n := 3) (by decide +kernel)) (by decide +kernel) (zj (hj 1) (by decide +kernel))
noncomputable def b_X7_worstLeft_3 : zBl := fun jp K => oInt 2147483648 <| oIst 5 <| oInt 2147483648 <| oIst 6 <| jp 4
theorem s_X7_worstLeft_3 (d : Nat) : zPb l G gh (d + 5) n_X7_worstLeft p_X7_worstLeft 24 b_X7_worstLeft_3 := fun K jp hj =>
    z_iconst (n := 0) (zd (i := .iconst (0)) (n := 1) (by decide +kernel)) (by decide +kernel) <|
    z_istore (i := 5) (zd (i := .istore 5) (n := 2) (by decide +kernel)) (by decide +kernel) <|
    z_iconst (n := 0) (zd (i := .iconst (0)) (n := 1) (by decide +kernel)) (by decide +kernel) <|
    z_istore (i := 6) (zd (i := .istore 6) (n := 2) (by decide +kernel)) (by decide +kernel) <|
    (zj (hj 4) (by decide +kernel))
noncomputable def b_X7_worstLeft_4 : zBl := fun jp K => oIld 6 <| oInt 2147483828 <| oIc zge zlt (jp 8) (jp 5)
theorem s_X7_worstLeft_4 (d : Nat) : zPb l G gh (d + 5) n_X7_worstLeft p_X7_worstLeft 30 b_X7_worstLeft_4 := fun K jp hj =>
    z_iload (i := 6) (zd (i := .iload 6) (n := 2) (by decide +kernel)) <|
    z_sipush (n := 180) (zd (i := .sipush (180)) (n := 3) (by decide +kernel)) (by decide +kernel) <|
    z_icmp_ge (off := 76) (tgt := 111) (zd (i := .if_icmp .ge (76)) (n := 3) (by decide +kernel)) (by decide +kernel) (zj (hj 8) (by decide +kernel)) (zj (hj 5) (by decide +kernel))
noncomputable def b_X7_worstLeft_5 : zBl := fun jp K => oAld 0 <| oGetR 7 4 <| oIld 6 <| oXald 12 <| oIf zeq zne (jp 7) (jp 6)
theorem s_X7_worstLeft_5 (d : Nat) : zPb l G gh (d + 5) n_X7_worstLeft p_X7_worstLeft 38 b_X7_worstLeft_5 := fun K jp hj =>
    z_aload_n (n := 0) (i := 0) (zd (i := .aload_n 0) (n := 1) (by decide +kernel)) rfl <|
    z_getR (ci := 7) (j := 4) (idx := 25) (zd (i := .getfield 25) (n := 3) (by decide +kernel)) (by decide +kernel) (by decide +kernel) rfl g434 <|
    z_iload (i := 6) (zd (i := .iload 6) (n := 2) (by decide +kernel)) <|
    z_zald (zd (i := .baload) (n := 1) (by decide +kernel)) <|
    z_if_eq (off := 60) (tgt := 105) (zd (i := .ifCond .eq (60)) (n := 3) (by decide +kernel)) (by decide +kernel) (zj (hj 7) (by decide +kernel)) (zj (hj 6) (by decide +kernel))
noncomputable def b_X7_worstLeft_6 : zBl := fun jp K => oAld 1 <| oGetR 0 12 <| oIld 3 <| oIld 4 <| oIld 2 <| oIld 6 <| oCs 1 f_X7_xOf <| oIld 6 <| oCs 1 f_X7_tallOf <| oCv 2 5 f_X2_aim <| oAld 1 <| oGetR 0 12 <| oCv 2 0 f_X2_spot <| oInt 2147483649 <| oB2 zadd <| oIst 7 <| oAld 0 <| oGetR 7 5 <| oIld 7 <| oDup2 <| oXald 10 <| oInt 2147483649 <| oB2 zadd <| oXast 10 zid <| oIld 5 <| oAld 0 <| oGetR 7 5 <| oIld 7 <| oXald 10 <| oM2 zmax <| oIst 5 <| jp 7
theorem s_X7_worstLeft_6 (d : Nat) : zPb l G gh (d + 5) n_X7_worstLeft p_X7_worstLeft 48 b_X7_worstLeft_6 := fun K jp hj =>
    z_aload_n (n := 1) (i := 1) (zd (i := .aload_n 1) (n := 1) (by decide +kernel)) rfl <|
    z_getR (ci := 0) (j := 12) (idx := 42) (zd (i := .getfield 42) (n := 3) (by decide +kernel)) (by decide +kernel) (by decide +kernel) rfl g305 <|
    z_iload_n (n := 3) (i := 3) (zd (i := .iload_n 3) (n := 1) (by decide +kernel)) rfl <|
    z_iload (i := 4) (zd (i := .iload 4) (n := 2) (by decide +kernel)) <|
    z_iload_n (n := 2) (i := 2) (zd (i := .iload_n 2) (n := 1) (by decide +kernel)) rfl <|
    z_iload (i := 6) (zd (i := .iload 6) (n := 2) (by decide +kernel)) <|
    z_callS (idx := 46) (N := n_X7_xOf) (zd (i := .invokestatic 46) (n := 3) (by decide +kernel)) to_X7_xOf g1051 g1052 rfl rfl (c_X7_xOf (l := l) (G := G) (gh := gh) (d + 3)) <|
    z_iload (i := 6) (zd (i := .iload 6) (n := 2) (by decide +kernel)) <|
    z_callS (idx := 49) (N := n_X7_tallOf) (zd (i := .invokestatic 49) (n := 3) (by decide +kernel)) to_X7_tallOf g1054 g1055 rfl rfl (c_X7_tallOf (l := l) (G := G) (gh := gh) (d + 3)) <|
    z_callV (idx := 52) (ci := 2) (N := n_X2_aim) (zd (i := .invokevirtual 52) (n := 3) (by decide +kernel)) to_X2_aim g1057 g750 g751 (by decide +kernel) rfl rfl rfl (c_X2_aim (l := l) (G := G) (gh := gh) (d + 3)) <|
    z_aload_n (n := 1) (i := 1) (zd (i := .aload_n 1) (n := 1) (by decide +kernel)) rfl <|
    z_getR (ci := 0) (j := 12) (idx := 42) (zd (i := .getfield 42) (n := 3) (by decide +kernel)) (by decide +kernel) (by decide +kernel) rfl g305 <|
    z_callV (idx := 58) (ci := 2) (N := n_X2_spot) (zd (i := .invokevirtual 58) (n := 3) (by decide +kernel)) to_X2_spot g1058 g906 g907 (by decide +kernel) rfl rfl rfl (c_X2_spot (l := l) (G := G) (gh := gh) d) <|
    z_iconst (n := 1) (zd (i := .iconst (1)) (n := 1) (by decide +kernel)) (by decide +kernel) <|
    z_iadd (zd (i := .iadd) (n := 1) (by decide +kernel)) <|
    z_istore (i := 7) (zd (i := .istore 7) (n := 2) (by decide +kernel)) (by decide +kernel) <|
    z_aload_n (n := 0) (i := 0) (zd (i := .aload_n 0) (n := 1) (by decide +kernel)) rfl <|
    z_getR (ci := 7) (j := 5) (idx := 29) (zd (i := .getfield 29) (n := 3) (by decide +kernel)) (by decide +kernel) (by decide +kernel) rfl g435 <|
    z_iload (i := 7) (zd (i := .iload 7) (n := 2) (by decide +kernel)) <|
    z_dup2 (zd (i := .dup2) (n := 1) (by decide +kernel)) <|
    z_iald (zd (i := .iaload) (n := 1) (by decide +kernel)) <|
    z_iconst (n := 1) (zd (i := .iconst (1)) (n := 1) (by decide +kernel)) (by decide +kernel) <|
    z_iadd (zd (i := .iadd) (n := 1) (by decide +kernel)) <|
    z_iast (zd (i := .iastore) (n := 1) (by decide +kernel)) <|
    z_iload (i := 5) (zd (i := .iload 5) (n := 2) (by decide +kernel)) <|
    z_aload_n (n := 0) (i := 0) (zd (i := .aload_n 0) (n := 1) (by decide +kernel)) rfl <|
    z_getR (ci := 7) (j := 5) (idx := 29) (zd (i := .getfield 29) (n := 3) (by decide +kernel)) (by decide +kernel) (by decide +kernel) rfl g435 <|
    z_iload (i := 7) (zd (i := .iload 7) (n := 2) (by decide +kernel)) <|
    z_iald (zd (i := .iaload) (n := 1) (by decide +kernel)) <|
    z_max (idx := 66) (zd (i := .invokestatic 66) (n := 3) (by decide +kernel)) g1079 g575 g111 g576 <|
    z_istore (i := 5) (zd (i := .istore 5) (n := 2) (by decide +kernel)) (by decide +kernel) <|
    (zj (hj 7) (by decide +kernel))
noncomputable def b_X7_worstLeft_7 : zBl := fun jp K => oInc 6 2147483649 <| jp 4
theorem s_X7_worstLeft_7 (d : Nat) : zPb l G gh (d + 5) n_X7_worstLeft p_X7_worstLeft 105 b_X7_worstLeft_7 := fun K jp hj =>
    z_iinc (i := 6) (n := 1) (zd (i := .iinc 6 (1)) (n := 3) (by decide +kernel)) (by decide +kernel) (by decide +kernel) <|
    z_goto (off := -78) (tgt := 30) (zd (i := .goto (-78)) (n := 3) (by decide +kernel)) (by decide +kernel) (zj (hj 4) (by decide +kernel))
noncomputable def b_X7_worstLeft_8 : zBl := fun jp K => oIld 5 <| oIret K
theorem s_X7_worstLeft_8 (d : Nat) : zPb l G gh (d + 5) n_X7_worstLeft p_X7_worstLeft 111 b_X7_worstLeft_8 := fun K jp hj =>
    z_iload (i := 5) (zd (i := .iload 5) (n := 2) (by decide +kernel)) <|
    z_iret (zd (i := .ireturn) (n := 1) (by decide +kernel)) rfl
noncomputable def f_X7_worstLeft : zMt := zmet 8 [b_X7_worstLeft_0, b_X7_worstLeft_1, b_X7_worstLeft_2, b_X7_worstLeft_3, b_X7_worstLeft_4, b_X7_worstLeft_5, b_X7_worstLeft_6, b_X7_worstLeft_7, b_X7_worstLeft_8]
theorem c_X7_worstLeft (d : Nat) : zC l G gh (d + 5) n_X7_worstLeft f_X7_worstLeft := zmet_ok (pcs := p_X7_worstLeft) (by decide) rfl rfl ⟨s_X7_worstLeft_0 d, s_X7_worstLeft_1 d, s_X7_worstLeft_2 d, s_X7_worstLeft_3 d, s_X7_worstLeft_4 d, s_X7_worstLeft_5 d, s_X7_worstLeft_6 d, s_X7_worstLeft_7 d, s_X7_worstLeft_8 d, trivial⟩
def n_X7_lookFrom : qMn := (yX7_lookFrom, cX7_lookFrom, 8, (some Jvm.ClassFile.FieldType.int), 0, 0)
theorem to_X7_lookFrom : qTo n_X7_lookFrom 2 := ⟨g1074, g109, ⟨by decide, by decide, by decide +kernel⟩, by decide⟩
def p_X7_lookFrom : List Nat := [0, 17, 24, 42, 50, 56]
noncomputable def b_X7_lookFrom_0 : zBl := fun jp K => oAld 1 <| oIld 2 <| oCv 0 1 f_X0_heat <| oIst 3 <| oInt 2147483648 <| oIst 4 <| oInt 2147483829 <| oIst 5 <| oInt 2147483648 <| oIst 6 <| jp 1
theorem s_X7_lookFrom_0 (d : Nat) : zPb l G gh (d + 6) n_X7_lookFrom p_X7_lookFrom 0 b_X7_lookFrom_0 := fun K jp hj =>
    z_aload_n (n := 1) (i := 1) (zd (i := .aload_n 1) (n := 1) (by decide +kernel)) rfl <|
    z_iload_n (n := 2) (i := 2) (zd (i := .iload_n 2) (n := 1) (by decide +kernel)) rfl <|
    z_callV (idx := 32) (ci := 0) (N := n_X0_heat) (zd (i := .invokevirtual 32) (n := 3) (by decide +kernel)) to_X0_heat g1046 g717 g718 (by decide +kernel) rfl rfl rfl (c_X0_heat (l := l) (G := G) (gh := gh) (d + 1)) <|
    z_istore_n (n := 3) (i := 3) (zd (i := .istore_n 3) (n := 1) (by decide +kernel)) rfl (by decide +kernel) <|
    z_iconst (n := 0) (zd (i := .iconst (0)) (n := 1) (by decide +kernel)) (by decide +kernel) <|
    z_istore (i := 4) (zd (i := .istore 4) (n := 2) (by decide +kernel)) (by decide +kernel) <|
    z_sipush (n := 181) (zd (i := .sipush (181)) (n := 3) (by decide +kernel)) (by decide +kernel) <|
    z_istore (i := 5) (zd (i := .istore 5) (n := 2) (by decide +kernel)) (by decide +kernel) <|
    z_iconst (n := 0) (zd (i := .iconst (0)) (n := 1) (by decide +kernel)) (by decide +kernel) <|
    z_istore (i := 6) (zd (i := .istore 6) (n := 2) (by decide +kernel)) (by decide +kernel) <|
    (zj (hj 1) (by decide +kernel))
noncomputable def b_X7_lookFrom_1 : zBl := fun jp K => oIld 6 <| oInt 2147483668 <| oIc zge zlt (jp 5) (jp 2)
theorem s_X7_lookFrom_1 (d : Nat) : zPb l G gh (d + 6) n_X7_lookFrom p_X7_lookFrom 17 b_X7_lookFrom_1 := fun K jp hj =>
    z_iload (i := 6) (zd (i := .iload 6) (n := 2) (by decide +kernel)) <|
    z_bipush (n := 20) (zd (i := .bipush (20)) (n := 2) (by decide +kernel)) (by decide +kernel) <|
    z_icmp_ge (off := 35) (tgt := 56) (zd (i := .if_icmp .ge (35)) (n := 3) (by decide +kernel)) (by decide +kernel) (zj (hj 5) (by decide +kernel)) (zj (hj 2) (by decide +kernel))
noncomputable def b_X7_lookFrom_2 : zBl := fun jp K => oAld 0 <| oAld 1 <| oIld 6 <| oIld 2 <| oIld 3 <| oCv 7 4 f_X7_worstLeft <| oIst 7 <| oIld 7 <| oIld 5 <| oIc zge zlt (jp 4) (jp 3)
theorem s_X7_lookFrom_2 (d : Nat) : zPb l G gh (d + 6) n_X7_lookFrom p_X7_lookFrom 24 b_X7_lookFrom_2 := fun K jp hj =>
    z_aload_n (n := 0) (i := 0) (zd (i := .aload_n 0) (n := 1) (by decide +kernel)) rfl <|
    z_aload_n (n := 1) (i := 1) (zd (i := .aload_n 1) (n := 1) (by decide +kernel)) rfl <|
    z_iload (i := 6) (zd (i := .iload 6) (n := 2) (by decide +kernel)) <|
    z_iload_n (n := 2) (i := 2) (zd (i := .iload_n 2) (n := 1) (by decide +kernel)) rfl <|
    z_iload_n (n := 3) (i := 3) (zd (i := .iload_n 3) (n := 1) (by decide +kernel)) rfl <|
    z_callV (idx := 62) (ci := 7) (N := n_X7_worstLeft) (zd (i := .invokevirtual 62) (n := 3) (by decide +kernel)) to_X7_worstLeft g1075 g1077 g39 (by decide +kernel) rfl rfl rfl (c_X7_worstLeft (l := l) (G := G) (gh := gh) d) <|
    z_istore (i := 7) (zd (i := .istore 7) (n := 2) (by decide +kernel)) (by decide +kernel) <|
    z_iload (i := 7) (zd (i := .iload 7) (n := 2) (by decide +kernel)) <|
    z_iload (i := 5) (zd (i := .iload 5) (n := 2) (by decide +kernel)) <|
    z_icmp_ge (off := 11) (tgt := 50) (zd (i := .if_icmp .ge (11)) (n := 3) (by decide +kernel)) (by decide +kernel) (zj (hj 4) (by decide +kernel)) (zj (hj 3) (by decide +kernel))
noncomputable def b_X7_lookFrom_3 : zBl := fun jp K => oIld 7 <| oIst 5 <| oIld 6 <| oIst 4 <| jp 4
theorem s_X7_lookFrom_3 (d : Nat) : zPb l G gh (d + 6) n_X7_lookFrom p_X7_lookFrom 42 b_X7_lookFrom_3 := fun K jp hj =>
    z_iload (i := 7) (zd (i := .iload 7) (n := 2) (by decide +kernel)) <|
    z_istore (i := 5) (zd (i := .istore 5) (n := 2) (by decide +kernel)) (by decide +kernel) <|
    z_iload (i := 6) (zd (i := .iload 6) (n := 2) (by decide +kernel)) <|
    z_istore (i := 4) (zd (i := .istore 4) (n := 2) (by decide +kernel)) (by decide +kernel) <|
    (zj (hj 4) (by decide +kernel))
noncomputable def b_X7_lookFrom_4 : zBl := fun jp K => oInc 6 2147483649 <| jp 1
theorem s_X7_lookFrom_4 (d : Nat) : zPb l G gh (d + 6) n_X7_lookFrom p_X7_lookFrom 50 b_X7_lookFrom_4 := fun K jp hj =>
    z_iinc (i := 6) (n := 1) (zd (i := .iinc 6 (1)) (n := 3) (by decide +kernel)) (by decide +kernel) (by decide +kernel) <|
    z_goto (off := -36) (tgt := 17) (zd (i := .goto (-36)) (n := 3) (by decide +kernel)) (by decide +kernel) (zj (hj 1) (by decide +kernel))
noncomputable def b_X7_lookFrom_5 : zBl := fun jp K => oIld 4 <| oIret K
theorem s_X7_lookFrom_5 (d : Nat) : zPb l G gh (d + 6) n_X7_lookFrom p_X7_lookFrom 56 b_X7_lookFrom_5 := fun K jp hj =>
    z_iload (i := 4) (zd (i := .iload 4) (n := 2) (by decide +kernel)) <|
    z_iret (zd (i := .ireturn) (n := 1) (by decide +kernel)) rfl
noncomputable def f_X7_lookFrom : zMt := zmet 8 [b_X7_lookFrom_0, b_X7_lookFrom_1, b_X7_lookFrom_2, b_X7_lookFrom_3, b_X7_lookFrom_4, b_X7_lookFrom_5]
theorem c_X7_lookFrom (d : Nat) : zC l G gh (d + 6) n_X7_lookFrom f_X7_lookFrom := zmet_ok (pcs := p_X7_lookFrom) (by decide) rfl rfl ⟨s_X7_lookFrom_0 d, s_X7_lookFrom_1 d, s_X7_lookFrom_2 d, s_X7_lookFrom_3 d, s_X7_lookFrom_4 d, s_X7_lookFrom_5 d, trivial⟩
def n_X8_look : qMn := (yX8_look, cX8_look, 3, (some Jvm.ClassFile.FieldType.int), 0, 0)
theorem to_X8_look : qTo n_X8_look 2 := ⟨g1070, g97, ⟨by decide, by decide, by decide +kernel⟩, by decide⟩
def p_X8_look : List Nat := [0, 8, 12, 18, 20, 40, 60]
noncomputable def b_X8_look_0 : zBl := fun jp K => oAld 0 <| oIld 1 <| oCv 8 1 f_X8_isKnown <| oIf zeq zne (jp 3) (jp 1)
theorem s_X8_look_0 (d : Nat) : zPb l G gh (d + 7) n_X8_look p_X8_look 0 b_X8_look_0 := fun K jp hj =>
    z_aload_n (n := 0) (i := 0) (zd (i := .aload_n 0) (n := 1) (by decide +kernel)) rfl <|
    z_iload_n (n := 1) (i := 1) (zd (i := .iload_n 1) (n := 1) (by decide +kernel)) rfl <|
    z_callV (idx := 300) (ci := 8) (N := n_X8_isKnown) (zd (i := .invokevirtual 300) (n := 3) (by decide +kernel)) to_X8_isKnown g1038 g1040 g37 (by decide +kernel) rfl rfl rfl (c_X8_isKnown (l := l) (G := G) (gh := gh) (d + 5)) <|
    z_if_eq (off := 13) (tgt := 18) (zd (i := .ifCond .eq (13)) (n := 3) (by decide +kernel)) (by decide +kernel) (zj (hj 3) (by decide +kernel)) (zj (hj 1) (by decide +kernel))
noncomputable def b_X8_look_1 : zBl := fun jp K => oIld 2 <| oIf zlt zge (jp 3) (jp 2)
theorem s_X8_look_1 (d : Nat) : zPb l G gh (d + 7) n_X8_look p_X8_look 8 b_X8_look_1 := fun K jp hj =>
    z_iload_n (n := 2) (i := 2) (zd (i := .iload_n 2) (n := 1) (by decide +kernel)) rfl <|
    z_if_lt (off := 9) (tgt := 18) (zd (i := .ifCond .lt (9)) (n := 3) (by decide +kernel)) (by decide +kernel) (zj (hj 3) (by decide +kernel)) (zj (hj 2) (by decide +kernel))
noncomputable def b_X8_look_2 : zBl := fun jp K => oIld 2 <| oInt 2147483672 <| oIc zle zgt (jp 4) (jp 3)
theorem s_X8_look_2 (d : Nat) : zPb l G gh (d + 7) n_X8_look p_X8_look 12 b_X8_look_2 := fun K jp hj =>
    z_iload_n (n := 2) (i := 2) (zd (i := .iload_n 2) (n := 1) (by decide +kernel)) rfl <|
    z_bipush (n := 24) (zd (i := .bipush (24)) (n := 2) (by decide +kernel)) (by decide +kernel) <|
    z_icmp_le (off := 5) (tgt := 20) (zd (i := .if_icmp .le (5)) (n := 3) (by decide +kernel)) (by decide +kernel) (zj (hj 4) (by decide +kernel)) (zj (hj 3) (by decide +kernel))
noncomputable def b_X8_look_3 : zBl := fun jp K => oInt 2147483647 <| oIret K
theorem s_X8_look_3 (d : Nat) : zPb l G gh (d + 7) n_X8_look p_X8_look 18 b_X8_look_3 := fun K jp hj =>
    z_iconst (n := -1) (zd (i := .iconst (-1)) (n := 1) (by decide +kernel)) (by decide +kernel) <|
    z_iret (zd (i := .ireturn) (n := 1) (by decide +kernel)) rfl
noncomputable def b_X8_look_4 : zBl := fun jp K => oAld 0 <| oGetR 8 7 <| oAld 0 <| oGetR 8 12 <| oIld 1 <| oCv 7 2 f_X7_sift <| oIf zne zeq (jp 5) (oFail)
theorem s_X8_look_4 (d : Nat) : zPb l G gh (d + 7) n_X8_look p_X8_look 20 b_X8_look_4 := fun K jp hj =>
    z_aload_n (n := 0) (i := 0) (zd (i := .aload_n 0) (n := 1) (by decide +kernel)) rfl <|
    z_getR (ci := 8) (j := 7) (idx := 51) (zd (i := .getfield 51) (n := 3) (by decide +kernel)) (by decide +kernel) (by decide +kernel) rfl g459 <|
    z_aload_n (n := 0) (i := 0) (zd (i := .aload_n 0) (n := 1) (by decide +kernel)) rfl <|
    z_getR (ci := 8) (j := 12) (idx := 71) (zd (i := .getfield 71) (n := 3) (by decide +kernel)) (by decide +kernel) (by decide +kernel) rfl g464 <|
    z_iload_n (n := 1) (i := 1) (zd (i := .iload_n 1) (n := 1) (by decide +kernel)) rfl <|
    z_callV (idx := 303) (ci := 7) (N := n_X7_sift) (zd (i := .invokevirtual 303) (n := 3) (by decide +kernel)) to_X7_sift g1042 g1043 g1044 (by decide +kernel) rfl rfl rfl (c_X7_sift (l := l) (G := G) (gh := gh) (d + 5)) <|
    z_if_ne (off := 8) (tgt := 40) (zd (i := .ifCond .ne (8)) (n := 3) (by decide +kernel)) (by decide +kernel) (zj (hj 5) (by decide +kernel)) z_fail
noncomputable def b_X8_look_5 : zBl := fun jp K => oAld 0 <| oGetR 8 7 <| oAld 0 <| oGetR 8 12 <| oAld 0 <| oGetR 8 2 <| oGetI 4 0 <| oIld 2 <| oB2 zadd <| oCv 7 2 f_X7_lookFrom <| jp 6
theorem s_X8_look_5 (d : Nat) : zPb l G gh (d + 7) n_X8_look p_X8_look 40 b_X8_look_5 := fun K jp hj =>
    z_aload_n (n := 0) (i := 0) (zd (i := .aload_n 0) (n := 1) (by decide +kernel)) rfl <|
    z_getR (ci := 8) (j := 7) (idx := 51) (zd (i := .getfield 51) (n := 3) (by decide +kernel)) (by decide +kernel) (by decide +kernel) rfl g459 <|
    z_aload_n (n := 0) (i := 0) (zd (i := .aload_n 0) (n := 1) (by decide +kernel)) rfl <|
    z_getR (ci := 8) (j := 12) (idx := 71) (zd (i := .getfield 71) (n := 3) (by decide +kernel)) (by decide +kernel) (by decide +kernel) rfl g464 <|
    z_aload_n (n := 0) (i := 0) (zd (i := .aload_n 0) (n := 1) (by decide +kernel)) rfl <|
    z_getR (ci := 8) (j := 2) (idx := 26) (zd (i := .getfield 26) (n := 3) (by decide +kernel)) (by decide +kernel) (by decide +kernel) rfl g454 <|
    z_getI (ci := 4) (j := 0) (idx := 140) (zd (i := .getfield 140) (n := 3) (by decide +kernel)) (by decide +kernel) (by decide +kernel) rfl g368 <|
    z_iload_n (n := 2) (i := 2) (zd (i := .iload_n 2) (n := 1) (by decide +kernel)) rfl <|
    z_iadd (zd (i := .iadd) (n := 1) (by decide +kernel)) <|
    z_callV (idx := 311) (ci := 7) (N := n_X7_lookFrom) (zd (i := .invokevirtual 311) (n := 3) (by decide +kernel)) to_X7_lookFrom g1071 g1072 g1073 (by decide +kernel) rfl rfl rfl (c_X7_lookFrom (l := l) (G := G) (gh := gh) d) <|
    (zj (hj 6) (by decide +kernel))
noncomputable def b_X8_look_6 : zBl := fun jp K => oIret K
theorem s_X8_look_6 (d : Nat) : zPb l G gh (d + 7) n_X8_look p_X8_look 60 b_X8_look_6 := fun K jp hj =>
    z_iret (zd (i := .ireturn) (n := 1) (by decide +kernel)) rfl
noncomputable def f_X8_look : zMt := zmet 3 [b_X8_look_0, b_X8_look_1, b_X8_look_2, b_X8_look_3, b_X8_look_4, b_X8_look_5, b_X8_look_6]
theorem c_X8_look (d : Nat) : zC l G gh (d + 7) n_X8_look f_X8_look := zmet_ok (pcs := p_X8_look) (by decide) rfl rfl ⟨s_X8_look_0 d, s_X8_look_1 d, s_X8_look_2 d, s_X8_look_3 d, s_X8_look_4 d, s_X8_look_5 d, s_X8_look_6 d, trivial⟩
def n_X9_off : qMn := (yX9_off, cX9_off, 2, (some Jvm.ClassFile.FieldType.int), 0, 0)
theorem to_X9_off : qTo n_X9_off 2 := ⟨g1482, g110, ⟨by decide, by decide, by decide +kernel⟩, by decide⟩
def p_X9_off : List Nat := [0, 5, 11, 14]
noncomputable def b_X9_off_0 : zBl := fun jp K => oIld 0 <| oIld 1 <| oIc zge zlt (jp 2) (jp 1)
theorem s_X9_off_0 (d : Nat) : zPb l G gh (d + 1) n_X9_off p_X9_off 0 b_X9_off_0 := fun K jp hj =>
    z_iload_n (n := 0) (i := 0) (zd (i := .iload_n 0) (n := 1) (by decide +kernel)) rfl <|
    z_iload_n (n := 1) (i := 1) (zd (i := .iload_n 1) (n := 1) (by decide +kernel)) rfl <|
    z_icmp_ge (off := 9) (tgt := 11) (zd (i := .if_icmp .ge (9)) (n := 3) (by decide +kernel)) (by decide +kernel) (zj (hj 2) (by decide +kernel)) (zj (hj 1) (by decide +kernel))
noncomputable def b_X9_off_1 : zBl := fun jp K => oIld 1 <| oIld 0 <| oB2 zsub <| jp 3
theorem s_X9_off_1 (d : Nat) : zPb l G gh (d + 1) n_X9_off p_X9_off 5 b_X9_off_1 := fun K jp hj =>
    z_iload_n (n := 1) (i := 1) (zd (i := .iload_n 1) (n := 1) (by decide +kernel)) rfl <|
    z_iload_n (n := 0) (i := 0) (zd (i := .iload_n 0) (n := 1) (by decide +kernel)) rfl <|
    z_isub (zd (i := .isub) (n := 1) (by decide +kernel)) <|
    z_goto (off := 6) (tgt := 14) (zd (i := .goto (6)) (n := 3) (by decide +kernel)) (by decide +kernel) (zj (hj 3) (by decide +kernel))
noncomputable def b_X9_off_2 : zBl := fun jp K => oIld 0 <| oIld 1 <| oB2 zsub <| jp 3
theorem s_X9_off_2 (d : Nat) : zPb l G gh (d + 1) n_X9_off p_X9_off 11 b_X9_off_2 := fun K jp hj =>
    z_iload_n (n := 0) (i := 0) (zd (i := .iload_n 0) (n := 1) (by decide +kernel)) rfl <|
    z_iload_n (n := 1) (i := 1) (zd (i := .iload_n 1) (n := 1) (by decide +kernel)) rfl <|
    z_isub (zd (i := .isub) (n := 1) (by decide +kernel)) <|
    (zj (hj 3) (by decide +kernel))
noncomputable def b_X9_off_3 : zBl := fun jp K => oIret K
theorem s_X9_off_3 (d : Nat) : zPb l G gh (d + 1) n_X9_off p_X9_off 14 b_X9_off_3 := fun K jp hj =>
    z_iret (zd (i := .ireturn) (n := 1) (by decide +kernel)) rfl
noncomputable def f_X9_off : zMt := zmet 2 [b_X9_off_0, b_X9_off_1, b_X9_off_2, b_X9_off_3]
theorem c_X9_off (d : Nat) : zC l G gh (d + 1) n_X9_off f_X9_off := zmet_ok (pcs := p_X9_off) (by decide) rfl rfl ⟨s_X9_off_0 d, s_X9_off_1 d, s_X9_off_2 d, s_X9_off_3 d, trivial⟩
def n_X9_looksAt : qMn := (yX9_looksAt, cX9_looksAt, 6, none, 0, 0)
theorem to_X9_looksAt : qTo n_X9_looksAt 4 := ⟨g1460, g110, ⟨by decide, by decide, by decide +kernel⟩, by decide⟩
def p_X9_looksAt : List Nat := [0, 58, 62, 63]
noncomputable def b_X9_looksAt_0 : zBl := fun jp K => oAld 0 <| oIld 4 <| oCv 9 1 f_X9_heatAt <| oIst 5 <| oAld 0 <| oIld 4 <| oCv 9 1 f_X9_looks <| oAld 0 <| oGetR 9 45 <| oInt 2147483650 <| oIld 5 <| oXast 10 zid <| oAld 0 <| oGetR 9 45 <| oInt 2147483651 <| oIld 1 <| oIld 2 <| oCs 2 f_X9_off <| oXast 10 zid <| oAld 0 <| oGetR 9 45 <| oInt 2147483652 <| oIld 3 <| oXast 10 zid <| oAld 0 <| oGetR 9 45 <| oInt 2147483653 <| oIld 2 <| oXast 10 zid <| oAld 0 <| oGetR 9 45 <| oInt 2147483655 <| oIld 2 <| oIld 1 <| oIc zle zgt (jp 2) (jp 1)
theorem s_X9_looksAt_0 (d : Nat) : zPb l G gh (d + 3) n_X9_looksAt p_X9_looksAt 0 b_X9_looksAt_0 := fun K jp hj =>
    z_aload_n (n := 0) (i := 0) (zd (i := .aload_n 0) (n := 1) (by decide +kernel)) rfl <|
    z_iload (i := 4) (zd (i := .iload 4) (n := 2) (by decide +kernel)) <|
    z_callV (idx := 327) (ci := 9) (N := n_X9_heatAt) (zd (i := .invokevirtual 327) (n := 3) (by decide +kernel)) to_X9_heatAt g1461 g1463 g71 (by decide +kernel) rfl rfl rfl (c_X9_heatAt (l := l) (G := G) (gh := gh) d) <|
    z_istore (i := 5) (zd (i := .istore 5) (n := 2) (by decide +kernel)) (by decide +kernel) <|
    z_aload_n (n := 0) (i := 0) (zd (i := .aload_n 0) (n := 1) (by decide +kernel)) rfl <|
    z_iload (i := 4) (zd (i := .iload 4) (n := 2) (by decide +kernel)) <|
    z_callV (idx := 318) (ci := 9) (N := n_X9_looks) (zd (i := .invokevirtual 318) (n := 3) (by decide +kernel)) to_X9_looks g1465 g1467 g72 (by decide +kernel) rfl rfl rfl (c_X9_looks (l := l) (G := G) (gh := gh) (d + 1)) <|
    z_aload_n (n := 0) (i := 0) (zd (i := .aload_n 0) (n := 1) (by decide +kernel)) rfl <|
    z_getR (ci := 9) (j := 45) (idx := 104) (zd (i := .getfield 104) (n := 3) (by decide +kernel)) (by decide +kernel) (by decide +kernel) rfl g1173 <|
    z_iconst (n := 2) (zd (i := .iconst (2)) (n := 1) (by decide +kernel)) (by decide +kernel) <|
    z_iload (i := 5) (zd (i := .iload 5) (n := 2) (by decide +kernel)) <|
    z_iast (zd (i := .iastore) (n := 1) (by decide +kernel)) <|
    z_aload_n (n := 0) (i := 0) (zd (i := .aload_n 0) (n := 1) (by decide +kernel)) rfl <|
    z_getR (ci := 9) (j := 45) (idx := 104) (zd (i := .getfield 104) (n := 3) (by decide +kernel)) (by decide +kernel) (by decide +kernel) rfl g1173 <|
    z_iconst (n := 3) (zd (i := .iconst (3)) (n := 1) (by decide +kernel)) (by decide +kernel) <|
    z_iload_n (n := 1) (i := 1) (zd (i := .iload_n 1) (n := 1) (by decide +kernel)) rfl <|
    z_iload_n (n := 2) (i := 2) (zd (i := .iload_n 2) (n := 1) (by decide +kernel)) rfl <|
    z_callS (idx := 330) (N := n_X9_off) (zd (i := .invokestatic 330) (n := 3) (by decide +kernel)) to_X9_off g1480 g1481 rfl rfl (c_X9_off (l := l) (G := G) (gh := gh) (d + 1)) <|
    z_iast (zd (i := .iastore) (n := 1) (by decide +kernel)) <|
    z_aload_n (n := 0) (i := 0) (zd (i := .aload_n 0) (n := 1) (by decide +kernel)) rfl <|
    z_getR (ci := 9) (j := 45) (idx := 104) (zd (i := .getfield 104) (n := 3) (by decide +kernel)) (by decide +kernel) (by decide +kernel) rfl g1173 <|
    z_iconst (n := 4) (zd (i := .iconst (4)) (n := 1) (by decide +kernel)) (by decide +kernel) <|
    z_iload_n (n := 3) (i := 3) (zd (i := .iload_n 3) (n := 1) (by decide +kernel)) rfl <|
    z_iast (zd (i := .iastore) (n := 1) (by decide +kernel)) <|
    z_aload_n (n := 0) (i := 0) (zd (i := .aload_n 0) (n := 1) (by decide +kernel)) rfl <|
    z_getR (ci := 9) (j := 45) (idx := 104) (zd (i := .getfield 104) (n := 3) (by decide +kernel)) (by decide +kernel) (by decide +kernel) rfl g1173 <|
    z_iconst (n := 5) (zd (i := .iconst (5)) (n := 1) (by decide +kernel)) (by decide +kernel) <|
    z_iload_n (n := 2) (i := 2) (zd (i := .iload_n 2) (n := 1) (by decide +kernel)) rfl <|
    z_iast (zd (i := .iastore) (n := 1) (by decide +kernel)) <|
    z_aload_n (n := 0) (i := 0) (zd (i := .aload_n 0) (n := 1) (by decide +kernel)) rfl <|
    z_getR (ci := 9) (j := 45) (idx := 104) (zd (i := .getfield 104) (n := 3) (by decide +kernel)) (by decide +kernel) (by decide +kernel) rfl g1173 <|
    z_bipush (n := 7) (zd (i := .bipush (7)) (n := 2) (by decide +kernel)) (by decide +kernel) <|
    z_iload_n (n := 2) (i := 2) (zd (i := .iload_n 2) (n := 1) (by decide +kernel)) rfl <|
    z_iload_n (n := 1) (i := 1) (zd (i := .iload_n 1) (n := 1) (by decide +kernel)) rfl <|
    z_icmp_le (off := 7) (tgt := 62) (zd (i := .if_icmp .le (7)) (n := 3) (by decide +kernel)) (by decide +kernel) (zj (hj 2) (by decide +kernel)) (zj (hj 1) (by decide +kernel))
noncomputable def b_X9_looksAt_1 : zBl := fun jp K => oInt 2147483649 <| jp 3
theorem s_X9_looksAt_1 (d : Nat) : zPb l G gh (d + 3) n_X9_looksAt p_X9_looksAt 58 b_X9_looksAt_1 := fun K jp hj =>
    z_iconst (n := 1) (zd (i := .iconst (1)) (n := 1) (by decide +kernel)) (by decide +kernel) <|
    z_goto (off := 4) (tgt := 63) (zd (i := .goto (4)) (n := 3) (by decide +kernel)) (by decide +kernel) (zj (hj 3) (by decide +kernel))
noncomputable def b_X9_looksAt_2 : zBl := fun jp K => oInt 2147483648 <| jp 3
theorem s_X9_looksAt_2 (d : Nat) : zPb l G gh (d + 3) n_X9_looksAt p_X9_looksAt 62 b_X9_looksAt_2 := fun K jp hj =>
    z_iconst (n := 0) (zd (i := .iconst (0)) (n := 1) (by decide +kernel)) (by decide +kernel) <|
    (zj (hj 3) (by decide +kernel))
noncomputable def b_X9_looksAt_3 : zBl := fun jp K => oXast 10 zid <| oAld 0 <| oGetR 9 45 <| oInt 2147483656 <| oIld 1 <| oXast 10 zid <| oVret K
theorem s_X9_looksAt_3 (d : Nat) : zPb l G gh (d + 3) n_X9_looksAt p_X9_looksAt 63 b_X9_looksAt_3 := fun K jp hj =>
    z_iast (zd (i := .iastore) (n := 1) (by decide +kernel)) <|
    z_aload_n (n := 0) (i := 0) (zd (i := .aload_n 0) (n := 1) (by decide +kernel)) rfl <|
    z_getR (ci := 9) (j := 45) (idx := 104) (zd (i := .getfield 104) (n := 3) (by decide +kernel)) (by decide +kernel) (by decide +kernel) rfl g1173 <|
    z_bipush (n := 8) (zd (i := .bipush (8)) (n := 2) (by decide +kernel)) (by decide +kernel) <|
    z_iload_n (n := 1) (i := 1) (zd (i := .iload_n 1) (n := 1) (by decide +kernel)) rfl <|
    z_iast (zd (i := .iastore) (n := 1) (by decide +kernel)) <|
    z_vret (zd (i := .return_) (n := 1) (by decide +kernel)) rfl
noncomputable def f_X9_looksAt : zMt := zmet 6 [b_X9_looksAt_0, b_X9_looksAt_1, b_X9_looksAt_2, b_X9_looksAt_3]
theorem c_X9_looksAt (d : Nat) : zC l G gh (d + 3) n_X9_looksAt f_X9_looksAt := zmet_ok (pcs := p_X9_looksAt) (by decide) rfl rfl ⟨s_X9_looksAt_0 d, s_X9_looksAt_1 d, s_X9_looksAt_2 d, s_X9_looksAt_3 d, trivial⟩
def n_X9_isSeen : qMn := (yX9_isSeen, cX9_isSeen, 5, (some Jvm.ClassFile.FieldType.boolean), 0, 0)
theorem to_X9_isSeen : qTo n_X9_isSeen 4 := ⟨g1456, g110, ⟨by decide, by decide, by decide +kernel⟩, by decide⟩
def p_X9_isSeen : List Nat := [0, 30, 34, 35]
noncomputable def b_X9_isSeen_0 : zBl := fun jp K => oAld 0 <| oIld 1 <| oIld 2 <| oIld 3 <| oIld 4 <| oCv 9 4 f_X9_looksAt <| oAld 0 <| oInt 2147483649 <| oAld 0 <| oGetR 9 45 <| oInt 2147483650 <| oXald 10 <| oAld 0 <| oGetR 9 45 <| oInt 2147483651 <| oXald 10 <| oB2 zsub <| oCv 9 2 f_X9_lawTells <| oIf zle zgt (jp 2) (jp 1)
theorem s_X9_isSeen_0 (d : Nat) : zPb l G gh (d + 4) n_X9_isSeen p_X9_isSeen 0 b_X9_isSeen_0 := fun K jp hj =>
    z_aload_n (n := 0) (i := 0) (zd (i := .aload_n 0) (n := 1) (by decide +kernel)) rfl <|
    z_iload_n (n := 1) (i := 1) (zd (i := .iload_n 1) (n := 1) (by decide +kernel)) rfl <|
    z_iload_n (n := 2) (i := 2) (zd (i := .iload_n 2) (n := 1) (by decide +kernel)) rfl <|
    z_iload_n (n := 3) (i := 3) (zd (i := .iload_n 3) (n := 1) (by decide +kernel)) rfl <|
    z_iload (i := 4) (zd (i := .iload 4) (n := 2) (by decide +kernel)) <|
    z_callV (idx := 333) (ci := 9) (N := n_X9_looksAt) (zd (i := .invokevirtual 333) (n := 3) (by decide +kernel)) to_X9_looksAt g1457 g1459 g70 (by decide +kernel) rfl rfl rfl (c_X9_looksAt (l := l) (G := G) (gh := gh) d) <|
    z_aload_n (n := 0) (i := 0) (zd (i := .aload_n 0) (n := 1) (by decide +kernel)) rfl <|
    z_iconst (n := 1) (zd (i := .iconst (1)) (n := 1) (by decide +kernel)) (by decide +kernel) <|
    z_aload_n (n := 0) (i := 0) (zd (i := .aload_n 0) (n := 1) (by decide +kernel)) rfl <|
    z_getR (ci := 9) (j := 45) (idx := 104) (zd (i := .getfield 104) (n := 3) (by decide +kernel)) (by decide +kernel) (by decide +kernel) rfl g1173 <|
    z_iconst (n := 2) (zd (i := .iconst (2)) (n := 1) (by decide +kernel)) (by decide +kernel) <|
    z_iald (zd (i := .iaload) (n := 1) (by decide +kernel)) <|
    z_aload_n (n := 0) (i := 0) (zd (i := .aload_n 0) (n := 1) (by decide +kernel)) rfl <|
    z_getR (ci := 9) (j := 45) (idx := 104) (zd (i := .getfield 104) (n := 3) (by decide +kernel)) (by decide +kernel) (by decide +kernel) rfl g1173 <|
    z_iconst (n := 3) (zd (i := .iconst (3)) (n := 1) (by decide +kernel)) (by decide +kernel) <|
    z_iald (zd (i := .iaload) (n := 1) (by decide +kernel)) <|
    z_isub (zd (i := .isub) (n := 1) (by decide +kernel)) <|
    z_callV (idx := 321) (ci := 9) (N := n_X9_lawTells) (zd (i := .invokevirtual 321) (n := 3) (by decide +kernel)) to_X9_lawTells g1469 g1471 g73 (by decide +kernel) rfl rfl rfl (c_X9_lawTells (l := l) (G := G) (gh := gh) (d + 2)) <|
    z_if_le (off := 7) (tgt := 34) (zd (i := .ifCond .le (7)) (n := 3) (by decide +kernel)) (by decide +kernel) (zj (hj 2) (by decide +kernel)) (zj (hj 1) (by decide +kernel))
noncomputable def b_X9_isSeen_1 : zBl := fun jp K => oInt 2147483649 <| jp 3
theorem s_X9_isSeen_1 (d : Nat) : zPb l G gh (d + 4) n_X9_isSeen p_X9_isSeen 30 b_X9_isSeen_1 := fun K jp hj =>
    z_iconst (n := 1) (zd (i := .iconst (1)) (n := 1) (by decide +kernel)) (by decide +kernel) <|
    z_goto (off := 4) (tgt := 35) (zd (i := .goto (4)) (n := 3) (by decide +kernel)) (by decide +kernel) (zj (hj 3) (by decide +kernel))
noncomputable def b_X9_isSeen_2 : zBl := fun jp K => oInt 2147483648 <| jp 3
theorem s_X9_isSeen_2 (d : Nat) : zPb l G gh (d + 4) n_X9_isSeen p_X9_isSeen 34 b_X9_isSeen_2 := fun K jp hj =>
    z_iconst (n := 0) (zd (i := .iconst (0)) (n := 1) (by decide +kernel)) (by decide +kernel) <|
    (zj (hj 3) (by decide +kernel))
noncomputable def b_X9_isSeen_3 : zBl := fun jp K => oZret K
theorem s_X9_isSeen_3 (d : Nat) : zPb l G gh (d + 4) n_X9_isSeen p_X9_isSeen 35 b_X9_isSeen_3 := fun K jp hj =>
    z_zret (zd (i := .ireturn) (n := 1) (by decide +kernel)) rfl
noncomputable def f_X9_isSeen : zMt := zmet 5 [b_X9_isSeen_0, b_X9_isSeen_1, b_X9_isSeen_2, b_X9_isSeen_3]
theorem c_X9_isSeen (d : Nat) : zC l G gh (d + 4) n_X9_isSeen f_X9_isSeen := zmet_ok (pcs := p_X9_isSeen) (by decide) rfl rfl ⟨s_X9_isSeen_0 d, s_X9_isSeen_1 d, s_X9_isSeen_2 d, s_X9_isSeen_3 d, trivial⟩
def n_X9_movedBy : qMn := (yX9_movedBy, cX9_movedBy, 5, (some Jvm.ClassFile.FieldType.int), 0, 0)
theorem to_X9_movedBy : qTo n_X9_movedBy 4 := ⟨g1513, g110, ⟨by decide, by decide, by decide +kernel⟩, by decide⟩
def p_X9_movedBy : List Nat := [0]
noncomputable def b_X9_movedBy_0 : zBl := fun jp K => oAld 0 <| oIld 1 <| oIld 2 <| oIld 3 <| oIld 4 <| oCv 9 4 f_X9_looksAt <| oAld 0 <| oInt 2147483650 <| oInt 2147483648 <| oCv 9 2 f_X9_lawTells <| oInt 2147483639 <| oInt 2147483657 <| oCs 3 f_X9_held <| oIret K
theorem s_X9_movedBy_0 (d : Nat) : zPb l G gh (d + 4) n_X9_movedBy p_X9_movedBy 0 b_X9_movedBy_0 := fun K jp hj =>
    z_aload_n (n := 0) (i := 0) (zd (i := .aload_n 0) (n := 1) (by decide +kernel)) rfl <|
    z_iload_n (n := 1) (i := 1) (zd (i := .iload_n 1) (n := 1) (by decide +kernel)) rfl <|
    z_iload_n (n := 2) (i := 2) (zd (i := .iload_n 2) (n := 1) (by decide +kernel)) rfl <|
    z_iload_n (n := 3) (i := 3) (zd (i := .iload_n 3) (n := 1) (by decide +kernel)) rfl <|
    z_iload (i := 4) (zd (i := .iload 4) (n := 2) (by decide +kernel)) <|
    z_callV (idx := 333) (ci := 9) (N := n_X9_looksAt) (zd (i := .invokevirtual 333) (n := 3) (by decide +kernel)) to_X9_looksAt g1457 g1459 g70 (by decide +kernel) rfl rfl rfl (c_X9_looksAt (l := l) (G := G) (gh := gh) d) <|
    z_aload_n (n := 0) (i := 0) (zd (i := .aload_n 0) (n := 1) (by decide +kernel)) rfl <|
    z_iconst (n := 2) (zd (i := .iconst (2)) (n := 1) (by decide +kernel)) (by decide +kernel) <|
    z_iconst (n := 0) (zd (i := .iconst (0)) (n := 1) (by decide +kernel)) (by decide +kernel) <|
    z_callV (idx := 321) (ci := 9) (N := n_X9_lawTells) (zd (i := .invokevirtual 321) (n := 3) (by decide +kernel)) to_X9_lawTells g1469 g1471 g73 (by decide +kernel) rfl rfl rfl (c_X9_lawTells (l := l) (G := G) (gh := gh) (d + 2)) <|
    z_bipush (n := -9) (zd (i := .bipush (-9)) (n := 2) (by decide +kernel)) (by decide +kernel) <|
    z_bipush (n := 9) (zd (i := .bipush (9)) (n := 2) (by decide +kernel)) (by decide +kernel) <|
    z_callS (idx := 324) (N := n_X9_held) (zd (i := .invokestatic 324) (n := 3) (by decide +kernel)) to_X9_held g1477 g1478 rfl rfl (c_X9_held (l := l) (G := G) (gh := gh) (d + 2)) <|
    z_iret (zd (i := .ireturn) (n := 1) (by decide +kernel)) rfl
noncomputable def f_X9_movedBy : zMt := zmet 5 [b_X9_movedBy_0]
theorem c_X9_movedBy (d : Nat) : zC l G gh (d + 4) n_X9_movedBy f_X9_movedBy := zmet_ok (pcs := p_X9_movedBy) (by decide) rfl rfl ⟨s_X9_movedBy_0 d, trivial⟩
def n_X9_seenAt : qMn := (yX9_seenAt, cX9_seenAt, 6, (some Jvm.ClassFile.FieldType.int), 0, 0)
theorem to_X9_seenAt : qTo n_X9_seenAt 4 := ⟨g1585, g110, ⟨by decide, by decide, by decide +kernel⟩, by decide⟩
def p_X9_seenAt : List Nat := [0, 12, 15, 31, 38, 42]
noncomputable def b_X9_seenAt_0 : zBl := fun jp K => oAld 0 <| oIld 1 <| oIld 2 <| oIld 3 <| oIld 4 <| oCv 9 4 f_X9_isSeen <| oIf zne zeq (jp 2) (jp 1)
theorem s_X9_seenAt_0 (d : Nat) : zPb l G gh (d + 5) n_X9_seenAt p_X9_seenAt 0 b_X9_seenAt_0 := fun K jp hj =>
    z_aload_n (n := 0) (i := 0) (zd (i := .aload_n 0) (n := 1) (by decide +kernel)) rfl <|
    z_iload_n (n := 1) (i := 1) (zd (i := .iload_n 1) (n := 1) (by decide +kernel)) rfl <|
    z_iload_n (n := 2) (i := 2) (zd (i := .iload_n 2) (n := 1) (by decide +kernel)) rfl <|
    z_iload_n (n := 3) (i := 3) (zd (i := .iload_n 3) (n := 1) (by decide +kernel)) rfl <|
    z_iload (i := 4) (zd (i := .iload 4) (n := 2) (by decide +kernel)) <|
    z_callV (idx := 337) (ci := 9) (N := n_X9_isSeen) (zd (i := .invokevirtual 337) (n := 3) (by decide +kernel)) to_X9_isSeen g1453 g1455 g69 (by decide +kernel) rfl rfl rfl (c_X9_isSeen (l := l) (G := G) (gh := gh) d) <|
    z_if_ne (off := 6) (tgt := 15) (zd (i := .ifCond .ne (6)) (n := 3) (by decide +kernel)) (by decide +kernel) (zj (hj 2) (by decide +kernel)) (zj (hj 1) (by decide +kernel))
noncomputable def b_X9_seenAt_1 : zBl := fun jp K => oInt 2147483646 <| oIret K
theorem s_X9_seenAt_1 (d : Nat) : zPb l G gh (d + 5) n_X9_seenAt p_X9_seenAt 12 b_X9_seenAt_1 := fun K jp hj =>
    z_bipush (n := -2) (zd (i := .bipush (-2)) (n := 2) (by decide +kernel)) (by decide +kernel) <|
    z_iret (zd (i := .ireturn) (n := 1) (by decide +kernel)) rfl
noncomputable def b_X9_seenAt_2 : zBl := fun jp K => oAld 0 <| oIld 1 <| oIld 2 <| oIld 3 <| oIld 4 <| oCv 9 4 f_X9_movedBy <| oIst 5 <| oIld 2 <| oIld 1 <| oIc zge zlt (jp 4) (jp 3)
theorem s_X9_seenAt_2 (d : Nat) : zPb l G gh (d + 5) n_X9_seenAt p_X9_seenAt 15 b_X9_seenAt_2 := fun K jp hj =>
    z_aload_n (n := 0) (i := 0) (zd (i := .aload_n 0) (n := 1) (by decide +kernel)) rfl <|
    z_iload_n (n := 1) (i := 1) (zd (i := .iload_n 1) (n := 1) (by decide +kernel)) rfl <|
    z_iload_n (n := 2) (i := 2) (zd (i := .iload_n 2) (n := 1) (by decide +kernel)) rfl <|
    z_iload_n (n := 3) (i := 3) (zd (i := .iload_n 3) (n := 1) (by decide +kernel)) rfl <|
    z_iload (i := 4) (zd (i := .iload 4) (n := 2) (by decide +kernel)) <|
    z_callV (idx := 341) (ci := 9) (N := n_X9_movedBy) (zd (i := .invokevirtual 341) (n := 3) (by decide +kernel)) to_X9_movedBy g1510 g1512 g78 (by decide +kernel) rfl rfl rfl (c_X9_movedBy (l := l) (G := G) (gh := gh) d) <|
    z_istore (i := 5) (zd (i := .istore 5) (n := 2) (by decide +kernel)) (by decide +kernel) <|
    z_iload_n (n := 2) (i := 2) (zd (i := .iload_n 2) (n := 1) (by decide +kernel)) rfl <|
    z_iload_n (n := 1) (i := 1) (zd (i := .iload_n 1) (n := 1) (by decide +kernel)) rfl <|
    z_icmp_ge (off := 10) (tgt := 38) (zd (i := .if_icmp .ge (10)) (n := 3) (by decide +kernel)) (by decide +kernel) (zj (hj 4) (by decide +kernel)) (zj (hj 3) (by decide +kernel))
noncomputable def b_X9_seenAt_3 : zBl := fun jp K => oIld 2 <| oIld 5 <| oB2 zsub <| jp 5
theorem s_X9_seenAt_3 (d : Nat) : zPb l G gh (d + 5) n_X9_seenAt p_X9_seenAt 31 b_X9_seenAt_3 := fun K jp hj =>
    z_iload_n (n := 2) (i := 2) (zd (i := .iload_n 2) (n := 1) (by decide +kernel)) rfl <|
    z_iload (i := 5) (zd (i := .iload 5) (n := 2) (by decide +kernel)) <|
    z_isub (zd (i := .isub) (n := 1) (by decide +kernel)) <|
    z_goto (off := 7) (tgt := 42) (zd (i := .goto (7)) (n := 3) (by decide +kernel)) (by decide +kernel) (zj (hj 5) (by decide +kernel))
noncomputable def b_X9_seenAt_4 : zBl := fun jp K => oIld 2 <| oIld 5 <| oB2 zadd <| jp 5
theorem s_X9_seenAt_4 (d : Nat) : zPb l G gh (d + 5) n_X9_seenAt p_X9_seenAt 38 b_X9_seenAt_4 := fun K jp hj =>
    z_iload_n (n := 2) (i := 2) (zd (i := .iload_n 2) (n := 1) (by decide +kernel)) rfl <|
    z_iload (i := 5) (zd (i := .iload 5) (n := 2) (by decide +kernel)) <|
    z_iadd (zd (i := .iadd) (n := 1) (by decide +kernel)) <|
    (zj (hj 5) (by decide +kernel))
noncomputable def b_X9_seenAt_5 : zBl := fun jp K => oInt 2147483648 <| oInt 2147483667 <| oCs 3 f_X9_held <| oIret K
theorem s_X9_seenAt_5 (d : Nat) : zPb l G gh (d + 5) n_X9_seenAt p_X9_seenAt 42 b_X9_seenAt_5 := fun K jp hj =>
    z_iconst (n := 0) (zd (i := .iconst (0)) (n := 1) (by decide +kernel)) (by decide +kernel) <|
    z_bipush (n := 19) (zd (i := .bipush (19)) (n := 2) (by decide +kernel)) (by decide +kernel) <|
    z_callS (idx := 324) (N := n_X9_held) (zd (i := .invokestatic 324) (n := 3) (by decide +kernel)) to_X9_held g1477 g1478 rfl rfl (c_X9_held (l := l) (G := G) (gh := gh) (d + 3)) <|
    z_iret (zd (i := .ireturn) (n := 1) (by decide +kernel)) rfl
noncomputable def f_X9_seenAt : zMt := zmet 6 [b_X9_seenAt_0, b_X9_seenAt_1, b_X9_seenAt_2, b_X9_seenAt_3, b_X9_seenAt_4, b_X9_seenAt_5]
theorem c_X9_seenAt (d : Nat) : zC l G gh (d + 5) n_X9_seenAt f_X9_seenAt := zmet_ok (pcs := p_X9_seenAt) (by decide) rfl rfl ⟨s_X9_seenAt_0 d, s_X9_seenAt_1 d, s_X9_seenAt_2 d, s_X9_seenAt_3 d, s_X9_seenAt_4 d, s_X9_seenAt_5 d, trivial⟩
def n_X9_look : qMn := (yX9_look, cX9_look, 9, (some Jvm.ClassFile.FieldType.int), 0, 0)
theorem to_X9_look : qTo n_X9_look 2 := ⟨g1696, g110, ⟨by decide, by decide, by decide +kernel⟩, by decide⟩
def p_X9_look : List Nat := [0, 12, 22, 24, 26, 33, 46, 51, 59, 72, 78, 85, 128, 133, 135, 147, 153, 160, 170, 177, 183, 190, 208, 223, 229, 234, 241, 244, 252, 258]
noncomputable def b_X9_look_0 : zBl := fun jp K => oIld 1 <| oInt 2147483648 <| oAld 0 <| oGetI 9 58 <| oCs 3 f_X9_in <| oIf zeq zne (jp 2) (jp 1)
theorem s_X9_look_0 (d : Nat) : zPb l G gh (d + 6) n_X9_look p_X9_look 0 b_X9_look_0 := fun K jp hj =>
    z_iload_n (n := 1) (i := 1) (zd (i := .iload_n 1) (n := 1) (by decide +kernel)) rfl <|
    z_iconst (n := 0) (zd (i := .iconst (0)) (n := 1) (by decide +kernel)) (by decide +kernel) <|
    z_aload_n (n := 0) (i := 0) (zd (i := .aload_n 0) (n := 1) (by decide +kernel)) rfl <|
    z_getI (ci := 9) (j := 58) (idx := 251) (zd (i := .getfield 251) (n := 3) (by decide +kernel)) (by decide +kernel) (by decide +kernel) rfl g1186 <|
    z_callS (idx := 304) (N := n_X9_in) (zd (i := .invokestatic 304) (n := 3) (by decide +kernel)) to_X9_in g1442 g1443 rfl rfl (c_X9_in (l := l) (G := G) (gh := gh) (d + 4)) <|
    z_if_eq (off := 13) (tgt := 22) (zd (i := .ifCond .eq (13)) (n := 3) (by decide +kernel)) (by decide +kernel) (zj (hj 2) (by decide +kernel)) (zj (hj 1) (by decide +kernel))
noncomputable def b_X9_look_1 : zBl := fun jp K => oIld 2 <| oInt 2147483648 <| oInt 2147483672 <| oCs 3 f_X9_in <| oIf zne zeq (jp 3) (jp 2)
theorem s_X9_look_1 (d : Nat) : zPb l G gh (d + 6) n_X9_look p_X9_look 12 b_X9_look_1 := fun K jp hj =>
    z_iload_n (n := 2) (i := 2) (zd (i := .iload_n 2) (n := 1) (by decide +kernel)) rfl <|
    z_iconst (n := 0) (zd (i := .iconst (0)) (n := 1) (by decide +kernel)) (by decide +kernel) <|
    z_bipush (n := 24) (zd (i := .bipush (24)) (n := 2) (by decide +kernel)) (by decide +kernel) <|
    z_callS (idx := 304) (N := n_X9_in) (zd (i := .invokestatic 304) (n := 3) (by decide +kernel)) to_X9_in g1442 g1443 rfl rfl (c_X9_in (l := l) (G := G) (gh := gh) (d + 4)) <|
    z_if_ne (off := 5) (tgt := 24) (zd (i := .ifCond .ne (5)) (n := 3) (by decide +kernel)) (by decide +kernel) (zj (hj 3) (by decide +kernel)) (zj (hj 2) (by decide +kernel))
noncomputable def b_X9_look_2 : zBl := fun jp K => oInt 2147483647 <| oIret K
theorem s_X9_look_2 (d : Nat) : zPb l G gh (d + 6) n_X9_look p_X9_look 22 b_X9_look_2 := fun K jp hj =>
    z_iconst (n := -1) (zd (i := .iconst (-1)) (n := 1) (by decide +kernel)) (by decide +kernel) <|
    z_iret (zd (i := .ireturn) (n := 1) (by decide +kernel)) rfl
noncomputable def b_X9_look_3 : zBl := fun jp K => oInt 2147483648 <| oIst 3 <| jp 4
theorem s_X9_look_3 (d : Nat) : zPb l G gh (d + 6) n_X9_look p_X9_look 24 b_X9_look_3 := fun K jp hj =>
    z_iconst (n := 0) (zd (i := .iconst (0)) (n := 1) (by decide +kernel)) (by decide +kernel) <|
    z_istore_n (n := 3) (i := 3) (zd (i := .istore_n 3) (n := 1) (by decide +kernel)) rfl (by decide +kernel) <|
    (zj (hj 4) (by decide +kernel))
noncomputable def b_X9_look_4 : zBl := fun jp K => oIld 3 <| oInt 2147484068 <| oIc zge zlt (jp 6) (jp 5)
theorem s_X9_look_4 (d : Nat) : zPb l G gh (d + 6) n_X9_look p_X9_look 26 b_X9_look_4 := fun K jp hj =>
    z_iload_n (n := 3) (i := 3) (zd (i := .iload_n 3) (n := 1) (by decide +kernel)) rfl <|
    z_sipush (n := 420) (zd (i := .sipush (420)) (n := 3) (by decide +kernel)) (by decide +kernel) <|
    z_icmp_ge (off := 16) (tgt := 46) (zd (i := .if_icmp .ge (16)) (n := 3) (by decide +kernel)) (by decide +kernel) (zj (hj 6) (by decide +kernel)) (zj (hj 5) (by decide +kernel))
noncomputable def b_X9_look_5 : zBl := fun jp K => oAld 0 <| oGetR 9 62 <| oIld 3 <| oInt 2147483648 <| oXast 10 zid <| oInc 3 2147483649 <| jp 4
theorem s_X9_look_5 (d : Nat) : zPb l G gh (d + 6) n_X9_look p_X9_look 33 b_X9_look_5 := fun K jp hj =>
    z_aload_n (n := 0) (i := 0) (zd (i := .aload_n 0) (n := 1) (by decide +kernel)) rfl <|
    z_getR (ci := 9) (j := 62) (idx := 140) (zd (i := .getfield 140) (n := 3) (by decide +kernel)) (by decide +kernel) (by decide +kernel) rfl g1190 <|
    z_iload_n (n := 3) (i := 3) (zd (i := .iload_n 3) (n := 1) (by decide +kernel)) rfl <|
    z_iconst (n := 0) (zd (i := .iconst (0)) (n := 1) (by decide +kernel)) (by decide +kernel) <|
    z_iast (zd (i := .iastore) (n := 1) (by decide +kernel)) <|
    z_iinc (i := 3) (n := 1) (zd (i := .iinc 3 (1)) (n := 3) (by decide +kernel)) (by decide +kernel) (by decide +kernel) <|
    z_goto (off := -17) (tgt := 26) (zd (i := .goto (-17)) (n := 3) (by decide +kernel)) (by decide +kernel) (zj (hj 4) (by decide +kernel))
noncomputable def b_X9_look_6 : zBl := fun jp K => oInt 2147483648 <| oIst 3 <| oInt 2147483648 <| oIst 4 <| jp 7
theorem s_X9_look_6 (d : Nat) : zPb l G gh (d + 6) n_X9_look p_X9_look 46 b_X9_look_6 := fun K jp hj =>
    z_iconst (n := 0) (zd (i := .iconst (0)) (n := 1) (by decide +kernel)) (by decide +kernel) <|
    z_istore_n (n := 3) (i := 3) (zd (i := .istore_n 3) (n := 1) (by decide +kernel)) rfl (by decide +kernel) <|
    z_iconst (n := 0) (zd (i := .iconst (0)) (n := 1) (by decide +kernel)) (by decide +kernel) <|
    z_istore (i := 4) (zd (i := .istore 4) (n := 2) (by decide +kernel)) (by decide +kernel) <|
    (zj (hj 7) (by decide +kernel))
noncomputable def b_X9_look_7 : zBl := fun jp K => oIld 4 <| oInt 2147483828 <| oIc zge zlt (jp 16) (jp 8)
theorem s_X9_look_7 (d : Nat) : zPb l G gh (d + 6) n_X9_look p_X9_look 51 b_X9_look_7 := fun K jp hj =>
    z_iload (i := 4) (zd (i := .iload 4) (n := 2) (by decide +kernel)) <|
    z_sipush (n := 180) (zd (i := .sipush (180)) (n := 3) (by decide +kernel)) (by decide +kernel) <|
    z_icmp_ge (off := 97) (tgt := 153) (zd (i := .if_icmp .ge (97)) (n := 3) (by decide +kernel)) (by decide +kernel) (zj (hj 16) (by decide +kernel)) (zj (hj 8) (by decide +kernel))
noncomputable def b_X9_look_8 : zBl := fun jp K => oAld 0 <| oIld 4 <| oIld 1 <| oCv 9 2 f_X9_isSo <| oIf zne zeq (jp 9) (oFail)
theorem s_X9_look_8 (d : Nat) : zPb l G gh (d + 6) n_X9_look p_X9_look 59 b_X9_look_8 := fun K jp hj =>
    z_aload_n (n := 0) (i := 0) (zd (i := .aload_n 0) (n := 1) (by decide +kernel)) rfl <|
    z_iload (i := 4) (zd (i := .iload 4) (n := 2) (by decide +kernel)) <|
    z_iload_n (n := 1) (i := 1) (zd (i := .iload_n 1) (n := 1) (by decide +kernel)) rfl <|
    z_callV (idx := 428) (ci := 9) (N := n_X9_isSo) (zd (i := .invokevirtual 428) (n := 3) (by decide +kernel)) to_X9_isSo g1685 g1687 g94 (by decide +kernel) rfl rfl rfl (c_X9_isSo (l := l) (G := G) (gh := gh) (d + 4)) <|
    z_if_ne (off := 6) (tgt := 72) (zd (i := .ifCond .ne (6)) (n := 3) (by decide +kernel)) (by decide +kernel) (zj (hj 9) (by decide +kernel)) z_fail
noncomputable def b_X9_look_9 : zBl := fun jp K => oInc 3 2147483649 <| oInt 2147483648 <| oIst 5 <| jp 10
theorem s_X9_look_9 (d : Nat) : zPb l G gh (d + 6) n_X9_look p_X9_look 72 b_X9_look_9 := fun K jp hj =>
    z_iinc (i := 3) (n := 1) (zd (i := .iinc 3 (1)) (n := 3) (by decide +kernel)) (by decide +kernel) (by decide +kernel) <|
    z_iconst (n := 0) (zd (i := .iconst (0)) (n := 1) (by decide +kernel)) (by decide +kernel) <|
    z_istore (i := 5) (zd (i := .istore 5) (n := 2) (by decide +kernel)) (by decide +kernel) <|
    (zj (hj 10) (by decide +kernel))
noncomputable def b_X9_look_10 : zBl := fun jp K => oIld 5 <| oInt 2147483667 <| oIc zgt zle (jp 15) (jp 11)
theorem s_X9_look_10 (d : Nat) : zPb l G gh (d + 6) n_X9_look p_X9_look 78 b_X9_look_10 := fun K jp hj =>
    z_iload (i := 5) (zd (i := .iload 5) (n := 2) (by decide +kernel)) <|
    z_bipush (n := 19) (zd (i := .bipush (19)) (n := 2) (by decide +kernel)) (by decide +kernel) <|
    z_icmp_gt (off := 65) (tgt := 147) (zd (i := .if_icmp .gt (65)) (n := 3) (by decide +kernel)) (by decide +kernel) (zj (hj 15) (by decide +kernel)) (zj (hj 11) (by decide +kernel))
noncomputable def b_X9_look_11 : zBl := fun jp K => oAld 0 <| oIld 5 <| oIld 4 <| oInt 2147483657 <| oB2z zidiv <| oIld 4 <| oInt 2147483657 <| oB2z zirem <| oInt 2147483649 <| oB2 zadd <| oAld 0 <| oGetR 9 48 <| oInt 2147483744 <| oXald 10 <| oIld 2 <| oB2 zadd <| oCv 9 4 f_X9_seenAt <| oIst 6 <| oAld 0 <| oGetR 9 62 <| oInt 2147483669 <| oIld 5 <| oB2 zimul <| oIld 6 <| oIf zge zlt (jp 13) (jp 12)
theorem s_X9_look_11 (d : Nat) : zPb l G gh (d + 6) n_X9_look p_X9_look 85 b_X9_look_11 := fun K jp hj =>
    z_aload_n (n := 0) (i := 0) (zd (i := .aload_n 0) (n := 1) (by decide +kernel)) rfl <|
    z_iload (i := 5) (zd (i := .iload 5) (n := 2) (by decide +kernel)) <|
    z_iload (i := 4) (zd (i := .iload 4) (n := 2) (by decide +kernel)) <|
    z_bipush (n := 9) (zd (i := .bipush (9)) (n := 2) (by decide +kernel)) (by decide +kernel) <|
    z_idiv (zd (i := .idiv) (n := 1) (by decide +kernel)) <|
    z_iload (i := 4) (zd (i := .iload 4) (n := 2) (by decide +kernel)) <|
    z_bipush (n := 9) (zd (i := .bipush (9)) (n := 2) (by decide +kernel)) (by decide +kernel) <|
    z_irem (zd (i := .irem) (n := 1) (by decide +kernel)) <|
    z_iconst (n := 1) (zd (i := .iconst (1)) (n := 1) (by decide +kernel)) (by decide +kernel) <|
    z_iadd (zd (i := .iadd) (n := 1) (by decide +kernel)) <|
    z_aload_n (n := 0) (i := 0) (zd (i := .aload_n 0) (n := 1) (by decide +kernel)) rfl <|
    z_getR (ci := 9) (j := 48) (idx := 110) (zd (i := .getfield 110) (n := 3) (by decide +kernel)) (by decide +kernel) (by decide +kernel) rfl g1176 <|
    z_bipush (n := 96) (zd (i := .bipush (96)) (n := 2) (by decide +kernel)) (by decide +kernel) <|
    z_iald (zd (i := .iaload) (n := 1) (by decide +kernel)) <|
    z_iload_n (n := 2) (i := 2) (zd (i := .iload_n 2) (n := 1) (by decide +kernel)) rfl <|
    z_iadd (zd (i := .iadd) (n := 1) (by decide +kernel)) <|
    z_callV (idx := 345) (ci := 9) (N := n_X9_seenAt) (zd (i := .invokevirtual 345) (n := 3) (by decide +kernel)) to_X9_seenAt g1582 g1584 g88 (by decide +kernel) rfl rfl rfl (c_X9_seenAt (l := l) (G := G) (gh := gh) d) <|
    z_istore (i := 6) (zd (i := .istore 6) (n := 2) (by decide +kernel)) (by decide +kernel) <|
    z_aload_n (n := 0) (i := 0) (zd (i := .aload_n 0) (n := 1) (by decide +kernel)) rfl <|
    z_getR (ci := 9) (j := 62) (idx := 140) (zd (i := .getfield 140) (n := 3) (by decide +kernel)) (by decide +kernel) (by decide +kernel) rfl g1190 <|
    z_bipush (n := 21) (zd (i := .bipush (21)) (n := 2) (by decide +kernel)) (by decide +kernel) <|
    z_iload (i := 5) (zd (i := .iload 5) (n := 2) (by decide +kernel)) <|
    z_imul (zd (i := .imul) (n := 1) (by decide +kernel)) <|
    z_iload (i := 6) (zd (i := .iload 6) (n := 2) (by decide +kernel)) <|
    z_if_ge (off := 8) (tgt := 133) (zd (i := .ifCond .ge (8)) (n := 3) (by decide +kernel)) (by decide +kernel) (zj (hj 13) (by decide +kernel)) (zj (hj 12) (by decide +kernel))
noncomputable def b_X9_look_12 : zBl := fun jp K => oInt 2147483668 <| jp 14
theorem s_X9_look_12 (d : Nat) : zPb l G gh (d + 6) n_X9_look p_X9_look 128 b_X9_look_12 := fun K jp hj =>
    z_bipush (n := 20) (zd (i := .bipush (20)) (n := 2) (by decide +kernel)) (by decide +kernel) <|
    z_goto (off := 5) (tgt := 135) (zd (i := .goto (5)) (n := 3) (by decide +kernel)) (by decide +kernel) (zj (hj 14) (by decide +kernel))
noncomputable def b_X9_look_13 : zBl := fun jp K => oIld 6 <| jp 14
theorem s_X9_look_13 (d : Nat) : zPb l G gh (d + 6) n_X9_look p_X9_look 133 b_X9_look_13 := fun K jp hj =>
    z_iload (i := 6) (zd (i := .iload 6) (n := 2) (by decide +kernel)) <|
    (zj (hj 14) (by decide +kernel))
noncomputable def b_X9_look_14 : zBl := fun jp K => oB2 zadd <| oDup2 <| oXald 10 <| oInt 2147483649 <| oB2 zadd <| oXast 10 zid <| oInc 5 2147483649 <| jp 10
theorem s_X9_look_14 (d : Nat) : zPb l G gh (d + 6) n_X9_look p_X9_look 135 b_X9_look_14 := fun K jp hj =>
    z_iadd (zd (i := .iadd) (n := 1) (by decide +kernel)) <|
    z_dup2 (zd (i := .dup2) (n := 1) (by decide +kernel)) <|
    z_iald (zd (i := .iaload) (n := 1) (by decide +kernel)) <|
    z_iconst (n := 1) (zd (i := .iconst (1)) (n := 1) (by decide +kernel)) (by decide +kernel) <|
    z_iadd (zd (i := .iadd) (n := 1) (by decide +kernel)) <|
    z_iast (zd (i := .iastore) (n := 1) (by decide +kernel)) <|
    z_iinc (i := 5) (n := 1) (zd (i := .iinc 5 (1)) (n := 3) (by decide +kernel)) (by decide +kernel) (by decide +kernel) <|
    z_goto (off := -66) (tgt := 78) (zd (i := .goto (-66)) (n := 3) (by decide +kernel)) (by decide +kernel) (zj (hj 10) (by decide +kernel))
noncomputable def b_X9_look_15 : zBl := fun jp K => oInc 4 2147483649 <| jp 7
theorem s_X9_look_15 (d : Nat) : zPb l G gh (d + 6) n_X9_look p_X9_look 147 b_X9_look_15 := fun K jp hj =>
    z_iinc (i := 4) (n := 1) (zd (i := .iinc 4 (1)) (n := 3) (by decide +kernel)) (by decide +kernel) (by decide +kernel) <|
    z_goto (off := -99) (tgt := 51) (zd (i := .goto (-99)) (n := 3) (by decide +kernel)) (by decide +kernel) (zj (hj 7) (by decide +kernel))
noncomputable def b_X9_look_16 : zBl := fun jp K => oIld 3 <| oIf zne zeq (jp 17) (oFail)
theorem s_X9_look_16 (d : Nat) : zPb l G gh (d + 6) n_X9_look p_X9_look 153 b_X9_look_16 := fun K jp hj =>
    z_iload_n (n := 3) (i := 3) (zd (i := .iload_n 3) (n := 1) (by decide +kernel)) rfl <|
    z_if_ne (off := 6) (tgt := 160) (zd (i := .ifCond .ne (6)) (n := 3) (by decide +kernel)) (by decide +kernel) (zj (hj 17) (by decide +kernel)) z_fail
noncomputable def b_X9_look_17 : zBl := fun jp K => oInt 2147483646 <| oIst 4 <| oInt 2147483648 <| oIst 5 <| oInt 2147483648 <| oIst 6 <| jp 18
theorem s_X9_look_17 (d : Nat) : zPb l G gh (d + 6) n_X9_look p_X9_look 160 b_X9_look_17 := fun K jp hj =>
    z_bipush (n := -2) (zd (i := .bipush (-2)) (n := 2) (by decide +kernel)) (by decide +kernel) <|
    z_istore (i := 4) (zd (i := .istore 4) (n := 2) (by decide +kernel)) (by decide +kernel) <|
    z_iconst (n := 0) (zd (i := .iconst (0)) (n := 1) (by decide +kernel)) (by decide +kernel) <|
    z_istore (i := 5) (zd (i := .istore 5) (n := 2) (by decide +kernel)) (by decide +kernel) <|
    z_iconst (n := 0) (zd (i := .iconst (0)) (n := 1) (by decide +kernel)) (by decide +kernel) <|
    z_istore (i := 6) (zd (i := .istore 6) (n := 2) (by decide +kernel)) (by decide +kernel) <|
    (zj (hj 18) (by decide +kernel))
noncomputable def b_X9_look_18 : zBl := fun jp K => oIld 6 <| oInt 2147483667 <| oIc zgt zle (jp 29) (jp 19)
theorem s_X9_look_18 (d : Nat) : zPb l G gh (d + 6) n_X9_look p_X9_look 170 b_X9_look_18 := fun K jp hj =>
    z_iload (i := 6) (zd (i := .iload 6) (n := 2) (by decide +kernel)) <|
    z_bipush (n := 19) (zd (i := .bipush (19)) (n := 2) (by decide +kernel)) (by decide +kernel) <|
    z_icmp_gt (off := 84) (tgt := 258) (zd (i := .if_icmp .gt (84)) (n := 3) (by decide +kernel)) (by decide +kernel) (zj (hj 29) (by decide +kernel)) (zj (hj 19) (by decide +kernel))
noncomputable def b_X9_look_19 : zBl := fun jp K => oInt 2147483648 <| oIst 7 <| oInt 2147483648 <| oIst 8 <| jp 20
theorem s_X9_look_19 (d : Nat) : zPb l G gh (d + 6) n_X9_look p_X9_look 177 b_X9_look_19 := fun K jp hj =>
    z_iconst (n := 0) (zd (i := .iconst (0)) (n := 1) (by decide +kernel)) (by decide +kernel) <|
    z_istore (i := 7) (zd (i := .istore 7) (n := 2) (by decide +kernel)) (by decide +kernel) <|
    z_iconst (n := 0) (zd (i := .iconst (0)) (n := 1) (by decide +kernel)) (by decide +kernel) <|
    z_istore (i := 8) (zd (i := .istore 8) (n := 2) (by decide +kernel)) (by decide +kernel) <|
    (zj (hj 20) (by decide +kernel))
noncomputable def b_X9_look_20 : zBl := fun jp K => oIld 8 <| oInt 2147483668 <| oIc zgt zle (jp 24) (jp 21)
theorem s_X9_look_20 (d : Nat) : zPb l G gh (d + 6) n_X9_look p_X9_look 183 b_X9_look_20 := fun K jp hj =>
    z_iload (i := 8) (zd (i := .iload 8) (n := 2) (by decide +kernel)) <|
    z_bipush (n := 20) (zd (i := .bipush (20)) (n := 2) (by decide +kernel)) (by decide +kernel) <|
    z_icmp_gt (off := 42) (tgt := 229) (zd (i := .if_icmp .gt (42)) (n := 3) (by decide +kernel)) (by decide +kernel) (zj (hj 24) (by decide +kernel)) (zj (hj 21) (by decide +kernel))
noncomputable def b_X9_look_21 : zBl := fun jp K => oAld 0 <| oGetR 9 62 <| oInt 2147483669 <| oIld 6 <| oB2 zimul <| oIld 8 <| oB2 zadd <| oXald 10 <| oIld 7 <| oIc zle zgt (jp 23) (jp 22)
theorem s_X9_look_21 (d : Nat) : zPb l G gh (d + 6) n_X9_look p_X9_look 190 b_X9_look_21 := fun K jp hj =>
    z_aload_n (n := 0) (i := 0) (zd (i := .aload_n 0) (n := 1) (by decide +kernel)) rfl <|
    z_getR (ci := 9) (j := 62) (idx := 140) (zd (i := .getfield 140) (n := 3) (by decide +kernel)) (by decide +kernel) (by decide +kernel) rfl g1190 <|
    z_bipush (n := 21) (zd (i := .bipush (21)) (n := 2) (by decide +kernel)) (by decide +kernel) <|
    z_iload (i := 6) (zd (i := .iload 6) (n := 2) (by decide +kernel)) <|
    z_imul (zd (i := .imul) (n := 1) (by decide +kernel)) <|
    z_iload (i := 8) (zd (i := .iload 8) (n := 2) (by decide +kernel)) <|
    z_iadd (zd (i := .iadd) (n := 1) (by decide +kernel)) <|
    z_iald (zd (i := .iaload) (n := 1) (by decide +kernel)) <|
    z_iload (i := 7) (zd (i := .iload 7) (n := 2) (by decide +kernel)) <|
    z_icmp_le (off := 18) (tgt := 223) (zd (i := .if_icmp .le (18)) (n := 3) (by decide +kernel)) (by decide +kernel) (zj (hj 23) (by decide +kernel)) (zj (hj 22) (by decide +kernel))
noncomputable def b_X9_look_22 : zBl := fun jp K => oAld 0 <| oGetR 9 62 <| oInt 2147483669 <| oIld 6 <| oB2 zimul <| oIld 8 <| oB2 zadd <| oXald 10 <| oIst 7 <| jp 23
theorem s_X9_look_22 (d : Nat) : zPb l G gh (d + 6) n_X9_look p_X9_look 208 b_X9_look_22 := fun K jp hj =>
    z_aload_n (n := 0) (i := 0) (zd (i := .aload_n 0) (n := 1) (by decide +kernel)) rfl <|
    z_getR (ci := 9) (j := 62) (idx := 140) (zd (i := .getfield 140) (n := 3) (by decide +kernel)) (by decide +kernel) (by decide +kernel) rfl g1190 <|
    z_bipush (n := 21) (zd (i := .bipush (21)) (n := 2) (by decide +kernel)) (by decide +kernel) <|
    z_iload (i := 6) (zd (i := .iload 6) (n := 2) (by decide +kernel)) <|
    z_imul (zd (i := .imul) (n := 1) (by decide +kernel)) <|
    z_iload (i := 8) (zd (i := .iload 8) (n := 2) (by decide +kernel)) <|
    z_iadd (zd (i := .iadd) (n := 1) (by decide +kernel)) <|
    z_iald (zd (i := .iaload) (n := 1) (by decide +kernel)) <|
    z_istore (i := 7) (zd (i := .istore 7) (n := 2) (by decide +kernel)) (by decide +kernel) <|
    (zj (hj 23) (by decide +kernel))
noncomputable def b_X9_look_23 : zBl := fun jp K => oInc 8 2147483649 <| jp 20
theorem s_X9_look_23 (d : Nat) : zPb l G gh (d + 6) n_X9_look p_X9_look 223 b_X9_look_23 := fun K jp hj =>
    z_iinc (i := 8) (n := 1) (zd (i := .iinc 8 (1)) (n := 3) (by decide +kernel)) (by decide +kernel) (by decide +kernel) <|
    z_goto (off := -43) (tgt := 183) (zd (i := .goto (-43)) (n := 3) (by decide +kernel)) (by decide +kernel) (zj (hj 20) (by decide +kernel))
noncomputable def b_X9_look_24 : zBl := fun jp K => oIld 4 <| oIf zlt zge (jp 27) (jp 25)
theorem s_X9_look_24 (d : Nat) : zPb l G gh (d + 6) n_X9_look p_X9_look 229 b_X9_look_24 := fun K jp hj =>
    z_iload (i := 4) (zd (i := .iload 4) (n := 2) (by decide +kernel)) <|
    z_if_lt (off := 13) (tgt := 244) (zd (i := .ifCond .lt (13)) (n := 3) (by decide +kernel)) (by decide +kernel) (zj (hj 27) (by decide +kernel)) (zj (hj 25) (by decide +kernel))
noncomputable def b_X9_look_25 : zBl := fun jp K => oIld 7 <| oIld 5 <| oIc zlt zge (jp 27) (jp 26)
theorem s_X9_look_25 (d : Nat) : zPb l G gh (d + 6) n_X9_look p_X9_look 234 b_X9_look_25 := fun K jp hj =>
    z_iload (i := 7) (zd (i := .iload 7) (n := 2) (by decide +kernel)) <|
    z_iload (i := 5) (zd (i := .iload 5) (n := 2) (by decide +kernel)) <|
    z_icmp_lt (off := 6) (tgt := 244) (zd (i := .if_icmp .lt (6)) (n := 3) (by decide +kernel)) (by decide +kernel) (zj (hj 27) (by decide +kernel)) (zj (hj 26) (by decide +kernel))
noncomputable def b_X9_look_26 : zBl := fun jp K => jp 28
theorem s_X9_look_26 (d : Nat) : zPb l G gh (d + 6) n_X9_look p_X9_look 241 b_X9_look_26 := fun K jp hj =>
    z_goto (off := 11) (tgt := 252) (zd (i := .goto (11)) (n := 3) (by decide +kernel)) (by decide +kernel) (zj (hj 28) (by decide +kernel))
noncomputable def b_X9_look_27 : zBl := fun jp K => oIld 6 <| oIst 4 <| oIld 7 <| oIst 5 <| jp 28
theorem s_X9_look_27 (d : Nat) : zPb l G gh (d + 6) n_X9_look p_X9_look 244 b_X9_look_27 := fun K jp hj =>
    z_iload (i := 6) (zd (i := .iload 6) (n := 2) (by decide +kernel)) <|
    z_istore (i := 4) (zd (i := .istore 4) (n := 2) (by decide +kernel)) (by decide +kernel) <|
    z_iload (i := 7) (zd (i := .iload 7) (n := 2) (by decide +kernel)) <|
    z_istore (i := 5) (zd (i := .istore 5) (n := 2) (by decide +kernel)) (by decide +kernel) <|
    (zj (hj 28) (by decide +kernel))
noncomputable def b_X9_look_28 : zBl := fun jp K => oInc 6 2147483649 <| jp 18
theorem s_X9_look_28 (d : Nat) : zPb l G gh (d + 6) n_X9_look p_X9_look 252 b_X9_look_28 := fun K jp hj =>
    z_iinc (i := 6) (n := 1) (zd (i := .iinc 6 (1)) (n := 3) (by decide +kernel)) (by decide +kernel) (by decide +kernel) <|
    z_goto (off := -85) (tgt := 170) (zd (i := .goto (-85)) (n := 3) (by decide +kernel)) (by decide +kernel) (zj (hj 18) (by decide +kernel))
noncomputable def b_X9_look_29 : zBl := fun jp K => oIld 4 <| oIret K
theorem s_X9_look_29 (d : Nat) : zPb l G gh (d + 6) n_X9_look p_X9_look 258 b_X9_look_29 := fun K jp hj =>
    z_iload (i := 4) (zd (i := .iload 4) (n := 2) (by decide +kernel)) <|
    z_iret (zd (i := .ireturn) (n := 1) (by decide +kernel)) rfl
noncomputable def f_X9_look : zMt := zmet 9 [b_X9_look_0, b_X9_look_1, b_X9_look_2, b_X9_look_3, b_X9_look_4, b_X9_look_5, b_X9_look_6, b_X9_look_7, b_X9_look_8, b_X9_look_9, b_X9_look_10, b_X9_look_11, b_X9_look_12, b_X9_look_13, b_X9_look_14, b_X9_look_15, b_X9_look_16, b_X9_look_17, b_X9_look_18, b_X9_look_19, b_X9_look_20, b_X9_look_21, b_X9_look_22, b_X9_look_23, b_X9_look_24, b_X9_look_25, b_X9_look_26, b_X9_look_27, b_X9_look_28, b_X9_look_29]
theorem c_X9_look (d : Nat) : zC l G gh (d + 6) n_X9_look f_X9_look := zmet_ok (pcs := p_X9_look) (by decide) rfl rfl ⟨s_X9_look_0 d, s_X9_look_1 d, s_X9_look_2 d, s_X9_look_3 d, s_X9_look_4 d, s_X9_look_5 d, s_X9_look_6 d, s_X9_look_7 d, s_X9_look_8 d, s_X9_look_9 d, s_X9_look_10 d, s_X9_look_11 d, s_X9_look_12 d, s_X9_look_13 d, s_X9_look_14 d, s_X9_look_15 d, s_X9_look_16 d, s_X9_look_17 d, s_X9_look_18 d, s_X9_look_19 d, s_X9_look_20 d, s_X9_look_21 d, s_X9_look_22 d, s_X9_look_23 d, s_X9_look_24 d, s_X9_look_25 d, s_X9_look_26 d, s_X9_look_27 d, s_X9_look_28 d, s_X9_look_29 d, trivial⟩
def n_X8_hold : qMn := (yX8_hold, cX8_hold, 2, (some Jvm.ClassFile.FieldType.boolean), 0, 0)
theorem to_X8_hold : qTo n_X8_hold 1 := ⟨g1083, g97, ⟨by decide, by decide, by decide +kernel⟩, by decide⟩
def p_X8_hold : List Nat := [0, 4, 9, 11]
noncomputable def b_X8_hold_0 : zBl := fun jp K => oIld 1 <| oIf zlt zge (jp 2) (jp 1)
theorem s_X8_hold_0 (d : Nat) : zPb l G gh (d + 2) n_X8_hold p_X8_hold 0 b_X8_hold_0 := fun K jp hj =>
    z_iload_n (n := 1) (i := 1) (zd (i := .iload_n 1) (n := 1) (by decide +kernel)) rfl <|
    z_if_lt (off := 8) (tgt := 9) (zd (i := .ifCond .lt (8)) (n := 3) (by decide +kernel)) (by decide +kernel) (zj (hj 2) (by decide +kernel)) (zj (hj 1) (by decide +kernel))
noncomputable def b_X8_hold_1 : zBl := fun jp K => oIld 1 <| oInt 2147483651 <| oIc zlt zge (jp 3) (jp 2)
theorem s_X8_hold_1 (d : Nat) : zPb l G gh (d + 2) n_X8_hold p_X8_hold 4 b_X8_hold_1 := fun K jp hj =>
    z_iload_n (n := 1) (i := 1) (zd (i := .iload_n 1) (n := 1) (by decide +kernel)) rfl <|
    z_iconst (n := 3) (zd (i := .iconst (3)) (n := 1) (by decide +kernel)) (by decide +kernel) <|
    z_icmp_lt (off := 5) (tgt := 11) (zd (i := .if_icmp .lt (5)) (n := 3) (by decide +kernel)) (by decide +kernel) (zj (hj 3) (by decide +kernel)) (zj (hj 2) (by decide +kernel))
noncomputable def b_X8_hold_2 : zBl := fun jp K => oInt 2147483648 <| oZret K
theorem s_X8_hold_2 (d : Nat) : zPb l G gh (d + 2) n_X8_hold p_X8_hold 9 b_X8_hold_2 := fun K jp hj =>
    z_iconst (n := 0) (zd (i := .iconst (0)) (n := 1) (by decide +kernel)) (by decide +kernel) <|
    z_zret (zd (i := .ireturn) (n := 1) (by decide +kernel)) rfl
noncomputable def b_X8_hold_3 : zBl := fun jp K => oAld 0 <| oGetR 8 5 <| oIld 1 <| oAald <| oAld 0 <| oGetR 8 2 <| oCv 4 1 f_X4_copy <| oAld 0 <| oGetR 8 6 <| oIld 1 <| oInt 2147483649 <| oXast 12 znz1 <| oInt 2147483649 <| oZret K
theorem s_X8_hold_3 (d : Nat) : zPb l G gh (d + 2) n_X8_hold p_X8_hold 11 b_X8_hold_3 := fun K jp hj =>
    z_aload_n (n := 0) (i := 0) (zd (i := .aload_n 0) (n := 1) (by decide +kernel)) rfl <|
    z_getR (ci := 8) (j := 5) (idx := 40) (zd (i := .getfield 40) (n := 3) (by decide +kernel)) (by decide +kernel) (by decide +kernel) rfl g457 <|
    z_iload_n (n := 1) (i := 1) (zd (i := .iload_n 1) (n := 1) (by decide +kernel)) rfl <|
    z_aald (zd (i := .aaload) (n := 1) (by decide +kernel)) <|
    z_aload_n (n := 0) (i := 0) (zd (i := .aload_n 0) (n := 1) (by decide +kernel)) rfl <|
    z_getR (ci := 8) (j := 2) (idx := 26) (zd (i := .getfield 26) (n := 3) (by decide +kernel)) (by decide +kernel) (by decide +kernel) rfl g454 <|
    z_callV (idx := 258) (ci := 4) (N := n_X4_copy) (zd (i := .invokevirtual 258) (n := 3) (by decide +kernel)) to_X4_copy g956 g841 g842 (by decide +kernel) rfl rfl rfl (c_X4_copy (l := l) (G := G) (gh := gh) d) <|
    z_aload_n (n := 0) (i := 0) (zd (i := .aload_n 0) (n := 1) (by decide +kernel)) rfl <|
    z_getR (ci := 8) (j := 6) (idx := 44) (zd (i := .getfield 44) (n := 3) (by decide +kernel)) (by decide +kernel) (by decide +kernel) rfl g458 <|
    z_iload_n (n := 1) (i := 1) (zd (i := .iload_n 1) (n := 1) (by decide +kernel)) rfl <|
    z_iconst (n := 1) (zd (i := .iconst (1)) (n := 1) (by decide +kernel)) (by decide +kernel) <|
    z_zast (zd (i := .bastore) (n := 1) (by decide +kernel)) <|
    z_iconst (n := 1) (zd (i := .iconst (1)) (n := 1) (by decide +kernel)) (by decide +kernel) <|
    z_zret (zd (i := .ireturn) (n := 1) (by decide +kernel)) rfl
noncomputable def f_X8_hold : zMt := zmet 2 [b_X8_hold_0, b_X8_hold_1, b_X8_hold_2, b_X8_hold_3]
theorem c_X8_hold (d : Nat) : zC l G gh (d + 2) n_X8_hold f_X8_hold := zmet_ok (pcs := p_X8_hold) (by decide) rfl rfl ⟨s_X8_hold_0 d, s_X8_hold_1 d, s_X8_hold_2 d, s_X8_hold_3 d, trivial⟩
def n_X9_hold : qMn := (yX9_hold, cX9_hold, 3, (some Jvm.ClassFile.FieldType.boolean), 0, 0)
theorem to_X9_hold : qTo n_X9_hold 1 := ⟨g1700, g110, ⟨by decide, by decide, by decide +kernel⟩, by decide⟩
def p_X9_hold : List Nat := [0, 9, 11, 20, 26, 49]
noncomputable def b_X9_hold_0 : zBl := fun jp K => oIld 1 <| oInt 2147483648 <| oInt 2147483650 <| oCs 3 f_X9_in <| oIf zne zeq (jp 2) (jp 1)
theorem s_X9_hold_0 (d : Nat) : zPb l G gh (d + 2) n_X9_hold p_X9_hold 0 b_X9_hold_0 := fun K jp hj =>
    z_iload_n (n := 1) (i := 1) (zd (i := .iload_n 1) (n := 1) (by decide +kernel)) rfl <|
    z_iconst (n := 0) (zd (i := .iconst (0)) (n := 1) (by decide +kernel)) (by decide +kernel) <|
    z_iconst (n := 2) (zd (i := .iconst (2)) (n := 1) (by decide +kernel)) (by decide +kernel) <|
    z_callS (idx := 304) (N := n_X9_in) (zd (i := .invokestatic 304) (n := 3) (by decide +kernel)) to_X9_in g1442 g1443 rfl rfl (c_X9_in (l := l) (G := G) (gh := gh) d) <|
    z_if_ne (off := 5) (tgt := 11) (zd (i := .ifCond .ne (5)) (n := 3) (by decide +kernel)) (by decide +kernel) (zj (hj 2) (by decide +kernel)) (zj (hj 1) (by decide +kernel))
noncomputable def b_X9_hold_1 : zBl := fun jp K => oInt 2147483648 <| oZret K
theorem s_X9_hold_1 (d : Nat) : zPb l G gh (d + 2) n_X9_hold p_X9_hold 9 b_X9_hold_1 := fun K jp hj =>
    z_iconst (n := 0) (zd (i := .iconst (0)) (n := 1) (by decide +kernel)) (by decide +kernel) <|
    z_zret (zd (i := .ireturn) (n := 1) (by decide +kernel)) rfl
noncomputable def b_X9_hold_2 : zBl := fun jp K => oAld 0 <| oGetR 9 63 <| oIld 1 <| oInt 2147483649 <| oXast 12 znz1 <| oInt 2147483648 <| oIst 2 <| jp 3
theorem s_X9_hold_2 (d : Nat) : zPb l G gh (d + 2) n_X9_hold p_X9_hold 11 b_X9_hold_2 := fun K jp hj =>
    z_aload_n (n := 0) (i := 0) (zd (i := .aload_n 0) (n := 1) (by decide +kernel)) rfl <|
    z_getR (ci := 9) (j := 63) (idx := 143) (zd (i := .getfield 143) (n := 3) (by decide +kernel)) (by decide +kernel) (by decide +kernel) rfl g1191 <|
    z_iload_n (n := 1) (i := 1) (zd (i := .iload_n 1) (n := 1) (by decide +kernel)) rfl <|
    z_iconst (n := 1) (zd (i := .iconst (1)) (n := 1) (by decide +kernel)) (by decide +kernel) <|
    z_zast (zd (i := .bastore) (n := 1) (by decide +kernel)) <|
    z_iconst (n := 0) (zd (i := .iconst (0)) (n := 1) (by decide +kernel)) (by decide +kernel) <|
    z_istore_n (n := 2) (i := 2) (zd (i := .istore_n 2) (n := 1) (by decide +kernel)) rfl (by decide +kernel) <|
    (zj (hj 3) (by decide +kernel))
noncomputable def b_X9_hold_3 : zBl := fun jp K => oIld 2 <| oInt 2147483745 <| oIc zge zlt (jp 5) (jp 4)
theorem s_X9_hold_3 (d : Nat) : zPb l G gh (d + 2) n_X9_hold p_X9_hold 20 b_X9_hold_3 := fun K jp hj =>
    z_iload_n (n := 2) (i := 2) (zd (i := .iload_n 2) (n := 1) (by decide +kernel)) rfl <|
    z_bipush (n := 97) (zd (i := .bipush (97)) (n := 2) (by decide +kernel)) (by decide +kernel) <|
    z_icmp_ge (off := 26) (tgt := 49) (zd (i := .if_icmp .ge (26)) (n := 3) (by decide +kernel)) (by decide +kernel) (zj (hj 5) (by decide +kernel)) (zj (hj 4) (by decide +kernel))
noncomputable def b_X9_hold_4 : zBl := fun jp K => oAld 0 <| oGetR 9 64 <| oInt 2147483745 <| oIld 1 <| oB2 zimul <| oIld 2 <| oB2 zadd <| oAld 0 <| oGetR 9 48 <| oIld 2 <| oXald 10 <| oXast 10 zid <| oInc 2 2147483649 <| jp 3
theorem s_X9_hold_4 (d : Nat) : zPb l G gh (d + 2) n_X9_hold p_X9_hold 26 b_X9_hold_4 := fun K jp hj =>
    z_aload_n (n := 0) (i := 0) (zd (i := .aload_n 0) (n := 1) (by decide +kernel)) rfl <|
    z_getR (ci := 9) (j := 64) (idx := 146) (zd (i := .getfield 146) (n := 3) (by decide +kernel)) (by decide +kernel) (by decide +kernel) rfl g1192 <|
    z_bipush (n := 97) (zd (i := .bipush (97)) (n := 2) (by decide +kernel)) (by decide +kernel) <|
    z_iload_n (n := 1) (i := 1) (zd (i := .iload_n 1) (n := 1) (by decide +kernel)) rfl <|
    z_imul (zd (i := .imul) (n := 1) (by decide +kernel)) <|
    z_iload_n (n := 2) (i := 2) (zd (i := .iload_n 2) (n := 1) (by decide +kernel)) rfl <|
    z_iadd (zd (i := .iadd) (n := 1) (by decide +kernel)) <|
    z_aload_n (n := 0) (i := 0) (zd (i := .aload_n 0) (n := 1) (by decide +kernel)) rfl <|
    z_getR (ci := 9) (j := 48) (idx := 110) (zd (i := .getfield 110) (n := 3) (by decide +kernel)) (by decide +kernel) (by decide +kernel) rfl g1176 <|
    z_iload_n (n := 2) (i := 2) (zd (i := .iload_n 2) (n := 1) (by decide +kernel)) rfl <|
    z_iald (zd (i := .iaload) (n := 1) (by decide +kernel)) <|
    z_iast (zd (i := .iastore) (n := 1) (by decide +kernel)) <|
    z_iinc (i := 2) (n := 1) (zd (i := .iinc 2 (1)) (n := 3) (by decide +kernel)) (by decide +kernel) (by decide +kernel) <|
    z_goto (off := -26) (tgt := 20) (zd (i := .goto (-26)) (n := 3) (by decide +kernel)) (by decide +kernel) (zj (hj 3) (by decide +kernel))
noncomputable def b_X9_hold_5 : zBl := fun jp K => oInt 2147483649 <| oZret K
theorem s_X9_hold_5 (d : Nat) : zPb l G gh (d + 2) n_X9_hold p_X9_hold 49 b_X9_hold_5 := fun K jp hj =>
    z_iconst (n := 1) (zd (i := .iconst (1)) (n := 1) (by decide +kernel)) (by decide +kernel) <|
    z_zret (zd (i := .ireturn) (n := 1) (by decide +kernel)) rfl
noncomputable def f_X9_hold : zMt := zmet 3 [b_X9_hold_0, b_X9_hold_1, b_X9_hold_2, b_X9_hold_3, b_X9_hold_4, b_X9_hold_5]
theorem c_X9_hold (d : Nat) : zC l G gh (d + 2) n_X9_hold f_X9_hold := zmet_ok (pcs := p_X9_hold) (by decide) rfl rfl ⟨s_X9_hold_0 d, s_X9_hold_1 d, s_X9_hold_2 d, s_X9_hold_3 d, s_X9_hold_4 d, s_X9_hold_5 d, trivial⟩
def n_X8_restore : qMn := (yX8_restore, cX8_restore, 2, (some Jvm.ClassFile.FieldType.boolean), 0, 0)
theorem to_X8_restore : qTo n_X8_restore 1 := ⟨g1087, g97, ⟨by decide, by decide, by decide +kernel⟩, by decide⟩
def p_X8_restore : List Nat := [0, 4, 9, 18]
noncomputable def b_X8_restore_0 : zBl := fun jp K => oIld 1 <| oIf zlt zge (jp 3) (jp 1)
theorem s_X8_restore_0 (d : Nat) : zPb l G gh (d + 1) n_X8_restore p_X8_restore 0 b_X8_restore_0 := fun K jp hj =>
    z_iload_n (n := 1) (i := 1) (zd (i := .iload_n 1) (n := 1) (by decide +kernel)) rfl <|
    z_if_lt (off := 17) (tgt := 18) (zd (i := .ifCond .lt (17)) (n := 3) (by decide +kernel)) (by decide +kernel) (zj (hj 3) (by decide +kernel)) (zj (hj 1) (by decide +kernel))
noncomputable def b_X8_restore_1 : zBl := fun jp K => oIld 1 <| oInt 2147483651 <| oIc zge zlt (jp 3) (jp 2)
theorem s_X8_restore_1 (d : Nat) : zPb l G gh (d + 1) n_X8_restore p_X8_restore 4 b_X8_restore_1 := fun K jp hj =>
    z_iload_n (n := 1) (i := 1) (zd (i := .iload_n 1) (n := 1) (by decide +kernel)) rfl <|
    z_iconst (n := 3) (zd (i := .iconst (3)) (n := 1) (by decide +kernel)) (by decide +kernel) <|
    z_icmp_ge (off := 12) (tgt := 18) (zd (i := .if_icmp .ge (12)) (n := 3) (by decide +kernel)) (by decide +kernel) (zj (hj 3) (by decide +kernel)) (zj (hj 2) (by decide +kernel))
noncomputable def b_X8_restore_2 : zBl := fun jp K => oAld 0 <| oGetR 8 6 <| oIld 1 <| oXald 12 <| oIf zne zeq (oFail) (jp 3)
theorem s_X8_restore_2 (d : Nat) : zPb l G gh (d + 1) n_X8_restore p_X8_restore 9 b_X8_restore_2 := fun K jp hj =>
    z_aload_n (n := 0) (i := 0) (zd (i := .aload_n 0) (n := 1) (by decide +kernel)) rfl <|
    z_getR (ci := 8) (j := 6) (idx := 44) (zd (i := .getfield 44) (n := 3) (by decide +kernel)) (by decide +kernel) (by decide +kernel) rfl g458 <|
    z_iload_n (n := 1) (i := 1) (zd (i := .iload_n 1) (n := 1) (by decide +kernel)) rfl <|
    z_zald (zd (i := .baload) (n := 1) (by decide +kernel)) <|
    z_if_ne (off := 5) (tgt := 20) (zd (i := .ifCond .ne (5)) (n := 3) (by decide +kernel)) (by decide +kernel) z_fail (zj (hj 3) (by decide +kernel))
noncomputable def b_X8_restore_3 : zBl := fun jp K => oInt 2147483648 <| oZret K
theorem s_X8_restore_3 (d : Nat) : zPb l G gh (d + 1) n_X8_restore p_X8_restore 18 b_X8_restore_3 := fun K jp hj =>
    z_iconst (n := 0) (zd (i := .iconst (0)) (n := 1) (by decide +kernel)) (by decide +kernel) <|
    z_zret (zd (i := .ireturn) (n := 1) (by decide +kernel)) rfl
noncomputable def f_X8_restore : zMt := zmet 2 [b_X8_restore_0, b_X8_restore_1, b_X8_restore_2, b_X8_restore_3]
theorem c_X8_restore (d : Nat) : zC l G gh (d + 1) n_X8_restore f_X8_restore := zmet_ok (pcs := p_X8_restore) (by decide) rfl rfl ⟨s_X8_restore_0 d, s_X8_restore_1 d, s_X8_restore_2 d, s_X8_restore_3 d, trivial⟩
def n_X9_restore : qMn := (yX9_restore, cX9_restore, 3, (some Jvm.ClassFile.FieldType.boolean), 0, 0)
theorem to_X9_restore : qTo n_X9_restore 1 := ⟨g1704, g110, ⟨by decide, by decide, by decide +kernel⟩, by decide⟩
def p_X9_restore : List Nat := [0, 9, 18]
noncomputable def b_X9_restore_0 : zBl := fun jp K => oIld 1 <| oInt 2147483648 <| oInt 2147483650 <| oCs 3 f_X9_in <| oIf zeq zne (jp 2) (jp 1)
theorem s_X9_restore_0 (d : Nat) : zPb l G gh (d + 2) n_X9_restore p_X9_restore 0 b_X9_restore_0 := fun K jp hj =>
    z_iload_n (n := 1) (i := 1) (zd (i := .iload_n 1) (n := 1) (by decide +kernel)) rfl <|
    z_iconst (n := 0) (zd (i := .iconst (0)) (n := 1) (by decide +kernel)) (by decide +kernel) <|
    z_iconst (n := 2) (zd (i := .iconst (2)) (n := 1) (by decide +kernel)) (by decide +kernel) <|
    z_callS (idx := 304) (N := n_X9_in) (zd (i := .invokestatic 304) (n := 3) (by decide +kernel)) to_X9_in g1442 g1443 rfl rfl (c_X9_in (l := l) (G := G) (gh := gh) d) <|
    z_if_eq (off := 12) (tgt := 18) (zd (i := .ifCond .eq (12)) (n := 3) (by decide +kernel)) (by decide +kernel) (zj (hj 2) (by decide +kernel)) (zj (hj 1) (by decide +kernel))
noncomputable def b_X9_restore_1 : zBl := fun jp K => oAld 0 <| oGetR 9 63 <| oIld 1 <| oXald 12 <| oIf zne zeq (oFail) (jp 2)
theorem s_X9_restore_1 (d : Nat) : zPb l G gh (d + 2) n_X9_restore p_X9_restore 9 b_X9_restore_1 := fun K jp hj =>
    z_aload_n (n := 0) (i := 0) (zd (i := .aload_n 0) (n := 1) (by decide +kernel)) rfl <|
    z_getR (ci := 9) (j := 63) (idx := 143) (zd (i := .getfield 143) (n := 3) (by decide +kernel)) (by decide +kernel) (by decide +kernel) rfl g1191 <|
    z_iload_n (n := 1) (i := 1) (zd (i := .iload_n 1) (n := 1) (by decide +kernel)) rfl <|
    z_zald (zd (i := .baload) (n := 1) (by decide +kernel)) <|
    z_if_ne (off := 5) (tgt := 20) (zd (i := .ifCond .ne (5)) (n := 3) (by decide +kernel)) (by decide +kernel) z_fail (zj (hj 2) (by decide +kernel))
noncomputable def b_X9_restore_2 : zBl := fun jp K => oInt 2147483648 <| oZret K
theorem s_X9_restore_2 (d : Nat) : zPb l G gh (d + 2) n_X9_restore p_X9_restore 18 b_X9_restore_2 := fun K jp hj =>
    z_iconst (n := 0) (zd (i := .iconst (0)) (n := 1) (by decide +kernel)) (by decide +kernel) <|
    z_zret (zd (i := .ireturn) (n := 1) (by decide +kernel)) rfl
noncomputable def f_X9_restore : zMt := zmet 3 [b_X9_restore_0, b_X9_restore_1, b_X9_restore_2]
theorem c_X9_restore (d : Nat) : zC l G gh (d + 2) n_X9_restore f_X9_restore := zmet_ok (pcs := p_X9_restore) (by decide) rfl rfl ⟨s_X9_restore_0 d, s_X9_restore_1 d, s_X9_restore_2 d, trivial⟩
def n_X4_loans : qMn := (yX4_loans, cX4_loans, 6, (some Jvm.ClassFile.FieldType.int), 0, 0)
theorem to_X4_loans : qTo n_X4_loans 0 := ⟨g1095, g107, ⟨by decide, by decide, by decide +kernel⟩, by decide⟩
def p_X4_loans : List Nat := [0, 13, 19, 35, 36, 44]
noncomputable def b_X4_loans_0 : zBl := fun jp K => oInt 2147483648 <| oIst 1 <| oAld 0 <| oGetR 4 5 <| oAst 2 <| oAld 2 <| oAlen <| oIst 3 <| oInt 2147483648 <| oIst 4 <| jp 1
theorem s_X4_loans_0 (d : Nat) : zPb l G gh (d + 1) n_X4_loans p_X4_loans 0 b_X4_loans_0 := fun K jp hj =>
    z_iconst (n := 0) (zd (i := .iconst (0)) (n := 1) (by decide +kernel)) (by decide +kernel) <|
    z_istore_n (n := 1) (i := 1) (zd (i := .istore_n 1) (n := 1) (by decide +kernel)) rfl (by decide +kernel) <|
    z_aload_n (n := 0) (i := 0) (zd (i := .aload_n 0) (n := 1) (by decide +kernel)) rfl <|
    z_getR (ci := 4) (j := 5) (idx := 28) (zd (i := .getfield 28) (n := 3) (by decide +kernel)) (by decide +kernel) (by decide +kernel) rfl g382 <|
    z_astore_n (n := 2) (i := 2) (zd (i := .astore_n 2) (n := 1) (by decide +kernel)) rfl (by decide +kernel) <|
    z_aload_n (n := 2) (i := 2) (zd (i := .aload_n 2) (n := 1) (by decide +kernel)) rfl <|
    z_alen (zd (i := .arraylength) (n := 1) (by decide +kernel)) <|
    z_istore_n (n := 3) (i := 3) (zd (i := .istore_n 3) (n := 1) (by decide +kernel)) rfl (by decide +kernel) <|
    z_iconst (n := 0) (zd (i := .iconst (0)) (n := 1) (by decide +kernel)) (by decide +kernel) <|
    z_istore (i := 4) (zd (i := .istore 4) (n := 2) (by decide +kernel)) (by decide +kernel) <|
    (zj (hj 1) (by decide +kernel))
noncomputable def b_X4_loans_1 : zBl := fun jp K => oIld 4 <| oIld 3 <| oIc zge zlt (jp 5) (jp 2)
theorem s_X4_loans_1 (d : Nat) : zPb l G gh (d + 1) n_X4_loans p_X4_loans 13 b_X4_loans_1 := fun K jp hj =>
    z_iload (i := 4) (zd (i := .iload 4) (n := 2) (by decide +kernel)) <|
    z_iload_n (n := 3) (i := 3) (zd (i := .iload_n 3) (n := 1) (by decide +kernel)) rfl <|
    z_icmp_ge (off := 28) (tgt := 44) (zd (i := .if_icmp .ge (28)) (n := 3) (by decide +kernel)) (by decide +kernel) (zj (hj 5) (by decide +kernel)) (zj (hj 2) (by decide +kernel))
noncomputable def b_X4_loans_2 : zBl := fun jp K => oAld 2 <| oIld 4 <| oXald 10 <| oIst 5 <| oIld 1 <| oIld 5 <| oIf zeq zne (jp 3) (oFail)
theorem s_X4_loans_2 (d : Nat) : zPb l G gh (d + 1) n_X4_loans p_X4_loans 19 b_X4_loans_2 := fun K jp hj =>
    z_aload_n (n := 2) (i := 2) (zd (i := .aload_n 2) (n := 1) (by decide +kernel)) rfl <|
    z_iload (i := 4) (zd (i := .iload 4) (n := 2) (by decide +kernel)) <|
    z_iald (zd (i := .iaload) (n := 1) (by decide +kernel)) <|
    z_istore (i := 5) (zd (i := .istore 5) (n := 2) (by decide +kernel)) (by decide +kernel) <|
    z_iload_n (n := 1) (i := 1) (zd (i := .iload_n 1) (n := 1) (by decide +kernel)) rfl <|
    z_iload (i := 5) (zd (i := .iload 5) (n := 2) (by decide +kernel)) <|
    z_if_eq (off := 7) (tgt := 35) (zd (i := .ifCond .eq (7)) (n := 3) (by decide +kernel)) (by decide +kernel) (zj (hj 3) (by decide +kernel)) z_fail
noncomputable def b_X4_loans_3 : zBl := fun jp K => oInt 2147483648 <| jp 4
theorem s_X4_loans_3 (d : Nat) : zPb l G gh (d + 1) n_X4_loans p_X4_loans 35 b_X4_loans_3 := fun K jp hj =>
    z_iconst (n := 0) (zd (i := .iconst (0)) (n := 1) (by decide +kernel)) (by decide +kernel) <|
    (zj (hj 4) (by decide +kernel))
noncomputable def b_X4_loans_4 : zBl := fun jp K => oB2 zadd <| oIst 1 <| oInc 4 2147483649 <| jp 1
theorem s_X4_loans_4 (d : Nat) : zPb l G gh (d + 1) n_X4_loans p_X4_loans 36 b_X4_loans_4 := fun K jp hj =>
    z_iadd (zd (i := .iadd) (n := 1) (by decide +kernel)) <|
    z_istore_n (n := 1) (i := 1) (zd (i := .istore_n 1) (n := 1) (by decide +kernel)) rfl (by decide +kernel) <|
    z_iinc (i := 4) (n := 1) (zd (i := .iinc 4 (1)) (n := 3) (by decide +kernel)) (by decide +kernel) (by decide +kernel) <|
    z_goto (off := -28) (tgt := 13) (zd (i := .goto (-28)) (n := 3) (by decide +kernel)) (by decide +kernel) (zj (hj 1) (by decide +kernel))
noncomputable def b_X4_loans_5 : zBl := fun jp K => oIld 1 <| oIret K
theorem s_X4_loans_5 (d : Nat) : zPb l G gh (d + 1) n_X4_loans p_X4_loans 44 b_X4_loans_5 := fun K jp hj =>
    z_iload_n (n := 1) (i := 1) (zd (i := .iload_n 1) (n := 1) (by decide +kernel)) rfl <|
    z_iret (zd (i := .ireturn) (n := 1) (by decide +kernel)) rfl
noncomputable def f_X4_loans : zMt := zmet 6 [b_X4_loans_0, b_X4_loans_1, b_X4_loans_2, b_X4_loans_3, b_X4_loans_4, b_X4_loans_5]
theorem c_X4_loans (d : Nat) : zC l G gh (d + 1) n_X4_loans f_X4_loans := zmet_ok (pcs := p_X4_loans) (by decide) rfl rfl ⟨s_X4_loans_0 d, s_X4_loans_1 d, s_X4_loans_2 d, s_X4_loans_3 d, s_X4_loans_4 d, s_X4_loans_5 d, trivial⟩
def n_X8_sum : qMn := (yX8_sum, cX8_sum, 6, (some Jvm.ClassFile.FieldType.int), 0, 0)
theorem to_X8_sum : qTo n_X8_sum 1 := ⟨g1098, g97, ⟨by decide, by decide, by decide +kernel⟩, by decide⟩
def p_X8_sum : List Nat := [0, 10, 16, 33]
noncomputable def b_X8_sum_0 : zBl := fun jp K => oInt 2147483648 <| oIst 1 <| oAld 0 <| oAst 2 <| oAld 2 <| oAlen <| oIst 3 <| oInt 2147483648 <| oIst 4 <| jp 1
theorem s_X8_sum_0 (d : Nat) : zPb l G gh (d + 1) n_X8_sum p_X8_sum 0 b_X8_sum_0 := fun K jp hj =>
    z_iconst (n := 0) (zd (i := .iconst (0)) (n := 1) (by decide +kernel)) (by decide +kernel) <|
    z_istore_n (n := 1) (i := 1) (zd (i := .istore_n 1) (n := 1) (by decide +kernel)) rfl (by decide +kernel) <|
    z_aload_n (n := 0) (i := 0) (zd (i := .aload_n 0) (n := 1) (by decide +kernel)) rfl <|
    z_astore_n (n := 2) (i := 2) (zd (i := .astore_n 2) (n := 1) (by decide +kernel)) rfl (by decide +kernel) <|
    z_aload_n (n := 2) (i := 2) (zd (i := .aload_n 2) (n := 1) (by decide +kernel)) rfl <|
    z_alen (zd (i := .arraylength) (n := 1) (by decide +kernel)) <|
    z_istore_n (n := 3) (i := 3) (zd (i := .istore_n 3) (n := 1) (by decide +kernel)) rfl (by decide +kernel) <|
    z_iconst (n := 0) (zd (i := .iconst (0)) (n := 1) (by decide +kernel)) (by decide +kernel) <|
    z_istore (i := 4) (zd (i := .istore 4) (n := 2) (by decide +kernel)) (by decide +kernel) <|
    (zj (hj 1) (by decide +kernel))
noncomputable def b_X8_sum_1 : zBl := fun jp K => oIld 4 <| oIld 3 <| oIc zge zlt (jp 3) (jp 2)
theorem s_X8_sum_1 (d : Nat) : zPb l G gh (d + 1) n_X8_sum p_X8_sum 10 b_X8_sum_1 := fun K jp hj =>
    z_iload (i := 4) (zd (i := .iload 4) (n := 2) (by decide +kernel)) <|
    z_iload_n (n := 3) (i := 3) (zd (i := .iload_n 3) (n := 1) (by decide +kernel)) rfl <|
    z_icmp_ge (off := 20) (tgt := 33) (zd (i := .if_icmp .ge (20)) (n := 3) (by decide +kernel)) (by decide +kernel) (zj (hj 3) (by decide +kernel)) (zj (hj 2) (by decide +kernel))
noncomputable def b_X8_sum_2 : zBl := fun jp K => oAld 2 <| oIld 4 <| oXald 10 <| oIst 5 <| oIld 1 <| oIld 5 <| oB2 zadd <| oIst 1 <| oInc 4 2147483649 <| jp 1
theorem s_X8_sum_2 (d : Nat) : zPb l G gh (d + 1) n_X8_sum p_X8_sum 16 b_X8_sum_2 := fun K jp hj =>
    z_aload_n (n := 2) (i := 2) (zd (i := .aload_n 2) (n := 1) (by decide +kernel)) rfl <|
    z_iload (i := 4) (zd (i := .iload 4) (n := 2) (by decide +kernel)) <|
    z_iald (zd (i := .iaload) (n := 1) (by decide +kernel)) <|
    z_istore (i := 5) (zd (i := .istore 5) (n := 2) (by decide +kernel)) (by decide +kernel) <|
    z_iload_n (n := 1) (i := 1) (zd (i := .iload_n 1) (n := 1) (by decide +kernel)) rfl <|
    z_iload (i := 5) (zd (i := .iload 5) (n := 2) (by decide +kernel)) <|
    z_iadd (zd (i := .iadd) (n := 1) (by decide +kernel)) <|
    z_istore_n (n := 1) (i := 1) (zd (i := .istore_n 1) (n := 1) (by decide +kernel)) rfl (by decide +kernel) <|
    z_iinc (i := 4) (n := 1) (zd (i := .iinc 4 (1)) (n := 3) (by decide +kernel)) (by decide +kernel) (by decide +kernel) <|
    z_goto (off := -20) (tgt := 10) (zd (i := .goto (-20)) (n := 3) (by decide +kernel)) (by decide +kernel) (zj (hj 1) (by decide +kernel))
noncomputable def b_X8_sum_3 : zBl := fun jp K => oIld 1 <| oIret K
theorem s_X8_sum_3 (d : Nat) : zPb l G gh (d + 1) n_X8_sum p_X8_sum 33 b_X8_sum_3 := fun K jp hj =>
    z_iload_n (n := 1) (i := 1) (zd (i := .iload_n 1) (n := 1) (by decide +kernel)) rfl <|
    z_iret (zd (i := .ireturn) (n := 1) (by decide +kernel)) rfl
noncomputable def f_X8_sum : zMt := zmet 6 [b_X8_sum_0, b_X8_sum_1, b_X8_sum_2, b_X8_sum_3]
theorem c_X8_sum (d : Nat) : zC l G gh (d + 1) n_X8_sum f_X8_sum := zmet_ok (pcs := p_X8_sum) (by decide) rfl rfl ⟨s_X8_sum_0 d, s_X8_sum_1 d, s_X8_sum_2 d, s_X8_sum_3 d, trivial⟩
def n_X8_heldSlots : qMn := (yX8_heldSlots, cX8_heldSlots, 3, (some Jvm.ClassFile.FieldType.int), 0, 0)
theorem to_X8_heldSlots : qTo n_X8_heldSlots 0 := ⟨g1102, g97, ⟨by decide, by decide, by decide +kernel⟩, by decide⟩
def p_X8_heldSlots : List Nat := [0, 4, 9, 23, 24, 32]
noncomputable def b_X8_heldSlots_0 : zBl := fun jp K => oInt 2147483648 <| oIst 1 <| oInt 2147483648 <| oIst 2 <| jp 1
theorem s_X8_heldSlots_0 (d : Nat) : zPb l G gh (d + 1) n_X8_heldSlots p_X8_heldSlots 0 b_X8_heldSlots_0 := fun K jp hj =>
    z_iconst (n := 0) (zd (i := .iconst (0)) (n := 1) (by decide +kernel)) (by decide +kernel) <|
    z_istore_n (n := 1) (i := 1) (zd (i := .istore_n 1) (n := 1) (by decide +kernel)) rfl (by decide +kernel) <|
    z_iconst (n := 0) (zd (i := .iconst (0)) (n := 1) (by decide +kernel)) (by decide +kernel) <|
    z_istore_n (n := 2) (i := 2) (zd (i := .istore_n 2) (n := 1) (by decide +kernel)) rfl (by decide +kernel) <|
    (zj (hj 1) (by decide +kernel))
noncomputable def b_X8_heldSlots_1 : zBl := fun jp K => oIld 2 <| oInt 2147483651 <| oIc zge zlt (jp 5) (jp 2)
theorem s_X8_heldSlots_1 (d : Nat) : zPb l G gh (d + 1) n_X8_heldSlots p_X8_heldSlots 4 b_X8_heldSlots_1 := fun K jp hj =>
    z_iload_n (n := 2) (i := 2) (zd (i := .iload_n 2) (n := 1) (by decide +kernel)) rfl <|
    z_iconst (n := 3) (zd (i := .iconst (3)) (n := 1) (by decide +kernel)) (by decide +kernel) <|
    z_icmp_ge (off := 26) (tgt := 32) (zd (i := .if_icmp .ge (26)) (n := 3) (by decide +kernel)) (by decide +kernel) (zj (hj 5) (by decide +kernel)) (zj (hj 2) (by decide +kernel))
noncomputable def b_X8_heldSlots_2 : zBl := fun jp K => oIld 1 <| oAld 0 <| oGetR 8 6 <| oIld 2 <| oXald 12 <| oIf zeq zne (jp 3) (oFail)
theorem s_X8_heldSlots_2 (d : Nat) : zPb l G gh (d + 1) n_X8_heldSlots p_X8_heldSlots 9 b_X8_heldSlots_2 := fun K jp hj =>
    z_iload_n (n := 1) (i := 1) (zd (i := .iload_n 1) (n := 1) (by decide +kernel)) rfl <|
    z_aload_n (n := 0) (i := 0) (zd (i := .aload_n 0) (n := 1) (by decide +kernel)) rfl <|
    z_getR (ci := 8) (j := 6) (idx := 44) (zd (i := .getfield 44) (n := 3) (by decide +kernel)) (by decide +kernel) (by decide +kernel) rfl g458 <|
    z_iload_n (n := 2) (i := 2) (zd (i := .iload_n 2) (n := 1) (by decide +kernel)) rfl <|
    z_zald (zd (i := .baload) (n := 1) (by decide +kernel)) <|
    z_if_eq (off := 7) (tgt := 23) (zd (i := .ifCond .eq (7)) (n := 3) (by decide +kernel)) (by decide +kernel) (zj (hj 3) (by decide +kernel)) z_fail
noncomputable def b_X8_heldSlots_3 : zBl := fun jp K => oInt 2147483648 <| jp 4
theorem s_X8_heldSlots_3 (d : Nat) : zPb l G gh (d + 1) n_X8_heldSlots p_X8_heldSlots 23 b_X8_heldSlots_3 := fun K jp hj =>
    z_iconst (n := 0) (zd (i := .iconst (0)) (n := 1) (by decide +kernel)) (by decide +kernel) <|
    (zj (hj 4) (by decide +kernel))
noncomputable def b_X8_heldSlots_4 : zBl := fun jp K => oB2 zadd <| oIst 1 <| oInc 2 2147483649 <| jp 1
theorem s_X8_heldSlots_4 (d : Nat) : zPb l G gh (d + 1) n_X8_heldSlots p_X8_heldSlots 24 b_X8_heldSlots_4 := fun K jp hj =>
    z_iadd (zd (i := .iadd) (n := 1) (by decide +kernel)) <|
    z_istore_n (n := 1) (i := 1) (zd (i := .istore_n 1) (n := 1) (by decide +kernel)) rfl (by decide +kernel) <|
    z_iinc (i := 2) (n := 1) (zd (i := .iinc 2 (1)) (n := 3) (by decide +kernel)) (by decide +kernel) (by decide +kernel) <|
    z_goto (off := -25) (tgt := 4) (zd (i := .goto (-25)) (n := 3) (by decide +kernel)) (by decide +kernel) (zj (hj 1) (by decide +kernel))
noncomputable def b_X8_heldSlots_5 : zBl := fun jp K => oIld 1 <| oIret K
theorem s_X8_heldSlots_5 (d : Nat) : zPb l G gh (d + 1) n_X8_heldSlots p_X8_heldSlots 32 b_X8_heldSlots_5 := fun K jp hj =>
    z_iload_n (n := 1) (i := 1) (zd (i := .iload_n 1) (n := 1) (by decide +kernel)) rfl <|
    z_iret (zd (i := .ireturn) (n := 1) (by decide +kernel)) rfl
noncomputable def f_X8_heldSlots : zMt := zmet 3 [b_X8_heldSlots_0, b_X8_heldSlots_1, b_X8_heldSlots_2, b_X8_heldSlots_3, b_X8_heldSlots_4, b_X8_heldSlots_5]
theorem c_X8_heldSlots (d : Nat) : zC l G gh (d + 1) n_X8_heldSlots f_X8_heldSlots := zmet_ok (pcs := p_X8_heldSlots) (by decide) rfl rfl ⟨s_X8_heldSlots_0 d, s_X8_heldSlots_1 d, s_X8_heldSlots_2 d, s_X8_heldSlots_3 d, s_X8_heldSlots_4 d, s_X8_heldSlots_5 d, trivial⟩
def n_X8_count : qMn := (yX8_count, cX8_count, 2, (some Jvm.ClassFile.FieldType.int), 0, 0)
theorem to_X8_count : qTo n_X8_count 1 := ⟨g1091, g97, ⟨by decide, by decide, by decide +kernel⟩, by decide⟩
def p_X8_count : List Nat := [0, 84, 92, 100, 108, 119, 130, 138, 149, 160, 171, 179, 187, 195, 200, 231, 232, 233, 244, 259, 271]
noncomputable def b_X8_count_0 : zBl := fun jp K => oIld 1 <| oTab 2147483648 [jp 1, jp 2, jp 3, jp 4, jp 5, jp 6, jp 7, jp 8, jp 9, jp 10, jp 11, jp 12, jp 13, jp 14, jp 17, jp 18, jp 19] (jp 20)
theorem s_X8_count_0 (d : Nat) : zPb l G gh (d + 6) n_X8_count p_X8_count 0 b_X8_count_0 := fun K jp hj =>
    z_iload_n (n := 1) (i := 1) (zd (i := .iload_n 1) (n := 1) (by decide +kernel)) rfl <|
    z_table (v := 2147483648) (df := 271) (len := 83) (x := 0) (dflt := 270) (lo := 0) (hi := 16) (offs := #[83, 91, 99, 107, 118, 129, 137, 148, 159, 170, 178, 186, 194, 199, 232, 243, 258]) (tgts := [84, 92, 100, 108, 119, 130, 138, 149, 160, 171, 179, 187, 195, 200, 233, 244, 259]) (zd (i := .tableswitch (270) (0) (16) #[83, 91, 99, 107, 118, 129, 137, 148, 159, 170, 178, 186, 194, 199, 232, 243, 258]) (n := 83) (by decide +kernel)) (by decide +kernel) rfl rfl (by decide +kernel) (by decide +kernel) (by decide +kernel) ⟨(zj (hj 1) (by decide +kernel)), (zj (hj 2) (by decide +kernel)), (zj (hj 3) (by decide +kernel)), (zj (hj 4) (by decide +kernel)), (zj (hj 5) (by decide +kernel)), (zj (hj 6) (by decide +kernel)), (zj (hj 7) (by decide +kernel)), (zj (hj 8) (by decide +kernel)), (zj (hj 9) (by decide +kernel)), (zj (hj 10) (by decide +kernel)), (zj (hj 11) (by decide +kernel)), (zj (hj 12) (by decide +kernel)), (zj (hj 13) (by decide +kernel)), (zj (hj 14) (by decide +kernel)), (zj (hj 17) (by decide +kernel)), (zj (hj 18) (by decide +kernel)), (zj (hj 19) (by decide +kernel)), trivial⟩ (zj (hj 20) (by decide +kernel))
noncomputable def b_X8_count_1 : zBl := fun jp K => oAld 0 <| oGetR 8 12 <| oGetI 0 2 <| oIret K
theorem s_X8_count_1 (d : Nat) : zPb l G gh (d + 6) n_X8_count p_X8_count 84 b_X8_count_1 := fun K jp hj =>
    z_aload_n (n := 0) (i := 0) (zd (i := .aload_n 0) (n := 1) (by decide +kernel)) rfl <|
    z_getR (ci := 8) (j := 12) (idx := 71) (zd (i := .getfield 71) (n := 3) (by decide +kernel)) (by decide +kernel) (by decide +kernel) rfl g464 <|
    z_getI (ci := 0) (j := 2) (idx := 236) (zd (i := .getfield 236) (n := 3) (by decide +kernel)) (by decide +kernel) (by decide +kernel) rfl g280 <|
    z_iret (zd (i := .ireturn) (n := 1) (by decide +kernel)) rfl
noncomputable def b_X8_count_2 : zBl := fun jp K => oAld 0 <| oGetR 8 12 <| oGetI 0 5 <| oIret K
theorem s_X8_count_2 (d : Nat) : zPb l G gh (d + 6) n_X8_count p_X8_count 92 b_X8_count_2 := fun K jp hj =>
    z_aload_n (n := 0) (i := 0) (zd (i := .aload_n 0) (n := 1) (by decide +kernel)) rfl <|
    z_getR (ci := 8) (j := 12) (idx := 71) (zd (i := .getfield 71) (n := 3) (by decide +kernel)) (by decide +kernel) (by decide +kernel) rfl g464 <|
    z_getI (ci := 0) (j := 5) (idx := 230) (zd (i := .getfield 230) (n := 3) (by decide +kernel)) (by decide +kernel) (by decide +kernel) rfl g288 <|
    z_iret (zd (i := .ireturn) (n := 1) (by decide +kernel)) rfl
noncomputable def b_X8_count_3 : zBl := fun jp K => oAld 0 <| oGetR 8 2 <| oGetI 4 0 <| oIret K
theorem s_X8_count_3 (d : Nat) : zPb l G gh (d + 6) n_X8_count p_X8_count 100 b_X8_count_3 := fun K jp hj =>
    z_aload_n (n := 0) (i := 0) (zd (i := .aload_n 0) (n := 1) (by decide +kernel)) rfl <|
    z_getR (ci := 8) (j := 2) (idx := 26) (zd (i := .getfield 26) (n := 3) (by decide +kernel)) (by decide +kernel) (by decide +kernel) rfl g454 <|
    z_getI (ci := 4) (j := 0) (idx := 140) (zd (i := .getfield 140) (n := 3) (by decide +kernel)) (by decide +kernel) (by decide +kernel) rfl g368 <|
    z_iret (zd (i := .ireturn) (n := 1) (by decide +kernel)) rfl
noncomputable def b_X8_count_4 : zBl := fun jp K => oAld 0 <| oGetR 8 2 <| oGetI 4 0 <| oInt 2147483672 <| oB2z zirem <| oIret K
theorem s_X8_count_4 (d : Nat) : zPb l G gh (d + 6) n_X8_count p_X8_count 108 b_X8_count_4 := fun K jp hj =>
    z_aload_n (n := 0) (i := 0) (zd (i := .aload_n 0) (n := 1) (by decide +kernel)) rfl <|
    z_getR (ci := 8) (j := 2) (idx := 26) (zd (i := .getfield 26) (n := 3) (by decide +kernel)) (by decide +kernel) (by decide +kernel) rfl g454 <|
    z_getI (ci := 4) (j := 0) (idx := 140) (zd (i := .getfield 140) (n := 3) (by decide +kernel)) (by decide +kernel) (by decide +kernel) rfl g368 <|
    z_bipush (n := 24) (zd (i := .bipush (24)) (n := 2) (by decide +kernel)) (by decide +kernel) <|
    z_irem (zd (i := .irem) (n := 1) (by decide +kernel)) <|
    z_iret (zd (i := .ireturn) (n := 1) (by decide +kernel)) rfl
noncomputable def b_X8_count_5 : zBl := fun jp K => oAld 0 <| oGetR 8 2 <| oGetI 4 0 <| oInt 2147483672 <| oB2z zidiv <| oIret K
theorem s_X8_count_5 (d : Nat) : zPb l G gh (d + 6) n_X8_count p_X8_count 119 b_X8_count_5 := fun K jp hj =>
    z_aload_n (n := 0) (i := 0) (zd (i := .aload_n 0) (n := 1) (by decide +kernel)) rfl <|
    z_getR (ci := 8) (j := 2) (idx := 26) (zd (i := .getfield 26) (n := 3) (by decide +kernel)) (by decide +kernel) (by decide +kernel) rfl g454 <|
    z_getI (ci := 4) (j := 0) (idx := 140) (zd (i := .getfield 140) (n := 3) (by decide +kernel)) (by decide +kernel) (by decide +kernel) rfl g368 <|
    z_bipush (n := 24) (zd (i := .bipush (24)) (n := 2) (by decide +kernel)) (by decide +kernel) <|
    z_idiv (zd (i := .idiv) (n := 1) (by decide +kernel)) <|
    z_iret (zd (i := .ireturn) (n := 1) (by decide +kernel)) rfl
noncomputable def b_X8_count_6 : zBl := fun jp K => oAld 0 <| oGetR 8 2 <| oCv 4 0 f_X4_loans <| oIret K
theorem s_X8_count_6 (d : Nat) : zPb l G gh (d + 6) n_X8_count p_X8_count 130 b_X8_count_6 := fun K jp hj =>
    z_aload_n (n := 0) (i := 0) (zd (i := .aload_n 0) (n := 1) (by decide +kernel)) rfl <|
    z_getR (ci := 8) (j := 2) (idx := 26) (zd (i := .getfield 26) (n := 3) (by decide +kernel)) (by decide +kernel) (by decide +kernel) rfl g454 <|
    z_callV (idx := 314) (ci := 4) (N := n_X4_loans) (zd (i := .invokevirtual 314) (n := 3) (by decide +kernel)) to_X4_loans g1092 g1093 g1094 (by decide +kernel) rfl rfl rfl (c_X4_loans (l := l) (G := G) (gh := gh) (d + 4)) <|
    z_iret (zd (i := .ireturn) (n := 1) (by decide +kernel)) rfl
noncomputable def b_X8_count_7 : zBl := fun jp K => oAld 0 <| oGetR 8 2 <| oGetR 4 5 <| oCs 1 f_X8_sum <| oIret K
theorem s_X8_count_7 (d : Nat) : zPb l G gh (d + 6) n_X8_count p_X8_count 138 b_X8_count_7 := fun K jp hj =>
    z_aload_n (n := 0) (i := 0) (zd (i := .aload_n 0) (n := 1) (by decide +kernel)) rfl <|
    z_getR (ci := 8) (j := 2) (idx := 26) (zd (i := .getfield 26) (n := 3) (by decide +kernel)) (by decide +kernel) (by decide +kernel) rfl g454 <|
    z_getR (ci := 4) (j := 5) (idx := 169) (zd (i := .getfield 169) (n := 3) (by decide +kernel)) (by decide +kernel) (by decide +kernel) rfl g383 <|
    z_callS (idx := 318) (N := n_X8_sum) (zd (i := .invokestatic 318) (n := 3) (by decide +kernel)) to_X8_sum g1096 g1097 rfl rfl (c_X8_sum (l := l) (G := G) (gh := gh) (d + 4)) <|
    z_iret (zd (i := .ireturn) (n := 1) (by decide +kernel)) rfl
noncomputable def b_X8_count_8 : zBl := fun jp K => oAld 0 <| oGetR 8 2 <| oGetR 4 2 <| oCs 1 f_X8_sum <| oIret K
theorem s_X8_count_8 (d : Nat) : zPb l G gh (d + 6) n_X8_count p_X8_count 149 b_X8_count_8 := fun K jp hj =>
    z_aload_n (n := 0) (i := 0) (zd (i := .aload_n 0) (n := 1) (by decide +kernel)) rfl <|
    z_getR (ci := 8) (j := 2) (idx := 26) (zd (i := .getfield 26) (n := 3) (by decide +kernel)) (by decide +kernel) (by decide +kernel) rfl g454 <|
    z_getR (ci := 4) (j := 2) (idx := 137) (zd (i := .getfield 137) (n := 3) (by decide +kernel)) (by decide +kernel) (by decide +kernel) rfl g374 <|
    z_callS (idx := 318) (N := n_X8_sum) (zd (i := .invokestatic 318) (n := 3) (by decide +kernel)) to_X8_sum g1096 g1097 rfl rfl (c_X8_sum (l := l) (G := G) (gh := gh) (d + 4)) <|
    z_iret (zd (i := .ireturn) (n := 1) (by decide +kernel)) rfl
noncomputable def b_X8_count_9 : zBl := fun jp K => oAld 0 <| oGetR 8 2 <| oGetR 4 3 <| oCs 1 f_X8_sum <| oIret K
theorem s_X8_count_9 (d : Nat) : zPb l G gh (d + 6) n_X8_count p_X8_count 160 b_X8_count_9 := fun K jp hj =>
    z_aload_n (n := 0) (i := 0) (zd (i := .aload_n 0) (n := 1) (by decide +kernel)) rfl <|
    z_getR (ci := 8) (j := 2) (idx := 26) (zd (i := .getfield 26) (n := 3) (by decide +kernel)) (by decide +kernel) (by decide +kernel) rfl g454 <|
    z_getR (ci := 4) (j := 3) (idx := 156) (zd (i := .getfield 156) (n := 3) (by decide +kernel)) (by decide +kernel) (by decide +kernel) rfl g377 <|
    z_callS (idx := 318) (N := n_X8_sum) (zd (i := .invokestatic 318) (n := 3) (by decide +kernel)) to_X8_sum g1096 g1097 rfl rfl (c_X8_sum (l := l) (G := G) (gh := gh) (d + 4)) <|
    z_iret (zd (i := .ireturn) (n := 1) (by decide +kernel)) rfl
noncomputable def b_X8_count_10 : zBl := fun jp K => oAld 0 <| oGetR 8 0 <| oGetI 5 1 <| oIret K
theorem s_X8_count_10 (d : Nat) : zPb l G gh (d + 6) n_X8_count p_X8_count 171 b_X8_count_10 := fun K jp hj =>
    z_aload_n (n := 0) (i := 0) (zd (i := .aload_n 0) (n := 1) (by decide +kernel)) rfl <|
    z_getR (ci := 8) (j := 0) (idx := 12) (zd (i := .getfield 12) (n := 3) (by decide +kernel)) (by decide +kernel) (by decide +kernel) rfl g452 <|
    z_getI (ci := 5) (j := 1) (idx := 87) (zd (i := .getfield 87) (n := 3) (by decide +kernel)) (by decide +kernel) (by decide +kernel) rfl g131 <|
    z_iret (zd (i := .ireturn) (n := 1) (by decide +kernel)) rfl
noncomputable def b_X8_count_11 : zBl := fun jp K => oAld 0 <| oGetR 8 4 <| oGetI 3 2 <| oIret K
theorem s_X8_count_11 (d : Nat) : zPb l G gh (d + 6) n_X8_count p_X8_count 179 b_X8_count_11 := fun K jp hj =>
    z_aload_n (n := 0) (i := 0) (zd (i := .aload_n 0) (n := 1) (by decide +kernel)) rfl <|
    z_getR (ci := 8) (j := 4) (idx := 36) (zd (i := .getfield 36) (n := 3) (by decide +kernel)) (by decide +kernel) (by decide +kernel) rfl g456 <|
    z_getI (ci := 3) (j := 2) (idx := 322) (zd (i := .getfield 322) (n := 3) (by decide +kernel)) (by decide +kernel) (by decide +kernel) rfl g415 <|
    z_iret (zd (i := .ireturn) (n := 1) (by decide +kernel)) rfl
noncomputable def b_X8_count_12 : zBl := fun jp K => oAld 0 <| oGetR 8 7 <| oGetI 7 0 <| oIret K
theorem s_X8_count_12 (d : Nat) : zPb l G gh (d + 6) n_X8_count p_X8_count 187 b_X8_count_12 := fun K jp hj =>
    z_aload_n (n := 0) (i := 0) (zd (i := .aload_n 0) (n := 1) (by decide +kernel)) rfl <|
    z_getR (ci := 8) (j := 7) (idx := 51) (zd (i := .getfield 51) (n := 3) (by decide +kernel)) (by decide +kernel) (by decide +kernel) rfl g459 <|
    z_getI (ci := 7) (j := 0) (idx := 114) (zd (i := .getfield 114) (n := 3) (by decide +kernel)) (by decide +kernel) (by decide +kernel) rfl g430 <|
    z_iret (zd (i := .ireturn) (n := 1) (by decide +kernel)) rfl
noncomputable def b_X8_count_13 : zBl := fun jp K => oAld 0 <| oCv 8 0 f_X8_heldSlots <| oIret K
theorem s_X8_count_13 (d : Nat) : zPb l G gh (d + 6) n_X8_count p_X8_count 195 b_X8_count_13 := fun K jp hj =>
    z_aload_n (n := 0) (i := 0) (zd (i := .aload_n 0) (n := 1) (by decide +kernel)) rfl <|
    z_callV (idx := 323) (ci := 8) (N := n_X8_heldSlots) (zd (i := .invokevirtual 323) (n := 3) (by decide +kernel)) to_X8_heldSlots g1099 g1101 g40 (by decide +kernel) rfl rfl rfl (c_X8_heldSlots (l := l) (G := G) (gh := gh) (d + 4)) <|
    z_iret (zd (i := .ireturn) (n := 1) (by decide +kernel)) rfl
noncomputable def b_X8_count_14 : zBl := fun jp K => oAld 0 <| oGetR 8 2 <| oGetI 4 0 <| oAld 0 <| oGetR 8 12 <| oGetI 0 11 <| oAld 0 <| oGetR 8 12 <| oGetI 0 9 <| oCs 3 f_X0_isWind <| oIf zeq zne (jp 15) (oFail)
theorem s_X8_count_14 (d : Nat) : zPb l G gh (d + 6) n_X8_count p_X8_count 200 b_X8_count_14 := fun K jp hj =>
    z_aload_n (n := 0) (i := 0) (zd (i := .aload_n 0) (n := 1) (by decide +kernel)) rfl <|
    z_getR (ci := 8) (j := 2) (idx := 26) (zd (i := .getfield 26) (n := 3) (by decide +kernel)) (by decide +kernel) (by decide +kernel) rfl g454 <|
    z_getI (ci := 4) (j := 0) (idx := 140) (zd (i := .getfield 140) (n := 3) (by decide +kernel)) (by decide +kernel) (by decide +kernel) rfl g368 <|
    z_aload_n (n := 0) (i := 0) (zd (i := .aload_n 0) (n := 1) (by decide +kernel)) rfl <|
    z_getR (ci := 8) (j := 12) (idx := 71) (zd (i := .getfield 71) (n := 3) (by decide +kernel)) (by decide +kernel) (by decide +kernel) rfl g464 <|
    z_getI (ci := 0) (j := 11) (idx := 210) (zd (i := .getfield 210) (n := 3) (by decide +kernel)) (by decide +kernel) (by decide +kernel) rfl g303 <|
    z_aload_n (n := 0) (i := 0) (zd (i := .aload_n 0) (n := 1) (by decide +kernel)) rfl <|
    z_getR (ci := 8) (j := 12) (idx := 71) (zd (i := .getfield 71) (n := 3) (by decide +kernel)) (by decide +kernel) (by decide +kernel) rfl g464 <|
    z_getI (ci := 0) (j := 9) (idx := 213) (zd (i := .getfield 213) (n := 3) (by decide +kernel)) (by decide +kernel) (by decide +kernel) rfl g297 <|
    z_callS (idx := 326) (N := n_X0_isWind) (zd (i := .invokestatic 326) (n := 3) (by decide +kernel)) to_X0_isWind g1103 g871 rfl rfl (c_X0_isWind (l := l) (G := G) (gh := gh) (d + 2)) <|
    z_if_eq (off := 7) (tgt := 231) (zd (i := .ifCond .eq (7)) (n := 3) (by decide +kernel)) (by decide +kernel) (zj (hj 15) (by decide +kernel)) z_fail
noncomputable def b_X8_count_15 : zBl := fun jp K => oInt 2147483648 <| jp 16
theorem s_X8_count_15 (d : Nat) : zPb l G gh (d + 6) n_X8_count p_X8_count 231 b_X8_count_15 := fun K jp hj =>
    z_iconst (n := 0) (zd (i := .iconst (0)) (n := 1) (by decide +kernel)) (by decide +kernel) <|
    (zj (hj 16) (by decide +kernel))
noncomputable def b_X8_count_16 : zBl := fun jp K => oIret K
theorem s_X8_count_16 (d : Nat) : zPb l G gh (d + 6) n_X8_count p_X8_count 232 b_X8_count_16 := fun K jp hj =>
    z_iret (zd (i := .ireturn) (n := 1) (by decide +kernel)) rfl
noncomputable def b_X8_count_17 : zBl := fun jp K => oAld 0 <| oGetR 8 2 <| oGetR 4 4 <| oCs 1 f_X8_sum <| oIret K
theorem s_X8_count_17 (d : Nat) : zPb l G gh (d + 6) n_X8_count p_X8_count 233 b_X8_count_17 := fun K jp hj =>
    z_aload_n (n := 0) (i := 0) (zd (i := .aload_n 0) (n := 1) (by decide +kernel)) rfl <|
    z_getR (ci := 8) (j := 2) (idx := 26) (zd (i := .getfield 26) (n := 3) (by decide +kernel)) (by decide +kernel) (by decide +kernel) rfl g454 <|
    z_getR (ci := 4) (j := 4) (idx := 159) (zd (i := .getfield 159) (n := 3) (by decide +kernel)) (by decide +kernel) (by decide +kernel) rfl g380 <|
    z_callS (idx := 318) (N := n_X8_sum) (zd (i := .invokestatic 318) (n := 3) (by decide +kernel)) to_X8_sum g1096 g1097 rfl rfl (c_X8_sum (l := l) (G := G) (gh := gh) (d + 4)) <|
    z_iret (zd (i := .ireturn) (n := 1) (by decide +kernel)) rfl
noncomputable def b_X8_count_18 : zBl := fun jp K => oAld 0 <| oGetR 8 12 <| oAld 0 <| oGetR 8 2 <| oGetI 4 0 <| oCv 0 1 f_X0_heat <| oIret K
theorem s_X8_count_18 (d : Nat) : zPb l G gh (d + 6) n_X8_count p_X8_count 244 b_X8_count_18 := fun K jp hj =>
    z_aload_n (n := 0) (i := 0) (zd (i := .aload_n 0) (n := 1) (by decide +kernel)) rfl <|
    z_getR (ci := 8) (j := 12) (idx := 71) (zd (i := .getfield 71) (n := 3) (by decide +kernel)) (by decide +kernel) (by decide +kernel) rfl g464 <|
    z_aload_n (n := 0) (i := 0) (zd (i := .aload_n 0) (n := 1) (by decide +kernel)) rfl <|
    z_getR (ci := 8) (j := 2) (idx := 26) (zd (i := .getfield 26) (n := 3) (by decide +kernel)) (by decide +kernel) (by decide +kernel) rfl g454 <|
    z_getI (ci := 4) (j := 0) (idx := 140) (zd (i := .getfield 140) (n := 3) (by decide +kernel)) (by decide +kernel) (by decide +kernel) rfl g368 <|
    z_callV (idx := 143) (ci := 0) (N := n_X0_heat) (zd (i := .invokevirtual 143) (n := 3) (by decide +kernel)) to_X0_heat g716 g717 g718 (by decide +kernel) rfl rfl rfl (c_X0_heat (l := l) (G := G) (gh := gh) (d + 1)) <|
    z_iret (zd (i := .ireturn) (n := 1) (by decide +kernel)) rfl
noncomputable def b_X8_count_19 : zBl := fun jp K => oAld 0 <| oAld 0 <| oGetR 8 2 <| oGetI 4 0 <| oCv 8 1 f_X8_thingsSeen <| oIret K
theorem s_X8_count_19 (d : Nat) : zPb l G gh (d + 6) n_X8_count p_X8_count 259 b_X8_count_19 := fun K jp hj =>
    z_aload_n (n := 0) (i := 0) (zd (i := .aload_n 0) (n := 1) (by decide +kernel)) rfl <|
    z_aload_n (n := 0) (i := 0) (zd (i := .aload_n 0) (n := 1) (by decide +kernel)) rfl <|
    z_getR (ci := 8) (j := 2) (idx := 26) (zd (i := .getfield 26) (n := 3) (by decide +kernel)) (by decide +kernel) (by decide +kernel) rfl g454 <|
    z_getI (ci := 4) (j := 0) (idx := 140) (zd (i := .getfield 140) (n := 3) (by decide +kernel)) (by decide +kernel) (by decide +kernel) rfl g368 <|
    z_callV (idx := 294) (ci := 8) (N := n_X8_thingsSeen) (zd (i := .invokevirtual 294) (n := 3) (by decide +kernel)) to_X8_thingsSeen g1006 g1008 g36 (by decide +kernel) rfl rfl rfl (c_X8_thingsSeen (l := l) (G := G) (gh := gh) d) <|
    z_iret (zd (i := .ireturn) (n := 1) (by decide +kernel)) rfl
noncomputable def b_X8_count_20 : zBl := fun jp K => oInt 2147483647 <| oIret K
theorem s_X8_count_20 (d : Nat) : zPb l G gh (d + 6) n_X8_count p_X8_count 271 b_X8_count_20 := fun K jp hj =>
    z_iconst (n := -1) (zd (i := .iconst (-1)) (n := 1) (by decide +kernel)) (by decide +kernel) <|
    z_iret (zd (i := .ireturn) (n := 1) (by decide +kernel)) rfl
noncomputable def f_X8_count : zMt := zmet 2 [b_X8_count_0, b_X8_count_1, b_X8_count_2, b_X8_count_3, b_X8_count_4, b_X8_count_5, b_X8_count_6, b_X8_count_7, b_X8_count_8, b_X8_count_9, b_X8_count_10, b_X8_count_11, b_X8_count_12, b_X8_count_13, b_X8_count_14, b_X8_count_15, b_X8_count_16, b_X8_count_17, b_X8_count_18, b_X8_count_19, b_X8_count_20]
theorem c_X8_count (d : Nat) : zC l G gh (d + 6) n_X8_count f_X8_count := zmet_ok (pcs := p_X8_count) (by decide) rfl rfl ⟨s_X8_count_0 d, s_X8_count_1 d, s_X8_count_2 d, s_X8_count_3 d, s_X8_count_4 d, s_X8_count_5 d, s_X8_count_6 d, s_X8_count_7 d, s_X8_count_8 d, s_X8_count_9 d, s_X8_count_10 d, s_X8_count_11 d, s_X8_count_12 d, s_X8_count_13 d, s_X8_count_14 d, s_X8_count_15 d, s_X8_count_16 d, s_X8_count_17 d, s_X8_count_18 d, s_X8_count_19 d, s_X8_count_20 d, trivial⟩
def n_X9_sumNow : qMn := (yX9_sumNow, cX9_sumNow, 5, (some Jvm.ClassFile.FieldType.int), 0, 0)
theorem to_X9_sumNow : qTo n_X9_sumNow 2 := ⟨g1712, g110, ⟨by decide, by decide, by decide +kernel⟩, by decide⟩
def p_X9_sumNow : List Nat := [0, 5, 13, 29]
noncomputable def b_X9_sumNow_0 : zBl := fun jp K => oInt 2147483648 <| oIst 3 <| oIld 1 <| oIst 4 <| jp 1
theorem s_X9_sumNow_0 (d : Nat) : zPb l G gh (d + 1) n_X9_sumNow p_X9_sumNow 0 b_X9_sumNow_0 := fun K jp hj =>
    z_iconst (n := 0) (zd (i := .iconst (0)) (n := 1) (by decide +kernel)) (by decide +kernel) <|
    z_istore_n (n := 3) (i := 3) (zd (i := .istore_n 3) (n := 1) (by decide +kernel)) rfl (by decide +kernel) <|
    z_iload_n (n := 1) (i := 1) (zd (i := .iload_n 1) (n := 1) (by decide +kernel)) rfl <|
    z_istore (i := 4) (zd (i := .istore 4) (n := 2) (by decide +kernel)) (by decide +kernel) <|
    (zj (hj 1) (by decide +kernel))
noncomputable def b_X9_sumNow_1 : zBl := fun jp K => oIld 4 <| oIld 1 <| oIld 2 <| oB2 zadd <| oIc zge zlt (jp 3) (jp 2)
theorem s_X9_sumNow_1 (d : Nat) : zPb l G gh (d + 1) n_X9_sumNow p_X9_sumNow 5 b_X9_sumNow_1 := fun K jp hj =>
    z_iload (i := 4) (zd (i := .iload 4) (n := 2) (by decide +kernel)) <|
    z_iload_n (n := 1) (i := 1) (zd (i := .iload_n 1) (n := 1) (by decide +kernel)) rfl <|
    z_iload_n (n := 2) (i := 2) (zd (i := .iload_n 2) (n := 1) (by decide +kernel)) rfl <|
    z_iadd (zd (i := .iadd) (n := 1) (by decide +kernel)) <|
    z_icmp_ge (off := 19) (tgt := 29) (zd (i := .if_icmp .ge (19)) (n := 3) (by decide +kernel)) (by decide +kernel) (zj (hj 3) (by decide +kernel)) (zj (hj 2) (by decide +kernel))
noncomputable def b_X9_sumNow_2 : zBl := fun jp K => oIld 3 <| oAld 0 <| oGetR 9 48 <| oIld 4 <| oXald 10 <| oB2 zadd <| oIst 3 <| oInc 4 2147483649 <| jp 1
theorem s_X9_sumNow_2 (d : Nat) : zPb l G gh (d + 1) n_X9_sumNow p_X9_sumNow 13 b_X9_sumNow_2 := fun K jp hj =>
    z_iload_n (n := 3) (i := 3) (zd (i := .iload_n 3) (n := 1) (by decide +kernel)) rfl <|
    z_aload_n (n := 0) (i := 0) (zd (i := .aload_n 0) (n := 1) (by decide +kernel)) rfl <|
    z_getR (ci := 9) (j := 48) (idx := 110) (zd (i := .getfield 110) (n := 3) (by decide +kernel)) (by decide +kernel) (by decide +kernel) rfl g1176 <|
    z_iload (i := 4) (zd (i := .iload 4) (n := 2) (by decide +kernel)) <|
    z_iald (zd (i := .iaload) (n := 1) (by decide +kernel)) <|
    z_iadd (zd (i := .iadd) (n := 1) (by decide +kernel)) <|
    z_istore_n (n := 3) (i := 3) (zd (i := .istore_n 3) (n := 1) (by decide +kernel)) rfl (by decide +kernel) <|
    z_iinc (i := 4) (n := 1) (zd (i := .iinc 4 (1)) (n := 3) (by decide +kernel)) (by decide +kernel) (by decide +kernel) <|
    z_goto (off := -21) (tgt := 5) (zd (i := .goto (-21)) (n := 3) (by decide +kernel)) (by decide +kernel) (zj (hj 1) (by decide +kernel))
noncomputable def b_X9_sumNow_3 : zBl := fun jp K => oIld 3 <| oIret K
theorem s_X9_sumNow_3 (d : Nat) : zPb l G gh (d + 1) n_X9_sumNow p_X9_sumNow 29 b_X9_sumNow_3 := fun K jp hj =>
    z_iload_n (n := 3) (i := 3) (zd (i := .iload_n 3) (n := 1) (by decide +kernel)) rfl <|
    z_iret (zd (i := .ireturn) (n := 1) (by decide +kernel)) rfl
noncomputable def f_X9_sumNow : zMt := zmet 5 [b_X9_sumNow_0, b_X9_sumNow_1, b_X9_sumNow_2, b_X9_sumNow_3]
theorem c_X9_sumNow (d : Nat) : zC l G gh (d + 1) n_X9_sumNow f_X9_sumNow := zmet_ok (pcs := p_X9_sumNow) (by decide) rfl rfl ⟨s_X9_sumNow_0 d, s_X9_sumNow_1 d, s_X9_sumNow_2 d, s_X9_sumNow_3 d, trivial⟩
def n_X9_count : qMn := (yX9_count, cX9_count, 4, (some Jvm.ClassFile.FieldType.int), 0, 0)
theorem to_X9_count : qTo n_X9_count 1 := ⟨g1708, g110, ⟨by decide, by decide, by decide +kernel⟩, by decide⟩
def p_X9_count : List Nat := [0, 88, 98, 108, 116, 127, 138, 141, 147, 159, 165, 167, 176, 185, 194, 199, 204, 209, 222, 223, 236, 237, 251, 252, 254, 265, 266, 267, 276, 288, 290, 317, 319]
noncomputable def b_X9_count_0 : zBl := fun jp K => oAld 0 <| oCv 9 0 f_X9_copies <| oInt 2147483648 <| oIst 2 <| oIld 1 <| oTab 2147483648 [jp 1, jp 2, jp 3, jp 4, jp 5, jp 6, jp 11, jp 12, jp 13, jp 14, jp 15, jp 16, jp 17, jp 24, jp 27, jp 28, jp 29] (jp 32)
theorem s_X9_count_0 (d : Nat) : zPb l G gh (d + 3) n_X9_count p_X9_count 0 b_X9_count_0 := fun K jp hj =>
    z_aload_n (n := 0) (i := 0) (zd (i := .aload_n 0) (n := 1) (by decide +kernel)) rfl <|
    z_callV (idx := 375) (ci := 9) (N := n_X9_copies) (zd (i := .invokevirtual 375) (n := 3) (by decide +kernel)) to_X9_copies g1445 g1447 g67 (by decide +kernel) rfl rfl rfl (c_X9_copies (l := l) (G := G) (gh := gh) (d + 1)) <|
    z_iconst (n := 0) (zd (i := .iconst (0)) (n := 1) (by decide +kernel)) (by decide +kernel) <|
    z_istore_n (n := 2) (i := 2) (zd (i := .istore_n 2) (n := 1) (by decide +kernel)) rfl (by decide +kernel) <|
    z_iload_n (n := 1) (i := 1) (zd (i := .iload_n 1) (n := 1) (by decide +kernel)) rfl <|
    z_table (v := 2147483648) (df := 319) (len := 81) (x := 0) (dflt := 312) (lo := 0) (hi := 16) (offs := #[81, 91, 101, 109, 120, 131, 160, 169, 178, 187, 192, 197, 202, 247, 260, 269, 281]) (tgts := [88, 98, 108, 116, 127, 138, 167, 176, 185, 194, 199, 204, 209, 254, 267, 276, 288]) (zd (i := .tableswitch (312) (0) (16) #[81, 91, 101, 109, 120, 131, 160, 169, 178, 187, 192, 197, 202, 247, 260, 269, 281]) (n := 81) (by decide +kernel)) (by decide +kernel) rfl rfl (by decide +kernel) (by decide +kernel) (by decide +kernel) ⟨(zj (hj 1) (by decide +kernel)), (zj (hj 2) (by decide +kernel)), (zj (hj 3) (by decide +kernel)), (zj (hj 4) (by decide +kernel)), (zj (hj 5) (by decide +kernel)), (zj (hj 6) (by decide +kernel)), (zj (hj 11) (by decide +kernel)), (zj (hj 12) (by decide +kernel)), (zj (hj 13) (by decide +kernel)), (zj (hj 14) (by decide +kernel)), (zj (hj 15) (by decide +kernel)), (zj (hj 16) (by decide +kernel)), (zj (hj 17) (by decide +kernel)), (zj (hj 24) (by decide +kernel)), (zj (hj 27) (by decide +kernel)), (zj (hj 28) (by decide +kernel)), (zj (hj 29) (by decide +kernel)), trivial⟩ (zj (hj 32) (by decide +kernel))
noncomputable def b_X9_count_1 : zBl := fun jp K => oAld 0 <| oGetR 9 22 <| oAld 0 <| oGetI 9 18 <| oXald 10 <| oIret K
theorem s_X9_count_1 (d : Nat) : zPb l G gh (d + 3) n_X9_count p_X9_count 88 b_X9_count_1 := fun K jp hj =>
    z_aload_n (n := 0) (i := 0) (zd (i := .aload_n 0) (n := 1) (by decide +kernel)) rfl <|
    z_getR (ci := 9) (j := 22) (idx := 43) (zd (i := .getfield 43) (n := 3) (by decide +kernel)) (by decide +kernel) (by decide +kernel) rfl g1150 <|
    z_aload_n (n := 0) (i := 0) (zd (i := .aload_n 0) (n := 1) (by decide +kernel)) rfl <|
    z_getI (ci := 9) (j := 18) (idx := 230) (zd (i := .getfield 230) (n := 3) (by decide +kernel)) (by decide +kernel) (by decide +kernel) rfl g1146 <|
    z_iald (zd (i := .iaload) (n := 1) (by decide +kernel)) <|
    z_iret (zd (i := .ireturn) (n := 1) (by decide +kernel)) rfl
noncomputable def b_X9_count_2 : zBl := fun jp K => oAld 0 <| oGetR 9 25 <| oAld 0 <| oGetI 9 18 <| oXald 10 <| oIret K
theorem s_X9_count_2 (d : Nat) : zPb l G gh (d + 3) n_X9_count p_X9_count 98 b_X9_count_2 := fun K jp hj =>
    z_aload_n (n := 0) (i := 0) (zd (i := .aload_n 0) (n := 1) (by decide +kernel)) rfl <|
    z_getR (ci := 9) (j := 25) (idx := 52) (zd (i := .getfield 52) (n := 3) (by decide +kernel)) (by decide +kernel) (by decide +kernel) rfl g1153 <|
    z_aload_n (n := 0) (i := 0) (zd (i := .aload_n 0) (n := 1) (by decide +kernel)) rfl <|
    z_getI (ci := 9) (j := 18) (idx := 230) (zd (i := .getfield 230) (n := 3) (by decide +kernel)) (by decide +kernel) (by decide +kernel) rfl g1146 <|
    z_iald (zd (i := .iaload) (n := 1) (by decide +kernel)) <|
    z_iret (zd (i := .ireturn) (n := 1) (by decide +kernel)) rfl
noncomputable def b_X9_count_3 : zBl := fun jp K => oAld 0 <| oGetR 9 49 <| oInt 2147483744 <| oXald 10 <| oIret K
theorem s_X9_count_3 (d : Nat) : zPb l G gh (d + 3) n_X9_count p_X9_count 108 b_X9_count_3 := fun K jp hj =>
    z_aload_n (n := 0) (i := 0) (zd (i := .aload_n 0) (n := 1) (by decide +kernel)) rfl <|
    z_getR (ci := 9) (j := 49) (idx := 113) (zd (i := .getfield 113) (n := 3) (by decide +kernel)) (by decide +kernel) (by decide +kernel) rfl g1177 <|
    z_bipush (n := 96) (zd (i := .bipush (96)) (n := 2) (by decide +kernel)) (by decide +kernel) <|
    z_iald (zd (i := .iaload) (n := 1) (by decide +kernel)) <|
    z_iret (zd (i := .ireturn) (n := 1) (by decide +kernel)) rfl
noncomputable def b_X9_count_4 : zBl := fun jp K => oAld 0 <| oGetR 9 49 <| oInt 2147483744 <| oXald 10 <| oInt 2147483672 <| oB2z zirem <| oIret K
theorem s_X9_count_4 (d : Nat) : zPb l G gh (d + 3) n_X9_count p_X9_count 116 b_X9_count_4 := fun K jp hj =>
    z_aload_n (n := 0) (i := 0) (zd (i := .aload_n 0) (n := 1) (by decide +kernel)) rfl <|
    z_getR (ci := 9) (j := 49) (idx := 113) (zd (i := .getfield 113) (n := 3) (by decide +kernel)) (by decide +kernel) (by decide +kernel) rfl g1177 <|
    z_bipush (n := 96) (zd (i := .bipush (96)) (n := 2) (by decide +kernel)) (by decide +kernel) <|
    z_iald (zd (i := .iaload) (n := 1) (by decide +kernel)) <|
    z_bipush (n := 24) (zd (i := .bipush (24)) (n := 2) (by decide +kernel)) (by decide +kernel) <|
    z_irem (zd (i := .irem) (n := 1) (by decide +kernel)) <|
    z_iret (zd (i := .ireturn) (n := 1) (by decide +kernel)) rfl
noncomputable def b_X9_count_5 : zBl := fun jp K => oAld 0 <| oGetR 9 49 <| oInt 2147483744 <| oXald 10 <| oInt 2147483672 <| oB2z zidiv <| oIret K
theorem s_X9_count_5 (d : Nat) : zPb l G gh (d + 3) n_X9_count p_X9_count 127 b_X9_count_5 := fun K jp hj =>
    z_aload_n (n := 0) (i := 0) (zd (i := .aload_n 0) (n := 1) (by decide +kernel)) rfl <|
    z_getR (ci := 9) (j := 49) (idx := 113) (zd (i := .getfield 113) (n := 3) (by decide +kernel)) (by decide +kernel) (by decide +kernel) rfl g1177 <|
    z_bipush (n := 96) (zd (i := .bipush (96)) (n := 2) (by decide +kernel)) (by decide +kernel) <|
    z_iald (zd (i := .iaload) (n := 1) (by decide +kernel)) <|
    z_bipush (n := 24) (zd (i := .bipush (24)) (n := 2) (by decide +kernel)) (by decide +kernel) <|
    z_idiv (zd (i := .idiv) (n := 1) (by decide +kernel)) <|
    z_iret (zd (i := .ireturn) (n := 1) (by decide +kernel)) rfl
noncomputable def b_X9_count_6 : zBl := fun jp K => oInt 2147483672 <| oIst 3 <| jp 7
theorem s_X9_count_6 (d : Nat) : zPb l G gh (d + 3) n_X9_count p_X9_count 138 b_X9_count_6 := fun K jp hj =>
    z_bipush (n := 24) (zd (i := .bipush (24)) (n := 2) (by decide +kernel)) (by decide +kernel) <|
    z_istore_n (n := 3) (i := 3) (zd (i := .istore_n 3) (n := 1) (by decide +kernel)) rfl (by decide +kernel) <|
    (zj (hj 7) (by decide +kernel))
noncomputable def b_X9_count_7 : zBl := fun jp K => oIld 3 <| oInt 2147483708 <| oIc zge zlt (jp 10) (jp 8)
theorem s_X9_count_7 (d : Nat) : zPb l G gh (d + 3) n_X9_count p_X9_count 141 b_X9_count_7 := fun K jp hj =>
    z_iload_n (n := 3) (i := 3) (zd (i := .iload_n 3) (n := 1) (by decide +kernel)) rfl <|
    z_bipush (n := 60) (zd (i := .bipush (60)) (n := 2) (by decide +kernel)) (by decide +kernel) <|
    z_icmp_ge (off := 21) (tgt := 165) (zd (i := .if_icmp .ge (21)) (n := 3) (by decide +kernel)) (by decide +kernel) (zj (hj 10) (by decide +kernel)) (zj (hj 8) (by decide +kernel))
noncomputable def b_X9_count_8 : zBl := fun jp K => oAld 0 <| oGetR 9 49 <| oIld 3 <| oXald 10 <| oIf zle zgt (jp 9) (oFail)
theorem s_X9_count_8 (d : Nat) : zPb l G gh (d + 3) n_X9_count p_X9_count 147 b_X9_count_8 := fun K jp hj =>
    z_aload_n (n := 0) (i := 0) (zd (i := .aload_n 0) (n := 1) (by decide +kernel)) rfl <|
    z_getR (ci := 9) (j := 49) (idx := 113) (zd (i := .getfield 113) (n := 3) (by decide +kernel)) (by decide +kernel) (by decide +kernel) rfl g1177 <|
    z_iload_n (n := 3) (i := 3) (zd (i := .iload_n 3) (n := 1) (by decide +kernel)) rfl <|
    z_iald (zd (i := .iaload) (n := 1) (by decide +kernel)) <|
    z_if_le (off := 6) (tgt := 159) (zd (i := .ifCond .le (6)) (n := 3) (by decide +kernel)) (by decide +kernel) (zj (hj 9) (by decide +kernel)) z_fail
noncomputable def b_X9_count_9 : zBl := fun jp K => oInc 3 2147483649 <| jp 7
theorem s_X9_count_9 (d : Nat) : zPb l G gh (d + 3) n_X9_count p_X9_count 159 b_X9_count_9 := fun K jp hj =>
    z_iinc (i := 3) (n := 1) (zd (i := .iinc 3 (1)) (n := 3) (by decide +kernel)) (by decide +kernel) (by decide +kernel) <|
    z_goto (off := -21) (tgt := 141) (zd (i := .goto (-21)) (n := 3) (by decide +kernel)) (by decide +kernel) (zj (hj 7) (by decide +kernel))
noncomputable def b_X9_count_10 : zBl := fun jp K => oIld 2 <| oIret K
theorem s_X9_count_10 (d : Nat) : zPb l G gh (d + 3) n_X9_count p_X9_count 165 b_X9_count_10 := fun K jp hj =>
    z_iload_n (n := 2) (i := 2) (zd (i := .iload_n 2) (n := 1) (by decide +kernel)) rfl <|
    z_iret (zd (i := .ireturn) (n := 1) (by decide +kernel)) rfl
noncomputable def b_X9_count_11 : zBl := fun jp K => oAld 0 <| oInt 2147483672 <| oInt 2147483684 <| oCv 9 2 f_X9_sumNow <| oIret K
theorem s_X9_count_11 (d : Nat) : zPb l G gh (d + 3) n_X9_count p_X9_count 167 b_X9_count_11 := fun K jp hj =>
    z_aload_n (n := 0) (i := 0) (zd (i := .aload_n 0) (n := 1) (by decide +kernel)) rfl <|
    z_bipush (n := 24) (zd (i := .bipush (24)) (n := 2) (by decide +kernel)) (by decide +kernel) <|
    z_bipush (n := 36) (zd (i := .bipush (36)) (n := 2) (by decide +kernel)) (by decide +kernel) <|
    z_callV (idx := 431) (ci := 9) (N := n_X9_sumNow) (zd (i := .invokevirtual 431) (n := 3) (by decide +kernel)) to_X9_sumNow g1709 g1711 g95 (by decide +kernel) rfl rfl rfl (c_X9_sumNow (l := l) (G := G) (gh := gh) (d + 1)) <|
    z_iret (zd (i := .ireturn) (n := 1) (by decide +kernel)) rfl
noncomputable def b_X9_count_12 : zBl := fun jp K => oAld 0 <| oInt 2147483654 <| oInt 2147483654 <| oCv 9 2 f_X9_sumNow <| oIret K
theorem s_X9_count_12 (d : Nat) : zPb l G gh (d + 3) n_X9_count p_X9_count 176 b_X9_count_12 := fun K jp hj =>
    z_aload_n (n := 0) (i := 0) (zd (i := .aload_n 0) (n := 1) (by decide +kernel)) rfl <|
    z_bipush (n := 6) (zd (i := .bipush (6)) (n := 2) (by decide +kernel)) (by decide +kernel) <|
    z_bipush (n := 6) (zd (i := .bipush (6)) (n := 2) (by decide +kernel)) (by decide +kernel) <|
    z_callV (idx := 431) (ci := 9) (N := n_X9_sumNow) (zd (i := .invokevirtual 431) (n := 3) (by decide +kernel)) to_X9_sumNow g1709 g1711 g95 (by decide +kernel) rfl rfl rfl (c_X9_sumNow (l := l) (G := G) (gh := gh) (d + 1)) <|
    z_iret (zd (i := .ireturn) (n := 1) (by decide +kernel)) rfl
noncomputable def b_X9_count_13 : zBl := fun jp K => oAld 0 <| oInt 2147483660 <| oInt 2147483654 <| oCv 9 2 f_X9_sumNow <| oIret K
theorem s_X9_count_13 (d : Nat) : zPb l G gh (d + 3) n_X9_count p_X9_count 185 b_X9_count_13 := fun K jp hj =>
    z_aload_n (n := 0) (i := 0) (zd (i := .aload_n 0) (n := 1) (by decide +kernel)) rfl <|
    z_bipush (n := 12) (zd (i := .bipush (12)) (n := 2) (by decide +kernel)) (by decide +kernel) <|
    z_bipush (n := 6) (zd (i := .bipush (6)) (n := 2) (by decide +kernel)) (by decide +kernel) <|
    z_callV (idx := 431) (ci := 9) (N := n_X9_sumNow) (zd (i := .invokevirtual 431) (n := 3) (by decide +kernel)) to_X9_sumNow g1709 g1711 g95 (by decide +kernel) rfl rfl rfl (c_X9_sumNow (l := l) (G := G) (gh := gh) (d + 1)) <|
    z_iret (zd (i := .ireturn) (n := 1) (by decide +kernel)) rfl
noncomputable def b_X9_count_14 : zBl := fun jp K => oAld 0 <| oGetI 9 2 <| oIret K
theorem s_X9_count_14 (d : Nat) : zPb l G gh (d + 3) n_X9_count p_X9_count 194 b_X9_count_14 := fun K jp hj =>
    z_aload_n (n := 0) (i := 0) (zd (i := .aload_n 0) (n := 1) (by decide +kernel)) rfl <|
    z_getI (ci := 9) (j := 2) (idx := 167) (zd (i := .getfield 167) (n := 3) (by decide +kernel)) (by decide +kernel) (by decide +kernel) rfl g1130 <|
    z_iret (zd (i := .ireturn) (n := 1) (by decide +kernel)) rfl
noncomputable def b_X9_count_15 : zBl := fun jp K => oAld 0 <| oGetI 9 51 <| oIret K
theorem s_X9_count_15 (d : Nat) : zPb l G gh (d + 3) n_X9_count p_X9_count 199 b_X9_count_15 := fun K jp hj =>
    z_aload_n (n := 0) (i := 0) (zd (i := .aload_n 0) (n := 1) (by decide +kernel)) rfl <|
    z_getI (ci := 9) (j := 51) (idx := 248) (zd (i := .getfield 248) (n := 3) (by decide +kernel)) (by decide +kernel) (by decide +kernel) rfl g1179 <|
    z_iret (zd (i := .ireturn) (n := 1) (by decide +kernel)) rfl
noncomputable def b_X9_count_16 : zBl := fun jp K => oAld 0 <| oGetI 9 58 <| oIret K
theorem s_X9_count_16 (d : Nat) : zPb l G gh (d + 3) n_X9_count p_X9_count 204 b_X9_count_16 := fun K jp hj =>
    z_aload_n (n := 0) (i := 0) (zd (i := .aload_n 0) (n := 1) (by decide +kernel)) rfl <|
    z_getI (ci := 9) (j := 58) (idx := 251) (zd (i := .getfield 251) (n := 3) (by decide +kernel)) (by decide +kernel) (by decide +kernel) rfl g1186 <|
    z_iret (zd (i := .ireturn) (n := 1) (by decide +kernel)) rfl
noncomputable def b_X9_count_17 : zBl := fun jp K => oAld 0 <| oGetR 9 63 <| oInt 2147483648 <| oXald 12 <| oIf zeq zne (jp 18) (oFail)
theorem s_X9_count_17 (d : Nat) : zPb l G gh (d + 3) n_X9_count p_X9_count 209 b_X9_count_17 := fun K jp hj =>
    z_aload_n (n := 0) (i := 0) (zd (i := .aload_n 0) (n := 1) (by decide +kernel)) rfl <|
    z_getR (ci := 9) (j := 63) (idx := 143) (zd (i := .getfield 143) (n := 3) (by decide +kernel)) (by decide +kernel) (by decide +kernel) rfl g1191 <|
    z_iconst (n := 0) (zd (i := .iconst (0)) (n := 1) (by decide +kernel)) (by decide +kernel) <|
    z_zald (zd (i := .baload) (n := 1) (by decide +kernel)) <|
    z_if_eq (off := 7) (tgt := 222) (zd (i := .ifCond .eq (7)) (n := 3) (by decide +kernel)) (by decide +kernel) (zj (hj 18) (by decide +kernel)) z_fail
noncomputable def b_X9_count_18 : zBl := fun jp K => oInt 2147483648 <| jp 19
theorem s_X9_count_18 (d : Nat) : zPb l G gh (d + 3) n_X9_count p_X9_count 222 b_X9_count_18 := fun K jp hj =>
    z_iconst (n := 0) (zd (i := .iconst (0)) (n := 1) (by decide +kernel)) (by decide +kernel) <|
    (zj (hj 19) (by decide +kernel))
noncomputable def b_X9_count_19 : zBl := fun jp K => oAld 0 <| oGetR 9 63 <| oInt 2147483649 <| oXald 12 <| oIf zeq zne (jp 20) (oFail)
theorem s_X9_count_19 (d : Nat) : zPb l G gh (d + 3) n_X9_count p_X9_count 223 b_X9_count_19 := fun K jp hj =>
    z_aload_n (n := 0) (i := 0) (zd (i := .aload_n 0) (n := 1) (by decide +kernel)) rfl <|
    z_getR (ci := 9) (j := 63) (idx := 143) (zd (i := .getfield 143) (n := 3) (by decide +kernel)) (by decide +kernel) (by decide +kernel) rfl g1191 <|
    z_iconst (n := 1) (zd (i := .iconst (1)) (n := 1) (by decide +kernel)) (by decide +kernel) <|
    z_zald (zd (i := .baload) (n := 1) (by decide +kernel)) <|
    z_if_eq (off := 7) (tgt := 236) (zd (i := .ifCond .eq (7)) (n := 3) (by decide +kernel)) (by decide +kernel) (zj (hj 20) (by decide +kernel)) z_fail
noncomputable def b_X9_count_20 : zBl := fun jp K => oInt 2147483648 <| jp 21
theorem s_X9_count_20 (d : Nat) : zPb l G gh (d + 3) n_X9_count p_X9_count 236 b_X9_count_20 := fun K jp hj =>
    z_iconst (n := 0) (zd (i := .iconst (0)) (n := 1) (by decide +kernel)) (by decide +kernel) <|
    (zj (hj 21) (by decide +kernel))
noncomputable def b_X9_count_21 : zBl := fun jp K => oB2 zadd <| oAld 0 <| oGetR 9 63 <| oInt 2147483650 <| oXald 12 <| oIf zeq zne (jp 22) (oFail)
theorem s_X9_count_21 (d : Nat) : zPb l G gh (d + 3) n_X9_count p_X9_count 237 b_X9_count_21 := fun K jp hj =>
    z_iadd (zd (i := .iadd) (n := 1) (by decide +kernel)) <|
    z_aload_n (n := 0) (i := 0) (zd (i := .aload_n 0) (n := 1) (by decide +kernel)) rfl <|
    z_getR (ci := 9) (j := 63) (idx := 143) (zd (i := .getfield 143) (n := 3) (by decide +kernel)) (by decide +kernel) (by decide +kernel) rfl g1191 <|
    z_iconst (n := 2) (zd (i := .iconst (2)) (n := 1) (by decide +kernel)) (by decide +kernel) <|
    z_zald (zd (i := .baload) (n := 1) (by decide +kernel)) <|
    z_if_eq (off := 7) (tgt := 251) (zd (i := .ifCond .eq (7)) (n := 3) (by decide +kernel)) (by decide +kernel) (zj (hj 22) (by decide +kernel)) z_fail
noncomputable def b_X9_count_22 : zBl := fun jp K => oInt 2147483648 <| jp 23
theorem s_X9_count_22 (d : Nat) : zPb l G gh (d + 3) n_X9_count p_X9_count 251 b_X9_count_22 := fun K jp hj =>
    z_iconst (n := 0) (zd (i := .iconst (0)) (n := 1) (by decide +kernel)) (by decide +kernel) <|
    (zj (hj 23) (by decide +kernel))
noncomputable def b_X9_count_23 : zBl := fun jp K => oB2 zadd <| oIret K
theorem s_X9_count_23 (d : Nat) : zPb l G gh (d + 3) n_X9_count p_X9_count 252 b_X9_count_23 := fun K jp hj =>
    z_iadd (zd (i := .iadd) (n := 1) (by decide +kernel)) <|
    z_iret (zd (i := .ireturn) (n := 1) (by decide +kernel)) rfl
noncomputable def b_X9_count_24 : zBl := fun jp K => oAld 0 <| oCv 9 0 f_X9_isWind <| oIf zeq zne (jp 25) (oFail)
theorem s_X9_count_24 (d : Nat) : zPb l G gh (d + 3) n_X9_count p_X9_count 254 b_X9_count_24 := fun K jp hj =>
    z_aload_n (n := 0) (i := 0) (zd (i := .aload_n 0) (n := 1) (by decide +kernel)) rfl <|
    z_callV (idx := 361) (ci := 9) (N := n_X9_isWind) (zd (i := .invokevirtual 361) (n := 3) (by decide +kernel)) to_X9_isWind g1554 g1556 g84 (by decide +kernel) rfl rfl rfl (c_X9_isWind (l := l) (G := G) (gh := gh) d) <|
    z_if_eq (off := 7) (tgt := 265) (zd (i := .ifCond .eq (7)) (n := 3) (by decide +kernel)) (by decide +kernel) (zj (hj 25) (by decide +kernel)) z_fail
noncomputable def b_X9_count_25 : zBl := fun jp K => oInt 2147483648 <| jp 26
theorem s_X9_count_25 (d : Nat) : zPb l G gh (d + 3) n_X9_count p_X9_count 265 b_X9_count_25 := fun K jp hj =>
    z_iconst (n := 0) (zd (i := .iconst (0)) (n := 1) (by decide +kernel)) (by decide +kernel) <|
    (zj (hj 26) (by decide +kernel))
noncomputable def b_X9_count_26 : zBl := fun jp K => oIret K
theorem s_X9_count_26 (d : Nat) : zPb l G gh (d + 3) n_X9_count p_X9_count 266 b_X9_count_26 := fun K jp hj =>
    z_iret (zd (i := .ireturn) (n := 1) (by decide +kernel)) rfl
noncomputable def b_X9_count_27 : zBl := fun jp K => oAld 0 <| oInt 2147483666 <| oInt 2147483654 <| oCv 9 2 f_X9_sumNow <| oIret K
theorem s_X9_count_27 (d : Nat) : zPb l G gh (d + 3) n_X9_count p_X9_count 267 b_X9_count_27 := fun K jp hj =>
    z_aload_n (n := 0) (i := 0) (zd (i := .aload_n 0) (n := 1) (by decide +kernel)) rfl <|
    z_bipush (n := 18) (zd (i := .bipush (18)) (n := 2) (by decide +kernel)) (by decide +kernel) <|
    z_bipush (n := 6) (zd (i := .bipush (6)) (n := 2) (by decide +kernel)) (by decide +kernel) <|
    z_callV (idx := 431) (ci := 9) (N := n_X9_sumNow) (zd (i := .invokevirtual 431) (n := 3) (by decide +kernel)) to_X9_sumNow g1709 g1711 g95 (by decide +kernel) rfl rfl rfl (c_X9_sumNow (l := l) (G := G) (gh := gh) (d + 1)) <|
    z_iret (zd (i := .ireturn) (n := 1) (by decide +kernel)) rfl
noncomputable def b_X9_count_28 : zBl := fun jp K => oAld 0 <| oAld 0 <| oGetR 9 49 <| oInt 2147483744 <| oXald 10 <| oCv 9 1 f_X9_heatAt <| oIret K
theorem s_X9_count_28 (d : Nat) : zPb l G gh (d + 3) n_X9_count p_X9_count 276 b_X9_count_28 := fun K jp hj =>
    z_aload_n (n := 0) (i := 0) (zd (i := .aload_n 0) (n := 1) (by decide +kernel)) rfl <|
    z_aload_n (n := 0) (i := 0) (zd (i := .aload_n 0) (n := 1) (by decide +kernel)) rfl <|
    z_getR (ci := 9) (j := 49) (idx := 113) (zd (i := .getfield 113) (n := 3) (by decide +kernel)) (by decide +kernel) (by decide +kernel) rfl g1177 <|
    z_bipush (n := 96) (zd (i := .bipush (96)) (n := 2) (by decide +kernel)) (by decide +kernel) <|
    z_iald (zd (i := .iaload) (n := 1) (by decide +kernel)) <|
    z_callV (idx := 327) (ci := 9) (N := n_X9_heatAt) (zd (i := .invokevirtual 327) (n := 3) (by decide +kernel)) to_X9_heatAt g1461 g1463 g71 (by decide +kernel) rfl rfl rfl (c_X9_heatAt (l := l) (G := G) (gh := gh) d) <|
    z_iret (zd (i := .ireturn) (n := 1) (by decide +kernel)) rfl
noncomputable def b_X9_count_29 : zBl := fun jp K => oInt 2147483648 <| oIst 3 <| jp 30
theorem s_X9_count_29 (d : Nat) : zPb l G gh (d + 3) n_X9_count p_X9_count 288 b_X9_count_29 := fun K jp hj =>
    z_iconst (n := 0) (zd (i := .iconst (0)) (n := 1) (by decide +kernel)) (by decide +kernel) <|
    z_istore_n (n := 3) (i := 3) (zd (i := .istore_n 3) (n := 1) (by decide +kernel)) rfl (by decide +kernel) <|
    (zj (hj 30) (by decide +kernel))
noncomputable def b_X9_count_30 : zBl := fun jp K => oIld 3 <| oAld 0 <| oGetR 9 25 <| oAld 0 <| oGetI 9 18 <| oXald 10 <| oIc zge zlt (jp 31) (oFail)
theorem s_X9_count_30 (d : Nat) : zPb l G gh (d + 3) n_X9_count p_X9_count 290 b_X9_count_30 := fun K jp hj =>
    z_iload_n (n := 3) (i := 3) (zd (i := .iload_n 3) (n := 1) (by decide +kernel)) rfl <|
    z_aload_n (n := 0) (i := 0) (zd (i := .aload_n 0) (n := 1) (by decide +kernel)) rfl <|
    z_getR (ci := 9) (j := 25) (idx := 52) (zd (i := .getfield 52) (n := 3) (by decide +kernel)) (by decide +kernel) (by decide +kernel) rfl g1153 <|
    z_aload_n (n := 0) (i := 0) (zd (i := .aload_n 0) (n := 1) (by decide +kernel)) rfl <|
    z_getI (ci := 9) (j := 18) (idx := 230) (zd (i := .getfield 230) (n := 3) (by decide +kernel)) (by decide +kernel) (by decide +kernel) rfl g1146 <|
    z_iald (zd (i := .iaload) (n := 1) (by decide +kernel)) <|
    z_icmp_ge (off := 17) (tgt := 317) (zd (i := .if_icmp .ge (17)) (n := 3) (by decide +kernel)) (by decide +kernel) (zj (hj 31) (by decide +kernel)) z_fail
noncomputable def b_X9_count_31 : zBl := fun jp K => oIld 2 <| oIret K
theorem s_X9_count_31 (d : Nat) : zPb l G gh (d + 3) n_X9_count p_X9_count 317 b_X9_count_31 := fun K jp hj =>
    z_iload_n (n := 2) (i := 2) (zd (i := .iload_n 2) (n := 1) (by decide +kernel)) rfl <|
    z_iret (zd (i := .ireturn) (n := 1) (by decide +kernel)) rfl
noncomputable def b_X9_count_32 : zBl := fun jp K => oInt 2147483647 <| oIret K
theorem s_X9_count_32 (d : Nat) : zPb l G gh (d + 3) n_X9_count p_X9_count 319 b_X9_count_32 := fun K jp hj =>
    z_iconst (n := -1) (zd (i := .iconst (-1)) (n := 1) (by decide +kernel)) (by decide +kernel) <|
    z_iret (zd (i := .ireturn) (n := 1) (by decide +kernel)) rfl
noncomputable def f_X9_count : zMt := zmet 4 [b_X9_count_0, b_X9_count_1, b_X9_count_2, b_X9_count_3, b_X9_count_4, b_X9_count_5, b_X9_count_6, b_X9_count_7, b_X9_count_8, b_X9_count_9, b_X9_count_10, b_X9_count_11, b_X9_count_12, b_X9_count_13, b_X9_count_14, b_X9_count_15, b_X9_count_16, b_X9_count_17, b_X9_count_18, b_X9_count_19, b_X9_count_20, b_X9_count_21, b_X9_count_22, b_X9_count_23, b_X9_count_24, b_X9_count_25, b_X9_count_26, b_X9_count_27, b_X9_count_28, b_X9_count_29, b_X9_count_30, b_X9_count_31, b_X9_count_32]
theorem c_X9_count (d : Nat) : zC l G gh (d + 3) n_X9_count f_X9_count := zmet_ok (pcs := p_X9_count) (by decide) rfl rfl ⟨s_X9_count_0 d, s_X9_count_1 d, s_X9_count_2 d, s_X9_count_3 d, s_X9_count_4 d, s_X9_count_5 d, s_X9_count_6 d, s_X9_count_7 d, s_X9_count_8 d, s_X9_count_9 d, s_X9_count_10 d, s_X9_count_11 d, s_X9_count_12 d, s_X9_count_13 d, s_X9_count_14 d, s_X9_count_15 d, s_X9_count_16 d, s_X9_count_17 d, s_X9_count_18 d, s_X9_count_19 d, s_X9_count_20 d, s_X9_count_21 d, s_X9_count_22 d, s_X9_count_23 d, s_X9_count_24 d, s_X9_count_25 d, s_X9_count_26 d, s_X9_count_27 d, s_X9_count_28 d, s_X9_count_29 d, s_X9_count_30 d, s_X9_count_31 d, s_X9_count_32 d, trivial⟩
end
