section
variable {l : Launch} {G : qG} {gh : zGh}
def p_X9_worth : List Nat := [0, 8, 16, 27, 35, 39, 52, 59, 64, 92, 118, 135, 146, 147, 149, 155, 160, 184, 192, 194]
noncomputable def b_X9_worth_0 : zBl := fun jp K => oAld 0 <| oIld 1 <| oCv 9 1 f_X9_isSeat <| oIf zeq zne (jp 4) (jp 1)
theorem s_X9_worth_0 (d : Nat) (hG : zGood gh) : zPb l G gh (d + 7) n_X9_worth p_X9_worth 0 b_X9_worth_0 := fun K jp hj =>
    z_aload_n (n := 0) (i := 0) (zd (i := .aload_n 0) (n := 1) (by decide +kernel)) rfl <|
    z_iload_n (n := 1) (i := 1) (zd (i := .iload_n 1) (n := 1) (by decide +kernel)) rfl <|
    z_callV (idx := 378) (ci := 9) (N := n_X9_isSeat) (zd (i := .invokevirtual 378) (n := 3) (by decide +kernel)) to_X9_isSeat g1487 g1489 g75 (by decide +kernel) rfl rfl rfl (c_X9_isSeat (l := l) (G := G) (gh := gh) (d + 4)) <|
    z_if_eq (off := 30) (tgt := 35) (zd (i := .ifCond .eq (30)) (n := 3) (by decide +kernel)) (by decide +kernel) (zj (hj 4) (by decide +kernel)) (zj (hj 1) (by decide +kernel))
noncomputable def b_X9_worth_1 : zBl := fun jp K => oAld 0 <| oIld 2 <| oCv 9 1 f_X9_isThing <| oIf zeq zne (jp 4) (jp 2)
theorem s_X9_worth_1 (d : Nat) (hG : zGood gh) : zPb l G gh (d + 7) n_X9_worth p_X9_worth 8 b_X9_worth_1 := fun K jp hj =>
    z_aload_n (n := 0) (i := 0) (zd (i := .aload_n 0) (n := 1) (by decide +kernel)) rfl <|
    z_iload_n (n := 2) (i := 2) (zd (i := .iload_n 2) (n := 1) (by decide +kernel)) rfl <|
    z_callV (idx := 372) (ci := 9) (N := n_X9_isThing) (zd (i := .invokevirtual 372) (n := 3) (by decide +kernel)) to_X9_isThing g1438 g1440 g66 (by decide +kernel) rfl rfl rfl (c_X9_isThing (l := l) (G := G) (gh := gh) (d + 4)) <|
    z_if_eq (off := 22) (tgt := 35) (zd (i := .ifCond .eq (22)) (n := 3) (by decide +kernel)) (by decide +kernel) (zj (hj 4) (by decide +kernel)) (zj (hj 2) (by decide +kernel))
noncomputable def b_X9_worth_2 : zBl := fun jp K => oIld 3 <| oInt 2147483649 <| oInt 2147484647 <| oCs 3 f_X9_in <| oIf zeq zne (jp 4) (jp 3)
theorem s_X9_worth_2 (d : Nat) (hG : zGood gh) : zPb l G gh (d + 7) n_X9_worth p_X9_worth 16 b_X9_worth_2 := fun K jp hj =>
    z_iload_n (n := 3) (i := 3) (zd (i := .iload_n 3) (n := 1) (by decide +kernel)) rfl <|
    z_iconst (n := 1) (zd (i := .iconst (1)) (n := 1) (by decide +kernel)) (by decide +kernel) <|
    z_sipush (n := 999) (zd (i := .sipush (999)) (n := 3) (by decide +kernel)) (by decide +kernel) <|
    z_callS (idx := 304) (N := n_X9_in) (zd (i := .invokestatic 304) (n := 3) (by decide +kernel)) to_X9_in g1442 g1443 rfl rfl (c_X9_in (l := l) (G := G) (gh := gh) (d + 5)) <|
    z_if_eq (off := 11) (tgt := 35) (zd (i := .ifCond .eq (11)) (n := 3) (by decide +kernel)) (by decide +kernel) (zj (hj 4) (by decide +kernel)) (zj (hj 3) (by decide +kernel))
noncomputable def b_X9_worth_3 : zBl := fun jp K => oIld 4 <| oCs 1 f_X9_isSome <| oIf zne zeq (jp 5) (jp 4)
theorem s_X9_worth_3 (d : Nat) (hG : zGood gh) : zPb l G gh (d + 7) n_X9_worth p_X9_worth 27 b_X9_worth_3 := fun K jp hj =>
    z_iload (i := 4) (zd (i := .iload 4) (n := 2) (by decide +kernel)) <|
    z_callS (idx := 406) (N := n_X9_isSome) (zd (i := .invokestatic 406) (n := 3) (by decide +kernel)) to_X9_isSome g1598 g1599 rfl rfl (c_X9_isSome (l := l) (G := G) (gh := gh) (d + 4)) <|
    z_if_ne (off := 7) (tgt := 39) (zd (i := .ifCond .ne (7)) (n := 3) (by decide +kernel)) (by decide +kernel) (zj (hj 5) (by decide +kernel)) (zj (hj 4) (by decide +kernel))
noncomputable def b_X9_worth_4 : zBl := fun jp K => oInt 2147383648 <| oIret K
theorem s_X9_worth_4 (d : Nat) (hG : zGood gh) : zPb l G gh (d + 7) n_X9_worth p_X9_worth 35 b_X9_worth_4 := fun K jp hj =>
    z_ldcw (n := 424) (zd (i := .ldc_w 424) (n := 3) (by decide +kernel)) g1640 (by decide +kernel) <|
    z_iret (zd (i := .ireturn) (n := 1) (by decide +kernel)) rfl
noncomputable def b_X9_worth_5 : zBl := fun jp K => oIld 3 <| oIst 5 <| oInt 2147483648 <| oIst 6 <| oIld 3 <| oU zineg <| oIst 7 <| oInt 2147483648 <| oIst 8 <| jp 6
theorem s_X9_worth_5 (d : Nat) (hG : zGood gh) : zPb l G gh (d + 7) n_X9_worth p_X9_worth 39 b_X9_worth_5 := fun K jp hj =>
    z_iload_n (n := 3) (i := 3) (zd (i := .iload_n 3) (n := 1) (by decide +kernel)) rfl <|
    z_istore (i := 5) (zd (i := .istore 5) (n := 2) (by decide +kernel)) (by decide +kernel) <|
    z_iconst (n := 0) (zd (i := .iconst (0)) (n := 1) (by decide +kernel)) (by decide +kernel) <|
    z_istore (i := 6) (zd (i := .istore 6) (n := 2) (by decide +kernel)) (by decide +kernel) <|
    z_iload_n (n := 3) (i := 3) (zd (i := .iload_n 3) (n := 1) (by decide +kernel)) rfl <|
    z_ineg (zd (i := .ineg) (n := 1) (by decide +kernel)) <|
    z_istore (i := 7) (zd (i := .istore 7) (n := 2) (by decide +kernel)) (by decide +kernel) <|
    z_iconst (n := 0) (zd (i := .iconst (0)) (n := 1) (by decide +kernel)) (by decide +kernel) <|
    z_istore (i := 8) (zd (i := .istore 8) (n := 2) (by decide +kernel)) (by decide +kernel) <|
    (zj (hj 6) (by decide +kernel))
noncomputable def b_X9_worth_6 : zBl := fun jp K => oNLL 8 4 zgeN zltN zn1_ge zn2_ge zn1_lt zn2_lt (jp 15) (jp 7)
theorem s_X9_worth_6 (d : Nat) (hG : zGood gh) : zPb l G gh (d + 7) n_X9_worth p_X9_worth 52 b_X9_worth_6 := fun K jp hj =>
    z_nLL_ge (i := 8) (j := 4) (a1 := 2) (a2 := 2) (off := 99) (tgt := 155) (zLd_w (i := 8) (zd (i := .iload 8) (n := 2) (by decide +kernel))) (zLd_w (i := 4) (zd (i := .iload 4) (n := 2) (by decide +kernel))) (zd (i := .if_icmp .ge (99)) (n := 3) (by decide +kernel)) (by decide +kernel) (zj (hj 15) (by decide +kernel)) (zj (hj 7) (by decide +kernel))
noncomputable def b_X9_worth_7 : zBl := fun jp K => oNLC 5 2147483648 zleN zgtN zn1_le zn1_gt (jp 15) (jp 8)
theorem s_X9_worth_7 (d : Nat) (hG : zGood gh) : zPb l G gh (d + 7) n_X9_worth p_X9_worth 59 b_X9_worth_7 := fun K jp hj =>
    z_nL0_le (i := 5) (a1 := 2) (off := 94) (tgt := 155) (zLd_w (i := 5) (zd (i := .iload 5) (n := 2) (by decide +kernel))) (zd (i := .ifCond .le (94)) (n := 3) (by decide +kernel)) (by decide +kernel) (zj (hj 15) (by decide +kernel)) (zj (hj 8) (by decide +kernel))
noncomputable def b_X9_worth_8 : zBl := fun jp K => oAld 0 <| oGetR 9 48 <| oInt 2147483744 <| oXald 10 <| oIld 8 <| oB2 zadd <| oIst 9 <| oAld 0 <| oAld 0 <| oGetR 9 48 <| oIld 1 <| oXald 10 <| oIld 2 <| oIld 9 <| oCv 9 3 gs_X9_sees <| oIf zeq zne (jp 10) (jp 9)
theorem s_X9_worth_8 (d : Nat) (hG : zGood gh) : zPb l G gh (d + 7) n_X9_worth p_X9_worth 64 b_X9_worth_8 := fun K jp hj =>
    z_aload_n (n := 0) (i := 0) (zd (i := .aload_n 0) (n := 1) (by decide +kernel)) rfl <|
    z_getR (ci := 9) (j := 48) (idx := 110) (zd (i := .getfield 110) (n := 3) (by decide +kernel)) (by decide +kernel) (by decide +kernel) rfl g1176 <|
    z_bipush (n := 96) (zd (i := .bipush (96)) (n := 2) (by decide +kernel)) (by decide +kernel) <|
    z_iald (zd (i := .iaload) (n := 1) (by decide +kernel)) <|
    z_iload (i := 8) (zd (i := .iload 8) (n := 2) (by decide +kernel)) <|
    z_iadd (zd (i := .iadd) (n := 1) (by decide +kernel)) <|
    z_istore (i := 9) (zd (i := .istore 9) (n := 2) (by decide +kernel)) (by decide +kernel) <|
    z_aload_n (n := 0) (i := 0) (zd (i := .aload_n 0) (n := 1) (by decide +kernel)) rfl <|
    z_aload_n (n := 0) (i := 0) (zd (i := .aload_n 0) (n := 1) (by decide +kernel)) rfl <|
    z_getR (ci := 9) (j := 48) (idx := 110) (zd (i := .getfield 110) (n := 3) (by decide +kernel)) (by decide +kernel) (by decide +kernel) rfl g1176 <|
    z_iload_n (n := 1) (i := 1) (zd (i := .iload_n 1) (n := 1) (by decide +kernel)) rfl <|
    z_iald (zd (i := .iaload) (n := 1) (by decide +kernel)) <|
    z_iload_n (n := 2) (i := 2) (zd (i := .iload_n 2) (n := 1) (by decide +kernel)) rfl <|
    z_iload (i := 9) (zd (i := .iload 9) (n := 2) (by decide +kernel)) <|
    z_callV (idx := 352) (ci := 9) (N := n_X9_sees) (zd (i := .invokevirtual 352) (n := 3) (by decide +kernel)) to_X9_sees g1449 g1451 g68 (by decide +kernel) rfl rfl rfl (cs_X9_sees (l := l) (G := G) (gh := gh) (d) hG) <|
    z_if_eq (off := 29) (tgt := 118) (zd (i := .ifCond .eq (29)) (n := 3) (by decide +kernel)) (by decide +kernel) (zj (hj 10) (by decide +kernel)) (zj (hj 9) (by decide +kernel))
noncomputable def b_X9_worth_9 : zBl := fun jp K => oIld 7 <| oAld 0 <| oAld 0 <| oGetR 9 48 <| oIld 1 <| oXald 10 <| oIld 2 <| oIld 5 <| oIld 9 <| oCv 9 4 gs_X9_rentOf <| oB2 zadd <| oIst 7 <| oInt 2147483648 <| oIst 6 <| jp 14
theorem s_X9_worth_9 (d : Nat) (hG : zGood gh) : zPb l G gh (d + 7) n_X9_worth p_X9_worth 92 b_X9_worth_9 := fun K jp hj =>
    z_iload (i := 7) (zd (i := .iload 7) (n := 2) (by decide +kernel)) <|
    z_aload_n (n := 0) (i := 0) (zd (i := .aload_n 0) (n := 1) (by decide +kernel)) rfl <|
    z_aload_n (n := 0) (i := 0) (zd (i := .aload_n 0) (n := 1) (by decide +kernel)) rfl <|
    z_getR (ci := 9) (j := 48) (idx := 110) (zd (i := .getfield 110) (n := 3) (by decide +kernel)) (by decide +kernel) (by decide +kernel) rfl g1176 <|
    z_iload_n (n := 1) (i := 1) (zd (i := .iload_n 1) (n := 1) (by decide +kernel)) rfl <|
    z_iald (zd (i := .iaload) (n := 1) (by decide +kernel)) <|
    z_iload_n (n := 2) (i := 2) (zd (i := .iload_n 2) (n := 1) (by decide +kernel)) rfl <|
    z_iload (i := 5) (zd (i := .iload 5) (n := 2) (by decide +kernel)) <|
    z_iload (i := 9) (zd (i := .iload 9) (n := 2) (by decide +kernel)) <|
    z_callV (idx := 355) (ci := 9) (N := n_X9_rentOf) (zd (i := .invokevirtual 355) (n := 3) (by decide +kernel)) to_X9_rentOf g1514 g1516 g79 (by decide +kernel) rfl rfl rfl (cs_X9_rentOf (l := l) (G := G) (gh := gh) (d + 1) hG) <|
    z_iadd (zd (i := .iadd) (n := 1) (by decide +kernel)) <|
    z_istore (i := 7) (zd (i := .istore 7) (n := 2) (by decide +kernel)) (by decide +kernel) <|
    z_iconst (n := 0) (zd (i := .iconst (0)) (n := 1) (by decide +kernel)) (by decide +kernel) <|
    z_istore (i := 6) (zd (i := .istore 6) (n := 2) (by decide +kernel)) (by decide +kernel) <|
    z_goto (off := 34) (tgt := 149) (zd (i := .goto (34)) (n := 3) (by decide +kernel)) (by decide +kernel) (zj (hj 14) (by decide +kernel))
noncomputable def b_X9_worth_10 : zBl := fun jp K => oInc 6 2147483649 <| oIld 6 <| oAld 0 <| oGetR 9 28 <| oAld 0 <| oGetI 9 18 <| oXald 10 <| oIc zge zlt (jp 12) (jp 11)
theorem s_X9_worth_10 (d : Nat) (hG : zGood gh) : zPb l G gh (d + 7) n_X9_worth p_X9_worth 118 b_X9_worth_10 := fun K jp hj =>
    z_iinc (i := 6) (n := 1) (zd (i := .iinc 6 (1)) (n := 3) (by decide +kernel)) (by decide +kernel) (by decide +kernel) <|
    z_iload (i := 6) (zd (i := .iload 6) (n := 2) (by decide +kernel)) <|
    z_aload_n (n := 0) (i := 0) (zd (i := .aload_n 0) (n := 1) (by decide +kernel)) rfl <|
    z_getR (ci := 9) (j := 28) (idx := 61) (zd (i := .getfield 61) (n := 3) (by decide +kernel)) (by decide +kernel) (by decide +kernel) rfl g1156 <|
    z_aload_n (n := 0) (i := 0) (zd (i := .aload_n 0) (n := 1) (by decide +kernel)) rfl <|
    z_getI (ci := 9) (j := 18) (idx := 230) (zd (i := .getfield 230) (n := 3) (by decide +kernel)) (by decide +kernel) (by decide +kernel) rfl g1146 <|
    z_iald (zd (i := .iaload) (n := 1) (by decide +kernel)) <|
    z_icmp_ge (off := 14) (tgt := 146) (zd (i := .if_icmp .ge (14)) (n := 3) (by decide +kernel)) (by decide +kernel) (zj (hj 12) (by decide +kernel)) (zj (hj 11) (by decide +kernel))
noncomputable def b_X9_worth_11 : zBl := fun jp K => oAld 0 <| oIld 5 <| oIld 9 <| oCv 9 2 gs_X9_grows <| jp 13
theorem s_X9_worth_11 (d : Nat) (hG : zGood gh) : zPb l G gh (d + 7) n_X9_worth p_X9_worth 135 b_X9_worth_11 := fun K jp hj =>
    z_aload_n (n := 0) (i := 0) (zd (i := .aload_n 0) (n := 1) (by decide +kernel)) rfl <|
    z_iload (i := 5) (zd (i := .iload 5) (n := 2) (by decide +kernel)) <|
    z_iload (i := 9) (zd (i := .iload 9) (n := 2) (by decide +kernel)) <|
    z_callV (idx := 358) (ci := 9) (N := n_X9_grows) (zd (i := .invokevirtual 358) (n := 3) (by decide +kernel)) to_X9_grows g1566 g1568 g86 (by decide +kernel) rfl rfl rfl (cs_X9_grows (l := l) (G := G) (gh := gh) (d + 1) hG) <|
    z_goto (off := 4) (tgt := 147) (zd (i := .goto (4)) (n := 3) (by decide +kernel)) (by decide +kernel) (zj (hj 13) (by decide +kernel))
noncomputable def b_X9_worth_12 : zBl := fun jp K => oInt 2147483648 <| jp 13
theorem s_X9_worth_12 (d : Nat) (hG : zGood gh) : zPb l G gh (d + 7) n_X9_worth p_X9_worth 146 b_X9_worth_12 := fun K jp hj =>
    z_iconst (n := 0) (zd (i := .iconst (0)) (n := 1) (by decide +kernel)) (by decide +kernel) <|
    (zj (hj 13) (by decide +kernel))
noncomputable def b_X9_worth_13 : zBl := fun jp K => oIst 5 <| jp 14
theorem s_X9_worth_13 (d : Nat) (hG : zGood gh) : zPb l G gh (d + 7) n_X9_worth p_X9_worth 147 b_X9_worth_13 := fun K jp hj =>
    z_istore (i := 5) (zd (i := .istore 5) (n := 2) (by decide +kernel)) (by decide +kernel) <|
    (zj (hj 14) (by decide +kernel))
noncomputable def b_X9_worth_14 : zBl := fun jp K => oInc 8 2147483649 <| jp 6
theorem s_X9_worth_14 (d : Nat) (hG : zGood gh) : zPb l G gh (d + 7) n_X9_worth p_X9_worth 149 b_X9_worth_14 := fun K jp hj =>
    z_iinc (i := 8) (n := 1) (zd (i := .iinc 8 (1)) (n := 3) (by decide +kernel)) (by decide +kernel) (by decide +kernel) <|
    z_goto (off := -100) (tgt := 52) (zd (i := .goto (-100)) (n := 3) (by decide +kernel)) (by decide +kernel) (zj (hj 6) (by decide +kernel))
noncomputable def b_X9_worth_15 : zBl := fun jp K => oNLC 5 2147483648 zleN zgtN zn1_le zn1_gt (jp 18) (jp 16)
theorem s_X9_worth_15 (d : Nat) (hG : zGood gh) : zPb l G gh (d + 7) n_X9_worth p_X9_worth 155 b_X9_worth_15 := fun K jp hj =>
    z_nL0_le (i := 5) (a1 := 2) (off := 35) (tgt := 192) (zLd_w (i := 5) (zd (i := .iload 5) (n := 2) (by decide +kernel))) (zd (i := .ifCond .le (35)) (n := 3) (by decide +kernel)) (by decide +kernel) (zj (hj 18) (by decide +kernel)) (zj (hj 16) (by decide +kernel))
noncomputable def b_X9_worth_16 : zBl := fun jp K => oAld 0 <| oAld 0 <| oGetR 9 48 <| oIld 1 <| oXald 10 <| oIld 2 <| oAld 0 <| oGetR 9 48 <| oInt 2147483744 <| oXald 10 <| oIld 4 <| oB2 zadd <| oCv 9 3 gs_X9_sees <| oIf zeq zne (jp 18) (jp 17)
theorem s_X9_worth_16 (d : Nat) (hG : zGood gh) : zPb l G gh (d + 7) n_X9_worth p_X9_worth 160 b_X9_worth_16 := fun K jp hj =>
    z_aload_n (n := 0) (i := 0) (zd (i := .aload_n 0) (n := 1) (by decide +kernel)) rfl <|
    z_aload_n (n := 0) (i := 0) (zd (i := .aload_n 0) (n := 1) (by decide +kernel)) rfl <|
    z_getR (ci := 9) (j := 48) (idx := 110) (zd (i := .getfield 110) (n := 3) (by decide +kernel)) (by decide +kernel) (by decide +kernel) rfl g1176 <|
    z_iload_n (n := 1) (i := 1) (zd (i := .iload_n 1) (n := 1) (by decide +kernel)) rfl <|
    z_iald (zd (i := .iaload) (n := 1) (by decide +kernel)) <|
    z_iload_n (n := 2) (i := 2) (zd (i := .iload_n 2) (n := 1) (by decide +kernel)) rfl <|
    z_aload_n (n := 0) (i := 0) (zd (i := .aload_n 0) (n := 1) (by decide +kernel)) rfl <|
    z_getR (ci := 9) (j := 48) (idx := 110) (zd (i := .getfield 110) (n := 3) (by decide +kernel)) (by decide +kernel) (by decide +kernel) rfl g1176 <|
    z_bipush (n := 96) (zd (i := .bipush (96)) (n := 2) (by decide +kernel)) (by decide +kernel) <|
    z_iald (zd (i := .iaload) (n := 1) (by decide +kernel)) <|
    z_iload (i := 4) (zd (i := .iload 4) (n := 2) (by decide +kernel)) <|
    z_iadd (zd (i := .iadd) (n := 1) (by decide +kernel)) <|
    z_callV (idx := 352) (ci := 9) (N := n_X9_sees) (zd (i := .invokevirtual 352) (n := 3) (by decide +kernel)) to_X9_sees g1449 g1451 g68 (by decide +kernel) rfl rfl rfl (cs_X9_sees (l := l) (G := G) (gh := gh) (d) hG) <|
    z_if_eq (off := 11) (tgt := 192) (zd (i := .ifCond .eq (11)) (n := 3) (by decide +kernel)) (by decide +kernel) (zj (hj 18) (by decide +kernel)) (zj (hj 17) (by decide +kernel))
noncomputable def b_X9_worth_17 : zBl := fun jp K => oIld 7 <| oIld 5 <| oB2 zadd <| jp 19
theorem s_X9_worth_17 (d : Nat) (hG : zGood gh) : zPb l G gh (d + 7) n_X9_worth p_X9_worth 184 b_X9_worth_17 := fun K jp hj =>
    z_iload (i := 7) (zd (i := .iload 7) (n := 2) (by decide +kernel)) <|
    z_iload (i := 5) (zd (i := .iload 5) (n := 2) (by decide +kernel)) <|
    z_iadd (zd (i := .iadd) (n := 1) (by decide +kernel)) <|
    z_goto (off := 5) (tgt := 194) (zd (i := .goto (5)) (n := 3) (by decide +kernel)) (by decide +kernel) (zj (hj 19) (by decide +kernel))
noncomputable def b_X9_worth_18 : zBl := fun jp K => oIld 7 <| jp 19
theorem s_X9_worth_18 (d : Nat) (hG : zGood gh) : zPb l G gh (d + 7) n_X9_worth p_X9_worth 192 b_X9_worth_18 := fun K jp hj =>
    z_iload (i := 7) (zd (i := .iload 7) (n := 2) (by decide +kernel)) <|
    (zj (hj 19) (by decide +kernel))
noncomputable def b_X9_worth_19 : zBl := fun jp K => oIret K
theorem s_X9_worth_19 (d : Nat) (hG : zGood gh) : zPb l G gh (d + 7) n_X9_worth p_X9_worth 194 b_X9_worth_19 := fun K jp hj =>
    z_iret (zd (i := .ireturn) (n := 1) (by decide +kernel)) rfl
noncomputable def t_X9_worth : List zBl := [b_X9_worth_0, b_X9_worth_1, b_X9_worth_2, b_X9_worth_3, b_X9_worth_4, b_X9_worth_5, b_X9_worth_6, b_X9_worth_7, b_X9_worth_8, b_X9_worth_9, b_X9_worth_10, b_X9_worth_11, b_X9_worth_12, b_X9_worth_13, b_X9_worth_14, b_X9_worth_15, b_X9_worth_16, b_X9_worth_17, b_X9_worth_18, b_X9_worth_19]
theorem tt_X9_worth (d : Nat) (hG : zGood gh) : zT (zPb l G gh (d + 7) n_X9_worth p_X9_worth) t_X9_worth p_X9_worth := ⟨s_X9_worth_0 d hG, s_X9_worth_1 d hG, s_X9_worth_2 d hG, s_X9_worth_3 d hG, s_X9_worth_4 d hG, s_X9_worth_5 d hG, s_X9_worth_6 d hG, s_X9_worth_7 d hG, s_X9_worth_8 d hG, s_X9_worth_9 d hG, s_X9_worth_10 d hG, s_X9_worth_11 d hG, s_X9_worth_12 d hG, s_X9_worth_13 d hG, s_X9_worth_14 d hG, s_X9_worth_15 d hG, s_X9_worth_16 d hG, s_X9_worth_17 d hG, s_X9_worth_18 d hG, s_X9_worth_19 d hG, trivial⟩
def q_X9_worth_0 : List (Nat × Nat) := [(292, zk102), (301, zk107), (302, zk111), (303, zk111), (304, zk107), (307, zk103), (321, zk3), (322, zk116), (323, zk104)]
noncomputable def al_X9_worth_0 : zAq := [(some (.inl 8589934591), [(292, zk105), (301, zk107), (302, zk111), (303, zk111), (304, zk107), (307, zk103), (321, zk4), (322, zk117), (323, zk104)])]
def mq_X9_worth_0_1 : List (Nat × Nat) := [(292, zk105), (301, zk107), (302, zk111), (303, zk111), (304, zk107), (307, zk103), (321, zk4), (322, zk117), (323, zk104)]
noncomputable def fm_X9_worth_0 : List zFm := [(0, [], (fun vs => [.inr (.ref 292), .inl 9223372043297226757, .inl 9223372043297226757, .inl 9223372047592195047, .inl 9223372047592194096]), (fun vs => zP q_X9_worth_0), (fun vs => Nat.sub (Nat.add 49 0) 0)),
  (6, [(8, 2147483648, 2147483696)], (fun vs => [.inr (.ref 292), .inl 9223372043297226757, .inl 9223372043297226757, .inl 9223372047592195047, .inl 9223372047592194096, .inl 9223372043297326751, .inl 8589934591, .inl 8589934591, .inl (zn 0 vs 0)]), (fun vs => zP mq_X9_worth_0_1), (fun vs => Nat.sub (Nat.add 2147483696 0) (Nat.add 0 (Nat.mul 1 (zn 0 vs 0)))))]
def bf_X9_worth_0 : List Nat := [0, 0, 0, 0, 0, 0, 2]
theorem r_X9_worth_0_0 : zbox [] (fun vs => zFrun (zpost (zAlq al_X9_worth_0)) 1000 t_X9_worth fm_X9_worth_0 bf_X9_worth_0 (0, vs)) = true := by decide +kernel
theorem r_X9_worth_0_1 : zbox [(8, 2147483648, 2147483696)] (fun vs => zFrun (zpost (zAlq al_X9_worth_0)) 1000 t_X9_worth fm_X9_worth_0 bf_X9_worth_0 (1, vs)) = true := by decide +kernel
set_option maxRecDepth 100000 in
theorem x_X9_worth_0 (d : Nat) (hG : zGood gh) : zS l G gh (d + 7) (zpost (zAlq al_X9_worth_0)) n_X9_worth (zn 0 p_X9_worth 0) (zwc (0, [.inr (.ref 292), .inl 9223372043297226757, .inl 9223372043297226757, .inl 9223372047592195047, .inl 9223372047592194096], zP q_X9_worth_0) 0) := zentry (tt_X9_worth d hG) fm_X9_worth_0 bf_X9_worth_0 1000 (by decide +kernel) rfl ⟨Nat.zero_lt_succ _, trivial⟩ (fun f hf => match f, hf with
  | 0, _ => fun vs hv => (zbox_t r_X9_worth_0_0) vs hv
  | 1, _ => fun vs hv => (zbox_t r_X9_worth_0_1) vs hv
  | f + 2, h => absurd (show f + 2 < 2 from h) (Nat.not_lt.mpr (Nat.le_add_left 2 f)))
noncomputable def gs_X9_worth_0 : zMt := zgq true zUN 10 [.inr (.ref 292), .inl 9223372043297226757, .inl 9223372043297226757, .inl 9223372047592195047, .inl 9223372047592194096] q_X9_worth_0 al_X9_worth_0
set_option maxRecDepth 100000 in
theorem cs_X9_worth_0 (d : Nat) (hG : zGood gh) : zC l G gh (d + 7) n_X9_worth gs_X9_worth_0 := zgq_ok zGood_ok (pcs := p_X9_worth) (by decide) rfl rfl (fun a ha => by simp only [al_X9_worth_0, List.mem_cons, List.not_mem_nil, or_false] at ha; rcases ha with rfl <;> decide +kernel) (fun gh hG => x_X9_worth_0 d hG) (by decide +kernel) hG
def q_X9_worth_1 : List (Nat × Nat) := [(292, zk102), (301, zk107), (304, zk107)]
noncomputable def al_X9_worth_1 : zAq := [(some (.inl 2147383648), [(292, zk102), (301, zk107), (304, zk107)])]
noncomputable def fm_X9_worth_1 : List zFm := [(0, [], (fun vs => [.inr (.ref 292), .inl 9223372043297226757, .inl 9223372043297226757, .inl 9223372047592195047, .inl 6442450944]), (fun vs => zP q_X9_worth_1), (fun vs => Nat.sub (Nat.add 0 0) 0))]
def bf_X9_worth_1 : List Nat := []
theorem r_X9_worth_1_0 : zbox [] (fun vs => zFrun (zpost (zAlq al_X9_worth_1)) 1000 t_X9_worth fm_X9_worth_1 bf_X9_worth_1 (0, vs)) = true := by decide +kernel
set_option maxRecDepth 100000 in
theorem x_X9_worth_1 (d : Nat) (hG : zGood gh) : zS l G gh (d + 7) (zpost (zAlq al_X9_worth_1)) n_X9_worth (zn 0 p_X9_worth 0) (zwc (0, [.inr (.ref 292), .inl 9223372043297226757, .inl 9223372043297226757, .inl 9223372047592195047, .inl 6442450944], zP q_X9_worth_1) 0) := zentry (tt_X9_worth d hG) fm_X9_worth_1 bf_X9_worth_1 1000 (by decide +kernel) rfl ⟨Nat.zero_lt_succ _, trivial⟩ (fun f hf => match f, hf with
  | 0, _ => fun vs hv => (zbox_t r_X9_worth_1_0) vs hv
  | f + 1, h => absurd (show f + 1 < 1 from h) (Nat.not_lt.mpr (Nat.le_add_left 1 f)))
noncomputable def gs_X9_worth_1 : zMt := zgq true zUN 10 [.inr (.ref 292), .inl 9223372043297226757, .inl 9223372043297226757, .inl 9223372047592195047, .inl 6442450944] q_X9_worth_1 al_X9_worth_1
set_option maxRecDepth 100000 in
theorem cs_X9_worth_1 (d : Nat) (hG : zGood gh) : zC l G gh (d + 7) n_X9_worth gs_X9_worth_1 := zgq_ok zGood_ok (pcs := p_X9_worth) (by decide) rfl rfl (fun a ha => by simp only [al_X9_worth_1, List.mem_cons, List.not_mem_nil, or_false] at ha; rcases ha with rfl <;> decide +kernel) (fun gh hG => x_X9_worth_1 d hG) (by decide +kernel) hG
def q_X9_worth_2 : List (Nat × Nat) := [(292, zk102), (301, zk107), (304, zk107)]
noncomputable def al_X9_worth_2 : zAq := [(some (.inl 2147383648), [(292, zk102), (301, zk107), (304, zk107)])]
noncomputable def fm_X9_worth_2 : List zFm := [(0, [], (fun vs => [.inr (.ref 292), .inl 9223372043297226757, .inl 9223372043297226757, .inl 9223372047592195047, .inl 9223372255898107903]), (fun vs => zP q_X9_worth_2), (fun vs => Nat.sub (Nat.add 0 0) 0))]
def bf_X9_worth_2 : List Nat := []
theorem r_X9_worth_2_0 : zbox [] (fun vs => zFrun (zpost (zAlq al_X9_worth_2)) 1000 t_X9_worth fm_X9_worth_2 bf_X9_worth_2 (0, vs)) = true := by decide +kernel
set_option maxRecDepth 100000 in
theorem x_X9_worth_2 (d : Nat) (hG : zGood gh) : zS l G gh (d + 7) (zpost (zAlq al_X9_worth_2)) n_X9_worth (zn 0 p_X9_worth 0) (zwc (0, [.inr (.ref 292), .inl 9223372043297226757, .inl 9223372043297226757, .inl 9223372047592195047, .inl 9223372255898107903], zP q_X9_worth_2) 0) := zentry (tt_X9_worth d hG) fm_X9_worth_2 bf_X9_worth_2 1000 (by decide +kernel) rfl ⟨Nat.zero_lt_succ _, trivial⟩ (fun f hf => match f, hf with
  | 0, _ => fun vs hv => (zbox_t r_X9_worth_2_0) vs hv
  | f + 1, h => absurd (show f + 1 < 1 from h) (Nat.not_lt.mpr (Nat.le_add_left 1 f)))
noncomputable def gs_X9_worth_2 : zMt := zgq true zUN 10 [.inr (.ref 292), .inl 9223372043297226757, .inl 9223372043297226757, .inl 9223372047592195047, .inl 9223372255898107903] q_X9_worth_2 al_X9_worth_2
set_option maxRecDepth 100000 in
theorem cs_X9_worth_2 (d : Nat) (hG : zGood gh) : zC l G gh (d + 7) n_X9_worth gs_X9_worth_2 := zgq_ok zGood_ok (pcs := p_X9_worth) (by decide) rfl rfl (fun a ha => by simp only [al_X9_worth_2, List.mem_cons, List.not_mem_nil, or_false] at ha; rcases ha with rfl <;> decide +kernel) (fun gh hG => x_X9_worth_2 d hG) (by decide +kernel) hG
def q_X9_worth_3 : List (Nat × Nat) := [(292, zk102), (301, zk107), (304, zk107)]
noncomputable def al_X9_worth_3 : zAq := [(some (.inl 2147383648), [(292, zk102), (301, zk107), (304, zk107)])]
noncomputable def fm_X9_worth_3 : List zFm := [(0, [], (fun vs => [.inr (.ref 292), .inl 9223372043297226757, .inl 9223372043297226757, .inl 6442450944, .inl 8589934591]), (fun vs => zP q_X9_worth_3), (fun vs => Nat.sub (Nat.add 0 0) 0))]
def bf_X9_worth_3 : List Nat := []
theorem r_X9_worth_3_0 : zbox [] (fun vs => zFrun (zpost (zAlq al_X9_worth_3)) 1000 t_X9_worth fm_X9_worth_3 bf_X9_worth_3 (0, vs)) = true := by decide +kernel
set_option maxRecDepth 100000 in
theorem x_X9_worth_3 (d : Nat) (hG : zGood gh) : zS l G gh (d + 7) (zpost (zAlq al_X9_worth_3)) n_X9_worth (zn 0 p_X9_worth 0) (zwc (0, [.inr (.ref 292), .inl 9223372043297226757, .inl 9223372043297226757, .inl 6442450944, .inl 8589934591], zP q_X9_worth_3) 0) := zentry (tt_X9_worth d hG) fm_X9_worth_3 bf_X9_worth_3 1000 (by decide +kernel) rfl ⟨Nat.zero_lt_succ _, trivial⟩ (fun f hf => match f, hf with
  | 0, _ => fun vs hv => (zbox_t r_X9_worth_3_0) vs hv
  | f + 1, h => absurd (show f + 1 < 1 from h) (Nat.not_lt.mpr (Nat.le_add_left 1 f)))
noncomputable def gs_X9_worth_3 : zMt := zgq true zUN 10 [.inr (.ref 292), .inl 9223372043297226757, .inl 9223372043297226757, .inl 6442450944, .inl 8589934591] q_X9_worth_3 al_X9_worth_3
set_option maxRecDepth 100000 in
theorem cs_X9_worth_3 (d : Nat) (hG : zGood gh) : zC l G gh (d + 7) n_X9_worth gs_X9_worth_3 := zgq_ok zGood_ok (pcs := p_X9_worth) (by decide) rfl rfl (fun a ha => by simp only [al_X9_worth_3, List.mem_cons, List.not_mem_nil, or_false] at ha; rcases ha with rfl <;> decide +kernel) (fun gh hG => x_X9_worth_3 d hG) (by decide +kernel) hG
def q_X9_worth_4 : List (Nat × Nat) := [(292, zk102), (301, zk107), (304, zk107)]
noncomputable def al_X9_worth_4 : zAq := [(some (.inl 2147383648), [(292, zk102), (301, zk107), (304, zk107)])]
noncomputable def fm_X9_worth_4 : List zFm := [(0, [], (fun vs => [.inr (.ref 292), .inl 9223372043297226757, .inl 9223372043297226757, .inl 9223376340412006399, .inl 8589934591]), (fun vs => zP q_X9_worth_4), (fun vs => Nat.sub (Nat.add 0 0) 0))]
def bf_X9_worth_4 : List Nat := []
theorem r_X9_worth_4_0 : zbox [] (fun vs => zFrun (zpost (zAlq al_X9_worth_4)) 1000 t_X9_worth fm_X9_worth_4 bf_X9_worth_4 (0, vs)) = true := by decide +kernel
set_option maxRecDepth 100000 in
theorem x_X9_worth_4 (d : Nat) (hG : zGood gh) : zS l G gh (d + 7) (zpost (zAlq al_X9_worth_4)) n_X9_worth (zn 0 p_X9_worth 0) (zwc (0, [.inr (.ref 292), .inl 9223372043297226757, .inl 9223372043297226757, .inl 9223376340412006399, .inl 8589934591], zP q_X9_worth_4) 0) := zentry (tt_X9_worth d hG) fm_X9_worth_4 bf_X9_worth_4 1000 (by decide +kernel) rfl ⟨Nat.zero_lt_succ _, trivial⟩ (fun f hf => match f, hf with
  | 0, _ => fun vs hv => (zbox_t r_X9_worth_4_0) vs hv
  | f + 1, h => absurd (show f + 1 < 1 from h) (Nat.not_lt.mpr (Nat.le_add_left 1 f)))
noncomputable def gs_X9_worth_4 : zMt := zgq true zUN 10 [.inr (.ref 292), .inl 9223372043297226757, .inl 9223372043297226757, .inl 9223376340412006399, .inl 8589934591] q_X9_worth_4 al_X9_worth_4
set_option maxRecDepth 100000 in
theorem cs_X9_worth_4 (d : Nat) (hG : zGood gh) : zC l G gh (d + 7) n_X9_worth gs_X9_worth_4 := zgq_ok zGood_ok (pcs := p_X9_worth) (by decide) rfl rfl (fun a ha => by simp only [al_X9_worth_4, List.mem_cons, List.not_mem_nil, or_false] at ha; rcases ha with rfl <;> decide +kernel) (fun gh hG => x_X9_worth_4 d hG) (by decide +kernel) hG
def q_X9_worth_5 : List (Nat × Nat) := [(292, zk102), (301, zk107), (304, zk107)]
noncomputable def al_X9_worth_5 : zAq := [(some (.inl 2147383648), [(292, zk102), (301, zk107), (304, zk107)])]
noncomputable def fm_X9_worth_5 : List zFm := [(0, [], (fun vs => [.inr (.ref 292), .inl 9223372043297226757, .inl 6442450943, .inl 8589934591, .inl 8589934591]), (fun vs => zP q_X9_worth_5), (fun vs => Nat.sub (Nat.add 0 0) 0))]
def bf_X9_worth_5 : List Nat := []
theorem r_X9_worth_5_0 : zbox [] (fun vs => zFrun (zpost (zAlq al_X9_worth_5)) 1000 t_X9_worth fm_X9_worth_5 bf_X9_worth_5 (0, vs)) = true := by decide +kernel
set_option maxRecDepth 100000 in
theorem x_X9_worth_5 (d : Nat) (hG : zGood gh) : zS l G gh (d + 7) (zpost (zAlq al_X9_worth_5)) n_X9_worth (zn 0 p_X9_worth 0) (zwc (0, [.inr (.ref 292), .inl 9223372043297226757, .inl 6442450943, .inl 8589934591, .inl 8589934591], zP q_X9_worth_5) 0) := zentry (tt_X9_worth d hG) fm_X9_worth_5 bf_X9_worth_5 1000 (by decide +kernel) rfl ⟨Nat.zero_lt_succ _, trivial⟩ (fun f hf => match f, hf with
  | 0, _ => fun vs hv => (zbox_t r_X9_worth_5_0) vs hv
  | f + 1, h => absurd (show f + 1 < 1 from h) (Nat.not_lt.mpr (Nat.le_add_left 1 f)))
noncomputable def gs_X9_worth_5 : zMt := zgq true zUN 10 [.inr (.ref 292), .inl 9223372043297226757, .inl 6442450943, .inl 8589934591, .inl 8589934591] q_X9_worth_5 al_X9_worth_5
set_option maxRecDepth 100000 in
theorem cs_X9_worth_5 (d : Nat) (hG : zGood gh) : zC l G gh (d + 7) n_X9_worth gs_X9_worth_5 := zgq_ok zGood_ok (pcs := p_X9_worth) (by decide) rfl rfl (fun a ha => by simp only [al_X9_worth_5, List.mem_cons, List.not_mem_nil, or_false] at ha; rcases ha with rfl <;> decide +kernel) (fun gh hG => x_X9_worth_5 d hG) (by decide +kernel) hG
def q_X9_worth_6 : List (Nat × Nat) := [(292, zk102), (301, zk107), (304, zk107)]
noncomputable def al_X9_worth_6 : zAq := [(some (.inl 2147383648), [(292, zk102), (301, zk107), (304, zk107)])]
noncomputable def fm_X9_worth_6 : List zFm := [(0, [], (fun vs => [.inr (.ref 292), .inl 9223372043297226757, .inl 9223372071214514175, .inl 8589934591, .inl 8589934591]), (fun vs => zP q_X9_worth_6), (fun vs => Nat.sub (Nat.add 0 0) 0))]
def bf_X9_worth_6 : List Nat := []
theorem r_X9_worth_6_0 : zbox [] (fun vs => zFrun (zpost (zAlq al_X9_worth_6)) 1000 t_X9_worth fm_X9_worth_6 bf_X9_worth_6 (0, vs)) = true := by decide +kernel
set_option maxRecDepth 100000 in
theorem x_X9_worth_6 (d : Nat) (hG : zGood gh) : zS l G gh (d + 7) (zpost (zAlq al_X9_worth_6)) n_X9_worth (zn 0 p_X9_worth 0) (zwc (0, [.inr (.ref 292), .inl 9223372043297226757, .inl 9223372071214514175, .inl 8589934591, .inl 8589934591], zP q_X9_worth_6) 0) := zentry (tt_X9_worth d hG) fm_X9_worth_6 bf_X9_worth_6 1000 (by decide +kernel) rfl ⟨Nat.zero_lt_succ _, trivial⟩ (fun f hf => match f, hf with
  | 0, _ => fun vs hv => (zbox_t r_X9_worth_6_0) vs hv
  | f + 1, h => absurd (show f + 1 < 1 from h) (Nat.not_lt.mpr (Nat.le_add_left 1 f)))
noncomputable def gs_X9_worth_6 : zMt := zgq true zUN 10 [.inr (.ref 292), .inl 9223372043297226757, .inl 9223372071214514175, .inl 8589934591, .inl 8589934591] q_X9_worth_6 al_X9_worth_6
set_option maxRecDepth 100000 in
theorem cs_X9_worth_6 (d : Nat) (hG : zGood gh) : zC l G gh (d + 7) n_X9_worth gs_X9_worth_6 := zgq_ok zGood_ok (pcs := p_X9_worth) (by decide) rfl rfl (fun a ha => by simp only [al_X9_worth_6, List.mem_cons, List.not_mem_nil, or_false] at ha; rcases ha with rfl <;> decide +kernel) (fun gh hG => x_X9_worth_6 d hG) (by decide +kernel) hG
def q_X9_worth_7 : List (Nat × Nat) := [(292, zk102), (304, zk107)]
noncomputable def al_X9_worth_7 : zAq := [(some (.inl 2147383648), [(292, zk102), (304, zk107)])]
noncomputable def fm_X9_worth_7 : List zFm := [(0, [], (fun vs => [.inr (.ref 292), .inl 6442450943, .inl 8589934591, .inl 8589934591, .inl 8589934591]), (fun vs => zP q_X9_worth_7), (fun vs => Nat.sub (Nat.add 0 0) 0))]
def bf_X9_worth_7 : List Nat := []
theorem r_X9_worth_7_0 : zbox [] (fun vs => zFrun (zpost (zAlq al_X9_worth_7)) 1000 t_X9_worth fm_X9_worth_7 bf_X9_worth_7 (0, vs)) = true := by decide +kernel
set_option maxRecDepth 100000 in
theorem x_X9_worth_7 (d : Nat) (hG : zGood gh) : zS l G gh (d + 7) (zpost (zAlq al_X9_worth_7)) n_X9_worth (zn 0 p_X9_worth 0) (zwc (0, [.inr (.ref 292), .inl 6442450943, .inl 8589934591, .inl 8589934591, .inl 8589934591], zP q_X9_worth_7) 0) := zentry (tt_X9_worth d hG) fm_X9_worth_7 bf_X9_worth_7 1000 (by decide +kernel) rfl ⟨Nat.zero_lt_succ _, trivial⟩ (fun f hf => match f, hf with
  | 0, _ => fun vs hv => (zbox_t r_X9_worth_7_0) vs hv
  | f + 1, h => absurd (show f + 1 < 1 from h) (Nat.not_lt.mpr (Nat.le_add_left 1 f)))
noncomputable def gs_X9_worth_7 : zMt := zgq true zUN 10 [.inr (.ref 292), .inl 6442450943, .inl 8589934591, .inl 8589934591, .inl 8589934591] q_X9_worth_7 al_X9_worth_7
set_option maxRecDepth 100000 in
theorem cs_X9_worth_7 (d : Nat) (hG : zGood gh) : zC l G gh (d + 7) n_X9_worth gs_X9_worth_7 := zgq_ok zGood_ok (pcs := p_X9_worth) (by decide) rfl rfl (fun a ha => by simp only [al_X9_worth_7, List.mem_cons, List.not_mem_nil, or_false] at ha; rcases ha with rfl <;> decide +kernel) (fun gh hG => x_X9_worth_7 d hG) (by decide +kernel) hG
def q_X9_worth_8 : List (Nat × Nat) := [(292, zk102), (304, zk107)]
noncomputable def al_X9_worth_8 : zAq := [(some (.inl 2147383648), [(292, zk102), (304, zk107)])]
noncomputable def fm_X9_worth_8 : List zFm := [(0, [], (fun vs => [.inr (.ref 292), .inl 9223372071214514175, .inl 8589934591, .inl 8589934591, .inl 8589934591]), (fun vs => zP q_X9_worth_8), (fun vs => Nat.sub (Nat.add 0 0) 0))]
def bf_X9_worth_8 : List Nat := []
theorem r_X9_worth_8_0 : zbox [] (fun vs => zFrun (zpost (zAlq al_X9_worth_8)) 1000 t_X9_worth fm_X9_worth_8 bf_X9_worth_8 (0, vs)) = true := by decide +kernel
set_option maxRecDepth 100000 in
theorem x_X9_worth_8 (d : Nat) (hG : zGood gh) : zS l G gh (d + 7) (zpost (zAlq al_X9_worth_8)) n_X9_worth (zn 0 p_X9_worth 0) (zwc (0, [.inr (.ref 292), .inl 9223372071214514175, .inl 8589934591, .inl 8589934591, .inl 8589934591], zP q_X9_worth_8) 0) := zentry (tt_X9_worth d hG) fm_X9_worth_8 bf_X9_worth_8 1000 (by decide +kernel) rfl ⟨Nat.zero_lt_succ _, trivial⟩ (fun f hf => match f, hf with
  | 0, _ => fun vs hv => (zbox_t r_X9_worth_8_0) vs hv
  | f + 1, h => absurd (show f + 1 < 1 from h) (Nat.not_lt.mpr (Nat.le_add_left 1 f)))
noncomputable def gs_X9_worth_8 : zMt := zgq true zUN 10 [.inr (.ref 292), .inl 9223372071214514175, .inl 8589934591, .inl 8589934591, .inl 8589934591] q_X9_worth_8 al_X9_worth_8
set_option maxRecDepth 100000 in
theorem cs_X9_worth_8 (d : Nat) (hG : zGood gh) : zC l G gh (d + 7) n_X9_worth gs_X9_worth_8 := zgq_ok zGood_ok (pcs := p_X9_worth) (by decide) rfl rfl (fun a ha => by simp only [al_X9_worth_8, List.mem_cons, List.not_mem_nil, or_false] at ha; rcases ha with rfl <;> decide +kernel) (fun gh hG => x_X9_worth_8 d hG) (by decide +kernel) hG
noncomputable def gs_X9_worth : zMt := (zor gs_X9_worth_0 (zor gs_X9_worth_1 (zor gs_X9_worth_2 (zor gs_X9_worth_3 (zor gs_X9_worth_4 (zor gs_X9_worth_5 (zor gs_X9_worth_6 (zor gs_X9_worth_7 gs_X9_worth_8))))))))
theorem cs_X9_worth (d : Nat) (hG : zGood gh) : zC l G gh (d + 7) n_X9_worth gs_X9_worth := (zor_ok (cs_X9_worth_0 d hG) (zor_ok (cs_X9_worth_1 d hG) (zor_ok (cs_X9_worth_2 d hG) (zor_ok (cs_X9_worth_3 d hG) (zor_ok (cs_X9_worth_4 d hG) (zor_ok (cs_X9_worth_5 d hG) (zor_ok (cs_X9_worth_6 d hG) (zor_ok (cs_X9_worth_7 d hG) (cs_X9_worth_8 d hG)))))))))
def p_X9_hidden : List Nat := [0, 7, 14, 24, 26, 29, 36, 50, 66, 70, 71, 78, 81, 88, 99, 102, 105, 112, 130, 140, 152, 176, 180, 181, 188, 191, 198, 218, 224]
noncomputable def b_X9_hidden_0 : zBl := fun jp K => oIld 1 <| oCs 1 f_X9_isX <| oIf zeq zne (jp 3) (jp 1)
theorem s_X9_hidden_0 (d : Nat) (hG : zGood gh) : zPb l G gh (d + 7) n_X9_hidden p_X9_hidden 0 b_X9_hidden_0 := fun K jp hj =>
    z_iload_n (n := 1) (i := 1) (zd (i := .iload_n 1) (n := 1) (by decide +kernel)) rfl <|
    z_callS (idx := 387) (N := n_X9_isX) (zd (i := .invokestatic 387) (n := 3) (by decide +kernel)) to_X9_isX g1507 g1508 rfl rfl (c_X9_isX (l := l) (G := G) (gh := gh) (d + 4)) <|
    z_if_eq (off := 20) (tgt := 24) (zd (i := .ifCond .eq (20)) (n := 3) (by decide +kernel)) (by decide +kernel) (zj (hj 3) (by decide +kernel)) (zj (hj 1) (by decide +kernel))
noncomputable def b_X9_hidden_1 : zBl := fun jp K => oIld 2 <| oCs 1 f_X9_isX <| oIf zeq zne (jp 3) (jp 2)
theorem s_X9_hidden_1 (d : Nat) (hG : zGood gh) : zPb l G gh (d + 7) n_X9_hidden p_X9_hidden 7 b_X9_hidden_1 := fun K jp hj =>
    z_iload_n (n := 2) (i := 2) (zd (i := .iload_n 2) (n := 1) (by decide +kernel)) rfl <|
    z_callS (idx := 387) (N := n_X9_isX) (zd (i := .invokestatic 387) (n := 3) (by decide +kernel)) to_X9_isX g1507 g1508 rfl rfl (c_X9_isX (l := l) (G := G) (gh := gh) (d + 4)) <|
    z_if_eq (off := 13) (tgt := 24) (zd (i := .ifCond .eq (13)) (n := 3) (by decide +kernel)) (by decide +kernel) (zj (hj 3) (by decide +kernel)) (zj (hj 2) (by decide +kernel))
noncomputable def b_X9_hidden_2 : zBl := fun jp K => oIld 3 <| oInt 2147483649 <| oInt 2147483657 <| oCs 3 f_X9_in <| oIf zne zeq (jp 4) (jp 3)
theorem s_X9_hidden_2 (d : Nat) (hG : zGood gh) : zPb l G gh (d + 7) n_X9_hidden p_X9_hidden 14 b_X9_hidden_2 := fun K jp hj =>
    z_iload_n (n := 3) (i := 3) (zd (i := .iload_n 3) (n := 1) (by decide +kernel)) rfl <|
    z_iconst (n := 1) (zd (i := .iconst (1)) (n := 1) (by decide +kernel)) (by decide +kernel) <|
    z_bipush (n := 9) (zd (i := .bipush (9)) (n := 2) (by decide +kernel)) (by decide +kernel) <|
    z_callS (idx := 304) (N := n_X9_in) (zd (i := .invokestatic 304) (n := 3) (by decide +kernel)) to_X9_in g1442 g1443 rfl rfl (c_X9_in (l := l) (G := G) (gh := gh) (d + 5)) <|
    z_if_ne (off := 5) (tgt := 26) (zd (i := .ifCond .ne (5)) (n := 3) (by decide +kernel)) (by decide +kernel) (zj (hj 4) (by decide +kernel)) (zj (hj 3) (by decide +kernel))
noncomputable def b_X9_hidden_3 : zBl := fun jp K => oInt 2147483647 <| oIret K
theorem s_X9_hidden_3 (d : Nat) (hG : zGood gh) : zPb l G gh (d + 7) n_X9_hidden p_X9_hidden 24 b_X9_hidden_3 := fun K jp hj =>
    z_iconst (n := -1) (zd (i := .iconst (-1)) (n := 1) (by decide +kernel)) (by decide +kernel) <|
    z_iret (zd (i := .ireturn) (n := 1) (by decide +kernel)) rfl
noncomputable def b_X9_hidden_4 : zBl := fun jp K => oInt 2147483648 <| oIst 4 <| jp 5
theorem s_X9_hidden_4 (d : Nat) (hG : zGood gh) : zPb l G gh (d + 7) n_X9_hidden p_X9_hidden 26 b_X9_hidden_4 := fun K jp hj =>
    z_iconst (n := 0) (zd (i := .iconst (0)) (n := 1) (by decide +kernel)) (by decide +kernel) <|
    z_istore (i := 4) (zd (i := .istore 4) (n := 2) (by decide +kernel)) (by decide +kernel) <|
    (zj (hj 5) (by decide +kernel))
noncomputable def b_X9_hidden_5 : zBl := fun jp K => oNLC 4 2147483670 zgeN zltN zn1_ge zn1_lt (jp 11) (jp 6)
theorem s_X9_hidden_5 (d : Nat) (hG : zGood gh) : zPb l G gh (d + 7) n_X9_hidden p_X9_hidden 29 b_X9_hidden_5 := fun K jp hj =>
    z_nLC_ge (i := 4) (c0 := 2147483670) (a1 := 2) (a2 := 2) (off := 45) (tgt := 78) (zLd_w (i := 4) (zd (i := .iload 4) (n := 2) (by decide +kernel))) (zCn_b (n := 22) (zd (i := .bipush (22)) (n := 2) (by decide +kernel)) (by decide +kernel)) (zd (i := .if_icmp .ge (45)) (n := 3) (by decide +kernel)) (by decide +kernel) (zj (hj 11) (by decide +kernel)) (zj (hj 6) (by decide +kernel))
noncomputable def b_X9_hidden_6 : zBl := fun jp K => oAld 0 <| oGetR 9 56 <| oIld 4 <| oIld 4 <| oIld 1 <| oInt 2147483649 <| oB2 zadd <| oIc zne zeq (jp 9) (jp 7)
theorem s_X9_hidden_6 (d : Nat) (hG : zGood gh) : zPb l G gh (d + 7) n_X9_hidden p_X9_hidden 36 b_X9_hidden_6 := fun K jp hj =>
    z_aload_n (n := 0) (i := 0) (zd (i := .aload_n 0) (n := 1) (by decide +kernel)) rfl <|
    z_getR (ci := 9) (j := 56) (idx := 125) (zd (i := .getfield 125) (n := 3) (by decide +kernel)) (by decide +kernel) (by decide +kernel) rfl g1184 <|
    z_iload (i := 4) (zd (i := .iload 4) (n := 2) (by decide +kernel)) <|
    z_iload (i := 4) (zd (i := .iload 4) (n := 2) (by decide +kernel)) <|
    z_iload_n (n := 1) (i := 1) (zd (i := .iload_n 1) (n := 1) (by decide +kernel)) rfl <|
    z_iconst (n := 1) (zd (i := .iconst (1)) (n := 1) (by decide +kernel)) (by decide +kernel) <|
    z_iadd (zd (i := .iadd) (n := 1) (by decide +kernel)) <|
    z_icmp_ne (off := 23) (tgt := 70) (zd (i := .if_icmp .ne (23)) (n := 3) (by decide +kernel)) (by decide +kernel) (zj (hj 9) (by decide +kernel)) (zj (hj 7) (by decide +kernel))
noncomputable def b_X9_hidden_7 : zBl := fun jp K => oAld 0 <| oIld 1 <| oIld 3 <| oAld 0 <| oGetR 9 48 <| oInt 2147483744 <| oXald 10 <| oCv 9 3 gs_X9_isWatched <| oIf zne zeq (jp 9) (jp 8)
theorem s_X9_hidden_7 (d : Nat) (hG : zGood gh) : zPb l G gh (d + 7) n_X9_hidden p_X9_hidden 50 b_X9_hidden_7 := fun K jp hj =>
    z_aload_n (n := 0) (i := 0) (zd (i := .aload_n 0) (n := 1) (by decide +kernel)) rfl <|
    z_iload_n (n := 1) (i := 1) (zd (i := .iload_n 1) (n := 1) (by decide +kernel)) rfl <|
    z_iload_n (n := 3) (i := 3) (zd (i := .iload_n 3) (n := 1) (by decide +kernel)) rfl <|
    z_aload_n (n := 0) (i := 0) (zd (i := .aload_n 0) (n := 1) (by decide +kernel)) rfl <|
    z_getR (ci := 9) (j := 48) (idx := 110) (zd (i := .getfield 110) (n := 3) (by decide +kernel)) (by decide +kernel) (by decide +kernel) rfl g1176 <|
    z_bipush (n := 96) (zd (i := .bipush (96)) (n := 2) (by decide +kernel)) (by decide +kernel) <|
    z_iald (zd (i := .iaload) (n := 1) (by decide +kernel)) <|
    z_callV (idx := 425) (ci := 9) (N := n_X9_isWatched) (zd (i := .invokevirtual 425) (n := 3) (by decide +kernel)) to_X9_isWatched g1653 g1655 g93 (by decide +kernel) rfl rfl rfl (cs_X9_isWatched (l := l) (G := G) (gh := gh) (d) hG) <|
    z_if_ne (off := 7) (tgt := 70) (zd (i := .ifCond .ne (7)) (n := 3) (by decide +kernel)) (by decide +kernel) (zj (hj 9) (by decide +kernel)) (zj (hj 8) (by decide +kernel))
noncomputable def b_X9_hidden_8 : zBl := fun jp K => oInt 2147483649 <| jp 10
theorem s_X9_hidden_8 (d : Nat) (hG : zGood gh) : zPb l G gh (d + 7) n_X9_hidden p_X9_hidden 66 b_X9_hidden_8 := fun K jp hj =>
    z_iconst (n := 1) (zd (i := .iconst (1)) (n := 1) (by decide +kernel)) (by decide +kernel) <|
    z_goto (off := 4) (tgt := 71) (zd (i := .goto (4)) (n := 3) (by decide +kernel)) (by decide +kernel) (zj (hj 10) (by decide +kernel))
noncomputable def b_X9_hidden_9 : zBl := fun jp K => oInt 2147483648 <| jp 10
theorem s_X9_hidden_9 (d : Nat) (hG : zGood gh) : zPb l G gh (d + 7) n_X9_hidden p_X9_hidden 70 b_X9_hidden_9 := fun K jp hj =>
    z_iconst (n := 0) (zd (i := .iconst (0)) (n := 1) (by decide +kernel)) (by decide +kernel) <|
    (zj (hj 10) (by decide +kernel))
noncomputable def b_X9_hidden_10 : zBl := fun jp K => oXast 12 znz1 <| oInc 4 2147483649 <| jp 5
theorem s_X9_hidden_10 (d : Nat) (hG : zGood gh) : zPb l G gh (d + 7) n_X9_hidden p_X9_hidden 71 b_X9_hidden_10 := fun K jp hj =>
    z_zast (zd (i := .bastore) (n := 1) (by decide +kernel)) <|
    z_iinc (i := 4) (n := 1) (zd (i := .iinc 4 (1)) (n := 3) (by decide +kernel)) (by decide +kernel) (by decide +kernel) <|
    z_goto (off := -46) (tgt := 29) (zd (i := .goto (-46)) (n := 3) (by decide +kernel)) (by decide +kernel) (zj (hj 5) (by decide +kernel))
noncomputable def b_X9_hidden_11 : zBl := fun jp K => oInt 2147483648 <| oIst 4 <| jp 12
theorem s_X9_hidden_11 (d : Nat) (hG : zGood gh) : zPb l G gh (d + 7) n_X9_hidden p_X9_hidden 78 b_X9_hidden_11 := fun K jp hj =>
    z_iconst (n := 0) (zd (i := .iconst (0)) (n := 1) (by decide +kernel)) (by decide +kernel) <|
    z_istore (i := 4) (zd (i := .istore 4) (n := 2) (by decide +kernel)) (by decide +kernel) <|
    (zj (hj 12) (by decide +kernel))
noncomputable def b_X9_hidden_12 : zBl := fun jp K => oNLC 4 2147483696 zgtN zleN zn1_gt zn1_le (jp 28) (jp 13)
theorem s_X9_hidden_12 (d : Nat) (hG : zGood gh) : zPb l G gh (d + 7) n_X9_hidden p_X9_hidden 81 b_X9_hidden_12 := fun K jp hj =>
    z_nLC_gt (i := 4) (c0 := 2147483696) (a1 := 2) (a2 := 2) (off := 139) (tgt := 224) (zLd_w (i := 4) (zd (i := .iload 4) (n := 2) (by decide +kernel))) (zCn_b (n := 48) (zd (i := .bipush (48)) (n := 2) (by decide +kernel)) (by decide +kernel)) (zd (i := .if_icmp .gt (139)) (n := 3) (by decide +kernel)) (by decide +kernel) (zj (hj 28) (by decide +kernel)) (zj (hj 13) (by decide +kernel))
noncomputable def b_X9_hidden_13 : zBl := fun jp K => oAld 0 <| oGetR 9 56 <| oIld 2 <| oInt 2147483649 <| oB2 zadd <| oXald 12 <| oIf zeq zne (jp 15) (jp 14)
theorem s_X9_hidden_13 (d : Nat) (hG : zGood gh) : zPb l G gh (d + 7) n_X9_hidden p_X9_hidden 88 b_X9_hidden_13 := fun K jp hj =>
    z_aload_n (n := 0) (i := 0) (zd (i := .aload_n 0) (n := 1) (by decide +kernel)) rfl <|
    z_getR (ci := 9) (j := 56) (idx := 125) (zd (i := .getfield 125) (n := 3) (by decide +kernel)) (by decide +kernel) (by decide +kernel) rfl g1184 <|
    z_iload_n (n := 2) (i := 2) (zd (i := .iload_n 2) (n := 1) (by decide +kernel)) rfl <|
    z_iconst (n := 1) (zd (i := .iconst (1)) (n := 1) (by decide +kernel)) (by decide +kernel) <|
    z_iadd (zd (i := .iadd) (n := 1) (by decide +kernel)) <|
    z_zald (zd (i := .baload) (n := 1) (by decide +kernel)) <|
    z_if_eq (off := 6) (tgt := 102) (zd (i := .ifCond .eq (6)) (n := 3) (by decide +kernel)) (by decide +kernel) (zj (hj 15) (by decide +kernel)) (zj (hj 14) (by decide +kernel))
noncomputable def b_X9_hidden_14 : zBl := fun jp K => oIld 4 <| oIret K
theorem s_X9_hidden_14 (d : Nat) (hG : zGood gh) : zPb l G gh (d + 7) n_X9_hidden p_X9_hidden 99 b_X9_hidden_14 := fun K jp hj =>
    z_iload (i := 4) (zd (i := .iload 4) (n := 2) (by decide +kernel)) <|
    z_iret (zd (i := .ireturn) (n := 1) (by decide +kernel)) rfl
noncomputable def b_X9_hidden_15 : zBl := fun jp K => oInt 2147483649 <| oIst 5 <| jp 16
theorem s_X9_hidden_15 (d : Nat) (hG : zGood gh) : zPb l G gh (d + 7) n_X9_hidden p_X9_hidden 102 b_X9_hidden_15 := fun K jp hj =>
    z_iconst (n := 1) (zd (i := .iconst (1)) (n := 1) (by decide +kernel)) (by decide +kernel) <|
    z_istore (i := 5) (zd (i := .istore 5) (n := 2) (by decide +kernel)) (by decide +kernel) <|
    (zj (hj 16) (by decide +kernel))
noncomputable def b_X9_hidden_16 : zBl := fun jp K => oNLC 5 2147483668 zgtN zleN zn1_gt zn1_le (jp 24) (jp 17)
theorem s_X9_hidden_16 (d : Nat) (hG : zGood gh) : zPb l G gh (d + 7) n_X9_hidden p_X9_hidden 105 b_X9_hidden_16 := fun K jp hj =>
    z_nLC_gt (i := 5) (c0 := 2147483668) (a1 := 2) (a2 := 2) (off := 79) (tgt := 188) (zLd_w (i := 5) (zd (i := .iload 5) (n := 2) (by decide +kernel))) (zCn_b (n := 20) (zd (i := .bipush (20)) (n := 2) (by decide +kernel)) (by decide +kernel)) (zd (i := .if_icmp .gt (79)) (n := 3) (by decide +kernel)) (by decide +kernel) (zj (hj 24) (by decide +kernel)) (zj (hj 17) (by decide +kernel))
noncomputable def b_X9_hidden_17 : zBl := fun jp K => oAld 0 <| oGetR 9 57 <| oIld 5 <| oAld 0 <| oGetR 9 56 <| oIld 5 <| oInt 2147483649 <| oB2 zsub <| oXald 12 <| oIf zne zeq (jp 20) (jp 18)
theorem s_X9_hidden_17 (d : Nat) (hG : zGood gh) : zPb l G gh (d + 7) n_X9_hidden p_X9_hidden 112 b_X9_hidden_17 := fun K jp hj =>
    z_aload_n (n := 0) (i := 0) (zd (i := .aload_n 0) (n := 1) (by decide +kernel)) rfl <|
    z_getR (ci := 9) (j := 57) (idx := 128) (zd (i := .getfield 128) (n := 3) (by decide +kernel)) (by decide +kernel) (by decide +kernel) rfl g1185 <|
    z_iload (i := 5) (zd (i := .iload 5) (n := 2) (by decide +kernel)) <|
    z_aload_n (n := 0) (i := 0) (zd (i := .aload_n 0) (n := 1) (by decide +kernel)) rfl <|
    z_getR (ci := 9) (j := 56) (idx := 125) (zd (i := .getfield 125) (n := 3) (by decide +kernel)) (by decide +kernel) (by decide +kernel) rfl g1184 <|
    z_iload (i := 5) (zd (i := .iload 5) (n := 2) (by decide +kernel)) <|
    z_iconst (n := 1) (zd (i := .iconst (1)) (n := 1) (by decide +kernel)) (by decide +kernel) <|
    z_isub (zd (i := .isub) (n := 1) (by decide +kernel)) <|
    z_zald (zd (i := .baload) (n := 1) (by decide +kernel)) <|
    z_if_ne (off := 25) (tgt := 152) (zd (i := .ifCond .ne (25)) (n := 3) (by decide +kernel)) (by decide +kernel) (zj (hj 20) (by decide +kernel)) (zj (hj 18) (by decide +kernel))
noncomputable def b_X9_hidden_18 : zBl := fun jp K => oAld 0 <| oGetR 9 56 <| oIld 5 <| oXald 12 <| oIf zne zeq (jp 20) (jp 19)
theorem s_X9_hidden_18 (d : Nat) (hG : zGood gh) : zPb l G gh (d + 7) n_X9_hidden p_X9_hidden 130 b_X9_hidden_18 := fun K jp hj =>
    z_aload_n (n := 0) (i := 0) (zd (i := .aload_n 0) (n := 1) (by decide +kernel)) rfl <|
    z_getR (ci := 9) (j := 56) (idx := 125) (zd (i := .getfield 125) (n := 3) (by decide +kernel)) (by decide +kernel) (by decide +kernel) rfl g1184 <|
    z_iload (i := 5) (zd (i := .iload 5) (n := 2) (by decide +kernel)) <|
    z_zald (zd (i := .baload) (n := 1) (by decide +kernel)) <|
    z_if_ne (off := 15) (tgt := 152) (zd (i := .ifCond .ne (15)) (n := 3) (by decide +kernel)) (by decide +kernel) (zj (hj 20) (by decide +kernel)) (zj (hj 19) (by decide +kernel))
noncomputable def b_X9_hidden_19 : zBl := fun jp K => oAld 0 <| oGetR 9 56 <| oIld 5 <| oInt 2147483649 <| oB2 zadd <| oXald 12 <| oIf zeq zne (jp 22) (jp 20)
theorem s_X9_hidden_19 (d : Nat) (hG : zGood gh) : zPb l G gh (d + 7) n_X9_hidden p_X9_hidden 140 b_X9_hidden_19 := fun K jp hj =>
    z_aload_n (n := 0) (i := 0) (zd (i := .aload_n 0) (n := 1) (by decide +kernel)) rfl <|
    z_getR (ci := 9) (j := 56) (idx := 125) (zd (i := .getfield 125) (n := 3) (by decide +kernel)) (by decide +kernel) (by decide +kernel) rfl g1184 <|
    z_iload (i := 5) (zd (i := .iload 5) (n := 2) (by decide +kernel)) <|
    z_iconst (n := 1) (zd (i := .iconst (1)) (n := 1) (by decide +kernel)) (by decide +kernel) <|
    z_iadd (zd (i := .iadd) (n := 1) (by decide +kernel)) <|
    z_zald (zd (i := .baload) (n := 1) (by decide +kernel)) <|
    z_if_eq (off := 31) (tgt := 180) (zd (i := .ifCond .eq (31)) (n := 3) (by decide +kernel)) (by decide +kernel) (zj (hj 22) (by decide +kernel)) (zj (hj 20) (by decide +kernel))
noncomputable def b_X9_hidden_20 : zBl := fun jp K => oAld 0 <| oIld 5 <| oInt 2147483649 <| oB2 zsub <| oIld 3 <| oAld 0 <| oGetR 9 48 <| oInt 2147483744 <| oXald 10 <| oIld 4 <| oB2 zadd <| oInt 2147483649 <| oB2 zadd <| oCv 9 3 gs_X9_isWatched <| oIf zne zeq (jp 22) (jp 21)
theorem s_X9_hidden_20 (d : Nat) (hG : zGood gh) : zPb l G gh (d + 7) n_X9_hidden p_X9_hidden 152 b_X9_hidden_20 := fun K jp hj =>
    z_aload_n (n := 0) (i := 0) (zd (i := .aload_n 0) (n := 1) (by decide +kernel)) rfl <|
    z_iload (i := 5) (zd (i := .iload 5) (n := 2) (by decide +kernel)) <|
    z_iconst (n := 1) (zd (i := .iconst (1)) (n := 1) (by decide +kernel)) (by decide +kernel) <|
    z_isub (zd (i := .isub) (n := 1) (by decide +kernel)) <|
    z_iload_n (n := 3) (i := 3) (zd (i := .iload_n 3) (n := 1) (by decide +kernel)) rfl <|
    z_aload_n (n := 0) (i := 0) (zd (i := .aload_n 0) (n := 1) (by decide +kernel)) rfl <|
    z_getR (ci := 9) (j := 48) (idx := 110) (zd (i := .getfield 110) (n := 3) (by decide +kernel)) (by decide +kernel) (by decide +kernel) rfl g1176 <|
    z_bipush (n := 96) (zd (i := .bipush (96)) (n := 2) (by decide +kernel)) (by decide +kernel) <|
    z_iald (zd (i := .iaload) (n := 1) (by decide +kernel)) <|
    z_iload (i := 4) (zd (i := .iload 4) (n := 2) (by decide +kernel)) <|
    z_iadd (zd (i := .iadd) (n := 1) (by decide +kernel)) <|
    z_iconst (n := 1) (zd (i := .iconst (1)) (n := 1) (by decide +kernel)) (by decide +kernel) <|
    z_iadd (zd (i := .iadd) (n := 1) (by decide +kernel)) <|
    z_callV (idx := 425) (ci := 9) (N := n_X9_isWatched) (zd (i := .invokevirtual 425) (n := 3) (by decide +kernel)) to_X9_isWatched g1653 g1655 g93 (by decide +kernel) rfl rfl rfl (cs_X9_isWatched (l := l) (G := G) (gh := gh) (d) hG) <|
    z_if_ne (off := 7) (tgt := 180) (zd (i := .ifCond .ne (7)) (n := 3) (by decide +kernel)) (by decide +kernel) (zj (hj 22) (by decide +kernel)) (zj (hj 21) (by decide +kernel))
noncomputable def b_X9_hidden_21 : zBl := fun jp K => oInt 2147483649 <| jp 23
theorem s_X9_hidden_21 (d : Nat) (hG : zGood gh) : zPb l G gh (d + 7) n_X9_hidden p_X9_hidden 176 b_X9_hidden_21 := fun K jp hj =>
    z_iconst (n := 1) (zd (i := .iconst (1)) (n := 1) (by decide +kernel)) (by decide +kernel) <|
    z_goto (off := 4) (tgt := 181) (zd (i := .goto (4)) (n := 3) (by decide +kernel)) (by decide +kernel) (zj (hj 23) (by decide +kernel))
noncomputable def b_X9_hidden_22 : zBl := fun jp K => oInt 2147483648 <| jp 23
theorem s_X9_hidden_22 (d : Nat) (hG : zGood gh) : zPb l G gh (d + 7) n_X9_hidden p_X9_hidden 180 b_X9_hidden_22 := fun K jp hj =>
    z_iconst (n := 0) (zd (i := .iconst (0)) (n := 1) (by decide +kernel)) (by decide +kernel) <|
    (zj (hj 23) (by decide +kernel))
noncomputable def b_X9_hidden_23 : zBl := fun jp K => oXast 12 znz1 <| oInc 5 2147483649 <| jp 16
theorem s_X9_hidden_23 (d : Nat) (hG : zGood gh) : zPb l G gh (d + 7) n_X9_hidden p_X9_hidden 181 b_X9_hidden_23 := fun K jp hj =>
    z_zast (zd (i := .bastore) (n := 1) (by decide +kernel)) <|
    z_iinc (i := 5) (n := 1) (zd (i := .iinc 5 (1)) (n := 3) (by decide +kernel)) (by decide +kernel) (by decide +kernel) <|
    z_goto (off := -80) (tgt := 105) (zd (i := .goto (-80)) (n := 3) (by decide +kernel)) (by decide +kernel) (zj (hj 16) (by decide +kernel))
noncomputable def b_X9_hidden_24 : zBl := fun jp K => oInt 2147483649 <| oIst 5 <| jp 25
theorem s_X9_hidden_24 (d : Nat) (hG : zGood gh) : zPb l G gh (d + 7) n_X9_hidden p_X9_hidden 188 b_X9_hidden_24 := fun K jp hj =>
    z_iconst (n := 1) (zd (i := .iconst (1)) (n := 1) (by decide +kernel)) (by decide +kernel) <|
    z_istore (i := 5) (zd (i := .istore 5) (n := 2) (by decide +kernel)) (by decide +kernel) <|
    (zj (hj 25) (by decide +kernel))
noncomputable def b_X9_hidden_25 : zBl := fun jp K => oNLC 5 2147483668 zgtN zleN zn1_gt zn1_le (jp 27) (jp 26)
theorem s_X9_hidden_25 (d : Nat) (hG : zGood gh) : zPb l G gh (d + 7) n_X9_hidden p_X9_hidden 191 b_X9_hidden_25 := fun K jp hj =>
    z_nLC_gt (i := 5) (c0 := 2147483668) (a1 := 2) (a2 := 2) (off := 23) (tgt := 218) (zLd_w (i := 5) (zd (i := .iload 5) (n := 2) (by decide +kernel))) (zCn_b (n := 20) (zd (i := .bipush (20)) (n := 2) (by decide +kernel)) (by decide +kernel)) (zd (i := .if_icmp .gt (23)) (n := 3) (by decide +kernel)) (by decide +kernel) (zj (hj 27) (by decide +kernel)) (zj (hj 26) (by decide +kernel))
noncomputable def b_X9_hidden_26 : zBl := fun jp K => oAld 0 <| oGetR 9 56 <| oIld 5 <| oAld 0 <| oGetR 9 57 <| oIld 5 <| oXald 12 <| oXast 12 znz1 <| oInc 5 2147483649 <| jp 25
theorem s_X9_hidden_26 (d : Nat) (hG : zGood gh) : zPb l G gh (d + 7) n_X9_hidden p_X9_hidden 198 b_X9_hidden_26 := fun K jp hj =>
    z_aload_n (n := 0) (i := 0) (zd (i := .aload_n 0) (n := 1) (by decide +kernel)) rfl <|
    z_getR (ci := 9) (j := 56) (idx := 125) (zd (i := .getfield 125) (n := 3) (by decide +kernel)) (by decide +kernel) (by decide +kernel) rfl g1184 <|
    z_iload (i := 5) (zd (i := .iload 5) (n := 2) (by decide +kernel)) <|
    z_aload_n (n := 0) (i := 0) (zd (i := .aload_n 0) (n := 1) (by decide +kernel)) rfl <|
    z_getR (ci := 9) (j := 57) (idx := 128) (zd (i := .getfield 128) (n := 3) (by decide +kernel)) (by decide +kernel) (by decide +kernel) rfl g1185 <|
    z_iload (i := 5) (zd (i := .iload 5) (n := 2) (by decide +kernel)) <|
    z_zald (zd (i := .baload) (n := 1) (by decide +kernel)) <|
    z_zast (zd (i := .bastore) (n := 1) (by decide +kernel)) <|
    z_iinc (i := 5) (n := 1) (zd (i := .iinc 5 (1)) (n := 3) (by decide +kernel)) (by decide +kernel) (by decide +kernel) <|
    z_goto (off := -24) (tgt := 191) (zd (i := .goto (-24)) (n := 3) (by decide +kernel)) (by decide +kernel) (zj (hj 25) (by decide +kernel))
noncomputable def b_X9_hidden_27 : zBl := fun jp K => oInc 4 2147483649 <| jp 12
theorem s_X9_hidden_27 (d : Nat) (hG : zGood gh) : zPb l G gh (d + 7) n_X9_hidden p_X9_hidden 218 b_X9_hidden_27 := fun K jp hj =>
    z_iinc (i := 4) (n := 1) (zd (i := .iinc 4 (1)) (n := 3) (by decide +kernel)) (by decide +kernel) (by decide +kernel) <|
    z_goto (off := -140) (tgt := 81) (zd (i := .goto (-140)) (n := 3) (by decide +kernel)) (by decide +kernel) (zj (hj 12) (by decide +kernel))
noncomputable def b_X9_hidden_28 : zBl := fun jp K => oInt 2147483646 <| oIret K
theorem s_X9_hidden_28 (d : Nat) (hG : zGood gh) : zPb l G gh (d + 7) n_X9_hidden p_X9_hidden 224 b_X9_hidden_28 := fun K jp hj =>
    z_bipush (n := -2) (zd (i := .bipush (-2)) (n := 2) (by decide +kernel)) (by decide +kernel) <|
    z_iret (zd (i := .ireturn) (n := 1) (by decide +kernel)) rfl
noncomputable def t_X9_hidden : List zBl := [b_X9_hidden_0, b_X9_hidden_1, b_X9_hidden_2, b_X9_hidden_3, b_X9_hidden_4, b_X9_hidden_5, b_X9_hidden_6, b_X9_hidden_7, b_X9_hidden_8, b_X9_hidden_9, b_X9_hidden_10, b_X9_hidden_11, b_X9_hidden_12, b_X9_hidden_13, b_X9_hidden_14, b_X9_hidden_15, b_X9_hidden_16, b_X9_hidden_17, b_X9_hidden_18, b_X9_hidden_19, b_X9_hidden_20, b_X9_hidden_21, b_X9_hidden_22, b_X9_hidden_23, b_X9_hidden_24, b_X9_hidden_25, b_X9_hidden_26, b_X9_hidden_27, b_X9_hidden_28]
theorem tt_X9_hidden (d : Nat) (hG : zGood gh) : zT (zPb l G gh (d + 7) n_X9_hidden p_X9_hidden) t_X9_hidden p_X9_hidden := ⟨s_X9_hidden_0 d hG, s_X9_hidden_1 d hG, s_X9_hidden_2 d hG, s_X9_hidden_3 d hG, s_X9_hidden_4 d hG, s_X9_hidden_5 d hG, s_X9_hidden_6 d hG, s_X9_hidden_7 d hG, s_X9_hidden_8 d hG, s_X9_hidden_9 d hG, s_X9_hidden_10 d hG, s_X9_hidden_11 d hG, s_X9_hidden_12 d hG, s_X9_hidden_13 d hG, s_X9_hidden_14 d hG, s_X9_hidden_15 d hG, s_X9_hidden_16 d hG, s_X9_hidden_17 d hG, s_X9_hidden_18 d hG, s_X9_hidden_19 d hG, s_X9_hidden_20 d hG, s_X9_hidden_21 d hG, s_X9_hidden_22 d hG, s_X9_hidden_23 d hG, s_X9_hidden_24 d hG, s_X9_hidden_25 d hG, s_X9_hidden_26 d hG, s_X9_hidden_27 d hG, s_X9_hidden_28 d hG, trivial⟩
def q_X9_hidden_0 : List (Nat × Nat) := [(292, zk102), (304, zk107), (321, zk3), (322, zk116), (323, zk104), (328, zk118), (329, zk118)]
noncomputable def al_X9_hidden_0 : zAq := [(some (.inl 9223372034707292208), [(292, zk105), (304, zk107), (321, zk4), (322, zk117), (323, zk104), (328, zk119), (329, zk119)])]
def mq_X9_hidden_0_1 : List (Nat × Nat) := [(292, zk105), (304, zk107), (321, zk4), (322, zk117), (323, zk104), (328, zk119), (329, zk118)]
def mq_X9_hidden_0_2 : List (Nat × Nat) := [(292, zk105), (304, zk107), (321, zk4), (322, zk117), (323, zk104), (328, zk119), (329, zk119)]
def mq_X9_hidden_0_3 : List (Nat × Nat) := [(292, zk105), (304, zk107), (321, zk4), (322, zk117), (323, zk104), (328, zk119), (329, zk119)]
def mq_X9_hidden_0_4 : List (Nat × Nat) := [(292, zk105), (304, zk107), (321, zk4), (322, zk117), (323, zk104), (328, zk119), (329, zk119)]
noncomputable def fm_X9_hidden_0 : List zFm := [(0, [], (fun vs => [.inr (.ref 292), .inl 9223372043297226771, .inl 9223372043297226771, .inl 9223372047592194057]), (fun vs => zP q_X9_hidden_0), (fun vs => Nat.sub (Nat.add 6300 0) 0)),
  (5, [(4, 2147483648, 2147483670)], (fun vs => [.inr (.ref 292), .inl 9223372043297226771, .inl 9223372043297226771, .inl 9223372047592194057, .inl (zn 0 vs 0)]), (fun vs => zP mq_X9_hidden_0_1), (fun vs => Nat.sub (Nat.add 135291476103 0) (Nat.add 0 (Nat.mul 63 (zn 0 vs 0))))),
  (12, [(4, 2147483648, 2147483697)], (fun vs => [.inr (.ref 292), .inl 9223372043297226771, .inl 9223372043297226771, .inl 9223372047592194057, .inl (zn 0 vs 0)]), (fun vs => zP mq_X9_hidden_0_2), (fun vs => Nat.sub (Nat.add 135291472953 0) (Nat.add 0 (Nat.mul 63 (zn 0 vs 0))))),
  (16, [(4, 2147483648, 2147483696), (5, 2147483649, 2147483669)], (fun vs => [.inr (.ref 292), .inl 9223372043297226771, .inl 9223372043297226771, .inl 9223372047592194057, .inl (zn 0 vs 0), .inl (zn 0 vs 1)]), (fun vs => zP mq_X9_hidden_0_3), (fun vs => Nat.sub (Nat.add 137438956601 0) (Nat.add (Nat.add 0 (Nat.mul 63 (zn 0 vs 0))) (Nat.mul 1 (zn 0 vs 1))))),
  (25, [(4, 2147483648, 2147483696), (5, 2147483649, 2147483669)], (fun vs => [.inr (.ref 292), .inl 9223372043297226771, .inl 9223372043297226771, .inl 9223372047592194057, .inl (zn 0 vs 0), .inl (zn 0 vs 1)]), (fun vs => zP mq_X9_hidden_0_4), (fun vs => Nat.sub (Nat.add 137438956580 0) (Nat.add (Nat.add 0 (Nat.mul 63 (zn 0 vs 0))) (Nat.mul 1 (zn 0 vs 1)))))]
def bf_X9_hidden_0 : List Nat := [0, 0, 0, 0, 0, 2, 0, 0, 0, 0, 0, 0, 3, 0, 0, 0, 4, 0, 0, 0, 0, 0, 0, 0, 0, 5]
theorem r_X9_hidden_0_0 : zbox [] (fun vs => zFrun (zpost (zAlq al_X9_hidden_0)) 1000 t_X9_hidden fm_X9_hidden_0 bf_X9_hidden_0 (0, vs)) = true := by decide +kernel
theorem r_X9_hidden_0_1 : zbox [(4, 2147483648, 2147483670)] (fun vs => zFrun (zpost (zAlq al_X9_hidden_0)) 1000 t_X9_hidden fm_X9_hidden_0 bf_X9_hidden_0 (1, vs)) = true := by decide +kernel
theorem r_X9_hidden_0_2 : zbox [(4, 2147483648, 2147483697)] (fun vs => zFrun (zpost (zAlq al_X9_hidden_0)) 1000 t_X9_hidden fm_X9_hidden_0 bf_X9_hidden_0 (2, vs)) = true := by decide +kernel
theorem r_X9_hidden_0_3 : zbox [(4, 2147483648, 2147483696), (5, 2147483649, 2147483669)] (fun vs => zFrun (zpost (zAlq al_X9_hidden_0)) 1000 t_X9_hidden fm_X9_hidden_0 bf_X9_hidden_0 (3, vs)) = true := by decide +kernel
theorem r_X9_hidden_0_4 : zbox [(4, 2147483648, 2147483696), (5, 2147483649, 2147483669)] (fun vs => zFrun (zpost (zAlq al_X9_hidden_0)) 1000 t_X9_hidden fm_X9_hidden_0 bf_X9_hidden_0 (4, vs)) = true := by decide +kernel
set_option maxRecDepth 100000 in
theorem x_X9_hidden_0 (d : Nat) (hG : zGood gh) : zS l G gh (d + 7) (zpost (zAlq al_X9_hidden_0)) n_X9_hidden (zn 0 p_X9_hidden 0) (zwc (0, [.inr (.ref 292), .inl 9223372043297226771, .inl 9223372043297226771, .inl 9223372047592194057], zP q_X9_hidden_0) 0) := zentry (tt_X9_hidden d hG) fm_X9_hidden_0 bf_X9_hidden_0 1000 (by decide +kernel) rfl ⟨Nat.zero_lt_succ _, trivial⟩ (fun f hf => match f, hf with
  | 0, _ => fun vs hv => (zbox_t r_X9_hidden_0_0) vs hv
  | 1, _ => fun vs hv => (zbox_t r_X9_hidden_0_1) vs hv
  | 2, _ => fun vs hv => (zbox_t r_X9_hidden_0_2) vs hv
  | 3, _ => fun vs hv => (zbox_t r_X9_hidden_0_3) vs hv
  | 4, _ => fun vs hv => (zbox_t r_X9_hidden_0_4) vs hv
  | f + 5, h => absurd (show f + 5 < 5 from h) (Nat.not_lt.mpr (Nat.le_add_left 5 f)))
noncomputable def gs_X9_hidden_0 : zMt := zgq true zUN 6 [.inr (.ref 292), .inl 9223372043297226771, .inl 9223372043297226771, .inl 9223372047592194057] q_X9_hidden_0 al_X9_hidden_0
set_option maxRecDepth 100000 in
theorem cs_X9_hidden_0 (d : Nat) (hG : zGood gh) : zC l G gh (d + 7) n_X9_hidden gs_X9_hidden_0 := zgq_ok zGood_ok (pcs := p_X9_hidden) (by decide) rfl rfl (fun a ha => by simp only [al_X9_hidden_0, List.mem_cons, List.not_mem_nil, or_false] at ha; rcases ha with rfl <;> decide +kernel) (fun gh hG => x_X9_hidden_0 d hG) (by decide +kernel) hG
def q_X9_hidden_1 : List (Nat × Nat) := []
noncomputable def al_X9_hidden_1 : zAq := [(some (.inl 2147483647), [])]
noncomputable def fm_X9_hidden_1 : List zFm := [(0, [], (fun vs => [.inr (.ref 292), .inl 9223372043297226771, .inl 9223372043297226771, .inl 6442450944]), (fun vs => zP q_X9_hidden_1), (fun vs => Nat.sub (Nat.add 0 0) 0))]
def bf_X9_hidden_1 : List Nat := []
theorem r_X9_hidden_1_0 : zbox [] (fun vs => zFrun (zpost (zAlq al_X9_hidden_1)) 1000 t_X9_hidden fm_X9_hidden_1 bf_X9_hidden_1 (0, vs)) = true := by decide +kernel
set_option maxRecDepth 100000 in
theorem x_X9_hidden_1 (d : Nat) (hG : zGood gh) : zS l G gh (d + 7) (zpost (zAlq al_X9_hidden_1)) n_X9_hidden (zn 0 p_X9_hidden 0) (zwc (0, [.inr (.ref 292), .inl 9223372043297226771, .inl 9223372043297226771, .inl 6442450944], zP q_X9_hidden_1) 0) := zentry (tt_X9_hidden d hG) fm_X9_hidden_1 bf_X9_hidden_1 1000 (by decide +kernel) rfl ⟨Nat.zero_lt_succ _, trivial⟩ (fun f hf => match f, hf with
  | 0, _ => fun vs hv => (zbox_t r_X9_hidden_1_0) vs hv
  | f + 1, h => absurd (show f + 1 < 1 from h) (Nat.not_lt.mpr (Nat.le_add_left 1 f)))
noncomputable def gs_X9_hidden_1 : zMt := zgq true zUN 6 [.inr (.ref 292), .inl 9223372043297226771, .inl 9223372043297226771, .inl 6442450944] q_X9_hidden_1 al_X9_hidden_1
set_option maxRecDepth 100000 in
theorem cs_X9_hidden_1 (d : Nat) (hG : zGood gh) : zC l G gh (d + 7) n_X9_hidden gs_X9_hidden_1 := zgq_ok zGood_ok (pcs := p_X9_hidden) (by decide) rfl rfl (fun a ha => by simp only [al_X9_hidden_1, List.mem_cons, List.not_mem_nil, or_false] at ha; rcases ha with rfl <;> decide +kernel) (fun gh hG => x_X9_hidden_1 d hG) (by decide +kernel) hG
def q_X9_hidden_2 : List (Nat × Nat) := []
noncomputable def al_X9_hidden_2 : zAq := [(some (.inl 2147483647), [])]
noncomputable def fm_X9_hidden_2 : List zFm := [(0, [], (fun vs => [.inr (.ref 292), .inl 9223372043297226771, .inl 9223372043297226771, .inl 9223372088394383359]), (fun vs => zP q_X9_hidden_2), (fun vs => Nat.sub (Nat.add 0 0) 0))]
def bf_X9_hidden_2 : List Nat := []
theorem r_X9_hidden_2_0 : zbox [] (fun vs => zFrun (zpost (zAlq al_X9_hidden_2)) 1000 t_X9_hidden fm_X9_hidden_2 bf_X9_hidden_2 (0, vs)) = true := by decide +kernel
set_option maxRecDepth 100000 in
theorem x_X9_hidden_2 (d : Nat) (hG : zGood gh) : zS l G gh (d + 7) (zpost (zAlq al_X9_hidden_2)) n_X9_hidden (zn 0 p_X9_hidden 0) (zwc (0, [.inr (.ref 292), .inl 9223372043297226771, .inl 9223372043297226771, .inl 9223372088394383359], zP q_X9_hidden_2) 0) := zentry (tt_X9_hidden d hG) fm_X9_hidden_2 bf_X9_hidden_2 1000 (by decide +kernel) rfl ⟨Nat.zero_lt_succ _, trivial⟩ (fun f hf => match f, hf with
  | 0, _ => fun vs hv => (zbox_t r_X9_hidden_2_0) vs hv
  | f + 1, h => absurd (show f + 1 < 1 from h) (Nat.not_lt.mpr (Nat.le_add_left 1 f)))
noncomputable def gs_X9_hidden_2 : zMt := zgq true zUN 6 [.inr (.ref 292), .inl 9223372043297226771, .inl 9223372043297226771, .inl 9223372088394383359] q_X9_hidden_2 al_X9_hidden_2
set_option maxRecDepth 100000 in
theorem cs_X9_hidden_2 (d : Nat) (hG : zGood gh) : zC l G gh (d + 7) n_X9_hidden gs_X9_hidden_2 := zgq_ok zGood_ok (pcs := p_X9_hidden) (by decide) rfl rfl (fun a ha => by simp only [al_X9_hidden_2, List.mem_cons, List.not_mem_nil, or_false] at ha; rcases ha with rfl <;> decide +kernel) (fun gh hG => x_X9_hidden_2 d hG) (by decide +kernel) hG
def q_X9_hidden_3 : List (Nat × Nat) := []
noncomputable def al_X9_hidden_3 : zAq := [(some (.inl 2147483647), [])]
noncomputable def fm_X9_hidden_3 : List zFm := [(0, [], (fun vs => [.inr (.ref 292), .inl 9223372043297226771, .inl 6442450943, .inl 8589934591]), (fun vs => zP q_X9_hidden_3), (fun vs => Nat.sub (Nat.add 0 0) 0))]
def bf_X9_hidden_3 : List Nat := []
theorem r_X9_hidden_3_0 : zbox [] (fun vs => zFrun (zpost (zAlq al_X9_hidden_3)) 1000 t_X9_hidden fm_X9_hidden_3 bf_X9_hidden_3 (0, vs)) = true := by decide +kernel
set_option maxRecDepth 100000 in
theorem x_X9_hidden_3 (d : Nat) (hG : zGood gh) : zS l G gh (d + 7) (zpost (zAlq al_X9_hidden_3)) n_X9_hidden (zn 0 p_X9_hidden 0) (zwc (0, [.inr (.ref 292), .inl 9223372043297226771, .inl 6442450943, .inl 8589934591], zP q_X9_hidden_3) 0) := zentry (tt_X9_hidden d hG) fm_X9_hidden_3 bf_X9_hidden_3 1000 (by decide +kernel) rfl ⟨Nat.zero_lt_succ _, trivial⟩ (fun f hf => match f, hf with
  | 0, _ => fun vs hv => (zbox_t r_X9_hidden_3_0) vs hv
  | f + 1, h => absurd (show f + 1 < 1 from h) (Nat.not_lt.mpr (Nat.le_add_left 1 f)))
noncomputable def gs_X9_hidden_3 : zMt := zgq true zUN 6 [.inr (.ref 292), .inl 9223372043297226771, .inl 6442450943, .inl 8589934591] q_X9_hidden_3 al_X9_hidden_3
set_option maxRecDepth 100000 in
theorem cs_X9_hidden_3 (d : Nat) (hG : zGood gh) : zC l G gh (d + 7) n_X9_hidden gs_X9_hidden_3 := zgq_ok zGood_ok (pcs := p_X9_hidden) (by decide) rfl rfl (fun a ha => by simp only [al_X9_hidden_3, List.mem_cons, List.not_mem_nil, or_false] at ha; rcases ha with rfl <;> decide +kernel) (fun gh hG => x_X9_hidden_3 d hG) (by decide +kernel) hG
def q_X9_hidden_4 : List (Nat × Nat) := []
noncomputable def al_X9_hidden_4 : zAq := [(some (.inl 2147483647), [])]
noncomputable def fm_X9_hidden_4 : List zFm := [(0, [], (fun vs => [.inr (.ref 292), .inl 9223372043297226771, .inl 9223372131344056319, .inl 8589934591]), (fun vs => zP q_X9_hidden_4), (fun vs => Nat.sub (Nat.add 0 0) 0))]
def bf_X9_hidden_4 : List Nat := []
theorem r_X9_hidden_4_0 : zbox [] (fun vs => zFrun (zpost (zAlq al_X9_hidden_4)) 1000 t_X9_hidden fm_X9_hidden_4 bf_X9_hidden_4 (0, vs)) = true := by decide +kernel
set_option maxRecDepth 100000 in
theorem x_X9_hidden_4 (d : Nat) (hG : zGood gh) : zS l G gh (d + 7) (zpost (zAlq al_X9_hidden_4)) n_X9_hidden (zn 0 p_X9_hidden 0) (zwc (0, [.inr (.ref 292), .inl 9223372043297226771, .inl 9223372131344056319, .inl 8589934591], zP q_X9_hidden_4) 0) := zentry (tt_X9_hidden d hG) fm_X9_hidden_4 bf_X9_hidden_4 1000 (by decide +kernel) rfl ⟨Nat.zero_lt_succ _, trivial⟩ (fun f hf => match f, hf with
  | 0, _ => fun vs hv => (zbox_t r_X9_hidden_4_0) vs hv
  | f + 1, h => absurd (show f + 1 < 1 from h) (Nat.not_lt.mpr (Nat.le_add_left 1 f)))
noncomputable def gs_X9_hidden_4 : zMt := zgq true zUN 6 [.inr (.ref 292), .inl 9223372043297226771, .inl 9223372131344056319, .inl 8589934591] q_X9_hidden_4 al_X9_hidden_4
set_option maxRecDepth 100000 in
theorem cs_X9_hidden_4 (d : Nat) (hG : zGood gh) : zC l G gh (d + 7) n_X9_hidden gs_X9_hidden_4 := zgq_ok zGood_ok (pcs := p_X9_hidden) (by decide) rfl rfl (fun a ha => by simp only [al_X9_hidden_4, List.mem_cons, List.not_mem_nil, or_false] at ha; rcases ha with rfl <;> decide +kernel) (fun gh hG => x_X9_hidden_4 d hG) (by decide +kernel) hG
def q_X9_hidden_5 : List (Nat × Nat) := []
noncomputable def al_X9_hidden_5 : zAq := [(some (.inl 2147483647), [])]
noncomputable def fm_X9_hidden_5 : List zFm := [(0, [], (fun vs => [.inr (.ref 292), .inl 6442450943, .inl 8589934591, .inl 8589934591]), (fun vs => zP q_X9_hidden_5), (fun vs => Nat.sub (Nat.add 0 0) 0))]
def bf_X9_hidden_5 : List Nat := []
theorem r_X9_hidden_5_0 : zbox [] (fun vs => zFrun (zpost (zAlq al_X9_hidden_5)) 1000 t_X9_hidden fm_X9_hidden_5 bf_X9_hidden_5 (0, vs)) = true := by decide +kernel
set_option maxRecDepth 100000 in
theorem x_X9_hidden_5 (d : Nat) (hG : zGood gh) : zS l G gh (d + 7) (zpost (zAlq al_X9_hidden_5)) n_X9_hidden (zn 0 p_X9_hidden 0) (zwc (0, [.inr (.ref 292), .inl 6442450943, .inl 8589934591, .inl 8589934591], zP q_X9_hidden_5) 0) := zentry (tt_X9_hidden d hG) fm_X9_hidden_5 bf_X9_hidden_5 1000 (by decide +kernel) rfl ⟨Nat.zero_lt_succ _, trivial⟩ (fun f hf => match f, hf with
  | 0, _ => fun vs hv => (zbox_t r_X9_hidden_5_0) vs hv
  | f + 1, h => absurd (show f + 1 < 1 from h) (Nat.not_lt.mpr (Nat.le_add_left 1 f)))
noncomputable def gs_X9_hidden_5 : zMt := zgq true zUN 6 [.inr (.ref 292), .inl 6442450943, .inl 8589934591, .inl 8589934591] q_X9_hidden_5 al_X9_hidden_5
set_option maxRecDepth 100000 in
theorem cs_X9_hidden_5 (d : Nat) (hG : zGood gh) : zC l G gh (d + 7) n_X9_hidden gs_X9_hidden_5 := zgq_ok zGood_ok (pcs := p_X9_hidden) (by decide) rfl rfl (fun a ha => by simp only [al_X9_hidden_5, List.mem_cons, List.not_mem_nil, or_false] at ha; rcases ha with rfl <;> decide +kernel) (fun gh hG => x_X9_hidden_5 d hG) (by decide +kernel) hG
def q_X9_hidden_6 : List (Nat × Nat) := []
noncomputable def al_X9_hidden_6 : zAq := [(some (.inl 2147483647), [])]
noncomputable def fm_X9_hidden_6 : List zFm := [(0, [], (fun vs => [.inr (.ref 292), .inl 9223372131344056319, .inl 8589934591, .inl 8589934591]), (fun vs => zP q_X9_hidden_6), (fun vs => Nat.sub (Nat.add 0 0) 0))]
def bf_X9_hidden_6 : List Nat := []
theorem r_X9_hidden_6_0 : zbox [] (fun vs => zFrun (zpost (zAlq al_X9_hidden_6)) 1000 t_X9_hidden fm_X9_hidden_6 bf_X9_hidden_6 (0, vs)) = true := by decide +kernel
set_option maxRecDepth 100000 in
theorem x_X9_hidden_6 (d : Nat) (hG : zGood gh) : zS l G gh (d + 7) (zpost (zAlq al_X9_hidden_6)) n_X9_hidden (zn 0 p_X9_hidden 0) (zwc (0, [.inr (.ref 292), .inl 9223372131344056319, .inl 8589934591, .inl 8589934591], zP q_X9_hidden_6) 0) := zentry (tt_X9_hidden d hG) fm_X9_hidden_6 bf_X9_hidden_6 1000 (by decide +kernel) rfl ⟨Nat.zero_lt_succ _, trivial⟩ (fun f hf => match f, hf with
  | 0, _ => fun vs hv => (zbox_t r_X9_hidden_6_0) vs hv
  | f + 1, h => absurd (show f + 1 < 1 from h) (Nat.not_lt.mpr (Nat.le_add_left 1 f)))
noncomputable def gs_X9_hidden_6 : zMt := zgq true zUN 6 [.inr (.ref 292), .inl 9223372131344056319, .inl 8589934591, .inl 8589934591] q_X9_hidden_6 al_X9_hidden_6
set_option maxRecDepth 100000 in
theorem cs_X9_hidden_6 (d : Nat) (hG : zGood gh) : zC l G gh (d + 7) n_X9_hidden gs_X9_hidden_6 := zgq_ok zGood_ok (pcs := p_X9_hidden) (by decide) rfl rfl (fun a ha => by simp only [al_X9_hidden_6, List.mem_cons, List.not_mem_nil, or_false] at ha; rcases ha with rfl <;> decide +kernel) (fun gh hG => x_X9_hidden_6 d hG) (by decide +kernel) hG
noncomputable def gs_X9_hidden : zMt := (zor gs_X9_hidden_0 (zor gs_X9_hidden_1 (zor gs_X9_hidden_2 (zor gs_X9_hidden_3 (zor gs_X9_hidden_4 (zor gs_X9_hidden_5 gs_X9_hidden_6))))))
theorem cs_X9_hidden (d : Nat) (hG : zGood gh) : zC l G gh (d + 7) n_X9_hidden gs_X9_hidden := (zor_ok (cs_X9_hidden_0 d hG) (zor_ok (cs_X9_hidden_1 d hG) (zor_ok (cs_X9_hidden_2 d hG) (zor_ok (cs_X9_hidden_3 d hG) (zor_ok (cs_X9_hidden_4 d hG) (zor_ok (cs_X9_hidden_5 d hG) (cs_X9_hidden_6 d hG)))))))
def p_X9_cool : List Nat := [0, 2, 8, 12, 25, 28, 42, 66, 68, 74, 80, 84, 86, 92]
noncomputable def b_X9_cool_0 : zBl := fun jp K => oInt 2147483648 <| oIst 1 <| jp 1
theorem s_X9_cool_0 (d : Nat) (hG : zGood gh) : zPb l G gh (d + 7) n_X9_cool p_X9_cool 0 b_X9_cool_0 := fun K jp hj =>
    z_iconst (n := 0) (zd (i := .iconst (0)) (n := 1) (by decide +kernel)) (by decide +kernel) <|
    z_istore_n (n := 1) (i := 1) (zd (i := .istore_n 1) (n := 1) (by decide +kernel)) rfl (by decide +kernel) <|
    (zj (hj 1) (by decide +kernel))
noncomputable def b_X9_cool_1 : zBl := fun jp K => oNLC 1 2147483696 zgtN zleN zn1_gt zn1_le (jp 13) (jp 2)
theorem s_X9_cool_1 (d : Nat) (hG : zGood gh) : zPb l G gh (d + 7) n_X9_cool p_X9_cool 2 b_X9_cool_1 := fun K jp hj =>
    z_nLC_gt (i := 1) (c0 := 2147483696) (a1 := 1) (a2 := 2) (off := 87) (tgt := 92) (zLd_n (n := 1) (i := 1) (zd (i := .iload_n 1) (n := 1) (by decide +kernel)) rfl) (zCn_b (n := 48) (zd (i := .bipush (48)) (n := 2) (by decide +kernel)) (by decide +kernel)) (zd (i := .if_icmp .gt (87)) (n := 3) (by decide +kernel)) (by decide +kernel) (zj (hj 13) (by decide +kernel)) (zj (hj 2) (by decide +kernel))
noncomputable def b_X9_cool_2 : zBl := fun jp K => oInt 2147483648 <| oIst 2 <| oInt 2147483648 <| oIst 3 <| jp 3
theorem s_X9_cool_2 (d : Nat) (hG : zGood gh) : zPb l G gh (d + 7) n_X9_cool p_X9_cool 8 b_X9_cool_2 := fun K jp hj =>
    z_iconst (n := 0) (zd (i := .iconst (0)) (n := 1) (by decide +kernel)) (by decide +kernel) <|
    z_istore_n (n := 2) (i := 2) (zd (i := .istore_n 2) (n := 1) (by decide +kernel)) rfl (by decide +kernel) <|
    z_iconst (n := 0) (zd (i := .iconst (0)) (n := 1) (by decide +kernel)) (by decide +kernel) <|
    z_istore_n (n := 3) (i := 3) (zd (i := .istore_n 3) (n := 1) (by decide +kernel)) rfl (by decide +kernel) <|
    (zj (hj 3) (by decide +kernel))
noncomputable def b_X9_cool_3 : zBl := fun jp K => oIld 3 <| oAld 0 <| oGetR 9 25 <| oAld 0 <| oGetI 9 18 <| oXald 10 <| oIc zge zlt (jp 10) (jp 4)
theorem s_X9_cool_3 (d : Nat) (hG : zGood gh) : zPb l G gh (d + 7) n_X9_cool p_X9_cool 12 b_X9_cool_3 := fun K jp hj =>
    z_iload_n (n := 3) (i := 3) (zd (i := .iload_n 3) (n := 1) (by decide +kernel)) rfl <|
    z_aload_n (n := 0) (i := 0) (zd (i := .aload_n 0) (n := 1) (by decide +kernel)) rfl <|
    z_getR (ci := 9) (j := 25) (idx := 52) (zd (i := .getfield 52) (n := 3) (by decide +kernel)) (by decide +kernel) (by decide +kernel) rfl g1153 <|
    z_aload_n (n := 0) (i := 0) (zd (i := .aload_n 0) (n := 1) (by decide +kernel)) rfl <|
    z_getI (ci := 9) (j := 18) (idx := 230) (zd (i := .getfield 230) (n := 3) (by decide +kernel)) (by decide +kernel) (by decide +kernel) rfl g1146 <|
    z_iald (zd (i := .iaload) (n := 1) (by decide +kernel)) <|
    z_icmp_ge (off := 58) (tgt := 80) (zd (i := .if_icmp .ge (58)) (n := 3) (by decide +kernel)) (by decide +kernel) (zj (hj 10) (by decide +kernel)) (zj (hj 4) (by decide +kernel))
noncomputable def b_X9_cool_4 : zBl := fun jp K => oInt 2147483648 <| oIst 4 <| jp 5
theorem s_X9_cool_4 (d : Nat) (hG : zGood gh) : zPb l G gh (d + 7) n_X9_cool p_X9_cool 25 b_X9_cool_4 := fun K jp hj =>
    z_iconst (n := 0) (zd (i := .iconst (0)) (n := 1) (by decide +kernel)) (by decide +kernel) <|
    z_istore (i := 4) (zd (i := .istore 4) (n := 2) (by decide +kernel)) (by decide +kernel) <|
    (zj (hj 5) (by decide +kernel))
noncomputable def b_X9_cool_5 : zBl := fun jp K => oIld 4 <| oAld 0 <| oGetR 9 22 <| oAld 0 <| oGetI 9 18 <| oXald 10 <| oIc zge zlt (jp 9) (jp 6)
theorem s_X9_cool_5 (d : Nat) (hG : zGood gh) : zPb l G gh (d + 7) n_X9_cool p_X9_cool 28 b_X9_cool_5 := fun K jp hj =>
    z_iload (i := 4) (zd (i := .iload 4) (n := 2) (by decide +kernel)) <|
    z_aload_n (n := 0) (i := 0) (zd (i := .aload_n 0) (n := 1) (by decide +kernel)) rfl <|
    z_getR (ci := 9) (j := 22) (idx := 43) (zd (i := .getfield 43) (n := 3) (by decide +kernel)) (by decide +kernel) (by decide +kernel) rfl g1150 <|
    z_aload_n (n := 0) (i := 0) (zd (i := .aload_n 0) (n := 1) (by decide +kernel)) rfl <|
    z_getI (ci := 9) (j := 18) (idx := 230) (zd (i := .getfield 230) (n := 3) (by decide +kernel)) (by decide +kernel) (by decide +kernel) rfl g1146 <|
    z_iald (zd (i := .iaload) (n := 1) (by decide +kernel)) <|
    z_icmp_ge (off := 35) (tgt := 74) (zd (i := .if_icmp .ge (35)) (n := 3) (by decide +kernel)) (by decide +kernel) (zj (hj 9) (by decide +kernel)) (zj (hj 6) (by decide +kernel))
noncomputable def b_X9_cool_6 : zBl := fun jp K => oAld 0 <| oAld 0 <| oGetR 9 48 <| oIld 3 <| oXald 10 <| oIld 4 <| oAld 0 <| oGetR 9 48 <| oInt 2147483744 <| oXald 10 <| oIld 1 <| oB2 zadd <| oCv 9 3 gs_X9_sees <| oIf zeq zne (jp 8) (jp 7)
theorem s_X9_cool_6 (d : Nat) (hG : zGood gh) : zPb l G gh (d + 7) n_X9_cool p_X9_cool 42 b_X9_cool_6 := fun K jp hj =>
    z_aload_n (n := 0) (i := 0) (zd (i := .aload_n 0) (n := 1) (by decide +kernel)) rfl <|
    z_aload_n (n := 0) (i := 0) (zd (i := .aload_n 0) (n := 1) (by decide +kernel)) rfl <|
    z_getR (ci := 9) (j := 48) (idx := 110) (zd (i := .getfield 110) (n := 3) (by decide +kernel)) (by decide +kernel) (by decide +kernel) rfl g1176 <|
    z_iload_n (n := 3) (i := 3) (zd (i := .iload_n 3) (n := 1) (by decide +kernel)) rfl <|
    z_iald (zd (i := .iaload) (n := 1) (by decide +kernel)) <|
    z_iload (i := 4) (zd (i := .iload 4) (n := 2) (by decide +kernel)) <|
    z_aload_n (n := 0) (i := 0) (zd (i := .aload_n 0) (n := 1) (by decide +kernel)) rfl <|
    z_getR (ci := 9) (j := 48) (idx := 110) (zd (i := .getfield 110) (n := 3) (by decide +kernel)) (by decide +kernel) (by decide +kernel) rfl g1176 <|
    z_bipush (n := 96) (zd (i := .bipush (96)) (n := 2) (by decide +kernel)) (by decide +kernel) <|
    z_iald (zd (i := .iaload) (n := 1) (by decide +kernel)) <|
    z_iload_n (n := 1) (i := 1) (zd (i := .iload_n 1) (n := 1) (by decide +kernel)) rfl <|
    z_iadd (zd (i := .iadd) (n := 1) (by decide +kernel)) <|
    z_callV (idx := 352) (ci := 9) (N := n_X9_sees) (zd (i := .invokevirtual 352) (n := 3) (by decide +kernel)) to_X9_sees g1449 g1451 g68 (by decide +kernel) rfl rfl rfl (cs_X9_sees (l := l) (G := G) (gh := gh) (d) hG) <|
    z_if_eq (off := 5) (tgt := 68) (zd (i := .ifCond .eq (5)) (n := 3) (by decide +kernel)) (by decide +kernel) (zj (hj 8) (by decide +kernel)) (zj (hj 7) (by decide +kernel))
noncomputable def b_X9_cool_7 : zBl := fun jp K => oInt 2147483649 <| oIst 2 <| jp 8
theorem s_X9_cool_7 (d : Nat) (hG : zGood gh) : zPb l G gh (d + 7) n_X9_cool p_X9_cool 66 b_X9_cool_7 := fun K jp hj =>
    z_iconst (n := 1) (zd (i := .iconst (1)) (n := 1) (by decide +kernel)) (by decide +kernel) <|
    z_istore_n (n := 2) (i := 2) (zd (i := .istore_n 2) (n := 1) (by decide +kernel)) rfl (by decide +kernel) <|
    (zj (hj 8) (by decide +kernel))
noncomputable def b_X9_cool_8 : zBl := fun jp K => oInc 4 2147483649 <| jp 5
theorem s_X9_cool_8 (d : Nat) (hG : zGood gh) : zPb l G gh (d + 7) n_X9_cool p_X9_cool 68 b_X9_cool_8 := fun K jp hj =>
    z_iinc (i := 4) (n := 1) (zd (i := .iinc 4 (1)) (n := 3) (by decide +kernel)) (by decide +kernel) (by decide +kernel) <|
    z_goto (off := -43) (tgt := 28) (zd (i := .goto (-43)) (n := 3) (by decide +kernel)) (by decide +kernel) (zj (hj 5) (by decide +kernel))
noncomputable def b_X9_cool_9 : zBl := fun jp K => oInc 3 2147483649 <| jp 3
theorem s_X9_cool_9 (d : Nat) (hG : zGood gh) : zPb l G gh (d + 7) n_X9_cool p_X9_cool 74 b_X9_cool_9 := fun K jp hj =>
    z_iinc (i := 3) (n := 1) (zd (i := .iinc 3 (1)) (n := 3) (by decide +kernel)) (by decide +kernel) (by decide +kernel) <|
    z_goto (off := -65) (tgt := 12) (zd (i := .goto (-65)) (n := 3) (by decide +kernel)) (by decide +kernel) (zj (hj 3) (by decide +kernel))
noncomputable def b_X9_cool_10 : zBl := fun jp K => oNLC 2 2147483648 zneN zeqN zn1_ne zn1_eq (jp 12) (jp 11)
theorem s_X9_cool_10 (d : Nat) (hG : zGood gh) : zPb l G gh (d + 7) n_X9_cool p_X9_cool 80 b_X9_cool_10 := fun K jp hj =>
    z_nL0_ne (i := 2) (a1 := 1) (off := 5) (tgt := 86) (zLd_n (n := 2) (i := 2) (zd (i := .iload_n 2) (n := 1) (by decide +kernel)) rfl) (zd (i := .ifCond .ne (5)) (n := 3) (by decide +kernel)) (by decide +kernel) (zj (hj 12) (by decide +kernel)) (zj (hj 11) (by decide +kernel))
noncomputable def b_X9_cool_11 : zBl := fun jp K => oIld 1 <| oIret K
theorem s_X9_cool_11 (d : Nat) (hG : zGood gh) : zPb l G gh (d + 7) n_X9_cool p_X9_cool 84 b_X9_cool_11 := fun K jp hj =>
    z_iload_n (n := 1) (i := 1) (zd (i := .iload_n 1) (n := 1) (by decide +kernel)) rfl <|
    z_iret (zd (i := .ireturn) (n := 1) (by decide +kernel)) rfl
noncomputable def b_X9_cool_12 : zBl := fun jp K => oInc 1 2147483649 <| jp 1
theorem s_X9_cool_12 (d : Nat) (hG : zGood gh) : zPb l G gh (d + 7) n_X9_cool p_X9_cool 86 b_X9_cool_12 := fun K jp hj =>
    z_iinc (i := 1) (n := 1) (zd (i := .iinc 1 (1)) (n := 3) (by decide +kernel)) (by decide +kernel) (by decide +kernel) <|
    z_goto (off := -87) (tgt := 2) (zd (i := .goto (-87)) (n := 3) (by decide +kernel)) (by decide +kernel) (zj (hj 1) (by decide +kernel))
noncomputable def b_X9_cool_13 : zBl := fun jp K => oInt 2147483646 <| oIret K
theorem s_X9_cool_13 (d : Nat) (hG : zGood gh) : zPb l G gh (d + 7) n_X9_cool p_X9_cool 92 b_X9_cool_13 := fun K jp hj =>
    z_bipush (n := -2) (zd (i := .bipush (-2)) (n := 2) (by decide +kernel)) (by decide +kernel) <|
    z_iret (zd (i := .ireturn) (n := 1) (by decide +kernel)) rfl
noncomputable def t_X9_cool : List zBl := [b_X9_cool_0, b_X9_cool_1, b_X9_cool_2, b_X9_cool_3, b_X9_cool_4, b_X9_cool_5, b_X9_cool_6, b_X9_cool_7, b_X9_cool_8, b_X9_cool_9, b_X9_cool_10, b_X9_cool_11, b_X9_cool_12, b_X9_cool_13]
theorem tt_X9_cool (d : Nat) (hG : zGood gh) : zT (zPb l G gh (d + 7) n_X9_cool p_X9_cool) t_X9_cool p_X9_cool := ⟨s_X9_cool_0 d hG, s_X9_cool_1 d hG, s_X9_cool_2 d hG, s_X9_cool_3 d hG, s_X9_cool_4 d hG, s_X9_cool_5 d hG, s_X9_cool_6 d hG, s_X9_cool_7 d hG, s_X9_cool_8 d hG, s_X9_cool_9 d hG, s_X9_cool_10 d hG, s_X9_cool_11 d hG, s_X9_cool_12 d hG, s_X9_cool_13 d hG, trivial⟩
def q_X9_cool_0 : List (Nat × Nat) := [(292, zk102), (301, zk107), (302, zk111), (303, zk111), (304, zk107), (321, zk3), (322, zk116), (323, zk104)]
noncomputable def al_X9_cool_0 : zAq := [(some (.inl 9223372034707292208), [(292, zk105), (301, zk107), (302, zk111), (303, zk111), (304, zk107), (321, zk4), (322, zk117), (323, zk104)])]
def mq_X9_cool_0_1 : List (Nat × Nat) := [(292, zk105), (301, zk107), (302, zk111), (303, zk111), (304, zk107), (321, zk4), (322, zk117), (323, zk104)]
def mq_X9_cool_0_2 : List (Nat × Nat) := [(292, zk105), (301, zk107), (302, zk111), (303, zk111), (304, zk107), (321, zk4), (322, zk117), (323, zk104)]
def mq_X9_cool_0_3 : List (Nat × Nat) := [(292, zk105), (301, zk107), (302, zk111), (303, zk111), (304, zk107), (321, zk4), (322, zk117), (323, zk104)]
noncomputable def fm_X9_cool_0 : List zFm := [(0, [], (fun vs => [.inr (.ref 292)]), (fun vs => zP q_X9_cool_0), (fun vs => Nat.sub (Nat.add 9800 0) 0)),
  (1, [(1, 2147483648, 2147483697)], (fun vs => [.inr (.ref 292), .inl (zn 0 vs 0)]), (fun vs => zP mq_X9_cool_0_1), (fun vs => Nat.sub (Nat.add 420906804710 0) (Nat.add 0 (Nat.mul 196 (zn 0 vs 0))))),
  (3, [(1, 2147483648, 2147483696), (3, 2147483648, 2147483654)], (fun vs => [.inr (.ref 292), .inl (zn 0 vs 0), .inl 9223372043297226753, .inl (zn 0 vs 1)]), (fun vs => zP mq_X9_cool_0_2), (fun vs => Nat.sub (Nat.add 450971575775 0) (Nat.add (Nat.add 0 (Nat.mul 196 (zn 0 vs 0))) (Nat.mul 14 (zn 0 vs 1))))),
  (5, [(1, 2147483648, 2147483696), (3, 2147483648, 2147483653), (4, 2147483648, 2147483654)], (fun vs => [.inr (.ref 292), .inl (zn 0 vs 0), .inl 9223372043297226753, .inl (zn 0 vs 1), .inl (zn 0 vs 2)]), (fun vs => zP mq_X9_cool_0_3), (fun vs => Nat.sub (Nat.add 453119059422 0) (Nat.add (Nat.add (Nat.add 0 (Nat.mul 196 (zn 0 vs 0))) (Nat.mul 14 (zn 0 vs 1))) (Nat.mul 1 (zn 0 vs 2)))))]
def bf_X9_cool_0 : List Nat := [0, 2, 0, 3, 0, 4]
theorem r_X9_cool_0_0 : zbox [] (fun vs => zFrun (zpost (zAlq al_X9_cool_0)) 1000 t_X9_cool fm_X9_cool_0 bf_X9_cool_0 (0, vs)) = true := by decide +kernel
theorem r_X9_cool_0_1 : zbox [(1, 2147483648, 2147483697)] (fun vs => zFrun (zpost (zAlq al_X9_cool_0)) 1000 t_X9_cool fm_X9_cool_0 bf_X9_cool_0 (1, vs)) = true := by decide +kernel
theorem r_X9_cool_0_2 : zbox [(1, 2147483648, 2147483696), (3, 2147483648, 2147483654)] (fun vs => zFrun (zpost (zAlq al_X9_cool_0)) 1000 t_X9_cool fm_X9_cool_0 bf_X9_cool_0 (2, vs)) = true := by decide +kernel
theorem r_X9_cool_0_3 : zbox [(1, 2147483648, 2147483696), (3, 2147483648, 2147483653), (4, 2147483648, 2147483654)] (fun vs => zFrun (zpost (zAlq al_X9_cool_0)) 1000 t_X9_cool fm_X9_cool_0 bf_X9_cool_0 (3, vs)) = true := by decide +kernel
set_option maxRecDepth 100000 in
theorem x_X9_cool_0 (d : Nat) (hG : zGood gh) : zS l G gh (d + 7) (zpost (zAlq al_X9_cool_0)) n_X9_cool (zn 0 p_X9_cool 0) (zwc (0, [.inr (.ref 292)], zP q_X9_cool_0) 0) := zentry (tt_X9_cool d hG) fm_X9_cool_0 bf_X9_cool_0 1000 (by decide +kernel) rfl ⟨Nat.zero_lt_succ _, trivial⟩ (fun f hf => match f, hf with
  | 0, _ => fun vs hv => (zbox_t r_X9_cool_0_0) vs hv
  | 1, _ => fun vs hv => (zbox_t r_X9_cool_0_1) vs hv
  | 2, _ => fun vs hv => (zbox_t r_X9_cool_0_2) vs hv
  | 3, _ => fun vs hv => (zbox_t r_X9_cool_0_3) vs hv
  | f + 4, h => absurd (show f + 4 < 4 from h) (Nat.not_lt.mpr (Nat.le_add_left 4 f)))
noncomputable def gs_X9_cool_0 : zMt := zgq true zUN 5 [.inr (.ref 292)] q_X9_cool_0 al_X9_cool_0
set_option maxRecDepth 100000 in
theorem cs_X9_cool_0 (d : Nat) (hG : zGood gh) : zC l G gh (d + 7) n_X9_cool gs_X9_cool_0 := zgq_ok zGood_ok (pcs := p_X9_cool) (by decide) rfl rfl (fun a ha => by simp only [al_X9_cool_0, List.mem_cons, List.not_mem_nil, or_false] at ha; rcases ha with rfl <;> decide +kernel) (fun gh hG => x_X9_cool_0 d hG) (by decide +kernel) hG
noncomputable def gs_X9_cool : zMt := gs_X9_cool_0
theorem cs_X9_cool (d : Nat) (hG : zGood gh) : zC l G gh (d + 7) n_X9_cool gs_X9_cool := (cs_X9_cool_0 d hG)
def p_X9_isSo : List Nat := [0, 2, 7, 50, 52, 58]
noncomputable def b_X9_isSo_0 : zBl := fun jp K => oInt 2147483648 <| oIst 3 <| jp 1
theorem s_X9_isSo_0 (d : Nat) (hG : zGood gh) : zPb l G gh (d + 7) n_X9_isSo p_X9_isSo 0 b_X9_isSo_0 := fun K jp hj =>
    z_iconst (n := 0) (zd (i := .iconst (0)) (n := 1) (by decide +kernel)) (by decide +kernel) <|
    z_istore_n (n := 3) (i := 3) (zd (i := .istore_n 3) (n := 1) (by decide +kernel)) rfl (by decide +kernel) <|
    (zj (hj 1) (by decide +kernel))
noncomputable def b_X9_isSo_1 : zBl := fun jp K => oNLL 3 2 zgeN zltN zn1_ge zn2_ge zn1_lt zn2_lt (jp 5) (jp 2)
theorem s_X9_isSo_1 (d : Nat) (hG : zGood gh) : zPb l G gh (d + 7) n_X9_isSo p_X9_isSo 2 b_X9_isSo_1 := fun K jp hj =>
    z_nLL_ge (i := 3) (j := 2) (a1 := 1) (a2 := 1) (off := 54) (tgt := 58) (zLd_n (n := 3) (i := 3) (zd (i := .iload_n 3) (n := 1) (by decide +kernel)) rfl) (zLd_n (n := 2) (i := 2) (zd (i := .iload_n 2) (n := 1) (by decide +kernel)) rfl) (zd (i := .if_icmp .ge (54)) (n := 3) (by decide +kernel)) (by decide +kernel) (zj (hj 5) (by decide +kernel)) (zj (hj 2) (by decide +kernel))
noncomputable def b_X9_isSo_2 : zBl := fun jp K => oAld 0 <| oAld 0 <| oGetR 9 59 <| oIld 3 <| oXald 10 <| oIld 1 <| oInt 2147483657 <| oB2z zidiv <| oIld 1 <| oInt 2147483657 <| oB2z zirem <| oInt 2147483649 <| oB2 zadd <| oAld 0 <| oGetR 9 48 <| oInt 2147483744 <| oXald 10 <| oAld 0 <| oGetR 9 61 <| oIld 3 <| oXald 10 <| oB2 zadd <| oCv 9 4 gs_X9_seenAt <| oAld 0 <| oGetR 9 60 <| oIld 3 <| oXald 10 <| oIc zeq zne (jp 4) (jp 3)
theorem s_X9_isSo_2 (d : Nat) (hG : zGood gh) : zPb l G gh (d + 7) n_X9_isSo p_X9_isSo 7 b_X9_isSo_2 := fun K jp hj =>
    z_aload_n (n := 0) (i := 0) (zd (i := .aload_n 0) (n := 1) (by decide +kernel)) rfl <|
    z_aload_n (n := 0) (i := 0) (zd (i := .aload_n 0) (n := 1) (by decide +kernel)) rfl <|
    z_getR (ci := 9) (j := 59) (idx := 131) (zd (i := .getfield 131) (n := 3) (by decide +kernel)) (by decide +kernel) (by decide +kernel) rfl g1187 <|
    z_iload_n (n := 3) (i := 3) (zd (i := .iload_n 3) (n := 1) (by decide +kernel)) rfl <|
    z_iald (zd (i := .iaload) (n := 1) (by decide +kernel)) <|
    z_iload_n (n := 1) (i := 1) (zd (i := .iload_n 1) (n := 1) (by decide +kernel)) rfl <|
    z_bipush (n := 9) (zd (i := .bipush (9)) (n := 2) (by decide +kernel)) (by decide +kernel) <|
    z_idiv (zd (i := .idiv) (n := 1) (by decide +kernel)) <|
    z_iload_n (n := 1) (i := 1) (zd (i := .iload_n 1) (n := 1) (by decide +kernel)) rfl <|
    z_bipush (n := 9) (zd (i := .bipush (9)) (n := 2) (by decide +kernel)) (by decide +kernel) <|
    z_irem (zd (i := .irem) (n := 1) (by decide +kernel)) <|
    z_iconst (n := 1) (zd (i := .iconst (1)) (n := 1) (by decide +kernel)) (by decide +kernel) <|
    z_iadd (zd (i := .iadd) (n := 1) (by decide +kernel)) <|
    z_aload_n (n := 0) (i := 0) (zd (i := .aload_n 0) (n := 1) (by decide +kernel)) rfl <|
    z_getR (ci := 9) (j := 48) (idx := 110) (zd (i := .getfield 110) (n := 3) (by decide +kernel)) (by decide +kernel) (by decide +kernel) rfl g1176 <|
    z_bipush (n := 96) (zd (i := .bipush (96)) (n := 2) (by decide +kernel)) (by decide +kernel) <|
    z_iald (zd (i := .iaload) (n := 1) (by decide +kernel)) <|
    z_aload_n (n := 0) (i := 0) (zd (i := .aload_n 0) (n := 1) (by decide +kernel)) rfl <|
    z_getR (ci := 9) (j := 61) (idx := 137) (zd (i := .getfield 137) (n := 3) (by decide +kernel)) (by decide +kernel) (by decide +kernel) rfl g1189 <|
    z_iload_n (n := 3) (i := 3) (zd (i := .iload_n 3) (n := 1) (by decide +kernel)) rfl <|
    z_iald (zd (i := .iaload) (n := 1) (by decide +kernel)) <|
    z_iadd (zd (i := .iadd) (n := 1) (by decide +kernel)) <|
    z_callV (idx := 345) (ci := 9) (N := n_X9_seenAt) (zd (i := .invokevirtual 345) (n := 3) (by decide +kernel)) to_X9_seenAt g1582 g1584 g88 (by decide +kernel) rfl rfl rfl (cs_X9_seenAt (l := l) (G := G) (gh := gh) (d) hG) <|
    z_aload_n (n := 0) (i := 0) (zd (i := .aload_n 0) (n := 1) (by decide +kernel)) rfl <|
    z_getR (ci := 9) (j := 60) (idx := 134) (zd (i := .getfield 134) (n := 3) (by decide +kernel)) (by decide +kernel) (by decide +kernel) rfl g1188 <|
    z_iload_n (n := 3) (i := 3) (zd (i := .iload_n 3) (n := 1) (by decide +kernel)) rfl <|
    z_iald (zd (i := .iaload) (n := 1) (by decide +kernel)) <|
    z_icmp_eq (off := 5) (tgt := 52) (zd (i := .if_icmp .eq (5)) (n := 3) (by decide +kernel)) (by decide +kernel) (zj (hj 4) (by decide +kernel)) (zj (hj 3) (by decide +kernel))
noncomputable def b_X9_isSo_3 : zBl := fun jp K => oInt 2147483648 <| oZret K
theorem s_X9_isSo_3 (d : Nat) (hG : zGood gh) : zPb l G gh (d + 7) n_X9_isSo p_X9_isSo 50 b_X9_isSo_3 := fun K jp hj =>
    z_iconst (n := 0) (zd (i := .iconst (0)) (n := 1) (by decide +kernel)) (by decide +kernel) <|
    z_zret (zd (i := .ireturn) (n := 1) (by decide +kernel)) rfl
noncomputable def b_X9_isSo_4 : zBl := fun jp K => oInc 3 2147483649 <| jp 1
theorem s_X9_isSo_4 (d : Nat) (hG : zGood gh) : zPb l G gh (d + 7) n_X9_isSo p_X9_isSo 52 b_X9_isSo_4 := fun K jp hj =>
    z_iinc (i := 3) (n := 1) (zd (i := .iinc 3 (1)) (n := 3) (by decide +kernel)) (by decide +kernel) (by decide +kernel) <|
    z_goto (off := -53) (tgt := 2) (zd (i := .goto (-53)) (n := 3) (by decide +kernel)) (by decide +kernel) (zj (hj 1) (by decide +kernel))
noncomputable def b_X9_isSo_5 : zBl := fun jp K => oInt 2147483649 <| oZret K
theorem s_X9_isSo_5 (d : Nat) (hG : zGood gh) : zPb l G gh (d + 7) n_X9_isSo p_X9_isSo 58 b_X9_isSo_5 := fun K jp hj =>
    z_iconst (n := 1) (zd (i := .iconst (1)) (n := 1) (by decide +kernel)) (by decide +kernel) <|
    z_zret (zd (i := .ireturn) (n := 1) (by decide +kernel)) rfl
noncomputable def t_X9_isSo : List zBl := [b_X9_isSo_0, b_X9_isSo_1, b_X9_isSo_2, b_X9_isSo_3, b_X9_isSo_4, b_X9_isSo_5]
theorem tt_X9_isSo (d : Nat) (hG : zGood gh) : zT (zPb l G gh (d + 7) n_X9_isSo p_X9_isSo) t_X9_isSo p_X9_isSo := ⟨s_X9_isSo_0 d hG, s_X9_isSo_1 d hG, s_X9_isSo_2 d hG, s_X9_isSo_3 d hG, s_X9_isSo_4 d hG, s_X9_isSo_5 d hG, trivial⟩
def q_X9_isSo_0 : List (Nat × Nat) := [(292, zk102), (321, zk3), (322, zk116), (323, zk104), (330, zk7), (331, zk7), (332, zk7)]
noncomputable def al_X9_isSo_0 : zAq := [(some (.inl 9223372043297226753), [(292, zk105), (321, zk4), (322, zk117), (323, zk104), (330, zk7), (331, zk7), (332, zk7)])]
def mq_X9_isSo_0_1 : List (Nat × Nat) := [(292, zk105), (321, zk4), (322, zk117), (323, zk104), (330, zk7), (331, zk7), (332, zk7)]
noncomputable def fm_X9_isSo_0 : List zFm := [(0, [], (fun vs => [.inr (.ref 292), .inl 9223372043297226931, .inl 9223372043297226772]), (fun vs => zP q_X9_isSo_0), (fun vs => Nat.sub (Nat.add 21 0) 0)),
  (1, [(3, 2147483648, 2147483668)], (fun vs => [.inr (.ref 292), .inl 9223372043297226931, .inl 9223372043297226772, .inl (zn 0 vs 0)]), (fun vs => zP mq_X9_isSo_0_1), (fun vs => Nat.sub (Nat.add 2147483668 0) (Nat.add 0 (Nat.mul 1 (zn 0 vs 0)))))]
def bf_X9_isSo_0 : List Nat := [0, 2]
theorem r_X9_isSo_0_0 : zbox [] (fun vs => zFrun (zpost (zAlq al_X9_isSo_0)) 1000 t_X9_isSo fm_X9_isSo_0 bf_X9_isSo_0 (0, vs)) = true := by decide +kernel
theorem r_X9_isSo_0_1 : zbox [(3, 2147483648, 2147483668)] (fun vs => zFrun (zpost (zAlq al_X9_isSo_0)) 1000 t_X9_isSo fm_X9_isSo_0 bf_X9_isSo_0 (1, vs)) = true := by decide +kernel
set_option maxRecDepth 100000 in
theorem x_X9_isSo_0 (d : Nat) (hG : zGood gh) : zS l G gh (d + 7) (zpost (zAlq al_X9_isSo_0)) n_X9_isSo (zn 0 p_X9_isSo 0) (zwc (0, [.inr (.ref 292), .inl 9223372043297226931, .inl 9223372043297226772], zP q_X9_isSo_0) 0) := zentry (tt_X9_isSo d hG) fm_X9_isSo_0 bf_X9_isSo_0 1000 (by decide +kernel) rfl ⟨Nat.zero_lt_succ _, trivial⟩ (fun f hf => match f, hf with
  | 0, _ => fun vs hv => (zbox_t r_X9_isSo_0_0) vs hv
  | 1, _ => fun vs hv => (zbox_t r_X9_isSo_0_1) vs hv
  | f + 2, h => absurd (show f + 2 < 2 from h) (Nat.not_lt.mpr (Nat.le_add_left 2 f)))
noncomputable def gs_X9_isSo_0 : zMt := zgq true zUN 4 [.inr (.ref 292), .inl 9223372043297226931, .inl 9223372043297226772] q_X9_isSo_0 al_X9_isSo_0
set_option maxRecDepth 100000 in
theorem cs_X9_isSo_0 (d : Nat) (hG : zGood gh) : zC l G gh (d + 7) n_X9_isSo gs_X9_isSo_0 := zgq_ok zGood_ok (pcs := p_X9_isSo) (by decide) rfl rfl (fun a ha => by simp only [al_X9_isSo_0, List.mem_cons, List.not_mem_nil, or_false] at ha; rcases ha with rfl <;> decide +kernel) (fun gh hG => x_X9_isSo_0 d hG) (by decide +kernel) hG
noncomputable def gs_X9_isSo : zMt := gs_X9_isSo_0
theorem cs_X9_isSo (d : Nat) (hG : zGood gh) : zC l G gh (d + 7) n_X9_isSo gs_X9_isSo := (cs_X9_isSo_0 d hG)
def p_X9_seat : List Nat := [0, 8, 10, 56, 63, 73, 79, 84, 98, 116, 123, 129, 131, 137, 147, 157]
noncomputable def b_X9_seat_0 : zBl := fun jp K => oAld 0 <| oIld 1 <| oCv 9 1 f_X9_isSeat <| oIf zne zeq (jp 2) (jp 1)
theorem s_X9_seat_0 (d : Nat) (hG : zGood gh) : zPb l G gh (d + 8) n_X9_seat p_X9_seat 0 b_X9_seat_0 := fun K jp hj =>
    z_aload_n (n := 0) (i := 0) (zd (i := .aload_n 0) (n := 1) (by decide +kernel)) rfl <|
    z_iload_n (n := 1) (i := 1) (zd (i := .iload_n 1) (n := 1) (by decide +kernel)) rfl <|
    z_callV (idx := 378) (ci := 9) (N := n_X9_isSeat) (zd (i := .invokevirtual 378) (n := 3) (by decide +kernel)) to_X9_isSeat g1487 g1489 g75 (by decide +kernel) rfl rfl rfl (c_X9_isSeat (l := l) (G := G) (gh := gh) (d + 5)) <|
    z_if_ne (off := 5) (tgt := 10) (zd (i := .ifCond .ne (5)) (n := 3) (by decide +kernel)) (by decide +kernel) (zj (hj 2) (by decide +kernel)) (zj (hj 1) (by decide +kernel))
noncomputable def b_X9_seat_1 : zBl := fun jp K => oInt 2147483647 <| oIret K
theorem s_X9_seat_1 (d : Nat) (hG : zGood gh) : zPb l G gh (d + 8) n_X9_seat p_X9_seat 8 b_X9_seat_1 := fun K jp hj =>
    z_iconst (n := -1) (zd (i := .iconst (-1)) (n := 1) (by decide +kernel)) (by decide +kernel) <|
    z_iret (zd (i := .ireturn) (n := 1) (by decide +kernel)) rfl
noncomputable def b_X9_seat_2 : zBl := fun jp K => oAld 0 <| oCv 9 0 gs_X9_copies <| oIld 2 <| oTab 2147483648 [jp 3, jp 4, jp 5, jp 6, jp 12, jp 13, jp 14] (jp 15)
theorem s_X9_seat_2 (d : Nat) (hG : zGood gh) : zPb l G gh (d + 8) n_X9_seat p_X9_seat 10 b_X9_seat_2 := fun K jp hj =>
    z_aload_n (n := 0) (i := 0) (zd (i := .aload_n 0) (n := 1) (by decide +kernel)) rfl <|
    z_callV (idx := 375) (ci := 9) (N := n_X9_copies) (zd (i := .invokevirtual 375) (n := 3) (by decide +kernel)) to_X9_copies g1445 g1447 g67 (by decide +kernel) rfl rfl rfl (cs_X9_copies (l := l) (G := G) (gh := gh) (d + 6)) <|
    z_iload_n (n := 2) (i := 2) (zd (i := .iload_n 2) (n := 1) (by decide +kernel)) rfl <|
    z_table (v := 2147483648) (df := 157) (len := 41) (x := 0) (dflt := 142) (lo := 0) (hi := 6) (offs := #[41, 48, 58, 64, 116, 122, 132]) (tgts := [56, 63, 73, 79, 131, 137, 147]) (zd (i := .tableswitch (142) (0) (6) #[41, 48, 58, 64, 116, 122, 132]) (n := 41) (by decide +kernel)) (by decide +kernel) rfl rfl (by decide +kernel) (by decide +kernel) (by decide +kernel) ⟨(zj (hj 3) (by decide +kernel)), (zj (hj 4) (by decide +kernel)), (zj (hj 5) (by decide +kernel)), (zj (hj 6) (by decide +kernel)), (zj (hj 12) (by decide +kernel)), (zj (hj 13) (by decide +kernel)), (zj (hj 14) (by decide +kernel)), trivial⟩ (zj (hj 15) (by decide +kernel))
noncomputable def b_X9_seat_3 : zBl := fun jp K => oAld 0 <| oGetR 9 49 <| oIld 1 <| oXald 10 <| oIret K
theorem s_X9_seat_3 (d : Nat) (hG : zGood gh) : zPb l G gh (d + 8) n_X9_seat p_X9_seat 56 b_X9_seat_3 := fun K jp hj =>
    z_aload_n (n := 0) (i := 0) (zd (i := .aload_n 0) (n := 1) (by decide +kernel)) rfl <|
    z_getR (ci := 9) (j := 49) (idx := 113) (zd (i := .getfield 113) (n := 3) (by decide +kernel)) (by decide +kernel) (by decide +kernel) rfl g1177 <|
    z_iload_n (n := 1) (i := 1) (zd (i := .iload_n 1) (n := 1) (by decide +kernel)) rfl <|
    z_iald (zd (i := .iaload) (n := 1) (by decide +kernel)) <|
    z_iret (zd (i := .ireturn) (n := 1) (by decide +kernel)) rfl
noncomputable def b_X9_seat_4 : zBl := fun jp K => oAld 0 <| oGetR 9 49 <| oInt 2147483654 <| oIld 1 <| oB2 zadd <| oXald 10 <| oIret K
theorem s_X9_seat_4 (d : Nat) (hG : zGood gh) : zPb l G gh (d + 8) n_X9_seat p_X9_seat 63 b_X9_seat_4 := fun K jp hj =>
    z_aload_n (n := 0) (i := 0) (zd (i := .aload_n 0) (n := 1) (by decide +kernel)) rfl <|
    z_getR (ci := 9) (j := 49) (idx := 113) (zd (i := .getfield 113) (n := 3) (by decide +kernel)) (by decide +kernel) (by decide +kernel) rfl g1177 <|
    z_bipush (n := 6) (zd (i := .bipush (6)) (n := 2) (by decide +kernel)) (by decide +kernel) <|
    z_iload_n (n := 1) (i := 1) (zd (i := .iload_n 1) (n := 1) (by decide +kernel)) rfl <|
    z_iadd (zd (i := .iadd) (n := 1) (by decide +kernel)) <|
    z_iald (zd (i := .iaload) (n := 1) (by decide +kernel)) <|
    z_iret (zd (i := .ireturn) (n := 1) (by decide +kernel)) rfl
noncomputable def b_X9_seat_5 : zBl := fun jp K => oAld 0 <| oIld 1 <| oCv 9 1 gs_X9_seesBits <| oIret K
theorem s_X9_seat_5 (d : Nat) (hG : zGood gh) : zPb l G gh (d + 8) n_X9_seat p_X9_seat 73 b_X9_seat_5 := fun K jp hj =>
    z_aload_n (n := 0) (i := 0) (zd (i := .aload_n 0) (n := 1) (by decide +kernel)) rfl <|
    z_iload_n (n := 1) (i := 1) (zd (i := .iload_n 1) (n := 1) (by decide +kernel)) rfl <|
    z_callV (idx := 381) (ci := 9) (N := n_X9_seesBits) (zd (i := .invokevirtual 381) (n := 3) (by decide +kernel)) to_X9_seesBits g1491 g1493 g76 (by decide +kernel) rfl rfl rfl (cs_X9_seesBits (l := l) (G := G) (gh := gh) (d) hG) <|
    z_iret (zd (i := .ireturn) (n := 1) (by decide +kernel)) rfl
noncomputable def b_X9_seat_6 : zBl := fun jp K => oInt 2147483648 <| oIst 3 <| oInt 2147483648 <| oIst 4 <| jp 7
theorem s_X9_seat_6 (d : Nat) (hG : zGood gh) : zPb l G gh (d + 8) n_X9_seat p_X9_seat 79 b_X9_seat_6 := fun K jp hj =>
    z_iconst (n := 0) (zd (i := .iconst (0)) (n := 1) (by decide +kernel)) (by decide +kernel) <|
    z_istore_n (n := 3) (i := 3) (zd (i := .istore_n 3) (n := 1) (by decide +kernel)) rfl (by decide +kernel) <|
    z_iconst (n := 0) (zd (i := .iconst (0)) (n := 1) (by decide +kernel)) (by decide +kernel) <|
    z_istore (i := 4) (zd (i := .istore 4) (n := 2) (by decide +kernel)) (by decide +kernel) <|
    (zj (hj 7) (by decide +kernel))
noncomputable def b_X9_seat_7 : zBl := fun jp K => oIld 4 <| oAld 0 <| oGetR 9 22 <| oAld 0 <| oGetI 9 18 <| oXald 10 <| oIc zge zlt (jp 11) (jp 8)
theorem s_X9_seat_7 (d : Nat) (hG : zGood gh) : zPb l G gh (d + 8) n_X9_seat p_X9_seat 84 b_X9_seat_7 := fun K jp hj =>
    z_iload (i := 4) (zd (i := .iload 4) (n := 2) (by decide +kernel)) <|
    z_aload_n (n := 0) (i := 0) (zd (i := .aload_n 0) (n := 1) (by decide +kernel)) rfl <|
    z_getR (ci := 9) (j := 22) (idx := 43) (zd (i := .getfield 43) (n := 3) (by decide +kernel)) (by decide +kernel) (by decide +kernel) rfl g1150 <|
    z_aload_n (n := 0) (i := 0) (zd (i := .aload_n 0) (n := 1) (by decide +kernel)) rfl <|
    z_getI (ci := 9) (j := 18) (idx := 230) (zd (i := .getfield 230) (n := 3) (by decide +kernel)) (by decide +kernel) (by decide +kernel) rfl g1146 <|
    z_iald (zd (i := .iaload) (n := 1) (by decide +kernel)) <|
    z_icmp_ge (off := 34) (tgt := 129) (zd (i := .if_icmp .ge (34)) (n := 3) (by decide +kernel)) (by decide +kernel) (zj (hj 11) (by decide +kernel)) (zj (hj 8) (by decide +kernel))
noncomputable def b_X9_seat_8 : zBl := fun jp K => oAld 0 <| oGetR 9 49 <| oInt 2147483672 <| oInt 2147483654 <| oIld 1 <| oB2 zimul <| oB2 zadd <| oIld 4 <| oB2 zadd <| oXald 10 <| oIf zle zgt (jp 10) (jp 9)
theorem s_X9_seat_8 (d : Nat) (hG : zGood gh) : zPb l G gh (d + 8) n_X9_seat p_X9_seat 98 b_X9_seat_8 := fun K jp hj =>
    z_aload_n (n := 0) (i := 0) (zd (i := .aload_n 0) (n := 1) (by decide +kernel)) rfl <|
    z_getR (ci := 9) (j := 49) (idx := 113) (zd (i := .getfield 113) (n := 3) (by decide +kernel)) (by decide +kernel) (by decide +kernel) rfl g1177 <|
    z_bipush (n := 24) (zd (i := .bipush (24)) (n := 2) (by decide +kernel)) (by decide +kernel) <|
    z_bipush (n := 6) (zd (i := .bipush (6)) (n := 2) (by decide +kernel)) (by decide +kernel) <|
    z_iload_n (n := 1) (i := 1) (zd (i := .iload_n 1) (n := 1) (by decide +kernel)) rfl <|
    z_imul (zd (i := .imul) (n := 1) (by decide +kernel)) <|
    z_iadd (zd (i := .iadd) (n := 1) (by decide +kernel)) <|
    z_iload (i := 4) (zd (i := .iload 4) (n := 2) (by decide +kernel)) <|
    z_iadd (zd (i := .iadd) (n := 1) (by decide +kernel)) <|
    z_iald (zd (i := .iaload) (n := 1) (by decide +kernel)) <|
    z_if_le (off := 10) (tgt := 123) (zd (i := .ifCond .le (10)) (n := 3) (by decide +kernel)) (by decide +kernel) (zj (hj 10) (by decide +kernel)) (zj (hj 9) (by decide +kernel))
noncomputable def b_X9_seat_9 : zBl := fun jp K => oIld 3 <| oInt 2147483649 <| oIld 4 <| oB2 zishl <| oB2 zior <| oIst 3 <| jp 10
theorem s_X9_seat_9 (d : Nat) (hG : zGood gh) : zPb l G gh (d + 8) n_X9_seat p_X9_seat 116 b_X9_seat_9 := fun K jp hj =>
    z_iload_n (n := 3) (i := 3) (zd (i := .iload_n 3) (n := 1) (by decide +kernel)) rfl <|
    z_iconst (n := 1) (zd (i := .iconst (1)) (n := 1) (by decide +kernel)) (by decide +kernel) <|
    z_iload (i := 4) (zd (i := .iload 4) (n := 2) (by decide +kernel)) <|
    z_ishl (zd (i := .ishl) (n := 1) (by decide +kernel)) <|
    z_ior (zd (i := .ior) (n := 1) (by decide +kernel)) <|
    z_istore_n (n := 3) (i := 3) (zd (i := .istore_n 3) (n := 1) (by decide +kernel)) rfl (by decide +kernel) <|
    (zj (hj 10) (by decide +kernel))
noncomputable def b_X9_seat_10 : zBl := fun jp K => oInc 4 2147483649 <| jp 7
theorem s_X9_seat_10 (d : Nat) (hG : zGood gh) : zPb l G gh (d + 8) n_X9_seat p_X9_seat 123 b_X9_seat_10 := fun K jp hj =>
    z_iinc (i := 4) (n := 1) (zd (i := .iinc 4 (1)) (n := 3) (by decide +kernel)) (by decide +kernel) (by decide +kernel) <|
    z_goto (off := -42) (tgt := 84) (zd (i := .goto (-42)) (n := 3) (by decide +kernel)) (by decide +kernel) (zj (hj 7) (by decide +kernel))
noncomputable def b_X9_seat_11 : zBl := fun jp K => oIld 3 <| oIret K
theorem s_X9_seat_11 (d : Nat) (hG : zGood gh) : zPb l G gh (d + 8) n_X9_seat p_X9_seat 129 b_X9_seat_11 := fun K jp hj =>
    z_iload_n (n := 3) (i := 3) (zd (i := .iload_n 3) (n := 1) (by decide +kernel)) rfl <|
    z_iret (zd (i := .ireturn) (n := 1) (by decide +kernel)) rfl
noncomputable def b_X9_seat_12 : zBl := fun jp K => oAld 0 <| oIld 1 <| oCv 9 1 gs_X9_lentBy <| oIret K
theorem s_X9_seat_12 (d : Nat) (hG : zGood gh) : zPb l G gh (d + 8) n_X9_seat p_X9_seat 131 b_X9_seat_12 := fun K jp hj =>
    z_aload_n (n := 0) (i := 0) (zd (i := .aload_n 0) (n := 1) (by decide +kernel)) rfl <|
    z_iload_n (n := 1) (i := 1) (zd (i := .iload_n 1) (n := 1) (by decide +kernel)) rfl <|
    z_callV (idx := 384) (ci := 9) (N := n_X9_lentBy) (zd (i := .invokevirtual 384) (n := 3) (by decide +kernel)) to_X9_lentBy g1495 g1497 g77 (by decide +kernel) rfl rfl rfl (cs_X9_lentBy (l := l) (G := G) (gh := gh) (d + 6)) <|
    z_iret (zd (i := .ireturn) (n := 1) (by decide +kernel)) rfl
noncomputable def b_X9_seat_13 : zBl := fun jp K => oAld 0 <| oGetR 9 49 <| oInt 2147483660 <| oIld 1 <| oB2 zadd <| oXald 10 <| oIret K
theorem s_X9_seat_13 (d : Nat) (hG : zGood gh) : zPb l G gh (d + 8) n_X9_seat p_X9_seat 137 b_X9_seat_13 := fun K jp hj =>
    z_aload_n (n := 0) (i := 0) (zd (i := .aload_n 0) (n := 1) (by decide +kernel)) rfl <|
    z_getR (ci := 9) (j := 49) (idx := 113) (zd (i := .getfield 113) (n := 3) (by decide +kernel)) (by decide +kernel) (by decide +kernel) rfl g1177 <|
    z_bipush (n := 12) (zd (i := .bipush (12)) (n := 2) (by decide +kernel)) (by decide +kernel) <|
    z_iload_n (n := 1) (i := 1) (zd (i := .iload_n 1) (n := 1) (by decide +kernel)) rfl <|
    z_iadd (zd (i := .iadd) (n := 1) (by decide +kernel)) <|
    z_iald (zd (i := .iaload) (n := 1) (by decide +kernel)) <|
    z_iret (zd (i := .ireturn) (n := 1) (by decide +kernel)) rfl
noncomputable def b_X9_seat_14 : zBl := fun jp K => oAld 0 <| oGetR 9 49 <| oInt 2147483666 <| oIld 1 <| oB2 zadd <| oXald 10 <| oIret K
theorem s_X9_seat_14 (d : Nat) (hG : zGood gh) : zPb l G gh (d + 8) n_X9_seat p_X9_seat 147 b_X9_seat_14 := fun K jp hj =>
    z_aload_n (n := 0) (i := 0) (zd (i := .aload_n 0) (n := 1) (by decide +kernel)) rfl <|
    z_getR (ci := 9) (j := 49) (idx := 113) (zd (i := .getfield 113) (n := 3) (by decide +kernel)) (by decide +kernel) (by decide +kernel) rfl g1177 <|
    z_bipush (n := 18) (zd (i := .bipush (18)) (n := 2) (by decide +kernel)) (by decide +kernel) <|
    z_iload_n (n := 1) (i := 1) (zd (i := .iload_n 1) (n := 1) (by decide +kernel)) rfl <|
    z_iadd (zd (i := .iadd) (n := 1) (by decide +kernel)) <|
    z_iald (zd (i := .iaload) (n := 1) (by decide +kernel)) <|
    z_iret (zd (i := .ireturn) (n := 1) (by decide +kernel)) rfl
noncomputable def b_X9_seat_15 : zBl := fun jp K => oInt 2147483647 <| oIret K
theorem s_X9_seat_15 (d : Nat) (hG : zGood gh) : zPb l G gh (d + 8) n_X9_seat p_X9_seat 157 b_X9_seat_15 := fun K jp hj =>
    z_iconst (n := -1) (zd (i := .iconst (-1)) (n := 1) (by decide +kernel)) (by decide +kernel) <|
    z_iret (zd (i := .ireturn) (n := 1) (by decide +kernel)) rfl
noncomputable def t_X9_seat : List zBl := [b_X9_seat_0, b_X9_seat_1, b_X9_seat_2, b_X9_seat_3, b_X9_seat_4, b_X9_seat_5, b_X9_seat_6, b_X9_seat_7, b_X9_seat_8, b_X9_seat_9, b_X9_seat_10, b_X9_seat_11, b_X9_seat_12, b_X9_seat_13, b_X9_seat_14, b_X9_seat_15]
theorem tt_X9_seat (d : Nat) (hG : zGood gh) : zT (zPb l G gh (d + 8) n_X9_seat p_X9_seat) t_X9_seat p_X9_seat := ⟨s_X9_seat_0 d hG, s_X9_seat_1 d hG, s_X9_seat_2 d hG, s_X9_seat_3 d hG, s_X9_seat_4 d hG, s_X9_seat_5 d hG, s_X9_seat_6 d hG, s_X9_seat_7 d hG, s_X9_seat_8 d hG, s_X9_seat_9 d hG, s_X9_seat_10 d hG, s_X9_seat_11 d hG, s_X9_seat_12 d hG, s_X9_seat_13 d hG, s_X9_seat_14 d hG, s_X9_seat_15 d hG, trivial⟩
def q_X9_seat_0 : List (Nat × Nat) := [(292, zk102), (301, zk107), (302, zk111), (303, zk111), (304, zk107), (310, zk103), (321, zk3), (322, zk116), (323, zk104), (324, zk104)]
noncomputable def al_X9_seat_0 : zAq := [(some (.inl 8589934591), [(292, zk105), (301, zk107), (302, zk111), (303, zk111), (304, zk107), (310, zk103), (321, zk4), (322, zk117), (323, zk104), (324, zk106)])]
def mq_X9_seat_0_1 : List (Nat × Nat) := [(292, zk105), (301, zk107), (302, zk111), (303, zk111), (304, zk107), (310, zk103), (321, zk3), (322, zk116), (323, zk104), (324, zk106)]
noncomputable def fm_X9_seat_0 : List zFm := [(0, [], (fun vs => [.inr (.ref 292), .inl 9223372043297226757, .inl 8589934591]), (fun vs => zP q_X9_seat_0), (fun vs => Nat.sub (Nat.add 7 0) 0)),
  (7, [(4, 2147483648, 2147483654)], (fun vs => [.inr (.ref 292), .inl 9223372043297226757, .inl 8589934591, .inl 9223372043297226815, .inl (zn 0 vs 0)]), (fun vs => zP mq_X9_seat_0_1), (fun vs => Nat.sub (Nat.add 2147483654 0) (Nat.add 0 (Nat.mul 1 (zn 0 vs 0)))))]
def bf_X9_seat_0 : List Nat := [0, 0, 0, 0, 0, 0, 0, 2]
theorem r_X9_seat_0_0 : zbox [] (fun vs => zFrun (zpost (zAlq al_X9_seat_0)) 1000 t_X9_seat fm_X9_seat_0 bf_X9_seat_0 (0, vs)) = true := by decide +kernel
theorem r_X9_seat_0_1 : zbox [(4, 2147483648, 2147483654)] (fun vs => zFrun (zpost (zAlq al_X9_seat_0)) 1000 t_X9_seat fm_X9_seat_0 bf_X9_seat_0 (1, vs)) = true := by decide +kernel
set_option maxRecDepth 100000 in
theorem x_X9_seat_0 (d : Nat) (hG : zGood gh) : zS l G gh (d + 8) (zpost (zAlq al_X9_seat_0)) n_X9_seat (zn 0 p_X9_seat 0) (zwc (0, [.inr (.ref 292), .inl 9223372043297226757, .inl 8589934591], zP q_X9_seat_0) 0) := zentry (tt_X9_seat d hG) fm_X9_seat_0 bf_X9_seat_0 1000 (by decide +kernel) rfl ⟨Nat.zero_lt_succ _, trivial⟩ (fun f hf => match f, hf with
  | 0, _ => fun vs hv => (zbox_t r_X9_seat_0_0) vs hv
  | 1, _ => fun vs hv => (zbox_t r_X9_seat_0_1) vs hv
  | f + 2, h => absurd (show f + 2 < 2 from h) (Nat.not_lt.mpr (Nat.le_add_left 2 f)))
noncomputable def gs_X9_seat_0 : zMt := zgq true zUN 5 [.inr (.ref 292), .inl 9223372043297226757, .inl 8589934591] q_X9_seat_0 al_X9_seat_0
set_option maxRecDepth 100000 in
theorem cs_X9_seat_0 (d : Nat) (hG : zGood gh) : zC l G gh (d + 8) n_X9_seat gs_X9_seat_0 := zgq_ok zGood_ok (pcs := p_X9_seat) (by decide) rfl rfl (fun a ha => by simp only [al_X9_seat_0, List.mem_cons, List.not_mem_nil, or_false] at ha; rcases ha with rfl <;> decide +kernel) (fun gh hG => x_X9_seat_0 d hG) (by decide +kernel) hG
def q_X9_seat_1 : List (Nat × Nat) := [(292, zk102), (304, zk107)]
noncomputable def al_X9_seat_1 : zAq := [(some (.inl 2147483647), [(292, zk102), (304, zk107)])]
noncomputable def fm_X9_seat_1 : List zFm := [(0, [], (fun vs => [.inr (.ref 292), .inl 6442450943, .inl 8589934591]), (fun vs => zP q_X9_seat_1), (fun vs => Nat.sub (Nat.add 0 0) 0))]
def bf_X9_seat_1 : List Nat := []
theorem r_X9_seat_1_0 : zbox [] (fun vs => zFrun (zpost (zAlq al_X9_seat_1)) 1000 t_X9_seat fm_X9_seat_1 bf_X9_seat_1 (0, vs)) = true := by decide +kernel
set_option maxRecDepth 100000 in
theorem x_X9_seat_1 (d : Nat) (hG : zGood gh) : zS l G gh (d + 8) (zpost (zAlq al_X9_seat_1)) n_X9_seat (zn 0 p_X9_seat 0) (zwc (0, [.inr (.ref 292), .inl 6442450943, .inl 8589934591], zP q_X9_seat_1) 0) := zentry (tt_X9_seat d hG) fm_X9_seat_1 bf_X9_seat_1 1000 (by decide +kernel) rfl ⟨Nat.zero_lt_succ _, trivial⟩ (fun f hf => match f, hf with
  | 0, _ => fun vs hv => (zbox_t r_X9_seat_1_0) vs hv
  | f + 1, h => absurd (show f + 1 < 1 from h) (Nat.not_lt.mpr (Nat.le_add_left 1 f)))
noncomputable def gs_X9_seat_1 : zMt := zgq true zUN 5 [.inr (.ref 292), .inl 6442450943, .inl 8589934591] q_X9_seat_1 al_X9_seat_1
set_option maxRecDepth 100000 in
theorem cs_X9_seat_1 (d : Nat) (hG : zGood gh) : zC l G gh (d + 8) n_X9_seat gs_X9_seat_1 := zgq_ok zGood_ok (pcs := p_X9_seat) (by decide) rfl rfl (fun a ha => by simp only [al_X9_seat_1, List.mem_cons, List.not_mem_nil, or_false] at ha; rcases ha with rfl <;> decide +kernel) (fun gh hG => x_X9_seat_1 d hG) (by decide +kernel) hG
def q_X9_seat_2 : List (Nat × Nat) := [(292, zk102), (304, zk107)]
noncomputable def al_X9_seat_2 : zAq := [(some (.inl 2147483647), [(292, zk102), (304, zk107)])]
noncomputable def fm_X9_seat_2 : List zFm := [(0, [], (fun vs => [.inr (.ref 292), .inl 9223372071214514175, .inl 8589934591]), (fun vs => zP q_X9_seat_2), (fun vs => Nat.sub (Nat.add 0 0) 0))]
def bf_X9_seat_2 : List Nat := []
theorem r_X9_seat_2_0 : zbox [] (fun vs => zFrun (zpost (zAlq al_X9_seat_2)) 1000 t_X9_seat fm_X9_seat_2 bf_X9_seat_2 (0, vs)) = true := by decide +kernel
set_option maxRecDepth 100000 in
theorem x_X9_seat_2 (d : Nat) (hG : zGood gh) : zS l G gh (d + 8) (zpost (zAlq al_X9_seat_2)) n_X9_seat (zn 0 p_X9_seat 0) (zwc (0, [.inr (.ref 292), .inl 9223372071214514175, .inl 8589934591], zP q_X9_seat_2) 0) := zentry (tt_X9_seat d hG) fm_X9_seat_2 bf_X9_seat_2 1000 (by decide +kernel) rfl ⟨Nat.zero_lt_succ _, trivial⟩ (fun f hf => match f, hf with
  | 0, _ => fun vs hv => (zbox_t r_X9_seat_2_0) vs hv
  | f + 1, h => absurd (show f + 1 < 1 from h) (Nat.not_lt.mpr (Nat.le_add_left 1 f)))
noncomputable def gs_X9_seat_2 : zMt := zgq true zUN 5 [.inr (.ref 292), .inl 9223372071214514175, .inl 8589934591] q_X9_seat_2 al_X9_seat_2
set_option maxRecDepth 100000 in
theorem cs_X9_seat_2 (d : Nat) (hG : zGood gh) : zC l G gh (d + 8) n_X9_seat gs_X9_seat_2 := zgq_ok zGood_ok (pcs := p_X9_seat) (by decide) rfl rfl (fun a ha => by simp only [al_X9_seat_2, List.mem_cons, List.not_mem_nil, or_false] at ha; rcases ha with rfl <;> decide +kernel) (fun gh hG => x_X9_seat_2 d hG) (by decide +kernel) hG
noncomputable def gs_X9_seat : zMt := (zor gs_X9_seat_0 (zor gs_X9_seat_1 gs_X9_seat_2))
theorem cs_X9_seat (d : Nat) (hG : zGood gh) : zC l G gh (d + 8) n_X9_seat gs_X9_seat := (zor_ok (cs_X9_seat_0 d hG) (zor_ok (cs_X9_seat_1 d hG) (cs_X9_seat_2 d hG)))
def p_X9_hourGoes : List Nat := [0, 7, 20, 22, 35, 52, 59, 65, 71]
noncomputable def b_X9_hourGoes_0 : zBl := fun jp K => oAld 0 <| oCv 9 0 f_X9_isWind <| oIst 1 <| oInt 2147483648 <| oIst 2 <| jp 1
theorem s_X9_hourGoes_0 (d : Nat) (hG : zGood gh) : zPb l G gh (d + 8) n_X9_hourGoes p_X9_hourGoes 0 b_X9_hourGoes_0 := fun K jp hj =>
    z_aload_n (n := 0) (i := 0) (zd (i := .aload_n 0) (n := 1) (by decide +kernel)) rfl <|
    z_callV (idx := 361) (ci := 9) (N := n_X9_isWind) (zd (i := .invokevirtual 361) (n := 3) (by decide +kernel)) to_X9_isWind g1554 g1556 g84 (by decide +kernel) rfl rfl rfl (c_X9_isWind (l := l) (G := G) (gh := gh) (d + 5)) <|
    z_istore_n (n := 1) (i := 1) (zd (i := .istore_n 1) (n := 1) (by decide +kernel)) rfl (by decide +kernel) <|
    z_iconst (n := 0) (zd (i := .iconst (0)) (n := 1) (by decide +kernel)) (by decide +kernel) <|
    z_istore_n (n := 2) (i := 2) (zd (i := .istore_n 2) (n := 1) (by decide +kernel)) rfl (by decide +kernel) <|
    (zj (hj 1) (by decide +kernel))
noncomputable def b_X9_hourGoes_1 : zBl := fun jp K => oIld 2 <| oAld 0 <| oGetR 9 25 <| oAld 0 <| oGetI 9 18 <| oXald 10 <| oIc zge zlt (jp 8) (jp 2)
theorem s_X9_hourGoes_1 (d : Nat) (hG : zGood gh) : zPb l G gh (d + 8) n_X9_hourGoes p_X9_hourGoes 7 b_X9_hourGoes_1 := fun K jp hj =>
    z_iload_n (n := 2) (i := 2) (zd (i := .iload_n 2) (n := 1) (by decide +kernel)) rfl <|
    z_aload_n (n := 0) (i := 0) (zd (i := .aload_n 0) (n := 1) (by decide +kernel)) rfl <|
    z_getR (ci := 9) (j := 25) (idx := 52) (zd (i := .getfield 52) (n := 3) (by decide +kernel)) (by decide +kernel) (by decide +kernel) rfl g1153 <|
    z_aload_n (n := 0) (i := 0) (zd (i := .aload_n 0) (n := 1) (by decide +kernel)) rfl <|
    z_getI (ci := 9) (j := 18) (idx := 230) (zd (i := .getfield 230) (n := 3) (by decide +kernel)) (by decide +kernel) (by decide +kernel) rfl g1146 <|
    z_iald (zd (i := .iaload) (n := 1) (by decide +kernel)) <|
    z_icmp_ge (off := 54) (tgt := 71) (zd (i := .if_icmp .ge (54)) (n := 3) (by decide +kernel)) (by decide +kernel) (zj (hj 8) (by decide +kernel)) (zj (hj 2) (by decide +kernel))
noncomputable def b_X9_hourGoes_2 : zBl := fun jp K => oInt 2147483648 <| oIst 3 <| jp 3
theorem s_X9_hourGoes_2 (d : Nat) (hG : zGood gh) : zPb l G gh (d + 8) n_X9_hourGoes p_X9_hourGoes 20 b_X9_hourGoes_2 := fun K jp hj =>
    z_iconst (n := 0) (zd (i := .iconst (0)) (n := 1) (by decide +kernel)) (by decide +kernel) <|
    z_istore_n (n := 3) (i := 3) (zd (i := .istore_n 3) (n := 1) (by decide +kernel)) rfl (by decide +kernel) <|
    (zj (hj 3) (by decide +kernel))
noncomputable def b_X9_hourGoes_3 : zBl := fun jp K => oIld 3 <| oAld 0 <| oGetR 9 22 <| oAld 0 <| oGetI 9 18 <| oXald 10 <| oIc zge zlt (jp 7) (jp 4)
theorem s_X9_hourGoes_3 (d : Nat) (hG : zGood gh) : zPb l G gh (d + 8) n_X9_hourGoes p_X9_hourGoes 22 b_X9_hourGoes_3 := fun K jp hj =>
    z_iload_n (n := 3) (i := 3) (zd (i := .iload_n 3) (n := 1) (by decide +kernel)) rfl <|
    z_aload_n (n := 0) (i := 0) (zd (i := .aload_n 0) (n := 1) (by decide +kernel)) rfl <|
    z_getR (ci := 9) (j := 22) (idx := 43) (zd (i := .getfield 43) (n := 3) (by decide +kernel)) (by decide +kernel) (by decide +kernel) rfl g1150 <|
    z_aload_n (n := 0) (i := 0) (zd (i := .aload_n 0) (n := 1) (by decide +kernel)) rfl <|
    z_getI (ci := 9) (j := 18) (idx := 230) (zd (i := .getfield 230) (n := 3) (by decide +kernel)) (by decide +kernel) (by decide +kernel) rfl g1146 <|
    z_iald (zd (i := .iaload) (n := 1) (by decide +kernel)) <|
    z_icmp_ge (off := 33) (tgt := 65) (zd (i := .if_icmp .ge (33)) (n := 3) (by decide +kernel)) (by decide +kernel) (zj (hj 7) (by decide +kernel)) (zj (hj 4) (by decide +kernel))
noncomputable def b_X9_hourGoes_4 : zBl := fun jp K => oAld 0 <| oGetR 9 49 <| oInt 2147483672 <| oInt 2147483654 <| oIld 2 <| oB2 zimul <| oB2 zadd <| oIld 3 <| oB2 zadd <| oXald 10 <| oIf zle zgt (jp 6) (jp 5)
theorem s_X9_hourGoes_4 (d : Nat) (hG : zGood gh) : zPb l G gh (d + 8) n_X9_hourGoes p_X9_hourGoes 35 b_X9_hourGoes_4 := fun K jp hj =>
    z_aload_n (n := 0) (i := 0) (zd (i := .aload_n 0) (n := 1) (by decide +kernel)) rfl <|
    z_getR (ci := 9) (j := 49) (idx := 113) (zd (i := .getfield 113) (n := 3) (by decide +kernel)) (by decide +kernel) (by decide +kernel) rfl g1177 <|
    z_bipush (n := 24) (zd (i := .bipush (24)) (n := 2) (by decide +kernel)) (by decide +kernel) <|
    z_bipush (n := 6) (zd (i := .bipush (6)) (n := 2) (by decide +kernel)) (by decide +kernel) <|
    z_iload_n (n := 2) (i := 2) (zd (i := .iload_n 2) (n := 1) (by decide +kernel)) rfl <|
    z_imul (zd (i := .imul) (n := 1) (by decide +kernel)) <|
    z_iadd (zd (i := .iadd) (n := 1) (by decide +kernel)) <|
    z_iload_n (n := 3) (i := 3) (zd (i := .iload_n 3) (n := 1) (by decide +kernel)) rfl <|
    z_iadd (zd (i := .iadd) (n := 1) (by decide +kernel)) <|
    z_iald (zd (i := .iaload) (n := 1) (by decide +kernel)) <|
    z_if_le (off := 10) (tgt := 59) (zd (i := .ifCond .le (10)) (n := 3) (by decide +kernel)) (by decide +kernel) (zj (hj 6) (by decide +kernel)) (zj (hj 5) (by decide +kernel))
noncomputable def b_X9_hourGoes_5 : zBl := fun jp K => oAld 0 <| oIld 2 <| oIld 3 <| oIld 1 <| oCv 9 3 gs_X9_loanGoes <| jp 6
theorem s_X9_hourGoes_5 (d : Nat) (hG : zGood gh) : zPb l G gh (d + 8) n_X9_hourGoes p_X9_hourGoes 52 b_X9_hourGoes_5 := fun K jp hj =>
    z_aload_n (n := 0) (i := 0) (zd (i := .aload_n 0) (n := 1) (by decide +kernel)) rfl <|
    z_iload_n (n := 2) (i := 2) (zd (i := .iload_n 2) (n := 1) (by decide +kernel)) rfl <|
    z_iload_n (n := 3) (i := 3) (zd (i := .iload_n 3) (n := 1) (by decide +kernel)) rfl <|
    z_iload_n (n := 1) (i := 1) (zd (i := .iload_n 1) (n := 1) (by decide +kernel)) rfl <|
    z_callV (idx := 365) (ci := 9) (N := n_X9_loanGoes) (zd (i := .invokevirtual 365) (n := 3) (by decide +kernel)) to_X9_loanGoes g1562 g1564 g85 (by decide +kernel) rfl rfl rfl (cs_X9_loanGoes (l := l) (G := G) (gh := gh) (d) hG) <|
    (zj (hj 6) (by decide +kernel))
noncomputable def b_X9_hourGoes_6 : zBl := fun jp K => oInc 3 2147483649 <| jp 3
theorem s_X9_hourGoes_6 (d : Nat) (hG : zGood gh) : zPb l G gh (d + 8) n_X9_hourGoes p_X9_hourGoes 59 b_X9_hourGoes_6 := fun K jp hj =>
    z_iinc (i := 3) (n := 1) (zd (i := .iinc 3 (1)) (n := 3) (by decide +kernel)) (by decide +kernel) (by decide +kernel) <|
    z_goto (off := -40) (tgt := 22) (zd (i := .goto (-40)) (n := 3) (by decide +kernel)) (by decide +kernel) (zj (hj 3) (by decide +kernel))
noncomputable def b_X9_hourGoes_7 : zBl := fun jp K => oInc 2 2147483649 <| jp 1
theorem s_X9_hourGoes_7 (d : Nat) (hG : zGood gh) : zPb l G gh (d + 8) n_X9_hourGoes p_X9_hourGoes 65 b_X9_hourGoes_7 := fun K jp hj =>
    z_iinc (i := 2) (n := 1) (zd (i := .iinc 2 (1)) (n := 3) (by decide +kernel)) (by decide +kernel) (by decide +kernel) <|
    z_goto (off := -61) (tgt := 7) (zd (i := .goto (-61)) (n := 3) (by decide +kernel)) (by decide +kernel) (zj (hj 1) (by decide +kernel))
noncomputable def b_X9_hourGoes_8 : zBl := fun jp K => oAld 0 <| oGetR 9 49 <| oInt 2147483744 <| oDup2 <| oXald 10 <| oInt 2147483649 <| oB2 zadd <| oXast 10 zid <| oVret K
theorem s_X9_hourGoes_8 (d : Nat) (hG : zGood gh) : zPb l G gh (d + 8) n_X9_hourGoes p_X9_hourGoes 71 b_X9_hourGoes_8 := fun K jp hj =>
    z_aload_n (n := 0) (i := 0) (zd (i := .aload_n 0) (n := 1) (by decide +kernel)) rfl <|
    z_getR (ci := 9) (j := 49) (idx := 113) (zd (i := .getfield 113) (n := 3) (by decide +kernel)) (by decide +kernel) (by decide +kernel) rfl g1177 <|
    z_bipush (n := 96) (zd (i := .bipush (96)) (n := 2) (by decide +kernel)) (by decide +kernel) <|
    z_dup2 (zd (i := .dup2) (n := 1) (by decide +kernel)) <|
    z_iald (zd (i := .iaload) (n := 1) (by decide +kernel)) <|
    z_iconst (n := 1) (zd (i := .iconst (1)) (n := 1) (by decide +kernel)) (by decide +kernel) <|
    z_iadd (zd (i := .iadd) (n := 1) (by decide +kernel)) <|
    z_iast (zd (i := .iastore) (n := 1) (by decide +kernel)) <|
    z_vret (zd (i := .return_) (n := 1) (by decide +kernel)) rfl
noncomputable def t_X9_hourGoes : List zBl := [b_X9_hourGoes_0, b_X9_hourGoes_1, b_X9_hourGoes_2, b_X9_hourGoes_3, b_X9_hourGoes_4, b_X9_hourGoes_5, b_X9_hourGoes_6, b_X9_hourGoes_7, b_X9_hourGoes_8]
theorem tt_X9_hourGoes (d : Nat) (hG : zGood gh) : zT (zPb l G gh (d + 8) n_X9_hourGoes p_X9_hourGoes) t_X9_hourGoes p_X9_hourGoes := ⟨s_X9_hourGoes_0 d hG, s_X9_hourGoes_1 d hG, s_X9_hourGoes_2 d hG, s_X9_hourGoes_3 d hG, s_X9_hourGoes_4 d hG, s_X9_hourGoes_5 d hG, s_X9_hourGoes_6 d hG, s_X9_hourGoes_7 d hG, s_X9_hourGoes_8 d hG, trivial⟩
def q_X9_hourGoes_0 : List (Nat × Nat) := [(292, zk102), (301, zk107), (302, zk111), (303, zk111), (304, zk107), (307, zk103), (308, zk103), (321, zk3), (322, zk116), (324, zk104)]
noncomputable def al_X9_hourGoes_0 : zAq := [(none, [(292, zk105), (301, zk107), (302, zk111), (303, zk111), (304, zk107), (307, zk103), (308, zk103), (321, zk4), (322, zk117), (324, zk106)])]
def mq_X9_hourGoes_0_1 : List (Nat × Nat) := [(292, zk105), (301, zk107), (302, zk111), (303, zk111), (304, zk107), (307, zk103), (308, zk103), (321, zk4), (322, zk117), (324, zk106)]
def mq_X9_hourGoes_0_2 : List (Nat × Nat) := [(292, zk105), (301, zk107), (302, zk111), (303, zk111), (304, zk107), (307, zk103), (308, zk103), (321, zk4), (322, zk117), (324, zk106)]
noncomputable def fm_X9_hourGoes_0 : List zFm := [(0, [], (fun vs => [.inr (.ref 292)]), (fun vs => zP q_X9_hourGoes_0), (fun vs => Nat.sub (Nat.add 98 0) 0)),
  (1, [(2, 2147483648, 2147483654)], (fun vs => [.inr (.ref 292), .inl 9223372043297226753, .inl (zn 0 vs 0)]), (fun vs => zP mq_X9_hourGoes_0_1), (fun vs => Nat.sub (Nat.add 30064771163 0) (Nat.add 0 (Nat.mul 14 (zn 0 vs 0))))),
  (3, [(2, 2147483648, 2147483653), (3, 2147483648, 2147483654)], (fun vs => [.inr (.ref 292), .inl 9223372043297226753, .inl (zn 0 vs 0), .inl (zn 0 vs 1)]), (fun vs => zP mq_X9_hourGoes_0_2), (fun vs => Nat.sub (Nat.add 32212254810 0) (Nat.add (Nat.add 0 (Nat.mul 14 (zn 0 vs 0))) (Nat.mul 1 (zn 0 vs 1)))))]
def bf_X9_hourGoes_0 : List Nat := [0, 2, 0, 3]
theorem r_X9_hourGoes_0_0 : zbox [] (fun vs => zFrun (zpost (zAlq al_X9_hourGoes_0)) 1000 t_X9_hourGoes fm_X9_hourGoes_0 bf_X9_hourGoes_0 (0, vs)) = true := by decide +kernel
theorem r_X9_hourGoes_0_1 : zbox [(2, 2147483648, 2147483654)] (fun vs => zFrun (zpost (zAlq al_X9_hourGoes_0)) 1000 t_X9_hourGoes fm_X9_hourGoes_0 bf_X9_hourGoes_0 (1, vs)) = true := by decide +kernel
theorem r_X9_hourGoes_0_2 : zbox [(2, 2147483648, 2147483653), (3, 2147483648, 2147483654)] (fun vs => zFrun (zpost (zAlq al_X9_hourGoes_0)) 1000 t_X9_hourGoes fm_X9_hourGoes_0 bf_X9_hourGoes_0 (2, vs)) = true := by decide +kernel
set_option maxRecDepth 100000 in
theorem x_X9_hourGoes_0 (d : Nat) (hG : zGood gh) : zS l G gh (d + 8) (zpost (zAlq al_X9_hourGoes_0)) n_X9_hourGoes (zn 0 p_X9_hourGoes 0) (zwc (0, [.inr (.ref 292)], zP q_X9_hourGoes_0) 0) := zentry (tt_X9_hourGoes d hG) fm_X9_hourGoes_0 bf_X9_hourGoes_0 1000 (by decide +kernel) rfl ⟨Nat.zero_lt_succ _, trivial⟩ (fun f hf => match f, hf with
  | 0, _ => fun vs hv => (zbox_t r_X9_hourGoes_0_0) vs hv
  | 1, _ => fun vs hv => (zbox_t r_X9_hourGoes_0_1) vs hv
  | 2, _ => fun vs hv => (zbox_t r_X9_hourGoes_0_2) vs hv
  | f + 3, h => absurd (show f + 3 < 3 from h) (Nat.not_lt.mpr (Nat.le_add_left 3 f)))
noncomputable def gs_X9_hourGoes_0 : zMt := zgq true zUN 4 [.inr (.ref 292)] q_X9_hourGoes_0 al_X9_hourGoes_0
set_option maxRecDepth 100000 in
theorem cs_X9_hourGoes_0 (d : Nat) (hG : zGood gh) : zC l G gh (d + 8) n_X9_hourGoes gs_X9_hourGoes_0 := zgq_ok zGood_ok (pcs := p_X9_hourGoes) (by decide) rfl rfl (fun a ha => by simp only [al_X9_hourGoes_0, List.mem_cons, List.not_mem_nil, or_false] at ha; rcases ha with rfl <;> decide +kernel) (fun gh hG => x_X9_hourGoes_0 d hG) (by decide +kernel) hG
noncomputable def gs_X9_hourGoes : zMt := gs_X9_hourGoes_0
theorem cs_X9_hourGoes (d : Nat) (hG : zGood gh) : zC l G gh (d + 8) n_X9_hourGoes gs_X9_hourGoes := (cs_X9_hourGoes_0 d hG)
def p_X9_sight : List Nat := [0, 7, 15, 22, 40, 41]
noncomputable def b_X9_sight_0 : zBl := fun jp K => oIld 1 <| oCs 1 f_X9_isX <| oIf zeq zne (jp 4) (jp 1)
theorem s_X9_sight_0 (d : Nat) (hG : zGood gh) : zPb l G gh (d + 8) n_X9_sight p_X9_sight 0 b_X9_sight_0 := fun K jp hj =>
    z_iload_n (n := 1) (i := 1) (zd (i := .iload_n 1) (n := 1) (by decide +kernel)) rfl <|
    z_callS (idx := 387) (N := n_X9_isX) (zd (i := .invokestatic 387) (n := 3) (by decide +kernel)) to_X9_isX g1507 g1508 rfl rfl (c_X9_isX (l := l) (G := G) (gh := gh) (d + 5)) <|
    z_if_eq (off := 36) (tgt := 40) (zd (i := .ifCond .eq (36)) (n := 3) (by decide +kernel)) (by decide +kernel) (zj (hj 4) (by decide +kernel)) (zj (hj 1) (by decide +kernel))
noncomputable def b_X9_sight_1 : zBl := fun jp K => oAld 0 <| oIld 2 <| oCv 9 1 f_X9_isThing <| oIf zeq zne (jp 4) (jp 2)
theorem s_X9_sight_1 (d : Nat) (hG : zGood gh) : zPb l G gh (d + 8) n_X9_sight p_X9_sight 7 b_X9_sight_1 := fun K jp hj =>
    z_aload_n (n := 0) (i := 0) (zd (i := .aload_n 0) (n := 1) (by decide +kernel)) rfl <|
    z_iload_n (n := 2) (i := 2) (zd (i := .iload_n 2) (n := 1) (by decide +kernel)) rfl <|
    z_callV (idx := 372) (ci := 9) (N := n_X9_isThing) (zd (i := .invokevirtual 372) (n := 3) (by decide +kernel)) to_X9_isThing g1438 g1440 g66 (by decide +kernel) rfl rfl rfl (c_X9_isThing (l := l) (G := G) (gh := gh) (d + 5)) <|
    z_if_eq (off := 28) (tgt := 40) (zd (i := .ifCond .eq (28)) (n := 3) (by decide +kernel)) (by decide +kernel) (zj (hj 4) (by decide +kernel)) (zj (hj 2) (by decide +kernel))
noncomputable def b_X9_sight_2 : zBl := fun jp K => oIld 3 <| oCs 1 f_X9_isLong <| oIf zeq zne (jp 4) (jp 3)
theorem s_X9_sight_2 (d : Nat) (hG : zGood gh) : zPb l G gh (d + 8) n_X9_sight p_X9_sight 15 b_X9_sight_2 := fun K jp hj =>
    z_iload_n (n := 3) (i := 3) (zd (i := .iload_n 3) (n := 1) (by decide +kernel)) rfl <|
    z_callS (idx := 393) (N := n_X9_isLong) (zd (i := .invokestatic 393) (n := 3) (by decide +kernel)) to_X9_isLong g1543 g1544 rfl rfl (c_X9_isLong (l := l) (G := G) (gh := gh) (d + 5)) <|
    z_if_eq (off := 21) (tgt := 40) (zd (i := .ifCond .eq (21)) (n := 3) (by decide +kernel)) (by decide +kernel) (zj (hj 4) (by decide +kernel)) (zj (hj 3) (by decide +kernel))
noncomputable def b_X9_sight_3 : zBl := fun jp K => oAld 0 <| oIld 1 <| oIld 2 <| oAld 0 <| oGetR 9 48 <| oInt 2147483744 <| oXald 10 <| oIld 3 <| oB2 zadd <| oCv 9 3 gs_X9_sightOf <| jp 5
theorem s_X9_sight_3 (d : Nat) (hG : zGood gh) : zPb l G gh (d + 8) n_X9_sight p_X9_sight 22 b_X9_sight_3 := fun K jp hj =>
    z_aload_n (n := 0) (i := 0) (zd (i := .aload_n 0) (n := 1) (by decide +kernel)) rfl <|
    z_iload_n (n := 1) (i := 1) (zd (i := .iload_n 1) (n := 1) (by decide +kernel)) rfl <|
    z_iload_n (n := 2) (i := 2) (zd (i := .iload_n 2) (n := 1) (by decide +kernel)) rfl <|
    z_aload_n (n := 0) (i := 0) (zd (i := .aload_n 0) (n := 1) (by decide +kernel)) rfl <|
    z_getR (ci := 9) (j := 48) (idx := 110) (zd (i := .getfield 110) (n := 3) (by decide +kernel)) (by decide +kernel) (by decide +kernel) rfl g1176 <|
    z_bipush (n := 96) (zd (i := .bipush (96)) (n := 2) (by decide +kernel)) (by decide +kernel) <|
    z_iald (zd (i := .iaload) (n := 1) (by decide +kernel)) <|
    z_iload_n (n := 3) (i := 3) (zd (i := .iload_n 3) (n := 1) (by decide +kernel)) rfl <|
    z_iadd (zd (i := .iadd) (n := 1) (by decide +kernel)) <|
    z_callV (idx := 399) (ci := 9) (N := n_X9_sightOf) (zd (i := .invokevirtual 399) (n := 3) (by decide +kernel)) to_X9_sightOf g1578 g1580 g87 (by decide +kernel) rfl rfl rfl (cs_X9_sightOf (l := l) (G := G) (gh := gh) (d) hG) <|
    z_goto (off := 4) (tgt := 41) (zd (i := .goto (4)) (n := 3) (by decide +kernel)) (by decide +kernel) (zj (hj 5) (by decide +kernel))
noncomputable def b_X9_sight_4 : zBl := fun jp K => oInt 2147483647 <| jp 5
theorem s_X9_sight_4 (d : Nat) (hG : zGood gh) : zPb l G gh (d + 8) n_X9_sight p_X9_sight 40 b_X9_sight_4 := fun K jp hj =>
    z_iconst (n := -1) (zd (i := .iconst (-1)) (n := 1) (by decide +kernel)) (by decide +kernel) <|
    (zj (hj 5) (by decide +kernel))
noncomputable def b_X9_sight_5 : zBl := fun jp K => oIret K
theorem s_X9_sight_5 (d : Nat) (hG : zGood gh) : zPb l G gh (d + 8) n_X9_sight p_X9_sight 41 b_X9_sight_5 := fun K jp hj =>
    z_iret (zd (i := .ireturn) (n := 1) (by decide +kernel)) rfl
noncomputable def t_X9_sight : List zBl := [b_X9_sight_0, b_X9_sight_1, b_X9_sight_2, b_X9_sight_3, b_X9_sight_4, b_X9_sight_5]
theorem tt_X9_sight (d : Nat) (hG : zGood gh) : zT (zPb l G gh (d + 8) n_X9_sight p_X9_sight) t_X9_sight p_X9_sight := ⟨s_X9_sight_0 d hG, s_X9_sight_1 d hG, s_X9_sight_2 d hG, s_X9_sight_3 d hG, s_X9_sight_4 d hG, s_X9_sight_5 d hG, trivial⟩
def q_X9_sight_0 : List (Nat × Nat) := [(292, zk102), (301, zk107), (302, zk111), (303, zk111), (321, zk3), (322, zk116), (323, zk104)]
noncomputable def al_X9_sight_0 : zAq := [(some (.inl 9223372034707292179), [(292, zk105), (301, zk107), (302, zk111), (303, zk111), (321, zk4), (322, zk117), (323, zk104)])]
noncomputable def fm_X9_sight_0 : List zFm := [(0, [], (fun vs => [.inr (.ref 292), .inl 8589934591, .inl 9223372043297226757, .inl 8589934591]), (fun vs => zP q_X9_sight_0), (fun vs => Nat.sub (Nat.add 0 0) 0))]
def bf_X9_sight_0 : List Nat := []
theorem r_X9_sight_0_0 : zbox [] (fun vs => zFrun (zpost (zAlq al_X9_sight_0)) 1000 t_X9_sight fm_X9_sight_0 bf_X9_sight_0 (0, vs)) = true := by decide +kernel
set_option maxRecDepth 100000 in
theorem x_X9_sight_0 (d : Nat) (hG : zGood gh) : zS l G gh (d + 8) (zpost (zAlq al_X9_sight_0)) n_X9_sight (zn 0 p_X9_sight 0) (zwc (0, [.inr (.ref 292), .inl 8589934591, .inl 9223372043297226757, .inl 8589934591], zP q_X9_sight_0) 0) := zentry (tt_X9_sight d hG) fm_X9_sight_0 bf_X9_sight_0 1000 (by decide +kernel) rfl ⟨Nat.zero_lt_succ _, trivial⟩ (fun f hf => match f, hf with
  | 0, _ => fun vs hv => (zbox_t r_X9_sight_0_0) vs hv
  | f + 1, h => absurd (show f + 1 < 1 from h) (Nat.not_lt.mpr (Nat.le_add_left 1 f)))
noncomputable def gs_X9_sight_0 : zMt := zgq true zUN 4 [.inr (.ref 292), .inl 8589934591, .inl 9223372043297226757, .inl 8589934591] q_X9_sight_0 al_X9_sight_0
set_option maxRecDepth 100000 in
theorem cs_X9_sight_0 (d : Nat) (hG : zGood gh) : zC l G gh (d + 8) n_X9_sight gs_X9_sight_0 := zgq_ok zGood_ok (pcs := p_X9_sight) (by decide) rfl rfl (fun a ha => by simp only [al_X9_sight_0, List.mem_cons, List.not_mem_nil, or_false] at ha; rcases ha with rfl <;> decide +kernel) (fun gh hG => x_X9_sight_0 d hG) (by decide +kernel) hG
def q_X9_sight_1 : List (Nat × Nat) := [(292, zk102), (301, zk107)]
noncomputable def al_X9_sight_1 : zAq := [(some (.inl 2147483647), [(292, zk102), (301, zk107)])]
noncomputable def fm_X9_sight_1 : List zFm := [(0, [], (fun vs => [.inr (.ref 292), .inl 8589934591, .inl 6442450943, .inl 8589934591]), (fun vs => zP q_X9_sight_1), (fun vs => Nat.sub (Nat.add 0 0) 0))]
def bf_X9_sight_1 : List Nat := []
theorem r_X9_sight_1_0 : zbox [] (fun vs => zFrun (zpost (zAlq al_X9_sight_1)) 1000 t_X9_sight fm_X9_sight_1 bf_X9_sight_1 (0, vs)) = true := by decide +kernel
set_option maxRecDepth 100000 in
theorem x_X9_sight_1 (d : Nat) (hG : zGood gh) : zS l G gh (d + 8) (zpost (zAlq al_X9_sight_1)) n_X9_sight (zn 0 p_X9_sight 0) (zwc (0, [.inr (.ref 292), .inl 8589934591, .inl 6442450943, .inl 8589934591], zP q_X9_sight_1) 0) := zentry (tt_X9_sight d hG) fm_X9_sight_1 bf_X9_sight_1 1000 (by decide +kernel) rfl ⟨Nat.zero_lt_succ _, trivial⟩ (fun f hf => match f, hf with
  | 0, _ => fun vs hv => (zbox_t r_X9_sight_1_0) vs hv
  | f + 1, h => absurd (show f + 1 < 1 from h) (Nat.not_lt.mpr (Nat.le_add_left 1 f)))
noncomputable def gs_X9_sight_1 : zMt := zgq true zUN 4 [.inr (.ref 292), .inl 8589934591, .inl 6442450943, .inl 8589934591] q_X9_sight_1 al_X9_sight_1
set_option maxRecDepth 100000 in
theorem cs_X9_sight_1 (d : Nat) (hG : zGood gh) : zC l G gh (d + 8) n_X9_sight gs_X9_sight_1 := zgq_ok zGood_ok (pcs := p_X9_sight) (by decide) rfl rfl (fun a ha => by simp only [al_X9_sight_1, List.mem_cons, List.not_mem_nil, or_false] at ha; rcases ha with rfl <;> decide +kernel) (fun gh hG => x_X9_sight_1 d hG) (by decide +kernel) hG
def q_X9_sight_2 : List (Nat × Nat) := [(292, zk102), (301, zk107)]
noncomputable def al_X9_sight_2 : zAq := [(some (.inl 2147483647), [(292, zk102), (301, zk107)])]
noncomputable def fm_X9_sight_2 : List zFm := [(0, [], (fun vs => [.inr (.ref 292), .inl 8589934591, .inl 9223372071214514175, .inl 8589934591]), (fun vs => zP q_X9_sight_2), (fun vs => Nat.sub (Nat.add 0 0) 0))]
def bf_X9_sight_2 : List Nat := []
theorem r_X9_sight_2_0 : zbox [] (fun vs => zFrun (zpost (zAlq al_X9_sight_2)) 1000 t_X9_sight fm_X9_sight_2 bf_X9_sight_2 (0, vs)) = true := by decide +kernel
set_option maxRecDepth 100000 in
theorem x_X9_sight_2 (d : Nat) (hG : zGood gh) : zS l G gh (d + 8) (zpost (zAlq al_X9_sight_2)) n_X9_sight (zn 0 p_X9_sight 0) (zwc (0, [.inr (.ref 292), .inl 8589934591, .inl 9223372071214514175, .inl 8589934591], zP q_X9_sight_2) 0) := zentry (tt_X9_sight d hG) fm_X9_sight_2 bf_X9_sight_2 1000 (by decide +kernel) rfl ⟨Nat.zero_lt_succ _, trivial⟩ (fun f hf => match f, hf with
  | 0, _ => fun vs hv => (zbox_t r_X9_sight_2_0) vs hv
  | f + 1, h => absurd (show f + 1 < 1 from h) (Nat.not_lt.mpr (Nat.le_add_left 1 f)))
noncomputable def gs_X9_sight_2 : zMt := zgq true zUN 4 [.inr (.ref 292), .inl 8589934591, .inl 9223372071214514175, .inl 8589934591] q_X9_sight_2 al_X9_sight_2
set_option maxRecDepth 100000 in
theorem cs_X9_sight_2 (d : Nat) (hG : zGood gh) : zC l G gh (d + 8) n_X9_sight gs_X9_sight_2 := zgq_ok zGood_ok (pcs := p_X9_sight) (by decide) rfl rfl (fun a ha => by simp only [al_X9_sight_2, List.mem_cons, List.not_mem_nil, or_false] at ha; rcases ha with rfl <;> decide +kernel) (fun gh hG => x_X9_sight_2 d hG) (by decide +kernel) hG
noncomputable def gs_X9_sight : zMt := (zor gs_X9_sight_0 (zor gs_X9_sight_1 gs_X9_sight_2))
theorem cs_X9_sight (d : Nat) (hG : zGood gh) : zC l G gh (d + 8) n_X9_sight gs_X9_sight := (zor_ok (cs_X9_sight_0 d hG) (zor_ok (cs_X9_sight_1 d hG) (cs_X9_sight_2 d hG)))
def p_X9_doClash : List Nat := [0, 2, 15, 32, 53, 55, 60, 74, 79, 85, 103, 127, 129, 135, 141]
noncomputable def b_X9_doClash_0 : zBl := fun jp K => oInt 2147483648 <| oIst 3 <| jp 1
theorem s_X9_doClash_0 (d : Nat) (hG : zGood gh) : zPb l G gh (d + 8) n_X9_doClash p_X9_doClash 0 b_X9_doClash_0 := fun K jp hj =>
    z_iconst (n := 0) (zd (i := .iconst (0)) (n := 1) (by decide +kernel)) (by decide +kernel) <|
    z_istore_n (n := 3) (i := 3) (zd (i := .istore_n 3) (n := 1) (by decide +kernel)) rfl (by decide +kernel) <|
    (zj (hj 1) (by decide +kernel))
noncomputable def b_X9_doClash_1 : zBl := fun jp K => oIld 3 <| oAld 0 <| oGetR 9 22 <| oAld 0 <| oGetI 9 18 <| oXald 10 <| oIc zge zlt (jp 14) (jp 2)
theorem s_X9_doClash_1 (d : Nat) (hG : zGood gh) : zPb l G gh (d + 8) n_X9_doClash p_X9_doClash 2 b_X9_doClash_1 := fun K jp hj =>
    z_iload_n (n := 3) (i := 3) (zd (i := .iload_n 3) (n := 1) (by decide +kernel)) rfl <|
    z_aload_n (n := 0) (i := 0) (zd (i := .aload_n 0) (n := 1) (by decide +kernel)) rfl <|
    z_getR (ci := 9) (j := 22) (idx := 43) (zd (i := .getfield 43) (n := 3) (by decide +kernel)) (by decide +kernel) (by decide +kernel) rfl g1150 <|
    z_aload_n (n := 0) (i := 0) (zd (i := .aload_n 0) (n := 1) (by decide +kernel)) rfl <|
    z_getI (ci := 9) (j := 18) (idx := 230) (zd (i := .getfield 230) (n := 3) (by decide +kernel)) (by decide +kernel) (by decide +kernel) rfl g1146 <|
    z_iald (zd (i := .iaload) (n := 1) (by decide +kernel)) <|
    z_icmp_ge (off := 129) (tgt := 141) (zd (i := .if_icmp .ge (129)) (n := 3) (by decide +kernel)) (by decide +kernel) (zj (hj 14) (by decide +kernel)) (zj (hj 2) (by decide +kernel))
noncomputable def b_X9_doClash_2 : zBl := fun jp K => oAld 0 <| oGetR 9 49 <| oInt 2147483672 <| oInt 2147483654 <| oIld 1 <| oB2 zimul <| oB2 zadd <| oIld 3 <| oB2 zadd <| oXald 10 <| oIf zle zgt (jp 4) (jp 3)
theorem s_X9_doClash_2 (d : Nat) (hG : zGood gh) : zPb l G gh (d + 8) n_X9_doClash p_X9_doClash 15 b_X9_doClash_2 := fun K jp hj =>
    z_aload_n (n := 0) (i := 0) (zd (i := .aload_n 0) (n := 1) (by decide +kernel)) rfl <|
    z_getR (ci := 9) (j := 49) (idx := 113) (zd (i := .getfield 113) (n := 3) (by decide +kernel)) (by decide +kernel) (by decide +kernel) rfl g1177 <|
    z_bipush (n := 24) (zd (i := .bipush (24)) (n := 2) (by decide +kernel)) (by decide +kernel) <|
    z_bipush (n := 6) (zd (i := .bipush (6)) (n := 2) (by decide +kernel)) (by decide +kernel) <|
    z_iload_n (n := 1) (i := 1) (zd (i := .iload_n 1) (n := 1) (by decide +kernel)) rfl <|
    z_imul (zd (i := .imul) (n := 1) (by decide +kernel)) <|
    z_iadd (zd (i := .iadd) (n := 1) (by decide +kernel)) <|
    z_iload_n (n := 3) (i := 3) (zd (i := .iload_n 3) (n := 1) (by decide +kernel)) rfl <|
    z_iadd (zd (i := .iadd) (n := 1) (by decide +kernel)) <|
    z_iald (zd (i := .iaload) (n := 1) (by decide +kernel)) <|
    z_if_le (off := 24) (tgt := 53) (zd (i := .ifCond .le (24)) (n := 3) (by decide +kernel)) (by decide +kernel) (zj (hj 4) (by decide +kernel)) (zj (hj 3) (by decide +kernel))
noncomputable def b_X9_doClash_3 : zBl := fun jp K => oAld 0 <| oAld 0 <| oGetR 9 49 <| oIld 1 <| oXald 10 <| oIld 3 <| oAld 0 <| oGetR 9 49 <| oInt 2147483744 <| oXald 10 <| oCv 9 3 gs_X9_sightOf <| jp 5
theorem s_X9_doClash_3 (d : Nat) (hG : zGood gh) : zPb l G gh (d + 8) n_X9_doClash p_X9_doClash 32 b_X9_doClash_3 := fun K jp hj =>
    z_aload_n (n := 0) (i := 0) (zd (i := .aload_n 0) (n := 1) (by decide +kernel)) rfl <|
    z_aload_n (n := 0) (i := 0) (zd (i := .aload_n 0) (n := 1) (by decide +kernel)) rfl <|
    z_getR (ci := 9) (j := 49) (idx := 113) (zd (i := .getfield 113) (n := 3) (by decide +kernel)) (by decide +kernel) (by decide +kernel) rfl g1177 <|
    z_iload_n (n := 1) (i := 1) (zd (i := .iload_n 1) (n := 1) (by decide +kernel)) rfl <|
    z_iald (zd (i := .iaload) (n := 1) (by decide +kernel)) <|
    z_iload_n (n := 3) (i := 3) (zd (i := .iload_n 3) (n := 1) (by decide +kernel)) rfl <|
    z_aload_n (n := 0) (i := 0) (zd (i := .aload_n 0) (n := 1) (by decide +kernel)) rfl <|
    z_getR (ci := 9) (j := 49) (idx := 113) (zd (i := .getfield 113) (n := 3) (by decide +kernel)) (by decide +kernel) (by decide +kernel) rfl g1177 <|
    z_bipush (n := 96) (zd (i := .bipush (96)) (n := 2) (by decide +kernel)) (by decide +kernel) <|
    z_iald (zd (i := .iaload) (n := 1) (by decide +kernel)) <|
    z_callV (idx := 399) (ci := 9) (N := n_X9_sightOf) (zd (i := .invokevirtual 399) (n := 3) (by decide +kernel)) to_X9_sightOf g1578 g1580 g87 (by decide +kernel) rfl rfl rfl (cs_X9_sightOf (l := l) (G := G) (gh := gh) (d) hG) <|
    z_goto (off := 5) (tgt := 55) (zd (i := .goto (5)) (n := 3) (by decide +kernel)) (by decide +kernel) (zj (hj 5) (by decide +kernel))
noncomputable def b_X9_doClash_4 : zBl := fun jp K => oInt 2147483646 <| jp 5
theorem s_X9_doClash_4 (d : Nat) (hG : zGood gh) : zPb l G gh (d + 8) n_X9_doClash p_X9_doClash 53 b_X9_doClash_4 := fun K jp hj =>
    z_bipush (n := -2) (zd (i := .bipush (-2)) (n := 2) (by decide +kernel)) (by decide +kernel) <|
    (zj (hj 5) (by decide +kernel))
noncomputable def b_X9_doClash_5 : zBl := fun jp K => oIst 4 <| oInt 2147483648 <| oIst 5 <| jp 6
theorem s_X9_doClash_5 (d : Nat) (hG : zGood gh) : zPb l G gh (d + 8) n_X9_doClash p_X9_doClash 55 b_X9_doClash_5 := fun K jp hj =>
    z_istore (i := 4) (zd (i := .istore 4) (n := 2) (by decide +kernel)) (by decide +kernel) <|
    z_iconst (n := 0) (zd (i := .iconst (0)) (n := 1) (by decide +kernel)) (by decide +kernel) <|
    z_istore (i := 5) (zd (i := .istore 5) (n := 2) (by decide +kernel)) (by decide +kernel) <|
    (zj (hj 6) (by decide +kernel))
noncomputable def b_X9_doClash_6 : zBl := fun jp K => oIld 5 <| oAld 0 <| oGetR 9 22 <| oAld 0 <| oGetI 9 18 <| oXald 10 <| oIc zge zlt (jp 13) (jp 7)
theorem s_X9_doClash_6 (d : Nat) (hG : zGood gh) : zPb l G gh (d + 8) n_X9_doClash p_X9_doClash 60 b_X9_doClash_6 := fun K jp hj =>
    z_iload (i := 5) (zd (i := .iload 5) (n := 2) (by decide +kernel)) <|
    z_aload_n (n := 0) (i := 0) (zd (i := .aload_n 0) (n := 1) (by decide +kernel)) rfl <|
    z_getR (ci := 9) (j := 22) (idx := 43) (zd (i := .getfield 43) (n := 3) (by decide +kernel)) (by decide +kernel) (by decide +kernel) rfl g1150 <|
    z_aload_n (n := 0) (i := 0) (zd (i := .aload_n 0) (n := 1) (by decide +kernel)) rfl <|
    z_getI (ci := 9) (j := 18) (idx := 230) (zd (i := .getfield 230) (n := 3) (by decide +kernel)) (by decide +kernel) (by decide +kernel) rfl g1146 <|
    z_iald (zd (i := .iaload) (n := 1) (by decide +kernel)) <|
    z_icmp_ge (off := 64) (tgt := 135) (zd (i := .if_icmp .ge (64)) (n := 3) (by decide +kernel)) (by decide +kernel) (zj (hj 13) (by decide +kernel)) (zj (hj 7) (by decide +kernel))
noncomputable def b_X9_doClash_7 : zBl := fun jp K => oNLC 4 2147483648 zltN zgeN zn1_lt zn1_ge (jp 13) (jp 8)
theorem s_X9_doClash_7 (d : Nat) (hG : zGood gh) : zPb l G gh (d + 8) n_X9_doClash p_X9_doClash 74 b_X9_doClash_7 := fun K jp hj =>
    z_nL0_lt (i := 4) (a1 := 2) (off := 59) (tgt := 135) (zLd_w (i := 4) (zd (i := .iload 4) (n := 2) (by decide +kernel))) (zd (i := .ifCond .lt (59)) (n := 3) (by decide +kernel)) (by decide +kernel) (zj (hj 13) (by decide +kernel)) (zj (hj 8) (by decide +kernel))
noncomputable def b_X9_doClash_8 : zBl := fun jp K => oNLL 5 3 zeqN zneN zn1_eq zn2_eq zn1_ne zn2_ne (jp 12) (jp 9)
theorem s_X9_doClash_8 (d : Nat) (hG : zGood gh) : zPb l G gh (d + 8) n_X9_doClash p_X9_doClash 79 b_X9_doClash_8 := fun K jp hj =>
    z_nLL_eq (i := 5) (j := 3) (a1 := 2) (a2 := 1) (off := 47) (tgt := 129) (zLd_w (i := 5) (zd (i := .iload 5) (n := 2) (by decide +kernel))) (zLd_n (n := 3) (i := 3) (zd (i := .iload_n 3) (n := 1) (by decide +kernel)) rfl) (zd (i := .if_icmp .eq (47)) (n := 3) (by decide +kernel)) (by decide +kernel) (zj (hj 12) (by decide +kernel)) (zj (hj 9) (by decide +kernel))
noncomputable def b_X9_doClash_9 : zBl := fun jp K => oAld 0 <| oGetR 9 49 <| oInt 2147483672 <| oInt 2147483654 <| oIld 2 <| oB2 zimul <| oB2 zadd <| oIld 5 <| oB2 zadd <| oXald 10 <| oIf zle zgt (jp 12) (jp 10)
theorem s_X9_doClash_9 (d : Nat) (hG : zGood gh) : zPb l G gh (d + 8) n_X9_doClash p_X9_doClash 85 b_X9_doClash_9 := fun K jp hj =>
    z_aload_n (n := 0) (i := 0) (zd (i := .aload_n 0) (n := 1) (by decide +kernel)) rfl <|
    z_getR (ci := 9) (j := 49) (idx := 113) (zd (i := .getfield 113) (n := 3) (by decide +kernel)) (by decide +kernel) (by decide +kernel) rfl g1177 <|
    z_bipush (n := 24) (zd (i := .bipush (24)) (n := 2) (by decide +kernel)) (by decide +kernel) <|
    z_bipush (n := 6) (zd (i := .bipush (6)) (n := 2) (by decide +kernel)) (by decide +kernel) <|
    z_iload_n (n := 2) (i := 2) (zd (i := .iload_n 2) (n := 1) (by decide +kernel)) rfl <|
    z_imul (zd (i := .imul) (n := 1) (by decide +kernel)) <|
    z_iadd (zd (i := .iadd) (n := 1) (by decide +kernel)) <|
    z_iload (i := 5) (zd (i := .iload 5) (n := 2) (by decide +kernel)) <|
    z_iadd (zd (i := .iadd) (n := 1) (by decide +kernel)) <|
    z_iald (zd (i := .iaload) (n := 1) (by decide +kernel)) <|
    z_if_le (off := 29) (tgt := 129) (zd (i := .ifCond .le (29)) (n := 3) (by decide +kernel)) (by decide +kernel) (zj (hj 12) (by decide +kernel)) (zj (hj 10) (by decide +kernel))
noncomputable def b_X9_doClash_10 : zBl := fun jp K => oAld 0 <| oAld 0 <| oGetR 9 49 <| oIld 2 <| oXald 10 <| oIld 5 <| oAld 0 <| oGetR 9 49 <| oInt 2147483744 <| oXald 10 <| oCv 9 3 gs_X9_sightOf <| oIld 4 <| oIc zne zeq (jp 12) (jp 11)
theorem s_X9_doClash_10 (d : Nat) (hG : zGood gh) : zPb l G gh (d + 8) n_X9_doClash p_X9_doClash 103 b_X9_doClash_10 := fun K jp hj =>
    z_aload_n (n := 0) (i := 0) (zd (i := .aload_n 0) (n := 1) (by decide +kernel)) rfl <|
    z_aload_n (n := 0) (i := 0) (zd (i := .aload_n 0) (n := 1) (by decide +kernel)) rfl <|
    z_getR (ci := 9) (j := 49) (idx := 113) (zd (i := .getfield 113) (n := 3) (by decide +kernel)) (by decide +kernel) (by decide +kernel) rfl g1177 <|
    z_iload_n (n := 2) (i := 2) (zd (i := .iload_n 2) (n := 1) (by decide +kernel)) rfl <|
    z_iald (zd (i := .iaload) (n := 1) (by decide +kernel)) <|
    z_iload (i := 5) (zd (i := .iload 5) (n := 2) (by decide +kernel)) <|
    z_aload_n (n := 0) (i := 0) (zd (i := .aload_n 0) (n := 1) (by decide +kernel)) rfl <|
    z_getR (ci := 9) (j := 49) (idx := 113) (zd (i := .getfield 113) (n := 3) (by decide +kernel)) (by decide +kernel) (by decide +kernel) rfl g1177 <|
    z_bipush (n := 96) (zd (i := .bipush (96)) (n := 2) (by decide +kernel)) (by decide +kernel) <|
    z_iald (zd (i := .iaload) (n := 1) (by decide +kernel)) <|
    z_callV (idx := 399) (ci := 9) (N := n_X9_sightOf) (zd (i := .invokevirtual 399) (n := 3) (by decide +kernel)) to_X9_sightOf g1578 g1580 g87 (by decide +kernel) rfl rfl rfl (cs_X9_sightOf (l := l) (G := G) (gh := gh) (d) hG) <|
    z_iload (i := 4) (zd (i := .iload 4) (n := 2) (by decide +kernel)) <|
    z_icmp_ne (off := 5) (tgt := 129) (zd (i := .if_icmp .ne (5)) (n := 3) (by decide +kernel)) (by decide +kernel) (zj (hj 12) (by decide +kernel)) (zj (hj 11) (by decide +kernel))
noncomputable def b_X9_doClash_11 : zBl := fun jp K => oInt 2147483649 <| oZret K
theorem s_X9_doClash_11 (d : Nat) (hG : zGood gh) : zPb l G gh (d + 8) n_X9_doClash p_X9_doClash 127 b_X9_doClash_11 := fun K jp hj =>
    z_iconst (n := 1) (zd (i := .iconst (1)) (n := 1) (by decide +kernel)) (by decide +kernel) <|
    z_zret (zd (i := .ireturn) (n := 1) (by decide +kernel)) rfl
noncomputable def b_X9_doClash_12 : zBl := fun jp K => oInc 5 2147483649 <| jp 6
theorem s_X9_doClash_12 (d : Nat) (hG : zGood gh) : zPb l G gh (d + 8) n_X9_doClash p_X9_doClash 129 b_X9_doClash_12 := fun K jp hj =>
    z_iinc (i := 5) (n := 1) (zd (i := .iinc 5 (1)) (n := 3) (by decide +kernel)) (by decide +kernel) (by decide +kernel) <|
    z_goto (off := -72) (tgt := 60) (zd (i := .goto (-72)) (n := 3) (by decide +kernel)) (by decide +kernel) (zj (hj 6) (by decide +kernel))
noncomputable def b_X9_doClash_13 : zBl := fun jp K => oInc 3 2147483649 <| jp 1
theorem s_X9_doClash_13 (d : Nat) (hG : zGood gh) : zPb l G gh (d + 8) n_X9_doClash p_X9_doClash 135 b_X9_doClash_13 := fun K jp hj =>
    z_iinc (i := 3) (n := 1) (zd (i := .iinc 3 (1)) (n := 3) (by decide +kernel)) (by decide +kernel) (by decide +kernel) <|
    z_goto (off := -136) (tgt := 2) (zd (i := .goto (-136)) (n := 3) (by decide +kernel)) (by decide +kernel) (zj (hj 1) (by decide +kernel))
noncomputable def b_X9_doClash_14 : zBl := fun jp K => oInt 2147483648 <| oZret K
theorem s_X9_doClash_14 (d : Nat) (hG : zGood gh) : zPb l G gh (d + 8) n_X9_doClash p_X9_doClash 141 b_X9_doClash_14 := fun K jp hj =>
    z_iconst (n := 0) (zd (i := .iconst (0)) (n := 1) (by decide +kernel)) (by decide +kernel) <|
    z_zret (zd (i := .ireturn) (n := 1) (by decide +kernel)) rfl
noncomputable def t_X9_doClash : List zBl := [b_X9_doClash_0, b_X9_doClash_1, b_X9_doClash_2, b_X9_doClash_3, b_X9_doClash_4, b_X9_doClash_5, b_X9_doClash_6, b_X9_doClash_7, b_X9_doClash_8, b_X9_doClash_9, b_X9_doClash_10, b_X9_doClash_11, b_X9_doClash_12, b_X9_doClash_13, b_X9_doClash_14]
theorem tt_X9_doClash (d : Nat) (hG : zGood gh) : zT (zPb l G gh (d + 8) n_X9_doClash p_X9_doClash) t_X9_doClash p_X9_doClash := ⟨s_X9_doClash_0 d hG, s_X9_doClash_1 d hG, s_X9_doClash_2 d hG, s_X9_doClash_3 d hG, s_X9_doClash_4 d hG, s_X9_doClash_5 d hG, s_X9_doClash_6 d hG, s_X9_doClash_7 d hG, s_X9_doClash_8 d hG, s_X9_doClash_9 d hG, s_X9_doClash_10 d hG, s_X9_doClash_11 d hG, s_X9_doClash_12 d hG, s_X9_doClash_13 d hG, s_X9_doClash_14 d hG, trivial⟩
def q_X9_doClash_0 : List (Nat × Nat) := [(292, zk102), (301, zk107), (302, zk111), (303, zk111), (321, zk3), (322, zk116), (324, zk104)]
noncomputable def al_X9_doClash_0 : zAq := [(some (.inl 9223372043297226753), [(292, zk105), (301, zk107), (302, zk111), (303, zk111), (321, zk4), (322, zk117), (324, zk104)])]
def mq_X9_doClash_0_1 : List (Nat × Nat) := [(292, zk105), (301, zk107), (302, zk111), (303, zk111), (321, zk4), (322, zk117), (324, zk104)]
def mq_X9_doClash_0_2 : List (Nat × Nat) := [(292, zk105), (301, zk107), (302, zk111), (303, zk111), (321, zk4), (322, zk117), (324, zk104)]
noncomputable def fm_X9_doClash_0 : List zFm := [(0, [], (fun vs => [.inr (.ref 292), .inl 9223372043297226757, .inl 9223372043297226757]), (fun vs => zP q_X9_doClash_0), (fun vs => Nat.sub (Nat.add 98 0) 0)),
  (1, [(3, 2147483648, 2147483654)], (fun vs => [.inr (.ref 292), .inl 9223372043297226757, .inl 9223372043297226757, .inl (zn 0 vs 0)]), (fun vs => zP mq_X9_doClash_0_1), (fun vs => Nat.sub (Nat.add 30064771163 0) (Nat.add 0 (Nat.mul 14 (zn 0 vs 0))))),
  (6, [(3, 2147483648, 2147483653), (5, 2147483648, 2147483654)], (fun vs => [.inr (.ref 292), .inl 9223372043297226757, .inl 9223372043297226757, .inl (zn 0 vs 0), .inl 9223372034707292179, .inl (zn 0 vs 1)]), (fun vs => zP mq_X9_doClash_0_2), (fun vs => Nat.sub (Nat.add 32212254810 0) (Nat.add (Nat.add 0 (Nat.mul 14 (zn 0 vs 0))) (Nat.mul 1 (zn 0 vs 1)))))]
def bf_X9_doClash_0 : List Nat := [0, 2, 0, 0, 0, 0, 3]
theorem r_X9_doClash_0_0 : zbox [] (fun vs => zFrun (zpost (zAlq al_X9_doClash_0)) 1000 t_X9_doClash fm_X9_doClash_0 bf_X9_doClash_0 (0, vs)) = true := by decide +kernel
theorem r_X9_doClash_0_1 : zbox [(3, 2147483648, 2147483654)] (fun vs => zFrun (zpost (zAlq al_X9_doClash_0)) 1000 t_X9_doClash fm_X9_doClash_0 bf_X9_doClash_0 (1, vs)) = true := by decide +kernel
theorem r_X9_doClash_0_2 : zbox [(3, 2147483648, 2147483653), (5, 2147483648, 2147483654)] (fun vs => zFrun (zpost (zAlq al_X9_doClash_0)) 1000 t_X9_doClash fm_X9_doClash_0 bf_X9_doClash_0 (2, vs)) = true := by decide +kernel
set_option maxRecDepth 100000 in
theorem x_X9_doClash_0 (d : Nat) (hG : zGood gh) : zS l G gh (d + 8) (zpost (zAlq al_X9_doClash_0)) n_X9_doClash (zn 0 p_X9_doClash 0) (zwc (0, [.inr (.ref 292), .inl 9223372043297226757, .inl 9223372043297226757], zP q_X9_doClash_0) 0) := zentry (tt_X9_doClash d hG) fm_X9_doClash_0 bf_X9_doClash_0 1000 (by decide +kernel) rfl ⟨Nat.zero_lt_succ _, trivial⟩ (fun f hf => match f, hf with
  | 0, _ => fun vs hv => (zbox_t r_X9_doClash_0_0) vs hv
  | 1, _ => fun vs hv => (zbox_t r_X9_doClash_0_1) vs hv
  | 2, _ => fun vs hv => (zbox_t r_X9_doClash_0_2) vs hv
  | f + 3, h => absurd (show f + 3 < 3 from h) (Nat.not_lt.mpr (Nat.le_add_left 3 f)))
noncomputable def gs_X9_doClash_0 : zMt := zgq true zUN 6 [.inr (.ref 292), .inl 9223372043297226757, .inl 9223372043297226757] q_X9_doClash_0 al_X9_doClash_0
set_option maxRecDepth 100000 in
theorem cs_X9_doClash_0 (d : Nat) (hG : zGood gh) : zC l G gh (d + 8) n_X9_doClash gs_X9_doClash_0 := zgq_ok zGood_ok (pcs := p_X9_doClash) (by decide) rfl rfl (fun a ha => by simp only [al_X9_doClash_0, List.mem_cons, List.not_mem_nil, or_false] at ha; rcases ha with rfl <;> decide +kernel) (fun gh hG => x_X9_doClash_0 d hG) (by decide +kernel) hG
noncomputable def gs_X9_doClash : zMt := gs_X9_doClash_0
theorem cs_X9_doClash (d : Nat) (hG : zGood gh) : zC l G gh (d + 8) n_X9_doClash gs_X9_doClash := (cs_X9_doClash_0 d hG)
def p_X9_longFrom : List Nat := [0, 7, 15, 22, 32, 33]
noncomputable def b_X9_longFrom_0 : zBl := fun jp K => oIld 1 <| oCs 1 f_X9_isX <| oIf zeq zne (jp 4) (jp 1)
theorem s_X9_longFrom_0 (d : Nat) (hG : zGood gh) : zPb l G gh (d + 8) n_X9_longFrom p_X9_longFrom 0 b_X9_longFrom_0 := fun K jp hj =>
    z_iload_n (n := 1) (i := 1) (zd (i := .iload_n 1) (n := 1) (by decide +kernel)) rfl <|
    z_callS (idx := 387) (N := n_X9_isX) (zd (i := .invokestatic 387) (n := 3) (by decide +kernel)) to_X9_isX g1507 g1508 rfl rfl (c_X9_isX (l := l) (G := G) (gh := gh) (d + 5)) <|
    z_if_eq (off := 28) (tgt := 32) (zd (i := .ifCond .eq (28)) (n := 3) (by decide +kernel)) (by decide +kernel) (zj (hj 4) (by decide +kernel)) (zj (hj 1) (by decide +kernel))
noncomputable def b_X9_longFrom_1 : zBl := fun jp K => oAld 0 <| oIld 2 <| oCv 9 1 f_X9_isThing <| oIf zeq zne (jp 4) (jp 2)
theorem s_X9_longFrom_1 (d : Nat) (hG : zGood gh) : zPb l G gh (d + 8) n_X9_longFrom p_X9_longFrom 7 b_X9_longFrom_1 := fun K jp hj =>
    z_aload_n (n := 0) (i := 0) (zd (i := .aload_n 0) (n := 1) (by decide +kernel)) rfl <|
    z_iload_n (n := 2) (i := 2) (zd (i := .iload_n 2) (n := 1) (by decide +kernel)) rfl <|
    z_callV (idx := 372) (ci := 9) (N := n_X9_isThing) (zd (i := .invokevirtual 372) (n := 3) (by decide +kernel)) to_X9_isThing g1438 g1440 g66 (by decide +kernel) rfl rfl rfl (c_X9_isThing (l := l) (G := G) (gh := gh) (d + 5)) <|
    z_if_eq (off := 20) (tgt := 32) (zd (i := .ifCond .eq (20)) (n := 3) (by decide +kernel)) (by decide +kernel) (zj (hj 4) (by decide +kernel)) (zj (hj 2) (by decide +kernel))
noncomputable def b_X9_longFrom_2 : zBl := fun jp K => oIld 3 <| oCs 1 f_X9_isSome <| oIf zeq zne (jp 4) (jp 3)
theorem s_X9_longFrom_2 (d : Nat) (hG : zGood gh) : zPb l G gh (d + 8) n_X9_longFrom p_X9_longFrom 15 b_X9_longFrom_2 := fun K jp hj =>
    z_iload_n (n := 3) (i := 3) (zd (i := .iload_n 3) (n := 1) (by decide +kernel)) rfl <|
    z_callS (idx := 406) (N := n_X9_isSome) (zd (i := .invokestatic 406) (n := 3) (by decide +kernel)) to_X9_isSome g1598 g1599 rfl rfl (c_X9_isSome (l := l) (G := G) (gh := gh) (d + 5)) <|
    z_if_eq (off := 13) (tgt := 32) (zd (i := .ifCond .eq (13)) (n := 3) (by decide +kernel)) (by decide +kernel) (zj (hj 4) (by decide +kernel)) (zj (hj 3) (by decide +kernel))
noncomputable def b_X9_longFrom_3 : zBl := fun jp K => oAld 0 <| oIld 1 <| oIld 2 <| oIld 3 <| oCv 9 3 gs_X9_hoursFrom <| jp 5
theorem s_X9_longFrom_3 (d : Nat) (hG : zGood gh) : zPb l G gh (d + 8) n_X9_longFrom p_X9_longFrom 22 b_X9_longFrom_3 := fun K jp hj =>
    z_aload_n (n := 0) (i := 0) (zd (i := .aload_n 0) (n := 1) (by decide +kernel)) rfl <|
    z_iload_n (n := 1) (i := 1) (zd (i := .iload_n 1) (n := 1) (by decide +kernel)) rfl <|
    z_iload_n (n := 2) (i := 2) (zd (i := .iload_n 2) (n := 1) (by decide +kernel)) rfl <|
    z_iload_n (n := 3) (i := 3) (zd (i := .iload_n 3) (n := 1) (by decide +kernel)) rfl <|
    z_callV (idx := 409) (ci := 9) (N := n_X9_hoursFrom) (zd (i := .invokevirtual 409) (n := 3) (by decide +kernel)) to_X9_hoursFrom g1601 g1603 g90 (by decide +kernel) rfl rfl rfl (cs_X9_hoursFrom (l := l) (G := G) (gh := gh) (d) hG) <|
    z_goto (off := 4) (tgt := 33) (zd (i := .goto (4)) (n := 3) (by decide +kernel)) (by decide +kernel) (zj (hj 5) (by decide +kernel))
noncomputable def b_X9_longFrom_4 : zBl := fun jp K => oInt 2147483647 <| jp 5
theorem s_X9_longFrom_4 (d : Nat) (hG : zGood gh) : zPb l G gh (d + 8) n_X9_longFrom p_X9_longFrom 32 b_X9_longFrom_4 := fun K jp hj =>
    z_iconst (n := -1) (zd (i := .iconst (-1)) (n := 1) (by decide +kernel)) (by decide +kernel) <|
    (zj (hj 5) (by decide +kernel))
noncomputable def b_X9_longFrom_5 : zBl := fun jp K => oIret K
theorem s_X9_longFrom_5 (d : Nat) (hG : zGood gh) : zPb l G gh (d + 8) n_X9_longFrom p_X9_longFrom 33 b_X9_longFrom_5 := fun K jp hj =>
    z_iret (zd (i := .ireturn) (n := 1) (by decide +kernel)) rfl
noncomputable def t_X9_longFrom : List zBl := [b_X9_longFrom_0, b_X9_longFrom_1, b_X9_longFrom_2, b_X9_longFrom_3, b_X9_longFrom_4, b_X9_longFrom_5]
theorem tt_X9_longFrom (d : Nat) (hG : zGood gh) : zT (zPb l G gh (d + 8) n_X9_longFrom p_X9_longFrom) t_X9_longFrom p_X9_longFrom := ⟨s_X9_longFrom_0 d hG, s_X9_longFrom_1 d hG, s_X9_longFrom_2 d hG, s_X9_longFrom_3 d hG, s_X9_longFrom_4 d hG, s_X9_longFrom_5 d hG, trivial⟩
def q_X9_longFrom_0 : List (Nat × Nat) := [(292, zk102), (301, zk107), (302, zk111), (303, zk111), (321, zk3), (322, zk116), (323, zk104)]
noncomputable def al_X9_longFrom_0 : zAq := [(some (.inl 8589934591), [(292, zk105), (301, zk107), (302, zk111), (303, zk111), (321, zk4), (322, zk117), (323, zk104)])]
noncomputable def fm_X9_longFrom_0 : List zFm := [(0, [], (fun vs => [.inr (.ref 292), .inl 8589934591, .inl 9223372043297226757, .inl 9223372047592194096]), (fun vs => zP q_X9_longFrom_0), (fun vs => Nat.sub (Nat.add 0 0) 0))]
def bf_X9_longFrom_0 : List Nat := []
theorem r_X9_longFrom_0_0 : zbox [] (fun vs => zFrun (zpost (zAlq al_X9_longFrom_0)) 1000 t_X9_longFrom fm_X9_longFrom_0 bf_X9_longFrom_0 (0, vs)) = true := by decide +kernel
set_option maxRecDepth 100000 in
theorem x_X9_longFrom_0 (d : Nat) (hG : zGood gh) : zS l G gh (d + 8) (zpost (zAlq al_X9_longFrom_0)) n_X9_longFrom (zn 0 p_X9_longFrom 0) (zwc (0, [.inr (.ref 292), .inl 8589934591, .inl 9223372043297226757, .inl 9223372047592194096], zP q_X9_longFrom_0) 0) := zentry (tt_X9_longFrom d hG) fm_X9_longFrom_0 bf_X9_longFrom_0 1000 (by decide +kernel) rfl ⟨Nat.zero_lt_succ _, trivial⟩ (fun f hf => match f, hf with
  | 0, _ => fun vs hv => (zbox_t r_X9_longFrom_0_0) vs hv
  | f + 1, h => absurd (show f + 1 < 1 from h) (Nat.not_lt.mpr (Nat.le_add_left 1 f)))
noncomputable def gs_X9_longFrom_0 : zMt := zgq true zUN 4 [.inr (.ref 292), .inl 8589934591, .inl 9223372043297226757, .inl 9223372047592194096] q_X9_longFrom_0 al_X9_longFrom_0
set_option maxRecDepth 100000 in
theorem cs_X9_longFrom_0 (d : Nat) (hG : zGood gh) : zC l G gh (d + 8) n_X9_longFrom gs_X9_longFrom_0 := zgq_ok zGood_ok (pcs := p_X9_longFrom) (by decide) rfl rfl (fun a ha => by simp only [al_X9_longFrom_0, List.mem_cons, List.not_mem_nil, or_false] at ha; rcases ha with rfl <;> decide +kernel) (fun gh hG => x_X9_longFrom_0 d hG) (by decide +kernel) hG
def q_X9_longFrom_1 : List (Nat × Nat) := [(292, zk102), (301, zk107)]
noncomputable def al_X9_longFrom_1 : zAq := [(some (.inl 2147483647), [(292, zk102), (301, zk107)])]
noncomputable def fm_X9_longFrom_1 : List zFm := [(0, [], (fun vs => [.inr (.ref 292), .inl 8589934591, .inl 9223372043297226757, .inl 6442450944]), (fun vs => zP q_X9_longFrom_1), (fun vs => Nat.sub (Nat.add 0 0) 0))]
def bf_X9_longFrom_1 : List Nat := []
theorem r_X9_longFrom_1_0 : zbox [] (fun vs => zFrun (zpost (zAlq al_X9_longFrom_1)) 1000 t_X9_longFrom fm_X9_longFrom_1 bf_X9_longFrom_1 (0, vs)) = true := by decide +kernel
set_option maxRecDepth 100000 in
theorem x_X9_longFrom_1 (d : Nat) (hG : zGood gh) : zS l G gh (d + 8) (zpost (zAlq al_X9_longFrom_1)) n_X9_longFrom (zn 0 p_X9_longFrom 0) (zwc (0, [.inr (.ref 292), .inl 8589934591, .inl 9223372043297226757, .inl 6442450944], zP q_X9_longFrom_1) 0) := zentry (tt_X9_longFrom d hG) fm_X9_longFrom_1 bf_X9_longFrom_1 1000 (by decide +kernel) rfl ⟨Nat.zero_lt_succ _, trivial⟩ (fun f hf => match f, hf with
  | 0, _ => fun vs hv => (zbox_t r_X9_longFrom_1_0) vs hv
  | f + 1, h => absurd (show f + 1 < 1 from h) (Nat.not_lt.mpr (Nat.le_add_left 1 f)))
noncomputable def gs_X9_longFrom_1 : zMt := zgq true zUN 4 [.inr (.ref 292), .inl 8589934591, .inl 9223372043297226757, .inl 6442450944] q_X9_longFrom_1 al_X9_longFrom_1
set_option maxRecDepth 100000 in
theorem cs_X9_longFrom_1 (d : Nat) (hG : zGood gh) : zC l G gh (d + 8) n_X9_longFrom gs_X9_longFrom_1 := zgq_ok zGood_ok (pcs := p_X9_longFrom) (by decide) rfl rfl (fun a ha => by simp only [al_X9_longFrom_1, List.mem_cons, List.not_mem_nil, or_false] at ha; rcases ha with rfl <;> decide +kernel) (fun gh hG => x_X9_longFrom_1 d hG) (by decide +kernel) hG
def q_X9_longFrom_2 : List (Nat × Nat) := [(292, zk102), (301, zk107)]
noncomputable def al_X9_longFrom_2 : zAq := [(some (.inl 2147483647), [(292, zk102), (301, zk107)])]
noncomputable def fm_X9_longFrom_2 : List zFm := [(0, [], (fun vs => [.inr (.ref 292), .inl 8589934591, .inl 9223372043297226757, .inl 9223372255898107903]), (fun vs => zP q_X9_longFrom_2), (fun vs => Nat.sub (Nat.add 0 0) 0))]
def bf_X9_longFrom_2 : List Nat := []
theorem r_X9_longFrom_2_0 : zbox [] (fun vs => zFrun (zpost (zAlq al_X9_longFrom_2)) 1000 t_X9_longFrom fm_X9_longFrom_2 bf_X9_longFrom_2 (0, vs)) = true := by decide +kernel
set_option maxRecDepth 100000 in
theorem x_X9_longFrom_2 (d : Nat) (hG : zGood gh) : zS l G gh (d + 8) (zpost (zAlq al_X9_longFrom_2)) n_X9_longFrom (zn 0 p_X9_longFrom 0) (zwc (0, [.inr (.ref 292), .inl 8589934591, .inl 9223372043297226757, .inl 9223372255898107903], zP q_X9_longFrom_2) 0) := zentry (tt_X9_longFrom d hG) fm_X9_longFrom_2 bf_X9_longFrom_2 1000 (by decide +kernel) rfl ⟨Nat.zero_lt_succ _, trivial⟩ (fun f hf => match f, hf with
  | 0, _ => fun vs hv => (zbox_t r_X9_longFrom_2_0) vs hv
  | f + 1, h => absurd (show f + 1 < 1 from h) (Nat.not_lt.mpr (Nat.le_add_left 1 f)))
noncomputable def gs_X9_longFrom_2 : zMt := zgq true zUN 4 [.inr (.ref 292), .inl 8589934591, .inl 9223372043297226757, .inl 9223372255898107903] q_X9_longFrom_2 al_X9_longFrom_2
set_option maxRecDepth 100000 in
theorem cs_X9_longFrom_2 (d : Nat) (hG : zGood gh) : zC l G gh (d + 8) n_X9_longFrom gs_X9_longFrom_2 := zgq_ok zGood_ok (pcs := p_X9_longFrom) (by decide) rfl rfl (fun a ha => by simp only [al_X9_longFrom_2, List.mem_cons, List.not_mem_nil, or_false] at ha; rcases ha with rfl <;> decide +kernel) (fun gh hG => x_X9_longFrom_2 d hG) (by decide +kernel) hG
def q_X9_longFrom_3 : List (Nat × Nat) := [(292, zk102), (301, zk107)]
noncomputable def al_X9_longFrom_3 : zAq := [(some (.inl 2147483647), [(292, zk102), (301, zk107)])]
noncomputable def fm_X9_longFrom_3 : List zFm := [(0, [], (fun vs => [.inr (.ref 292), .inl 8589934591, .inl 6442450943, .inl 8589934591]), (fun vs => zP q_X9_longFrom_3), (fun vs => Nat.sub (Nat.add 0 0) 0))]
def bf_X9_longFrom_3 : List Nat := []
theorem r_X9_longFrom_3_0 : zbox [] (fun vs => zFrun (zpost (zAlq al_X9_longFrom_3)) 1000 t_X9_longFrom fm_X9_longFrom_3 bf_X9_longFrom_3 (0, vs)) = true := by decide +kernel
set_option maxRecDepth 100000 in
theorem x_X9_longFrom_3 (d : Nat) (hG : zGood gh) : zS l G gh (d + 8) (zpost (zAlq al_X9_longFrom_3)) n_X9_longFrom (zn 0 p_X9_longFrom 0) (zwc (0, [.inr (.ref 292), .inl 8589934591, .inl 6442450943, .inl 8589934591], zP q_X9_longFrom_3) 0) := zentry (tt_X9_longFrom d hG) fm_X9_longFrom_3 bf_X9_longFrom_3 1000 (by decide +kernel) rfl ⟨Nat.zero_lt_succ _, trivial⟩ (fun f hf => match f, hf with
  | 0, _ => fun vs hv => (zbox_t r_X9_longFrom_3_0) vs hv
  | f + 1, h => absurd (show f + 1 < 1 from h) (Nat.not_lt.mpr (Nat.le_add_left 1 f)))
noncomputable def gs_X9_longFrom_3 : zMt := zgq true zUN 4 [.inr (.ref 292), .inl 8589934591, .inl 6442450943, .inl 8589934591] q_X9_longFrom_3 al_X9_longFrom_3
set_option maxRecDepth 100000 in
theorem cs_X9_longFrom_3 (d : Nat) (hG : zGood gh) : zC l G gh (d + 8) n_X9_longFrom gs_X9_longFrom_3 := zgq_ok zGood_ok (pcs := p_X9_longFrom) (by decide) rfl rfl (fun a ha => by simp only [al_X9_longFrom_3, List.mem_cons, List.not_mem_nil, or_false] at ha; rcases ha with rfl <;> decide +kernel) (fun gh hG => x_X9_longFrom_3 d hG) (by decide +kernel) hG
def q_X9_longFrom_4 : List (Nat × Nat) := [(292, zk102), (301, zk107)]
noncomputable def al_X9_longFrom_4 : zAq := [(some (.inl 2147483647), [(292, zk102), (301, zk107)])]
noncomputable def fm_X9_longFrom_4 : List zFm := [(0, [], (fun vs => [.inr (.ref 292), .inl 8589934591, .inl 9223372071214514175, .inl 8589934591]), (fun vs => zP q_X9_longFrom_4), (fun vs => Nat.sub (Nat.add 0 0) 0))]
def bf_X9_longFrom_4 : List Nat := []
theorem r_X9_longFrom_4_0 : zbox [] (fun vs => zFrun (zpost (zAlq al_X9_longFrom_4)) 1000 t_X9_longFrom fm_X9_longFrom_4 bf_X9_longFrom_4 (0, vs)) = true := by decide +kernel
set_option maxRecDepth 100000 in
theorem x_X9_longFrom_4 (d : Nat) (hG : zGood gh) : zS l G gh (d + 8) (zpost (zAlq al_X9_longFrom_4)) n_X9_longFrom (zn 0 p_X9_longFrom 0) (zwc (0, [.inr (.ref 292), .inl 8589934591, .inl 9223372071214514175, .inl 8589934591], zP q_X9_longFrom_4) 0) := zentry (tt_X9_longFrom d hG) fm_X9_longFrom_4 bf_X9_longFrom_4 1000 (by decide +kernel) rfl ⟨Nat.zero_lt_succ _, trivial⟩ (fun f hf => match f, hf with
  | 0, _ => fun vs hv => (zbox_t r_X9_longFrom_4_0) vs hv
  | f + 1, h => absurd (show f + 1 < 1 from h) (Nat.not_lt.mpr (Nat.le_add_left 1 f)))
noncomputable def gs_X9_longFrom_4 : zMt := zgq true zUN 4 [.inr (.ref 292), .inl 8589934591, .inl 9223372071214514175, .inl 8589934591] q_X9_longFrom_4 al_X9_longFrom_4
set_option maxRecDepth 100000 in
theorem cs_X9_longFrom_4 (d : Nat) (hG : zGood gh) : zC l G gh (d + 8) n_X9_longFrom gs_X9_longFrom_4 := zgq_ok zGood_ok (pcs := p_X9_longFrom) (by decide) rfl rfl (fun a ha => by simp only [al_X9_longFrom_4, List.mem_cons, List.not_mem_nil, or_false] at ha; rcases ha with rfl <;> decide +kernel) (fun gh hG => x_X9_longFrom_4 d hG) (by decide +kernel) hG
noncomputable def gs_X9_longFrom : zMt := (zor gs_X9_longFrom_0 (zor gs_X9_longFrom_1 (zor gs_X9_longFrom_2 (zor gs_X9_longFrom_3 gs_X9_longFrom_4))))
theorem cs_X9_longFrom (d : Nat) (hG : zGood gh) : zC l G gh (d + 8) n_X9_longFrom gs_X9_longFrom := (zor_ok (cs_X9_longFrom_0 d hG) (zor_ok (cs_X9_longFrom_1 d hG) (zor_ok (cs_X9_longFrom_2 d hG) (zor_ok (cs_X9_longFrom_3 d hG) (cs_X9_longFrom_4 d hG)))))
def p_X9_best : List Nat := [0, 8, 15, 24, 26, 35, 42, 59, 62, 70, 76, 80, 85, 87]
noncomputable def b_X9_best_0 : zBl := fun jp K => oAld 0 <| oIld 1 <| oCv 9 1 f_X9_isThing <| oIf zeq zne (jp 3) (jp 1)
theorem s_X9_best_0 (d : Nat) (hG : zGood gh) : zPb l G gh (d + 8) n_X9_best p_X9_best 0 b_X9_best_0 := fun K jp hj =>
    z_aload_n (n := 0) (i := 0) (zd (i := .aload_n 0) (n := 1) (by decide +kernel)) rfl <|
    z_iload_n (n := 1) (i := 1) (zd (i := .iload_n 1) (n := 1) (by decide +kernel)) rfl <|
    z_callV (idx := 372) (ci := 9) (N := n_X9_isThing) (zd (i := .invokevirtual 372) (n := 3) (by decide +kernel)) to_X9_isThing g1438 g1440 g66 (by decide +kernel) rfl rfl rfl (c_X9_isThing (l := l) (G := G) (gh := gh) (d + 5)) <|
    z_if_eq (off := 19) (tgt := 24) (zd (i := .ifCond .eq (19)) (n := 3) (by decide +kernel)) (by decide +kernel) (zj (hj 3) (by decide +kernel)) (zj (hj 1) (by decide +kernel))
noncomputable def b_X9_best_1 : zBl := fun jp K => oIld 2 <| oCs 1 f_X9_isSome <| oIf zeq zne (jp 3) (jp 2)
theorem s_X9_best_1 (d : Nat) (hG : zGood gh) : zPb l G gh (d + 8) n_X9_best p_X9_best 8 b_X9_best_1 := fun K jp hj =>
    z_iload_n (n := 2) (i := 2) (zd (i := .iload_n 2) (n := 1) (by decide +kernel)) rfl <|
    z_callS (idx := 406) (N := n_X9_isSome) (zd (i := .invokestatic 406) (n := 3) (by decide +kernel)) to_X9_isSome g1598 g1599 rfl rfl (c_X9_isSome (l := l) (G := G) (gh := gh) (d + 5)) <|
    z_if_eq (off := 12) (tgt := 24) (zd (i := .ifCond .eq (12)) (n := 3) (by decide +kernel)) (by decide +kernel) (zj (hj 3) (by decide +kernel)) (zj (hj 2) (by decide +kernel))
noncomputable def b_X9_best_2 : zBl := fun jp K => oIld 3 <| oInt 2147483648 <| oInt 2147483649 <| oCs 3 f_X9_in <| oIf zne zeq (jp 4) (jp 3)
theorem s_X9_best_2 (d : Nat) (hG : zGood gh) : zPb l G gh (d + 8) n_X9_best p_X9_best 15 b_X9_best_2 := fun K jp hj =>
    z_iload_n (n := 3) (i := 3) (zd (i := .iload_n 3) (n := 1) (by decide +kernel)) rfl <|
    z_iconst (n := 0) (zd (i := .iconst (0)) (n := 1) (by decide +kernel)) (by decide +kernel) <|
    z_iconst (n := 1) (zd (i := .iconst (1)) (n := 1) (by decide +kernel)) (by decide +kernel) <|
    z_callS (idx := 304) (N := n_X9_in) (zd (i := .invokestatic 304) (n := 3) (by decide +kernel)) to_X9_in g1442 g1443 rfl rfl (c_X9_in (l := l) (G := G) (gh := gh) (d + 6)) <|
    z_if_ne (off := 5) (tgt := 26) (zd (i := .ifCond .ne (5)) (n := 3) (by decide +kernel)) (by decide +kernel) (zj (hj 4) (by decide +kernel)) (zj (hj 3) (by decide +kernel))
noncomputable def b_X9_best_3 : zBl := fun jp K => oInt 2147483647 <| oIret K
theorem s_X9_best_3 (d : Nat) (hG : zGood gh) : zPb l G gh (d + 8) n_X9_best p_X9_best 24 b_X9_best_3 := fun K jp hj =>
    z_iconst (n := -1) (zd (i := .iconst (-1)) (n := 1) (by decide +kernel)) (by decide +kernel) <|
    z_iret (zd (i := .ireturn) (n := 1) (by decide +kernel)) rfl
noncomputable def b_X9_best_4 : zBl := fun jp K => oInt 2147483648 <| oIst 4 <| oInt 2147483647 <| oIst 5 <| oInt 2147483648 <| oIst 6 <| jp 5
theorem s_X9_best_4 (d : Nat) (hG : zGood gh) : zPb l G gh (d + 8) n_X9_best p_X9_best 26 b_X9_best_4 := fun K jp hj =>
    z_iconst (n := 0) (zd (i := .iconst (0)) (n := 1) (by decide +kernel)) (by decide +kernel) <|
    z_istore (i := 4) (zd (i := .istore 4) (n := 2) (by decide +kernel)) (by decide +kernel) <|
    z_iconst (n := -1) (zd (i := .iconst (-1)) (n := 1) (by decide +kernel)) (by decide +kernel) <|
    z_istore (i := 5) (zd (i := .istore 5) (n := 2) (by decide +kernel)) (by decide +kernel) <|
    z_iconst (n := 0) (zd (i := .iconst (0)) (n := 1) (by decide +kernel)) (by decide +kernel) <|
    z_istore (i := 6) (zd (i := .istore 6) (n := 2) (by decide +kernel)) (by decide +kernel) <|
    (zj (hj 5) (by decide +kernel))
noncomputable def b_X9_best_5 : zBl := fun jp K => oNLC 6 2147483667 zgtN zleN zn1_gt zn1_le (jp 10) (jp 6)
theorem s_X9_best_5 (d : Nat) (hG : zGood gh) : zPb l G gh (d + 8) n_X9_best p_X9_best 35 b_X9_best_5 := fun K jp hj =>
    z_nLC_gt (i := 6) (c0 := 2147483667) (a1 := 2) (a2 := 2) (off := 37) (tgt := 76) (zLd_w (i := 6) (zd (i := .iload 6) (n := 2) (by decide +kernel))) (zCn_b (n := 19) (zd (i := .bipush (19)) (n := 2) (by decide +kernel)) (by decide +kernel)) (zd (i := .if_icmp .gt (37)) (n := 3) (by decide +kernel)) (by decide +kernel) (zj (hj 10) (by decide +kernel)) (zj (hj 6) (by decide +kernel))
noncomputable def b_X9_best_6 : zBl := fun jp K => oAld 0 <| oIld 6 <| oIld 1 <| oIld 2 <| oCv 9 3 gs_X9_hoursFrom <| oIst 7 <| oNLL 7 5 zgtN zleN zn1_gt zn2_gt zn1_le zn2_le (jp 8) (jp 7)
theorem s_X9_best_6 (d : Nat) (hG : zGood gh) : zPb l G gh (d + 8) n_X9_best p_X9_best 42 b_X9_best_6 := fun K jp hj =>
    z_aload_n (n := 0) (i := 0) (zd (i := .aload_n 0) (n := 1) (by decide +kernel)) rfl <|
    z_iload (i := 6) (zd (i := .iload 6) (n := 2) (by decide +kernel)) <|
    z_iload_n (n := 1) (i := 1) (zd (i := .iload_n 1) (n := 1) (by decide +kernel)) rfl <|
    z_iload_n (n := 2) (i := 2) (zd (i := .iload_n 2) (n := 1) (by decide +kernel)) rfl <|
    z_callV (idx := 409) (ci := 9) (N := n_X9_hoursFrom) (zd (i := .invokevirtual 409) (n := 3) (by decide +kernel)) to_X9_hoursFrom g1601 g1603 g90 (by decide +kernel) rfl rfl rfl (cs_X9_hoursFrom (l := l) (G := G) (gh := gh) (d) hG) <|
    z_istore (i := 7) (zd (i := .istore 7) (n := 2) (by decide +kernel)) (by decide +kernel) <|
    z_nLL_gt (i := 7) (j := 5) (a1 := 2) (a2 := 2) (off := 6) (tgt := 62) (zLd_w (i := 7) (zd (i := .iload 7) (n := 2) (by decide +kernel))) (zLd_w (i := 5) (zd (i := .iload 5) (n := 2) (by decide +kernel))) (zd (i := .if_icmp .gt (6)) (n := 3) (by decide +kernel)) (by decide +kernel) (zj (hj 8) (by decide +kernel)) (zj (hj 7) (by decide +kernel))
noncomputable def b_X9_best_7 : zBl := fun jp K => jp 9
theorem s_X9_best_7 (d : Nat) (hG : zGood gh) : zPb l G gh (d + 8) n_X9_best p_X9_best 59 b_X9_best_7 := fun K jp hj =>
    z_goto (off := 11) (tgt := 70) (zd (i := .goto (11)) (n := 3) (by decide +kernel)) (by decide +kernel) (zj (hj 9) (by decide +kernel))
noncomputable def b_X9_best_8 : zBl := fun jp K => oIld 6 <| oIst 4 <| oIld 7 <| oIst 5 <| jp 9
theorem s_X9_best_8 (d : Nat) (hG : zGood gh) : zPb l G gh (d + 8) n_X9_best p_X9_best 62 b_X9_best_8 := fun K jp hj =>
    z_iload (i := 6) (zd (i := .iload 6) (n := 2) (by decide +kernel)) <|
    z_istore (i := 4) (zd (i := .istore 4) (n := 2) (by decide +kernel)) (by decide +kernel) <|
    z_iload (i := 7) (zd (i := .iload 7) (n := 2) (by decide +kernel)) <|
    z_istore (i := 5) (zd (i := .istore 5) (n := 2) (by decide +kernel)) (by decide +kernel) <|
    (zj (hj 9) (by decide +kernel))
noncomputable def b_X9_best_9 : zBl := fun jp K => oInc 6 2147483649 <| jp 5
theorem s_X9_best_9 (d : Nat) (hG : zGood gh) : zPb l G gh (d + 8) n_X9_best p_X9_best 70 b_X9_best_9 := fun K jp hj =>
    z_iinc (i := 6) (n := 1) (zd (i := .iinc 6 (1)) (n := 3) (by decide +kernel)) (by decide +kernel) (by decide +kernel) <|
    z_goto (off := -38) (tgt := 35) (zd (i := .goto (-38)) (n := 3) (by decide +kernel)) (by decide +kernel) (zj (hj 5) (by decide +kernel))
noncomputable def b_X9_best_10 : zBl := fun jp K => oNLC 3 2147483648 zneN zeqN zn1_ne zn1_eq (jp 12) (jp 11)
theorem s_X9_best_10 (d : Nat) (hG : zGood gh) : zPb l G gh (d + 8) n_X9_best p_X9_best 76 b_X9_best_10 := fun K jp hj =>
    z_nL0_ne (i := 3) (a1 := 1) (off := 8) (tgt := 85) (zLd_n (n := 3) (i := 3) (zd (i := .iload_n 3) (n := 1) (by decide +kernel)) rfl) (zd (i := .ifCond .ne (8)) (n := 3) (by decide +kernel)) (by decide +kernel) (zj (hj 12) (by decide +kernel)) (zj (hj 11) (by decide +kernel))
noncomputable def b_X9_best_11 : zBl := fun jp K => oIld 4 <| jp 13
theorem s_X9_best_11 (d : Nat) (hG : zGood gh) : zPb l G gh (d + 8) n_X9_best p_X9_best 80 b_X9_best_11 := fun K jp hj =>
    z_iload (i := 4) (zd (i := .iload 4) (n := 2) (by decide +kernel)) <|
    z_goto (off := 5) (tgt := 87) (zd (i := .goto (5)) (n := 3) (by decide +kernel)) (by decide +kernel) (zj (hj 13) (by decide +kernel))
noncomputable def b_X9_best_12 : zBl := fun jp K => oIld 5 <| jp 13
theorem s_X9_best_12 (d : Nat) (hG : zGood gh) : zPb l G gh (d + 8) n_X9_best p_X9_best 85 b_X9_best_12 := fun K jp hj =>
    z_iload (i := 5) (zd (i := .iload 5) (n := 2) (by decide +kernel)) <|
    (zj (hj 13) (by decide +kernel))
noncomputable def b_X9_best_13 : zBl := fun jp K => oIret K
theorem s_X9_best_13 (d : Nat) (hG : zGood gh) : zPb l G gh (d + 8) n_X9_best p_X9_best 87 b_X9_best_13 := fun K jp hj =>
    z_iret (zd (i := .ireturn) (n := 1) (by decide +kernel)) rfl
noncomputable def t_X9_best : List zBl := [b_X9_best_0, b_X9_best_1, b_X9_best_2, b_X9_best_3, b_X9_best_4, b_X9_best_5, b_X9_best_6, b_X9_best_7, b_X9_best_8, b_X9_best_9, b_X9_best_10, b_X9_best_11, b_X9_best_12, b_X9_best_13]
theorem tt_X9_best (d : Nat) (hG : zGood gh) : zT (zPb l G gh (d + 8) n_X9_best p_X9_best) t_X9_best p_X9_best := ⟨s_X9_best_0 d hG, s_X9_best_1 d hG, s_X9_best_2 d hG, s_X9_best_3 d hG, s_X9_best_4 d hG, s_X9_best_5 d hG, s_X9_best_6 d hG, s_X9_best_7 d hG, s_X9_best_8 d hG, s_X9_best_9 d hG, s_X9_best_10 d hG, s_X9_best_11 d hG, s_X9_best_12 d hG, s_X9_best_13 d hG, trivial⟩
def q_X9_best_0 : List (Nat × Nat) := [(292, zk102), (301, zk107), (302, zk111), (303, zk111), (321, zk3), (322, zk116), (323, zk104)]
noncomputable def al_X9_best_0 : zAq := [(some (.inl 9223372041149743103), [(292, zk105), (301, zk107), (302, zk111), (303, zk111), (321, zk4), (322, zk117), (323, zk104)])]
def mq_X9_best_0_1 : List (Nat × Nat) := [(292, zk105), (301, zk107), (302, zk111), (303, zk111), (321, zk4), (322, zk117), (323, zk104)]
noncomputable def fm_X9_best_0 : List zFm := [(0, [], (fun vs => [.inr (.ref 292), .inl 9223372043297226757, .inl 9223372047592194096, .inl 8589934591]), (fun vs => zP q_X9_best_0), (fun vs => Nat.sub (Nat.add 21 0) 0)),
  (5, [(6, 2147483648, 2147483668)], (fun vs => [.inr (.ref 292), .inl 9223372043297226757, .inl 9223372047592194096, .inl 8589934591, .inl 9223372043297226771, .inl 9223372041149743103, .inl (zn 0 vs 0)]), (fun vs => zP mq_X9_best_0_1), (fun vs => Nat.sub (Nat.add 2147483668 0) (Nat.add 0 (Nat.mul 1 (zn 0 vs 0)))))]
def bf_X9_best_0 : List Nat := [0, 0, 0, 0, 0, 2]
theorem r_X9_best_0_0 : zbox [] (fun vs => zFrun (zpost (zAlq al_X9_best_0)) 1000 t_X9_best fm_X9_best_0 bf_X9_best_0 (0, vs)) = true := by decide +kernel
theorem r_X9_best_0_1 : zbox [(6, 2147483648, 2147483668)] (fun vs => zFrun (zpost (zAlq al_X9_best_0)) 1000 t_X9_best fm_X9_best_0 bf_X9_best_0 (1, vs)) = true := by decide +kernel
set_option maxRecDepth 100000 in
theorem x_X9_best_0 (d : Nat) (hG : zGood gh) : zS l G gh (d + 8) (zpost (zAlq al_X9_best_0)) n_X9_best (zn 0 p_X9_best 0) (zwc (0, [.inr (.ref 292), .inl 9223372043297226757, .inl 9223372047592194096, .inl 8589934591], zP q_X9_best_0) 0) := zentry (tt_X9_best d hG) fm_X9_best_0 bf_X9_best_0 1000 (by decide +kernel) rfl ⟨Nat.zero_lt_succ _, trivial⟩ (fun f hf => match f, hf with
  | 0, _ => fun vs hv => (zbox_t r_X9_best_0_0) vs hv
  | 1, _ => fun vs hv => (zbox_t r_X9_best_0_1) vs hv
  | f + 2, h => absurd (show f + 2 < 2 from h) (Nat.not_lt.mpr (Nat.le_add_left 2 f)))
noncomputable def gs_X9_best_0 : zMt := zgq true zUN 8 [.inr (.ref 292), .inl 9223372043297226757, .inl 9223372047592194096, .inl 8589934591] q_X9_best_0 al_X9_best_0
set_option maxRecDepth 100000 in
theorem cs_X9_best_0 (d : Nat) (hG : zGood gh) : zC l G gh (d + 8) n_X9_best gs_X9_best_0 := zgq_ok zGood_ok (pcs := p_X9_best) (by decide) rfl rfl (fun a ha => by simp only [al_X9_best_0, List.mem_cons, List.not_mem_nil, or_false] at ha; rcases ha with rfl <;> decide +kernel) (fun gh hG => x_X9_best_0 d hG) (by decide +kernel) hG
def q_X9_best_1 : List (Nat × Nat) := [(292, zk102), (301, zk107)]
noncomputable def al_X9_best_1 : zAq := [(some (.inl 2147483647), [(292, zk102), (301, zk107)])]
noncomputable def fm_X9_best_1 : List zFm := [(0, [], (fun vs => [.inr (.ref 292), .inl 9223372043297226757, .inl 6442450944, .inl 8589934591]), (fun vs => zP q_X9_best_1), (fun vs => Nat.sub (Nat.add 0 0) 0))]
def bf_X9_best_1 : List Nat := []
theorem r_X9_best_1_0 : zbox [] (fun vs => zFrun (zpost (zAlq al_X9_best_1)) 1000 t_X9_best fm_X9_best_1 bf_X9_best_1 (0, vs)) = true := by decide +kernel
set_option maxRecDepth 100000 in
theorem x_X9_best_1 (d : Nat) (hG : zGood gh) : zS l G gh (d + 8) (zpost (zAlq al_X9_best_1)) n_X9_best (zn 0 p_X9_best 0) (zwc (0, [.inr (.ref 292), .inl 9223372043297226757, .inl 6442450944, .inl 8589934591], zP q_X9_best_1) 0) := zentry (tt_X9_best d hG) fm_X9_best_1 bf_X9_best_1 1000 (by decide +kernel) rfl ⟨Nat.zero_lt_succ _, trivial⟩ (fun f hf => match f, hf with
  | 0, _ => fun vs hv => (zbox_t r_X9_best_1_0) vs hv
  | f + 1, h => absurd (show f + 1 < 1 from h) (Nat.not_lt.mpr (Nat.le_add_left 1 f)))
noncomputable def gs_X9_best_1 : zMt := zgq true zUN 8 [.inr (.ref 292), .inl 9223372043297226757, .inl 6442450944, .inl 8589934591] q_X9_best_1 al_X9_best_1
set_option maxRecDepth 100000 in
theorem cs_X9_best_1 (d : Nat) (hG : zGood gh) : zC l G gh (d + 8) n_X9_best gs_X9_best_1 := zgq_ok zGood_ok (pcs := p_X9_best) (by decide) rfl rfl (fun a ha => by simp only [al_X9_best_1, List.mem_cons, List.not_mem_nil, or_false] at ha; rcases ha with rfl <;> decide +kernel) (fun gh hG => x_X9_best_1 d hG) (by decide +kernel) hG
def q_X9_best_2 : List (Nat × Nat) := [(292, zk102), (301, zk107)]
noncomputable def al_X9_best_2 : zAq := [(some (.inl 2147483647), [(292, zk102), (301, zk107)])]
noncomputable def fm_X9_best_2 : List zFm := [(0, [], (fun vs => [.inr (.ref 292), .inl 9223372043297226757, .inl 9223372255898107903, .inl 8589934591]), (fun vs => zP q_X9_best_2), (fun vs => Nat.sub (Nat.add 0 0) 0))]
def bf_X9_best_2 : List Nat := []
theorem r_X9_best_2_0 : zbox [] (fun vs => zFrun (zpost (zAlq al_X9_best_2)) 1000 t_X9_best fm_X9_best_2 bf_X9_best_2 (0, vs)) = true := by decide +kernel
set_option maxRecDepth 100000 in
theorem x_X9_best_2 (d : Nat) (hG : zGood gh) : zS l G gh (d + 8) (zpost (zAlq al_X9_best_2)) n_X9_best (zn 0 p_X9_best 0) (zwc (0, [.inr (.ref 292), .inl 9223372043297226757, .inl 9223372255898107903, .inl 8589934591], zP q_X9_best_2) 0) := zentry (tt_X9_best d hG) fm_X9_best_2 bf_X9_best_2 1000 (by decide +kernel) rfl ⟨Nat.zero_lt_succ _, trivial⟩ (fun f hf => match f, hf with
  | 0, _ => fun vs hv => (zbox_t r_X9_best_2_0) vs hv
  | f + 1, h => absurd (show f + 1 < 1 from h) (Nat.not_lt.mpr (Nat.le_add_left 1 f)))
noncomputable def gs_X9_best_2 : zMt := zgq true zUN 8 [.inr (.ref 292), .inl 9223372043297226757, .inl 9223372255898107903, .inl 8589934591] q_X9_best_2 al_X9_best_2
set_option maxRecDepth 100000 in
theorem cs_X9_best_2 (d : Nat) (hG : zGood gh) : zC l G gh (d + 8) n_X9_best gs_X9_best_2 := zgq_ok zGood_ok (pcs := p_X9_best) (by decide) rfl rfl (fun a ha => by simp only [al_X9_best_2, List.mem_cons, List.not_mem_nil, or_false] at ha; rcases ha with rfl <;> decide +kernel) (fun gh hG => x_X9_best_2 d hG) (by decide +kernel) hG
def q_X9_best_3 : List (Nat × Nat) := [(292, zk102), (301, zk107)]
noncomputable def al_X9_best_3 : zAq := [(some (.inl 2147483647), [(292, zk102), (301, zk107)])]
noncomputable def fm_X9_best_3 : List zFm := [(0, [], (fun vs => [.inr (.ref 292), .inl 6442450943, .inl 8589934591, .inl 8589934591]), (fun vs => zP q_X9_best_3), (fun vs => Nat.sub (Nat.add 0 0) 0))]
def bf_X9_best_3 : List Nat := []
theorem r_X9_best_3_0 : zbox [] (fun vs => zFrun (zpost (zAlq al_X9_best_3)) 1000 t_X9_best fm_X9_best_3 bf_X9_best_3 (0, vs)) = true := by decide +kernel
set_option maxRecDepth 100000 in
theorem x_X9_best_3 (d : Nat) (hG : zGood gh) : zS l G gh (d + 8) (zpost (zAlq al_X9_best_3)) n_X9_best (zn 0 p_X9_best 0) (zwc (0, [.inr (.ref 292), .inl 6442450943, .inl 8589934591, .inl 8589934591], zP q_X9_best_3) 0) := zentry (tt_X9_best d hG) fm_X9_best_3 bf_X9_best_3 1000 (by decide +kernel) rfl ⟨Nat.zero_lt_succ _, trivial⟩ (fun f hf => match f, hf with
  | 0, _ => fun vs hv => (zbox_t r_X9_best_3_0) vs hv
  | f + 1, h => absurd (show f + 1 < 1 from h) (Nat.not_lt.mpr (Nat.le_add_left 1 f)))
noncomputable def gs_X9_best_3 : zMt := zgq true zUN 8 [.inr (.ref 292), .inl 6442450943, .inl 8589934591, .inl 8589934591] q_X9_best_3 al_X9_best_3
set_option maxRecDepth 100000 in
theorem cs_X9_best_3 (d : Nat) (hG : zGood gh) : zC l G gh (d + 8) n_X9_best gs_X9_best_3 := zgq_ok zGood_ok (pcs := p_X9_best) (by decide) rfl rfl (fun a ha => by simp only [al_X9_best_3, List.mem_cons, List.not_mem_nil, or_false] at ha; rcases ha with rfl <;> decide +kernel) (fun gh hG => x_X9_best_3 d hG) (by decide +kernel) hG
def q_X9_best_4 : List (Nat × Nat) := [(292, zk102), (301, zk107)]
noncomputable def al_X9_best_4 : zAq := [(some (.inl 2147483647), [(292, zk102), (301, zk107)])]
noncomputable def fm_X9_best_4 : List zFm := [(0, [], (fun vs => [.inr (.ref 292), .inl 9223372071214514175, .inl 8589934591, .inl 8589934591]), (fun vs => zP q_X9_best_4), (fun vs => Nat.sub (Nat.add 0 0) 0))]
def bf_X9_best_4 : List Nat := []
theorem r_X9_best_4_0 : zbox [] (fun vs => zFrun (zpost (zAlq al_X9_best_4)) 1000 t_X9_best fm_X9_best_4 bf_X9_best_4 (0, vs)) = true := by decide +kernel
set_option maxRecDepth 100000 in
theorem x_X9_best_4 (d : Nat) (hG : zGood gh) : zS l G gh (d + 8) (zpost (zAlq al_X9_best_4)) n_X9_best (zn 0 p_X9_best 0) (zwc (0, [.inr (.ref 292), .inl 9223372071214514175, .inl 8589934591, .inl 8589934591], zP q_X9_best_4) 0) := zentry (tt_X9_best d hG) fm_X9_best_4 bf_X9_best_4 1000 (by decide +kernel) rfl ⟨Nat.zero_lt_succ _, trivial⟩ (fun f hf => match f, hf with
  | 0, _ => fun vs hv => (zbox_t r_X9_best_4_0) vs hv
  | f + 1, h => absurd (show f + 1 < 1 from h) (Nat.not_lt.mpr (Nat.le_add_left 1 f)))
noncomputable def gs_X9_best_4 : zMt := zgq true zUN 8 [.inr (.ref 292), .inl 9223372071214514175, .inl 8589934591, .inl 8589934591] q_X9_best_4 al_X9_best_4
set_option maxRecDepth 100000 in
theorem cs_X9_best_4 (d : Nat) (hG : zGood gh) : zC l G gh (d + 8) n_X9_best gs_X9_best_4 := zgq_ok zGood_ok (pcs := p_X9_best) (by decide) rfl rfl (fun a ha => by simp only [al_X9_best_4, List.mem_cons, List.not_mem_nil, or_false] at ha; rcases ha with rfl <;> decide +kernel) (fun gh hG => x_X9_best_4 d hG) (by decide +kernel) hG
noncomputable def gs_X9_best : zMt := (zor gs_X9_best_0 (zor gs_X9_best_1 (zor gs_X9_best_2 (zor gs_X9_best_3 gs_X9_best_4))))
theorem cs_X9_best (d : Nat) (hG : zGood gh) : zC l G gh (d + 8) n_X9_best gs_X9_best := (zor_ok (cs_X9_best_0 d hG) (zor_ok (cs_X9_best_1 d hG) (zor_ok (cs_X9_best_2 d hG) (zor_ok (cs_X9_best_3 d hG) (cs_X9_best_4 d hG)))))
def p_X9_near : List Nat := [0, 7, 16, 18, 28, 42, 63, 67, 78, 81, 92, 98, 102, 106, 108]
noncomputable def b_X9_near_0 : zBl := fun jp K => oIld 1 <| oCs 1 f_X9_isX <| oIf zeq zne (jp 2) (jp 1)
theorem s_X9_near_0 (d : Nat) (hG : zGood gh) : zPb l G gh (d + 8) n_X9_near p_X9_near 0 b_X9_near_0 := fun K jp hj =>
    z_iload_n (n := 1) (i := 1) (zd (i := .iload_n 1) (n := 1) (by decide +kernel)) rfl <|
    z_callS (idx := 387) (N := n_X9_isX) (zd (i := .invokestatic 387) (n := 3) (by decide +kernel)) to_X9_isX g1507 g1508 rfl rfl (c_X9_isX (l := l) (G := G) (gh := gh) (d + 5)) <|
    z_if_eq (off := 12) (tgt := 16) (zd (i := .ifCond .eq (12)) (n := 3) (by decide +kernel)) (by decide +kernel) (zj (hj 2) (by decide +kernel)) (zj (hj 1) (by decide +kernel))
noncomputable def b_X9_near_1 : zBl := fun jp K => oIld 2 <| oInt 2147483648 <| oInt 2147483649 <| oCs 3 f_X9_in <| oIf zne zeq (jp 3) (jp 2)
theorem s_X9_near_1 (d : Nat) (hG : zGood gh) : zPb l G gh (d + 8) n_X9_near p_X9_near 7 b_X9_near_1 := fun K jp hj =>
    z_iload_n (n := 2) (i := 2) (zd (i := .iload_n 2) (n := 1) (by decide +kernel)) rfl <|
    z_iconst (n := 0) (zd (i := .iconst (0)) (n := 1) (by decide +kernel)) (by decide +kernel) <|
    z_iconst (n := 1) (zd (i := .iconst (1)) (n := 1) (by decide +kernel)) (by decide +kernel) <|
    z_callS (idx := 304) (N := n_X9_in) (zd (i := .invokestatic 304) (n := 3) (by decide +kernel)) to_X9_in g1442 g1443 rfl rfl (c_X9_in (l := l) (G := G) (gh := gh) (d + 6)) <|
    z_if_ne (off := 5) (tgt := 18) (zd (i := .ifCond .ne (5)) (n := 3) (by decide +kernel)) (by decide +kernel) (zj (hj 3) (by decide +kernel)) (zj (hj 2) (by decide +kernel))
noncomputable def b_X9_near_2 : zBl := fun jp K => oInt 2147483647 <| oIret K
theorem s_X9_near_2 (d : Nat) (hG : zGood gh) : zPb l G gh (d + 8) n_X9_near p_X9_near 16 b_X9_near_2 := fun K jp hj =>
    z_iconst (n := -1) (zd (i := .iconst (-1)) (n := 1) (by decide +kernel)) (by decide +kernel) <|
    z_iret (zd (i := .ireturn) (n := 1) (by decide +kernel)) rfl
noncomputable def b_X9_near_3 : zBl := fun jp K => oInt 2147483646 <| oIst 3 <| oInt 2147483646 <| oIst 4 <| oInt 2147483648 <| oIst 5 <| jp 4
theorem s_X9_near_3 (d : Nat) (hG : zGood gh) : zPb l G gh (d + 8) n_X9_near p_X9_near 18 b_X9_near_3 := fun K jp hj =>
    z_bipush (n := -2) (zd (i := .bipush (-2)) (n := 2) (by decide +kernel)) (by decide +kernel) <|
    z_istore_n (n := 3) (i := 3) (zd (i := .istore_n 3) (n := 1) (by decide +kernel)) rfl (by decide +kernel) <|
    z_bipush (n := -2) (zd (i := .bipush (-2)) (n := 2) (by decide +kernel)) (by decide +kernel) <|
    z_istore (i := 4) (zd (i := .istore 4) (n := 2) (by decide +kernel)) (by decide +kernel) <|
    z_iconst (n := 0) (zd (i := .iconst (0)) (n := 1) (by decide +kernel)) (by decide +kernel) <|
    z_istore (i := 5) (zd (i := .istore 5) (n := 2) (by decide +kernel)) (by decide +kernel) <|
    (zj (hj 4) (by decide +kernel))
noncomputable def b_X9_near_4 : zBl := fun jp K => oIld 5 <| oAld 0 <| oGetR 9 22 <| oAld 0 <| oGetI 9 18 <| oXald 10 <| oIc zge zlt (jp 11) (jp 5)
theorem s_X9_near_4 (d : Nat) (hG : zGood gh) : zPb l G gh (d + 8) n_X9_near p_X9_near 28 b_X9_near_4 := fun K jp hj =>
    z_iload (i := 5) (zd (i := .iload 5) (n := 2) (by decide +kernel)) <|
    z_aload_n (n := 0) (i := 0) (zd (i := .aload_n 0) (n := 1) (by decide +kernel)) rfl <|
    z_getR (ci := 9) (j := 22) (idx := 43) (zd (i := .getfield 43) (n := 3) (by decide +kernel)) (by decide +kernel) (by decide +kernel) rfl g1150 <|
    z_aload_n (n := 0) (i := 0) (zd (i := .aload_n 0) (n := 1) (by decide +kernel)) rfl <|
    z_getI (ci := 9) (j := 18) (idx := 230) (zd (i := .getfield 230) (n := 3) (by decide +kernel)) (by decide +kernel) (by decide +kernel) rfl g1146 <|
    z_iald (zd (i := .iaload) (n := 1) (by decide +kernel)) <|
    z_icmp_ge (off := 59) (tgt := 98) (zd (i := .if_icmp .ge (59)) (n := 3) (by decide +kernel)) (by decide +kernel) (zj (hj 11) (by decide +kernel)) (zj (hj 5) (by decide +kernel))
noncomputable def b_X9_near_5 : zBl := fun jp K => oAld 0 <| oIld 1 <| oIld 5 <| oAld 0 <| oGetR 9 48 <| oInt 2147483744 <| oXald 10 <| oCv 9 3 gs_X9_sightOf <| oIst 6 <| oNLC 6 2147483648 zltN zgeN zn1_lt zn1_ge (jp 10) (jp 6)
theorem s_X9_near_5 (d : Nat) (hG : zGood gh) : zPb l G gh (d + 8) n_X9_near p_X9_near 42 b_X9_near_5 := fun K jp hj =>
    z_aload_n (n := 0) (i := 0) (zd (i := .aload_n 0) (n := 1) (by decide +kernel)) rfl <|
    z_iload_n (n := 1) (i := 1) (zd (i := .iload_n 1) (n := 1) (by decide +kernel)) rfl <|
    z_iload (i := 5) (zd (i := .iload 5) (n := 2) (by decide +kernel)) <|
    z_aload_n (n := 0) (i := 0) (zd (i := .aload_n 0) (n := 1) (by decide +kernel)) rfl <|
    z_getR (ci := 9) (j := 48) (idx := 110) (zd (i := .getfield 110) (n := 3) (by decide +kernel)) (by decide +kernel) (by decide +kernel) rfl g1176 <|
    z_bipush (n := 96) (zd (i := .bipush (96)) (n := 2) (by decide +kernel)) (by decide +kernel) <|
    z_iald (zd (i := .iaload) (n := 1) (by decide +kernel)) <|
    z_callV (idx := 399) (ci := 9) (N := n_X9_sightOf) (zd (i := .invokevirtual 399) (n := 3) (by decide +kernel)) to_X9_sightOf g1578 g1580 g87 (by decide +kernel) rfl rfl rfl (cs_X9_sightOf (l := l) (G := G) (gh := gh) (d) hG) <|
    z_istore (i := 6) (zd (i := .istore 6) (n := 2) (by decide +kernel)) (by decide +kernel) <|
    z_nL0_lt (i := 6) (a1 := 2) (off := 32) (tgt := 92) (zLd_w (i := 6) (zd (i := .iload 6) (n := 2) (by decide +kernel))) (zd (i := .ifCond .lt (32)) (n := 3) (by decide +kernel)) (by decide +kernel) (zj (hj 10) (by decide +kernel)) (zj (hj 6) (by decide +kernel))
noncomputable def b_X9_near_6 : zBl := fun jp K => oNLC 3 2147483648 zltN zgeN zn1_lt zn1_ge (jp 9) (jp 7)
theorem s_X9_near_6 (d : Nat) (hG : zGood gh) : zPb l G gh (d + 8) n_X9_near p_X9_near 63 b_X9_near_6 := fun K jp hj =>
    z_nL0_lt (i := 3) (a1 := 1) (off := 17) (tgt := 81) (zLd_n (n := 3) (i := 3) (zd (i := .iload_n 3) (n := 1) (by decide +kernel)) rfl) (zd (i := .ifCond .lt (17)) (n := 3) (by decide +kernel)) (by decide +kernel) (zj (hj 9) (by decide +kernel)) (zj (hj 7) (by decide +kernel))
noncomputable def b_X9_near_7 : zBl := fun jp K => oIld 6 <| oIld 1 <| oCs 2 f_X9_off <| oIld 4 <| oIc zlt zge (jp 9) (jp 8)
theorem s_X9_near_7 (d : Nat) (hG : zGood gh) : zPb l G gh (d + 8) n_X9_near p_X9_near 67 b_X9_near_7 := fun K jp hj =>
    z_iload (i := 6) (zd (i := .iload 6) (n := 2) (by decide +kernel)) <|
    z_iload_n (n := 1) (i := 1) (zd (i := .iload_n 1) (n := 1) (by decide +kernel)) rfl <|
    z_callS (idx := 330) (N := n_X9_off) (zd (i := .invokestatic 330) (n := 3) (by decide +kernel)) to_X9_off g1480 g1481 rfl rfl (c_X9_off (l := l) (G := G) (gh := gh) (d + 6)) <|
    z_iload (i := 4) (zd (i := .iload 4) (n := 2) (by decide +kernel)) <|
    z_icmp_lt (off := 6) (tgt := 81) (zd (i := .if_icmp .lt (6)) (n := 3) (by decide +kernel)) (by decide +kernel) (zj (hj 9) (by decide +kernel)) (zj (hj 8) (by decide +kernel))
noncomputable def b_X9_near_8 : zBl := fun jp K => jp 10
theorem s_X9_near_8 (d : Nat) (hG : zGood gh) : zPb l G gh (d + 8) n_X9_near p_X9_near 78 b_X9_near_8 := fun K jp hj =>
    z_goto (off := 14) (tgt := 92) (zd (i := .goto (14)) (n := 3) (by decide +kernel)) (by decide +kernel) (zj (hj 10) (by decide +kernel))
noncomputable def b_X9_near_9 : zBl := fun jp K => oIld 5 <| oIst 3 <| oIld 6 <| oIld 1 <| oCs 2 f_X9_off <| oIst 4 <| jp 10
theorem s_X9_near_9 (d : Nat) (hG : zGood gh) : zPb l G gh (d + 8) n_X9_near p_X9_near 81 b_X9_near_9 := fun K jp hj =>
    z_iload (i := 5) (zd (i := .iload 5) (n := 2) (by decide +kernel)) <|
    z_istore_n (n := 3) (i := 3) (zd (i := .istore_n 3) (n := 1) (by decide +kernel)) rfl (by decide +kernel) <|
    z_iload (i := 6) (zd (i := .iload 6) (n := 2) (by decide +kernel)) <|
    z_iload_n (n := 1) (i := 1) (zd (i := .iload_n 1) (n := 1) (by decide +kernel)) rfl <|
    z_callS (idx := 330) (N := n_X9_off) (zd (i := .invokestatic 330) (n := 3) (by decide +kernel)) to_X9_off g1480 g1481 rfl rfl (c_X9_off (l := l) (G := G) (gh := gh) (d + 6)) <|
    z_istore (i := 4) (zd (i := .istore 4) (n := 2) (by decide +kernel)) (by decide +kernel) <|
    (zj (hj 10) (by decide +kernel))
noncomputable def b_X9_near_10 : zBl := fun jp K => oInc 5 2147483649 <| jp 4
theorem s_X9_near_10 (d : Nat) (hG : zGood gh) : zPb l G gh (d + 8) n_X9_near p_X9_near 92 b_X9_near_10 := fun K jp hj =>
    z_iinc (i := 5) (n := 1) (zd (i := .iinc 5 (1)) (n := 3) (by decide +kernel)) (by decide +kernel) (by decide +kernel) <|
    z_goto (off := -67) (tgt := 28) (zd (i := .goto (-67)) (n := 3) (by decide +kernel)) (by decide +kernel) (zj (hj 4) (by decide +kernel))
noncomputable def b_X9_near_11 : zBl := fun jp K => oNLC 2 2147483648 zneN zeqN zn1_ne zn1_eq (jp 13) (jp 12)
theorem s_X9_near_11 (d : Nat) (hG : zGood gh) : zPb l G gh (d + 8) n_X9_near p_X9_near 98 b_X9_near_11 := fun K jp hj =>
    z_nL0_ne (i := 2) (a1 := 1) (off := 7) (tgt := 106) (zLd_n (n := 2) (i := 2) (zd (i := .iload_n 2) (n := 1) (by decide +kernel)) rfl) (zd (i := .ifCond .ne (7)) (n := 3) (by decide +kernel)) (by decide +kernel) (zj (hj 13) (by decide +kernel)) (zj (hj 12) (by decide +kernel))
noncomputable def b_X9_near_12 : zBl := fun jp K => oIld 3 <| jp 14
theorem s_X9_near_12 (d : Nat) (hG : zGood gh) : zPb l G gh (d + 8) n_X9_near p_X9_near 102 b_X9_near_12 := fun K jp hj =>
    z_iload_n (n := 3) (i := 3) (zd (i := .iload_n 3) (n := 1) (by decide +kernel)) rfl <|
    z_goto (off := 5) (tgt := 108) (zd (i := .goto (5)) (n := 3) (by decide +kernel)) (by decide +kernel) (zj (hj 14) (by decide +kernel))
noncomputable def b_X9_near_13 : zBl := fun jp K => oIld 4 <| jp 14
theorem s_X9_near_13 (d : Nat) (hG : zGood gh) : zPb l G gh (d + 8) n_X9_near p_X9_near 106 b_X9_near_13 := fun K jp hj =>
    z_iload (i := 4) (zd (i := .iload 4) (n := 2) (by decide +kernel)) <|
    (zj (hj 14) (by decide +kernel))
noncomputable def b_X9_near_14 : zBl := fun jp K => oIret K
theorem s_X9_near_14 (d : Nat) (hG : zGood gh) : zPb l G gh (d + 8) n_X9_near p_X9_near 108 b_X9_near_14 := fun K jp hj =>
    z_iret (zd (i := .ireturn) (n := 1) (by decide +kernel)) rfl
noncomputable def t_X9_near : List zBl := [b_X9_near_0, b_X9_near_1, b_X9_near_2, b_X9_near_3, b_X9_near_4, b_X9_near_5, b_X9_near_6, b_X9_near_7, b_X9_near_8, b_X9_near_9, b_X9_near_10, b_X9_near_11, b_X9_near_12, b_X9_near_13, b_X9_near_14]
theorem tt_X9_near (d : Nat) (hG : zGood gh) : zT (zPb l G gh (d + 8) n_X9_near p_X9_near) t_X9_near p_X9_near := ⟨s_X9_near_0 d hG, s_X9_near_1 d hG, s_X9_near_2 d hG, s_X9_near_3 d hG, s_X9_near_4 d hG, s_X9_near_5 d hG, s_X9_near_6 d hG, s_X9_near_7 d hG, s_X9_near_8 d hG, s_X9_near_9 d hG, s_X9_near_10 d hG, s_X9_near_11 d hG, s_X9_near_12 d hG, s_X9_near_13 d hG, s_X9_near_14 d hG, trivial⟩
def q_X9_near_0 : List (Nat × Nat) := [(292, zk102), (301, zk107), (302, zk111), (303, zk111), (321, zk3), (322, zk116), (323, zk104)]
noncomputable def al_X9_near_0 : zAq := [(some (.inl 8589934591), [(292, zk105), (301, zk107), (302, zk111), (303, zk111), (321, zk4), (322, zk117), (323, zk104)])]
def mq_X9_near_0_1 : List (Nat × Nat) := [(292, zk105), (301, zk107), (302, zk111), (303, zk111), (321, zk4), (322, zk117), (323, zk104)]
noncomputable def fm_X9_near_0 : List zFm := [(0, [], (fun vs => [.inr (.ref 292), .inl 8589934591, .inl 8589934591]), (fun vs => zP q_X9_near_0), (fun vs => Nat.sub (Nat.add 7 0) 0)),
  (4, [(5, 2147483648, 2147483654)], (fun vs => [.inr (.ref 292), .inl 8589934591, .inl 8589934591, .inl 9223372034707292165, .inl 8589934591, .inl (zn 0 vs 0)]), (fun vs => zP mq_X9_near_0_1), (fun vs => Nat.sub (Nat.add 2147483654 0) (Nat.add 0 (Nat.mul 1 (zn 0 vs 0)))))]
def bf_X9_near_0 : List Nat := [0, 0, 0, 0, 2]
theorem r_X9_near_0_0 : zbox [] (fun vs => zFrun (zpost (zAlq al_X9_near_0)) 1000 t_X9_near fm_X9_near_0 bf_X9_near_0 (0, vs)) = true := by decide +kernel
theorem r_X9_near_0_1 : zbox [(5, 2147483648, 2147483654)] (fun vs => zFrun (zpost (zAlq al_X9_near_0)) 1000 t_X9_near fm_X9_near_0 bf_X9_near_0 (1, vs)) = true := by decide +kernel
set_option maxRecDepth 100000 in
theorem x_X9_near_0 (d : Nat) (hG : zGood gh) : zS l G gh (d + 8) (zpost (zAlq al_X9_near_0)) n_X9_near (zn 0 p_X9_near 0) (zwc (0, [.inr (.ref 292), .inl 8589934591, .inl 8589934591], zP q_X9_near_0) 0) := zentry (tt_X9_near d hG) fm_X9_near_0 bf_X9_near_0 1000 (by decide +kernel) rfl ⟨Nat.zero_lt_succ _, trivial⟩ (fun f hf => match f, hf with
  | 0, _ => fun vs hv => (zbox_t r_X9_near_0_0) vs hv
  | 1, _ => fun vs hv => (zbox_t r_X9_near_0_1) vs hv
  | f + 2, h => absurd (show f + 2 < 2 from h) (Nat.not_lt.mpr (Nat.le_add_left 2 f)))
noncomputable def gs_X9_near_0 : zMt := zgq true zUN 7 [.inr (.ref 292), .inl 8589934591, .inl 8589934591] q_X9_near_0 al_X9_near_0
set_option maxRecDepth 100000 in
theorem cs_X9_near_0 (d : Nat) (hG : zGood gh) : zC l G gh (d + 8) n_X9_near gs_X9_near_0 := zgq_ok zGood_ok (pcs := p_X9_near) (by decide) rfl rfl (fun a ha => by simp only [al_X9_near_0, List.mem_cons, List.not_mem_nil, or_false] at ha; rcases ha with rfl <;> decide +kernel) (fun gh hG => x_X9_near_0 d hG) (by decide +kernel) hG
noncomputable def gs_X9_near : zMt := gs_X9_near_0
theorem cs_X9_near (d : Nat) (hG : zGood gh) : zC l G gh (d + 8) n_X9_near gs_X9_near := (cs_X9_near_0 d hG)
def p_X9_crowd : List Nat := [0, 7, 9, 17, 30, 33, 47, 70, 77, 83, 89]
noncomputable def b_X9_crowd_0 : zBl := fun jp K => oIld 1 <| oCs 1 f_X9_isX <| oIf zne zeq (jp 2) (jp 1)
theorem s_X9_crowd_0 (d : Nat) (hG : zGood gh) : zPb l G gh (d + 8) n_X9_crowd p_X9_crowd 0 b_X9_crowd_0 := fun K jp hj =>
    z_iload_n (n := 1) (i := 1) (zd (i := .iload_n 1) (n := 1) (by decide +kernel)) rfl <|
    z_callS (idx := 387) (N := n_X9_isX) (zd (i := .invokestatic 387) (n := 3) (by decide +kernel)) to_X9_isX g1507 g1508 rfl rfl (c_X9_isX (l := l) (G := G) (gh := gh) (d + 5)) <|
    z_if_ne (off := 5) (tgt := 9) (zd (i := .ifCond .ne (5)) (n := 3) (by decide +kernel)) (by decide +kernel) (zj (hj 2) (by decide +kernel)) (zj (hj 1) (by decide +kernel))
noncomputable def b_X9_crowd_1 : zBl := fun jp K => oInt 2147483647 <| oIret K
theorem s_X9_crowd_1 (d : Nat) (hG : zGood gh) : zPb l G gh (d + 8) n_X9_crowd p_X9_crowd 7 b_X9_crowd_1 := fun K jp hj =>
    z_iconst (n := -1) (zd (i := .iconst (-1)) (n := 1) (by decide +kernel)) (by decide +kernel) <|
    z_iret (zd (i := .ireturn) (n := 1) (by decide +kernel)) rfl
noncomputable def b_X9_crowd_2 : zBl := fun jp K => oAld 0 <| oCv 9 0 gs_X9_copies <| oInt 2147483648 <| oIst 2 <| oInt 2147483648 <| oIst 3 <| jp 3
theorem s_X9_crowd_2 (d : Nat) (hG : zGood gh) : zPb l G gh (d + 8) n_X9_crowd p_X9_crowd 9 b_X9_crowd_2 := fun K jp hj =>
    z_aload_n (n := 0) (i := 0) (zd (i := .aload_n 0) (n := 1) (by decide +kernel)) rfl <|
    z_callV (idx := 375) (ci := 9) (N := n_X9_copies) (zd (i := .invokevirtual 375) (n := 3) (by decide +kernel)) to_X9_copies g1445 g1447 g67 (by decide +kernel) rfl rfl rfl (cs_X9_copies (l := l) (G := G) (gh := gh) (d + 6)) <|
    z_iconst (n := 0) (zd (i := .iconst (0)) (n := 1) (by decide +kernel)) (by decide +kernel) <|
    z_istore_n (n := 2) (i := 2) (zd (i := .istore_n 2) (n := 1) (by decide +kernel)) rfl (by decide +kernel) <|
    z_iconst (n := 0) (zd (i := .iconst (0)) (n := 1) (by decide +kernel)) (by decide +kernel) <|
    z_istore_n (n := 3) (i := 3) (zd (i := .istore_n 3) (n := 1) (by decide +kernel)) rfl (by decide +kernel) <|
    (zj (hj 3) (by decide +kernel))
noncomputable def b_X9_crowd_3 : zBl := fun jp K => oIld 3 <| oAld 0 <| oGetR 9 25 <| oAld 0 <| oGetI 9 18 <| oXald 10 <| oIc zge zlt (jp 10) (jp 4)
theorem s_X9_crowd_3 (d : Nat) (hG : zGood gh) : zPb l G gh (d + 8) n_X9_crowd p_X9_crowd 17 b_X9_crowd_3 := fun K jp hj =>
    z_iload_n (n := 3) (i := 3) (zd (i := .iload_n 3) (n := 1) (by decide +kernel)) rfl <|
    z_aload_n (n := 0) (i := 0) (zd (i := .aload_n 0) (n := 1) (by decide +kernel)) rfl <|
    z_getR (ci := 9) (j := 25) (idx := 52) (zd (i := .getfield 52) (n := 3) (by decide +kernel)) (by decide +kernel) (by decide +kernel) rfl g1153 <|
    z_aload_n (n := 0) (i := 0) (zd (i := .aload_n 0) (n := 1) (by decide +kernel)) rfl <|
    z_getI (ci := 9) (j := 18) (idx := 230) (zd (i := .getfield 230) (n := 3) (by decide +kernel)) (by decide +kernel) (by decide +kernel) rfl g1146 <|
    z_iald (zd (i := .iaload) (n := 1) (by decide +kernel)) <|
    z_icmp_ge (off := 62) (tgt := 89) (zd (i := .if_icmp .ge (62)) (n := 3) (by decide +kernel)) (by decide +kernel) (zj (hj 10) (by decide +kernel)) (zj (hj 4) (by decide +kernel))
noncomputable def b_X9_crowd_4 : zBl := fun jp K => oInt 2147483648 <| oIst 4 <| jp 5
theorem s_X9_crowd_4 (d : Nat) (hG : zGood gh) : zPb l G gh (d + 8) n_X9_crowd p_X9_crowd 30 b_X9_crowd_4 := fun K jp hj =>
    z_iconst (n := 0) (zd (i := .iconst (0)) (n := 1) (by decide +kernel)) (by decide +kernel) <|
    z_istore (i := 4) (zd (i := .istore 4) (n := 2) (by decide +kernel)) (by decide +kernel) <|
    (zj (hj 5) (by decide +kernel))
noncomputable def b_X9_crowd_5 : zBl := fun jp K => oIld 4 <| oAld 0 <| oGetR 9 22 <| oAld 0 <| oGetI 9 18 <| oXald 10 <| oIc zge zlt (jp 9) (jp 6)
theorem s_X9_crowd_5 (d : Nat) (hG : zGood gh) : zPb l G gh (d + 8) n_X9_crowd p_X9_crowd 33 b_X9_crowd_5 := fun K jp hj =>
    z_iload (i := 4) (zd (i := .iload 4) (n := 2) (by decide +kernel)) <|
    z_aload_n (n := 0) (i := 0) (zd (i := .aload_n 0) (n := 1) (by decide +kernel)) rfl <|
    z_getR (ci := 9) (j := 22) (idx := 43) (zd (i := .getfield 43) (n := 3) (by decide +kernel)) (by decide +kernel) (by decide +kernel) rfl g1150 <|
    z_aload_n (n := 0) (i := 0) (zd (i := .aload_n 0) (n := 1) (by decide +kernel)) rfl <|
    z_getI (ci := 9) (j := 18) (idx := 230) (zd (i := .getfield 230) (n := 3) (by decide +kernel)) (by decide +kernel) (by decide +kernel) rfl g1146 <|
    z_iald (zd (i := .iaload) (n := 1) (by decide +kernel)) <|
    z_icmp_ge (off := 39) (tgt := 83) (zd (i := .if_icmp .ge (39)) (n := 3) (by decide +kernel)) (by decide +kernel) (zj (hj 9) (by decide +kernel)) (zj (hj 6) (by decide +kernel))
noncomputable def b_X9_crowd_6 : zBl := fun jp K => oAld 0 <| oAld 0 <| oGetR 9 49 <| oIld 3 <| oXald 10 <| oIld 4 <| oAld 0 <| oGetR 9 49 <| oInt 2147483744 <| oXald 10 <| oCv 9 3 gs_X9_sightOf <| oIld 1 <| oIc zne zeq (jp 8) (jp 7)
theorem s_X9_crowd_6 (d : Nat) (hG : zGood gh) : zPb l G gh (d + 8) n_X9_crowd p_X9_crowd 47 b_X9_crowd_6 := fun K jp hj =>
    z_aload_n (n := 0) (i := 0) (zd (i := .aload_n 0) (n := 1) (by decide +kernel)) rfl <|
    z_aload_n (n := 0) (i := 0) (zd (i := .aload_n 0) (n := 1) (by decide +kernel)) rfl <|
    z_getR (ci := 9) (j := 49) (idx := 113) (zd (i := .getfield 113) (n := 3) (by decide +kernel)) (by decide +kernel) (by decide +kernel) rfl g1177 <|
    z_iload_n (n := 3) (i := 3) (zd (i := .iload_n 3) (n := 1) (by decide +kernel)) rfl <|
    z_iald (zd (i := .iaload) (n := 1) (by decide +kernel)) <|
    z_iload (i := 4) (zd (i := .iload 4) (n := 2) (by decide +kernel)) <|
    z_aload_n (n := 0) (i := 0) (zd (i := .aload_n 0) (n := 1) (by decide +kernel)) rfl <|
    z_getR (ci := 9) (j := 49) (idx := 113) (zd (i := .getfield 113) (n := 3) (by decide +kernel)) (by decide +kernel) (by decide +kernel) rfl g1177 <|
    z_bipush (n := 96) (zd (i := .bipush (96)) (n := 2) (by decide +kernel)) (by decide +kernel) <|
    z_iald (zd (i := .iaload) (n := 1) (by decide +kernel)) <|
    z_callV (idx := 399) (ci := 9) (N := n_X9_sightOf) (zd (i := .invokevirtual 399) (n := 3) (by decide +kernel)) to_X9_sightOf g1578 g1580 g87 (by decide +kernel) rfl rfl rfl (cs_X9_sightOf (l := l) (G := G) (gh := gh) (d) hG) <|
    z_iload_n (n := 1) (i := 1) (zd (i := .iload_n 1) (n := 1) (by decide +kernel)) rfl <|
    z_icmp_ne (off := 10) (tgt := 77) (zd (i := .if_icmp .ne (10)) (n := 3) (by decide +kernel)) (by decide +kernel) (zj (hj 8) (by decide +kernel)) (zj (hj 7) (by decide +kernel))
noncomputable def b_X9_crowd_7 : zBl := fun jp K => oIld 2 <| oInt 2147483649 <| oIld 4 <| oB2 zishl <| oB2 zior <| oIst 2 <| jp 8
theorem s_X9_crowd_7 (d : Nat) (hG : zGood gh) : zPb l G gh (d + 8) n_X9_crowd p_X9_crowd 70 b_X9_crowd_7 := fun K jp hj =>
    z_iload_n (n := 2) (i := 2) (zd (i := .iload_n 2) (n := 1) (by decide +kernel)) rfl <|
    z_iconst (n := 1) (zd (i := .iconst (1)) (n := 1) (by decide +kernel)) (by decide +kernel) <|
    z_iload (i := 4) (zd (i := .iload 4) (n := 2) (by decide +kernel)) <|
    z_ishl (zd (i := .ishl) (n := 1) (by decide +kernel)) <|
    z_ior (zd (i := .ior) (n := 1) (by decide +kernel)) <|
    z_istore_n (n := 2) (i := 2) (zd (i := .istore_n 2) (n := 1) (by decide +kernel)) rfl (by decide +kernel) <|
    (zj (hj 8) (by decide +kernel))
noncomputable def b_X9_crowd_8 : zBl := fun jp K => oInc 4 2147483649 <| jp 5
theorem s_X9_crowd_8 (d : Nat) (hG : zGood gh) : zPb l G gh (d + 8) n_X9_crowd p_X9_crowd 77 b_X9_crowd_8 := fun K jp hj =>
    z_iinc (i := 4) (n := 1) (zd (i := .iinc 4 (1)) (n := 3) (by decide +kernel)) (by decide +kernel) (by decide +kernel) <|
    z_goto (off := -47) (tgt := 33) (zd (i := .goto (-47)) (n := 3) (by decide +kernel)) (by decide +kernel) (zj (hj 5) (by decide +kernel))
noncomputable def b_X9_crowd_9 : zBl := fun jp K => oInc 3 2147483649 <| jp 3
theorem s_X9_crowd_9 (d : Nat) (hG : zGood gh) : zPb l G gh (d + 8) n_X9_crowd p_X9_crowd 83 b_X9_crowd_9 := fun K jp hj =>
    z_iinc (i := 3) (n := 1) (zd (i := .iinc 3 (1)) (n := 3) (by decide +kernel)) (by decide +kernel) (by decide +kernel) <|
    z_goto (off := -69) (tgt := 17) (zd (i := .goto (-69)) (n := 3) (by decide +kernel)) (by decide +kernel) (zj (hj 3) (by decide +kernel))
noncomputable def b_X9_crowd_10 : zBl := fun jp K => oIld 2 <| oIret K
theorem s_X9_crowd_10 (d : Nat) (hG : zGood gh) : zPb l G gh (d + 8) n_X9_crowd p_X9_crowd 89 b_X9_crowd_10 := fun K jp hj =>
    z_iload_n (n := 2) (i := 2) (zd (i := .iload_n 2) (n := 1) (by decide +kernel)) rfl <|
    z_iret (zd (i := .ireturn) (n := 1) (by decide +kernel)) rfl
noncomputable def t_X9_crowd : List zBl := [b_X9_crowd_0, b_X9_crowd_1, b_X9_crowd_2, b_X9_crowd_3, b_X9_crowd_4, b_X9_crowd_5, b_X9_crowd_6, b_X9_crowd_7, b_X9_crowd_8, b_X9_crowd_9, b_X9_crowd_10]
theorem tt_X9_crowd (d : Nat) (hG : zGood gh) : zT (zPb l G gh (d + 8) n_X9_crowd p_X9_crowd) t_X9_crowd p_X9_crowd := ⟨s_X9_crowd_0 d hG, s_X9_crowd_1 d hG, s_X9_crowd_2 d hG, s_X9_crowd_3 d hG, s_X9_crowd_4 d hG, s_X9_crowd_5 d hG, s_X9_crowd_6 d hG, s_X9_crowd_7 d hG, s_X9_crowd_8 d hG, s_X9_crowd_9 d hG, s_X9_crowd_10 d hG, trivial⟩
def q_X9_crowd_0 : List (Nat × Nat) := [(292, zk102), (301, zk107), (302, zk111), (303, zk111), (304, zk107), (310, zk103), (321, zk3), (322, zk116), (323, zk104), (324, zk104)]
noncomputable def al_X9_crowd_0 : zAq := [(some (.inl 9223372039002259519), [(292, zk105), (301, zk107), (302, zk111), (303, zk111), (304, zk107), (310, zk103), (321, zk4), (322, zk117), (323, zk104), (324, zk106)])]
def mq_X9_crowd_0_1 : List (Nat × Nat) := [(292, zk105), (301, zk107), (302, zk111), (303, zk111), (304, zk107), (310, zk103), (321, zk4), (322, zk117), (323, zk104), (324, zk106)]
def mq_X9_crowd_0_2 : List (Nat × Nat) := [(292, zk105), (301, zk107), (302, zk111), (303, zk111), (304, zk107), (310, zk103), (321, zk4), (322, zk117), (323, zk104), (324, zk106)]
noncomputable def fm_X9_crowd_0 : List zFm := [(0, [], (fun vs => [.inr (.ref 292), .inl 8589934591]), (fun vs => zP q_X9_crowd_0), (fun vs => Nat.sub (Nat.add 98 0) 0)),
  (3, [(3, 2147483648, 2147483654)], (fun vs => [.inr (.ref 292), .inl 8589934591, .inl 9223372043297226815, .inl (zn 0 vs 0)]), (fun vs => zP mq_X9_crowd_0_1), (fun vs => Nat.sub (Nat.add 30064771163 0) (Nat.add 0 (Nat.mul 14 (zn 0 vs 0))))),
  (5, [(3, 2147483648, 2147483653), (4, 2147483648, 2147483654)], (fun vs => [.inr (.ref 292), .inl 8589934591, .inl 9223372043297226815, .inl (zn 0 vs 0), .inl (zn 0 vs 1)]), (fun vs => zP mq_X9_crowd_0_2), (fun vs => Nat.sub (Nat.add 32212254810 0) (Nat.add (Nat.add 0 (Nat.mul 14 (zn 0 vs 0))) (Nat.mul 1 (zn 0 vs 1)))))]
def bf_X9_crowd_0 : List Nat := [0, 0, 0, 2, 0, 3]
theorem r_X9_crowd_0_0 : zbox [] (fun vs => zFrun (zpost (zAlq al_X9_crowd_0)) 1000 t_X9_crowd fm_X9_crowd_0 bf_X9_crowd_0 (0, vs)) = true := by decide +kernel
theorem r_X9_crowd_0_1 : zbox [(3, 2147483648, 2147483654)] (fun vs => zFrun (zpost (zAlq al_X9_crowd_0)) 1000 t_X9_crowd fm_X9_crowd_0 bf_X9_crowd_0 (1, vs)) = true := by decide +kernel
theorem r_X9_crowd_0_2 : zbox [(3, 2147483648, 2147483653), (4, 2147483648, 2147483654)] (fun vs => zFrun (zpost (zAlq al_X9_crowd_0)) 1000 t_X9_crowd fm_X9_crowd_0 bf_X9_crowd_0 (2, vs)) = true := by decide +kernel
set_option maxRecDepth 100000 in
theorem x_X9_crowd_0 (d : Nat) (hG : zGood gh) : zS l G gh (d + 8) (zpost (zAlq al_X9_crowd_0)) n_X9_crowd (zn 0 p_X9_crowd 0) (zwc (0, [.inr (.ref 292), .inl 8589934591], zP q_X9_crowd_0) 0) := zentry (tt_X9_crowd d hG) fm_X9_crowd_0 bf_X9_crowd_0 1000 (by decide +kernel) rfl ⟨Nat.zero_lt_succ _, trivial⟩ (fun f hf => match f, hf with
  | 0, _ => fun vs hv => (zbox_t r_X9_crowd_0_0) vs hv
  | 1, _ => fun vs hv => (zbox_t r_X9_crowd_0_1) vs hv
  | 2, _ => fun vs hv => (zbox_t r_X9_crowd_0_2) vs hv
  | f + 3, h => absurd (show f + 3 < 3 from h) (Nat.not_lt.mpr (Nat.le_add_left 3 f)))
noncomputable def gs_X9_crowd_0 : zMt := zgq true zUN 5 [.inr (.ref 292), .inl 8589934591] q_X9_crowd_0 al_X9_crowd_0
set_option maxRecDepth 100000 in
theorem cs_X9_crowd_0 (d : Nat) (hG : zGood gh) : zC l G gh (d + 8) n_X9_crowd gs_X9_crowd_0 := zgq_ok zGood_ok (pcs := p_X9_crowd) (by decide) rfl rfl (fun a ha => by simp only [al_X9_crowd_0, List.mem_cons, List.not_mem_nil, or_false] at ha; rcases ha with rfl <;> decide +kernel) (fun gh hG => x_X9_crowd_0 d hG) (by decide +kernel) hG
noncomputable def gs_X9_crowd : zMt := gs_X9_crowd_0
theorem cs_X9_crowd (d : Nat) (hG : zGood gh) : zC l G gh (d + 8) n_X9_crowd gs_X9_crowd := (cs_X9_crowd_0 d hG)
end
