section
variable {l : Launch} {G : qG} {gh : zGh}
def p_X2_spot : List Nat := [0, 7, 9, 25, 32, 37]
noncomputable def b_X2_spot_0 : zBl := fun jp K => oAld 0 <| oCv 2 0 f_X2_isSeen <| oIf zne zeq (jp 2) (jp 1)
theorem s_X2_spot_0 (d : Nat) : zPb l G gh (d + 4) n_X2_spot p_X2_spot 0 b_X2_spot_0 := fun K jp hj =>
    z_aload_n (n := 0) (i := 0) (zd (i := .aload_n 0) (n := 1) (by decide +kernel)) rfl <|
    z_callV (idx := 59) (ci := 2) (N := n_X2_isSeen) (zd (i := .invokevirtual 59) (n := 3) (by decide +kernel)) to_X2_isSeen g909 g757 g758 (by decide +kernel) rfl rfl rfl (c_X2_isSeen (l := l) (G := G) (gh := gh) (d)) <|
    z_if_ne (off := 5) (tgt := 9) (zd (i := .ifCond .ne (5)) (n := 3) (by decide +kernel)) (by decide +kernel) (zj (hj 2) (by decide +kernel)) (zj (hj 1) (by decide +kernel))
noncomputable def b_X2_spot_1 : zBl := fun jp K => oInt 2147483647 <| oIret K
theorem s_X2_spot_1 (d : Nat) : zPb l G gh (d + 4) n_X2_spot p_X2_spot 7 b_X2_spot_1 := fun K jp hj =>
    z_iconst (n := -1) (zd (i := .iconst (-1)) (n := 1) (by decide +kernel)) (by decide +kernel) <|
    z_iret (zd (i := .ireturn) (n := 1) (by decide +kernel)) rfl
noncomputable def b_X2_spot_2 : zBl := fun jp K => oAld 0 <| oGetR 2 4 <| oInt 2147483653 <| oXald 10 <| oAld 0 <| oGetR 2 4 <| oInt 2147483656 <| oXald 10 <| oIc zlt zge (jp 4) (jp 3)
theorem s_X2_spot_2 (d : Nat) : zPb l G gh (d + 4) n_X2_spot p_X2_spot 9 b_X2_spot_2 := fun K jp hj =>
    z_aload_n (n := 0) (i := 0) (zd (i := .aload_n 0) (n := 1) (by decide +kernel)) rfl <|
    z_getR (ci := 2) (j := 4) (idx := 25) (zd (i := .getfield 25) (n := 3) (by decide +kernel)) (by decide +kernel) (by decide +kernel) rfl g241 <|
    z_iconst (n := 5) (zd (i := .iconst (5)) (n := 1) (by decide +kernel)) (by decide +kernel) <|
    z_iald (zd (i := .iaload) (n := 1) (by decide +kernel)) <|
    z_aload_n (n := 0) (i := 0) (zd (i := .aload_n 0) (n := 1) (by decide +kernel)) rfl <|
    z_getR (ci := 2) (j := 4) (idx := 25) (zd (i := .getfield 25) (n := 3) (by decide +kernel)) (by decide +kernel) (by decide +kernel) rfl g241 <|
    z_bipush (n := 8) (zd (i := .bipush (8)) (n := 2) (by decide +kernel)) (by decide +kernel) <|
    z_iald (zd (i := .iaload) (n := 1) (by decide +kernel)) <|
    z_icmp_lt (off := 10) (tgt := 32) (zd (i := .if_icmp .lt (10)) (n := 3) (by decide +kernel)) (by decide +kernel) (zj (hj 4) (by decide +kernel)) (zj (hj 3) (by decide +kernel))
noncomputable def b_X2_spot_3 : zBl := fun jp K => oAld 0 <| oCv 2 0 f_X2_moved <| jp 5
theorem s_X2_spot_3 (d : Nat) : zPb l G gh (d + 4) n_X2_spot p_X2_spot 25 b_X2_spot_3 := fun K jp hj =>
    z_aload_n (n := 0) (i := 0) (zd (i := .aload_n 0) (n := 1) (by decide +kernel)) rfl <|
    z_callV (idx := 63) (ci := 2) (N := n_X2_moved) (zd (i := .invokevirtual 63) (n := 3) (by decide +kernel)) to_X2_moved g910 g813 g814 (by decide +kernel) rfl rfl rfl (c_X2_moved (l := l) (G := G) (gh := gh) (d)) <|
    z_goto (off := 8) (tgt := 37) (zd (i := .goto (8)) (n := 3) (by decide +kernel)) (by decide +kernel) (zj (hj 5) (by decide +kernel))
noncomputable def b_X2_spot_4 : zBl := fun jp K => oAld 0 <| oCv 2 0 f_X2_moved <| oU zineg <| jp 5
theorem s_X2_spot_4 (d : Nat) : zPb l G gh (d + 4) n_X2_spot p_X2_spot 32 b_X2_spot_4 := fun K jp hj =>
    z_aload_n (n := 0) (i := 0) (zd (i := .aload_n 0) (n := 1) (by decide +kernel)) rfl <|
    z_callV (idx := 63) (ci := 2) (N := n_X2_moved) (zd (i := .invokevirtual 63) (n := 3) (by decide +kernel)) to_X2_moved g910 g813 g814 (by decide +kernel) rfl rfl rfl (c_X2_moved (l := l) (G := G) (gh := gh) (d)) <|
    z_ineg (zd (i := .ineg) (n := 1) (by decide +kernel)) <|
    (zj (hj 5) (by decide +kernel))
noncomputable def b_X2_spot_5 : zBl := fun jp K => oIst 1 <| oInt 2147483648 <| oAld 0 <| oGetR 2 4 <| oInt 2147483653 <| oXald 10 <| oIld 1 <| oB2 zadd <| oInt 2147483667 <| oCs 3 f_X8_within <| oIret K
theorem s_X2_spot_5 (d : Nat) : zPb l G gh (d + 4) n_X2_spot p_X2_spot 37 b_X2_spot_5 := fun K jp hj =>
    z_istore_n (n := 1) (i := 1) (zd (i := .istore_n 1) (n := 1) (by decide +kernel)) rfl (by decide +kernel) <|
    z_iconst (n := 0) (zd (i := .iconst (0)) (n := 1) (by decide +kernel)) (by decide +kernel) <|
    z_aload_n (n := 0) (i := 0) (zd (i := .aload_n 0) (n := 1) (by decide +kernel)) rfl <|
    z_getR (ci := 2) (j := 4) (idx := 25) (zd (i := .getfield 25) (n := 3) (by decide +kernel)) (by decide +kernel) (by decide +kernel) rfl g241 <|
    z_iconst (n := 5) (zd (i := .iconst (5)) (n := 1) (by decide +kernel)) (by decide +kernel) <|
    z_iald (zd (i := .iaload) (n := 1) (by decide +kernel)) <|
    z_iload_n (n := 1) (i := 1) (zd (i := .iload_n 1) (n := 1) (by decide +kernel)) rfl <|
    z_iadd (zd (i := .iadd) (n := 1) (by decide +kernel)) <|
    z_bipush (n := 19) (zd (i := .bipush (19)) (n := 2) (by decide +kernel)) (by decide +kernel) <|
    z_callSN (idx := 50) (N := n_X8_within) (host := "MirageLoans") (zd (i := .invokestatic 50) (n := 3) (by decide +kernel)) to_X8_within (by decide +kernel) g741 rfl rfl (c_X8_within (l := l) (G := G) (gh := gh) (d + 2)) <|
    z_iret (zd (i := .ireturn) (n := 1) (by decide +kernel)) rfl
noncomputable def t_X2_spot : List zBl := [b_X2_spot_0, b_X2_spot_1, b_X2_spot_2, b_X2_spot_3, b_X2_spot_4, b_X2_spot_5]
theorem tt_X2_spot (d : Nat) : zT (zPb l G gh (d + 4) n_X2_spot p_X2_spot) t_X2_spot p_X2_spot := ⟨s_X2_spot_0 d, s_X2_spot_1 d, s_X2_spot_2 d, s_X2_spot_3 d, s_X2_spot_4 d, s_X2_spot_5 d, trivial⟩
noncomputable def f_X2_spot : zMt := zmet 2 t_X2_spot
theorem c_X2_spot (d : Nat) : zC l G gh (d + 4) n_X2_spot f_X2_spot := zmet_ok (pcs := p_X2_spot) (by decide) rfl rfl (tt_X2_spot d)
def p_X8_beginAnew : List Nat := [0, 28, 33, 46]
noncomputable def b_X8_beginAnew_0 : zBl := fun jp K => oAld 0 <| oGetR 8 2 <| oAld 0 <| oGetR 8 12 <| oCv 4 1 gs_X4_begin <| oAld 0 <| oGetR 8 4 <| oCv 3 0 f_X3_clear <| oAld 0 <| oGetR 8 7 <| oInt 2147483648 <| oPutI 7 0 <| oInt 2147483648 <| oIst 1 <| jp 1
theorem s_X8_beginAnew_0 (d : Nat) : zPb l G gh (d + 4) n_X8_beginAnew p_X8_beginAnew 0 b_X8_beginAnew_0 := fun K jp hj =>
    z_aload_n (n := 0) (i := 0) (zd (i := .aload_n 0) (n := 1) (by decide +kernel)) rfl <|
    z_getR (ci := 8) (j := 2) (idx := 26) (zd (i := .getfield 26) (n := 3) (by decide +kernel)) (by decide +kernel) (by decide +kernel) rfl g454 <|
    z_aload_n (n := 0) (i := 0) (zd (i := .aload_n 0) (n := 1) (by decide +kernel)) rfl <|
    z_getR (ci := 8) (j := 12) (idx := 71) (zd (i := .getfield 71) (n := 3) (by decide +kernel)) (by decide +kernel) (by decide +kernel) rfl g464 <|
    z_callV (idx := 107) (ci := 4) (N := n_X4_begin) (zd (i := .invokevirtual 107) (n := 3) (by decide +kernel)) to_X4_begin g684 g685 g686 (by decide +kernel) rfl rfl rfl (cs_X4_begin (l := l) (G := G) (gh := gh) (d)) <|
    z_aload_n (n := 0) (i := 0) (zd (i := .aload_n 0) (n := 1) (by decide +kernel)) rfl <|
    z_getR (ci := 8) (j := 4) (idx := 36) (zd (i := .getfield 36) (n := 3) (by decide +kernel)) (by decide +kernel) (by decide +kernel) rfl g456 <|
    z_callV (idx := 111) (ci := 3) (N := n_X3_clear) (zd (i := .invokevirtual 111) (n := 3) (by decide +kernel)) to_X3_clear g696 g697 g698 (by decide +kernel) rfl rfl rfl (c_X3_clear (l := l) (G := G) (gh := gh) (d + 2)) <|
    z_aload_n (n := 0) (i := 0) (zd (i := .aload_n 0) (n := 1) (by decide +kernel)) rfl <|
    z_getR (ci := 8) (j := 7) (idx := 51) (zd (i := .getfield 51) (n := 3) (by decide +kernel)) (by decide +kernel) (by decide +kernel) rfl g459 <|
    z_iconst (n := 0) (zd (i := .iconst (0)) (n := 1) (by decide +kernel)) (by decide +kernel) <|
    z_putI (ci := 7) (j := 0) (idx := 114) (zd (i := .putfield 114) (n := 3) (by decide +kernel)) (by decide +kernel) (by decide +kernel) rfl g430 (Or.inl rfl) <|
    z_iconst (n := 0) (zd (i := .iconst (0)) (n := 1) (by decide +kernel)) (by decide +kernel) <|
    z_istore_n (n := 1) (i := 1) (zd (i := .istore_n 1) (n := 1) (by decide +kernel)) rfl (by decide +kernel) <|
    (zj (hj 1) (by decide +kernel))
noncomputable def b_X8_beginAnew_1 : zBl := fun jp K => oNLC 1 2147483651 zgeN zltN zn1_ge zn1_lt (jp 3) (jp 2)
theorem s_X8_beginAnew_1 (d : Nat) : zPb l G gh (d + 4) n_X8_beginAnew p_X8_beginAnew 28 b_X8_beginAnew_1 := fun K jp hj =>
    z_nLC_ge (i := 1) (c0 := 2147483651) (a1 := 1) (a2 := 1) (off := 16) (tgt := 46) (zLd_n (n := 1) (i := 1) (zd (i := .iload_n 1) (n := 1) (by decide +kernel)) rfl) (zCn_c (n := 3) (zd (i := .iconst (3)) (n := 1) (by decide +kernel)) (by decide +kernel)) (zd (i := .if_icmp .ge (16)) (n := 3) (by decide +kernel)) (by decide +kernel) (zj (hj 3) (by decide +kernel)) (zj (hj 2) (by decide +kernel))
noncomputable def b_X8_beginAnew_2 : zBl := fun jp K => oAld 0 <| oGetR 8 6 <| oIld 1 <| oInt 2147483648 <| oXast 12 znz1 <| oInc 1 2147483649 <| jp 1
theorem s_X8_beginAnew_2 (d : Nat) : zPb l G gh (d + 4) n_X8_beginAnew p_X8_beginAnew 33 b_X8_beginAnew_2 := fun K jp hj =>
    z_aload_n (n := 0) (i := 0) (zd (i := .aload_n 0) (n := 1) (by decide +kernel)) rfl <|
    z_getR (ci := 8) (j := 6) (idx := 44) (zd (i := .getfield 44) (n := 3) (by decide +kernel)) (by decide +kernel) (by decide +kernel) rfl g458 <|
    z_iload_n (n := 1) (i := 1) (zd (i := .iload_n 1) (n := 1) (by decide +kernel)) rfl <|
    z_iconst (n := 0) (zd (i := .iconst (0)) (n := 1) (by decide +kernel)) (by decide +kernel) <|
    z_zast (zd (i := .bastore) (n := 1) (by decide +kernel)) <|
    z_iinc (i := 1) (n := 1) (zd (i := .iinc 1 (1)) (n := 3) (by decide +kernel)) (by decide +kernel) (by decide +kernel) <|
    z_goto (off := -15) (tgt := 28) (zd (i := .goto (-15)) (n := 3) (by decide +kernel)) (by decide +kernel) (zj (hj 1) (by decide +kernel))
noncomputable def b_X8_beginAnew_3 : zBl := fun jp K => oVret K
theorem s_X8_beginAnew_3 (d : Nat) : zPb l G gh (d + 4) n_X8_beginAnew p_X8_beginAnew 46 b_X8_beginAnew_3 := fun K jp hj =>
    z_vret (zd (i := .return_) (n := 1) (by decide +kernel)) rfl
noncomputable def t_X8_beginAnew : List zBl := [b_X8_beginAnew_0, b_X8_beginAnew_1, b_X8_beginAnew_2, b_X8_beginAnew_3]
theorem tt_X8_beginAnew (d : Nat) : zT (zPb l G gh (d + 4) n_X8_beginAnew p_X8_beginAnew) t_X8_beginAnew p_X8_beginAnew := ⟨s_X8_beginAnew_0 d, s_X8_beginAnew_1 d, s_X8_beginAnew_2 d, s_X8_beginAnew_3 d, trivial⟩
noncomputable def f_X8_beginAnew : zMt := zmet 2 t_X8_beginAnew
theorem c_X8_beginAnew (d : Nat) : zC l G gh (d + 4) n_X8_beginAnew f_X8_beginAnew := zmet_ok (pcs := p_X8_beginAnew) (by decide) rfl rfl (tt_X8_beginAnew d)
def p_X8_seatsThatSee : List Nat := [0, 20, 32, 61, 68, 74]
noncomputable def b_X8_seatsThatSee_0 : zBl := fun jp K => oAld 0 <| oGetR 8 12 <| oAld 0 <| oGetR 8 2 <| oGetI 4 0 <| oCv 0 1 f_X0_heat <| oIst 2 <| oInt 2147483648 <| oIst 3 <| oInt 2147483648 <| oIst 4 <| jp 1
theorem s_X8_seatsThatSee_0 (d : Nat) : zPb l G gh (d + 5) n_X8_seatsThatSee p_X8_seatsThatSee 0 b_X8_seatsThatSee_0 := fun K jp hj =>
    z_aload_n (n := 0) (i := 0) (zd (i := .aload_n 0) (n := 1) (by decide +kernel)) rfl <|
    z_getR (ci := 8) (j := 12) (idx := 71) (zd (i := .getfield 71) (n := 3) (by decide +kernel)) (by decide +kernel) (by decide +kernel) rfl g464 <|
    z_aload_n (n := 0) (i := 0) (zd (i := .aload_n 0) (n := 1) (by decide +kernel)) rfl <|
    z_getR (ci := 8) (j := 2) (idx := 26) (zd (i := .getfield 26) (n := 3) (by decide +kernel)) (by decide +kernel) (by decide +kernel) rfl g454 <|
    z_getI (ci := 4) (j := 0) (idx := 140) (zd (i := .getfield 140) (n := 3) (by decide +kernel)) (by decide +kernel) (by decide +kernel) rfl g368 <|
    z_callV (idx := 143) (ci := 0) (N := n_X0_heat) (zd (i := .invokevirtual 143) (n := 3) (by decide +kernel)) to_X0_heat g716 g717 g718 (by decide +kernel) rfl rfl rfl (c_X0_heat (l := l) (G := G) (gh := gh) (d)) <|
    z_istore_n (n := 2) (i := 2) (zd (i := .istore_n 2) (n := 1) (by decide +kernel)) rfl (by decide +kernel) <|
    z_iconst (n := 0) (zd (i := .iconst (0)) (n := 1) (by decide +kernel)) (by decide +kernel) <|
    z_istore_n (n := 3) (i := 3) (zd (i := .istore_n 3) (n := 1) (by decide +kernel)) rfl (by decide +kernel) <|
    z_iconst (n := 0) (zd (i := .iconst (0)) (n := 1) (by decide +kernel)) (by decide +kernel) <|
    z_istore (i := 4) (zd (i := .istore 4) (n := 2) (by decide +kernel)) (by decide +kernel) <|
    (zj (hj 1) (by decide +kernel))
noncomputable def b_X8_seatsThatSee_1 : zBl := fun jp K => oIld 4 <| oAld 0 <| oGetR 8 12 <| oGetI 0 5 <| oIc zge zlt (jp 5) (jp 2)
theorem s_X8_seatsThatSee_1 (d : Nat) : zPb l G gh (d + 5) n_X8_seatsThatSee p_X8_seatsThatSee 20 b_X8_seatsThatSee_1 := fun K jp hj =>
    z_iload (i := 4) (zd (i := .iload 4) (n := 2) (by decide +kernel)) <|
    z_aload_n (n := 0) (i := 0) (zd (i := .aload_n 0) (n := 1) (by decide +kernel)) rfl <|
    z_getR (ci := 8) (j := 12) (idx := 71) (zd (i := .getfield 71) (n := 3) (by decide +kernel)) (by decide +kernel) (by decide +kernel) rfl g464 <|
    z_getI (ci := 0) (j := 5) (idx := 230) (zd (i := .getfield 230) (n := 3) (by decide +kernel)) (by decide +kernel) (by decide +kernel) rfl g288 <|
    z_icmp_ge (off := 45) (tgt := 74) (zd (i := .if_icmp .ge (45)) (n := 3) (by decide +kernel)) (by decide +kernel) (zj (hj 5) (by decide +kernel)) (zj (hj 2) (by decide +kernel))
noncomputable def b_X8_seatsThatSee_2 : zBl := fun jp K => oAld 0 <| oGetR 8 12 <| oAld 0 <| oGetR 8 2 <| oGetR 4 1 <| oIld 4 <| oXald 10 <| oIld 1 <| oAld 0 <| oGetR 8 2 <| oGetI 4 0 <| oIld 2 <| oCv 0 4 gs_X0_isSeenFrom <| oIf zeq zne (jp 4) (jp 3)
theorem s_X8_seatsThatSee_2 (d : Nat) : zPb l G gh (d + 5) n_X8_seatsThatSee p_X8_seatsThatSee 32 b_X8_seatsThatSee_2 := fun K jp hj =>
    z_aload_n (n := 0) (i := 0) (zd (i := .aload_n 0) (n := 1) (by decide +kernel)) rfl <|
    z_getR (ci := 8) (j := 12) (idx := 71) (zd (i := .getfield 71) (n := 3) (by decide +kernel)) (by decide +kernel) (by decide +kernel) rfl g464 <|
    z_aload_n (n := 0) (i := 0) (zd (i := .aload_n 0) (n := 1) (by decide +kernel)) rfl <|
    z_getR (ci := 8) (j := 2) (idx := 26) (zd (i := .getfield 26) (n := 3) (by decide +kernel)) (by decide +kernel) (by decide +kernel) rfl g454 <|
    z_getR (ci := 4) (j := 1) (idx := 134) (zd (i := .getfield 134) (n := 3) (by decide +kernel)) (by decide +kernel) (by decide +kernel) rfl g371 <|
    z_iload (i := 4) (zd (i := .iload 4) (n := 2) (by decide +kernel)) <|
    z_iald (zd (i := .iaload) (n := 1) (by decide +kernel)) <|
    z_iload_n (n := 1) (i := 1) (zd (i := .iload_n 1) (n := 1) (by decide +kernel)) rfl <|
    z_aload_n (n := 0) (i := 0) (zd (i := .aload_n 0) (n := 1) (by decide +kernel)) rfl <|
    z_getR (ci := 8) (j := 2) (idx := 26) (zd (i := .getfield 26) (n := 3) (by decide +kernel)) (by decide +kernel) (by decide +kernel) rfl g454 <|
    z_getI (ci := 4) (j := 0) (idx := 140) (zd (i := .getfield 140) (n := 3) (by decide +kernel)) (by decide +kernel) (by decide +kernel) rfl g368 <|
    z_iload_n (n := 2) (i := 2) (zd (i := .iload_n 2) (n := 1) (by decide +kernel)) rfl <|
    z_callV (idx := 239) (ci := 0) (N := n_X0_isSeenFrom) (zd (i := .invokevirtual 239) (n := 3) (by decide +kernel)) to_X0_isSeenFrom g745 g746 g747 (by decide +kernel) rfl rfl rfl (cs_X0_isSeenFrom (l := l) (G := G) (gh := gh) (d)) <|
    z_if_eq (off := 10) (tgt := 68) (zd (i := .ifCond .eq (10)) (n := 3) (by decide +kernel)) (by decide +kernel) (zj (hj 4) (by decide +kernel)) (zj (hj 3) (by decide +kernel))
noncomputable def b_X8_seatsThatSee_3 : zBl := fun jp K => oIld 3 <| oInt 2147483649 <| oIld 4 <| oB2 zishl <| oB2 zior <| oIst 3 <| jp 4
theorem s_X8_seatsThatSee_3 (d : Nat) : zPb l G gh (d + 5) n_X8_seatsThatSee p_X8_seatsThatSee 61 b_X8_seatsThatSee_3 := fun K jp hj =>
    z_iload_n (n := 3) (i := 3) (zd (i := .iload_n 3) (n := 1) (by decide +kernel)) rfl <|
    z_iconst (n := 1) (zd (i := .iconst (1)) (n := 1) (by decide +kernel)) (by decide +kernel) <|
    z_iload (i := 4) (zd (i := .iload 4) (n := 2) (by decide +kernel)) <|
    z_ishl (zd (i := .ishl) (n := 1) (by decide +kernel)) <|
    z_ior (zd (i := .ior) (n := 1) (by decide +kernel)) <|
    z_istore_n (n := 3) (i := 3) (zd (i := .istore_n 3) (n := 1) (by decide +kernel)) rfl (by decide +kernel) <|
    (zj (hj 4) (by decide +kernel))
noncomputable def b_X8_seatsThatSee_4 : zBl := fun jp K => oInc 4 2147483649 <| jp 1
theorem s_X8_seatsThatSee_4 (d : Nat) : zPb l G gh (d + 5) n_X8_seatsThatSee p_X8_seatsThatSee 68 b_X8_seatsThatSee_4 := fun K jp hj =>
    z_iinc (i := 4) (n := 1) (zd (i := .iinc 4 (1)) (n := 3) (by decide +kernel)) (by decide +kernel) (by decide +kernel) <|
    z_goto (off := -51) (tgt := 20) (zd (i := .goto (-51)) (n := 3) (by decide +kernel)) (by decide +kernel) (zj (hj 1) (by decide +kernel))
noncomputable def b_X8_seatsThatSee_5 : zBl := fun jp K => oIld 3 <| oIret K
theorem s_X8_seatsThatSee_5 (d : Nat) : zPb l G gh (d + 5) n_X8_seatsThatSee p_X8_seatsThatSee 74 b_X8_seatsThatSee_5 := fun K jp hj =>
    z_iload_n (n := 3) (i := 3) (zd (i := .iload_n 3) (n := 1) (by decide +kernel)) rfl <|
    z_iret (zd (i := .ireturn) (n := 1) (by decide +kernel)) rfl
noncomputable def t_X8_seatsThatSee : List zBl := [b_X8_seatsThatSee_0, b_X8_seatsThatSee_1, b_X8_seatsThatSee_2, b_X8_seatsThatSee_3, b_X8_seatsThatSee_4, b_X8_seatsThatSee_5]
theorem tt_X8_seatsThatSee (d : Nat) : zT (zPb l G gh (d + 5) n_X8_seatsThatSee p_X8_seatsThatSee) t_X8_seatsThatSee p_X8_seatsThatSee := ⟨s_X8_seatsThatSee_0 d, s_X8_seatsThatSee_1 d, s_X8_seatsThatSee_2 d, s_X8_seatsThatSee_3 d, s_X8_seatsThatSee_4 d, s_X8_seatsThatSee_5 d, trivial⟩
def q_X8_seatsThatSee_0 : List (Nat × Nat) := [(0, zk0), (21, zk10), (22, zk12), (259, zk20), (261, zk12), (262, zk12), (265, zk2), (266, zk18), (267, zk18), (268, zk19), (269, zk3), (270, zk7)]
noncomputable def al_X8_seatsThatSee_0 : zAq := [(some (.inl 9223372043297226815), [(0, zk0), (21, zk10), (22, zk12), (259, zk20), (261, zk12), (262, zk12), (265, zk2), (266, zk18), (267, zk18), (268, zk19), (269, zk4), (270, zk9)])]
def mq_X8_seatsThatSee_0_1 : List (Nat × Nat) := [(0, zk0), (21, zk10), (22, zk12), (259, zk20), (261, zk12), (262, zk12), (265, zk2), (266, zk18), (267, zk18), (268, zk19), (269, zk4), (270, zk9)]
noncomputable def fm_X8_seatsThatSee_0 : List zFm := [(0, [], (fun vs => [.inr (.ref 0), .inl 9223372043297226757]), (fun vs => zP q_X8_seatsThatSee_0), (fun vs => Nat.sub (Nat.add 7 0) 0)),
  (1, [(4, 2147483648, 2147483654)], (fun vs => [.inr (.ref 0), .inl 9223372043297226757, .inl 9223372043297226851, .inl 9223372043297226815, .inl (zn 0 vs 0)]), (fun vs => zP mq_X8_seatsThatSee_0_1), (fun vs => Nat.sub (Nat.add 2147483654 0) (Nat.add 0 (Nat.mul 1 (zn 0 vs 0)))))]
def bf_X8_seatsThatSee_0 : List Nat := [0, 2]
theorem r_X8_seatsThatSee_0_0 : zbox [] (fun vs => zFrun (zpost (zAlq al_X8_seatsThatSee_0)) 1000 t_X8_seatsThatSee fm_X8_seatsThatSee_0 bf_X8_seatsThatSee_0 (0, vs)) = true := by decide +kernel
theorem r_X8_seatsThatSee_0_1 : zbox [(4, 2147483648, 2147483654)] (fun vs => zFrun (zpost (zAlq al_X8_seatsThatSee_0)) 1000 t_X8_seatsThatSee fm_X8_seatsThatSee_0 bf_X8_seatsThatSee_0 (1, vs)) = true := by decide +kernel
set_option maxRecDepth 100000 in
theorem x_X8_seatsThatSee_0 (d : Nat) : zS l G gh (d + 5) (zpost (zAlq al_X8_seatsThatSee_0)) n_X8_seatsThatSee (zn 0 p_X8_seatsThatSee 0) (zwc (0, [.inr (.ref 0), .inl 9223372043297226757], zP q_X8_seatsThatSee_0) 0) := zentry (tt_X8_seatsThatSee d) fm_X8_seatsThatSee_0 bf_X8_seatsThatSee_0 1000 (by decide +kernel) rfl ⟨Nat.zero_lt_succ _, trivial⟩ (fun f hf => match f, hf with
  | 0, _ => fun vs hv => (zbox_t r_X8_seatsThatSee_0_0) vs hv
  | 1, _ => fun vs hv => (zbox_t r_X8_seatsThatSee_0_1) vs hv
  | f + 2, h => absurd (show f + 2 < 2 from h) (Nat.not_lt.mpr (Nat.le_add_left 2 f)))
noncomputable def gs_X8_seatsThatSee_0 : zMt := zgq false [] 5 [.inr (.ref 0), .inl 9223372043297226757] q_X8_seatsThatSee_0 al_X8_seatsThatSee_0
set_option maxRecDepth 100000 in
theorem cs_X8_seatsThatSee_0 (d : Nat) : zC l G gh (d + 5) n_X8_seatsThatSee gs_X8_seatsThatSee_0 := zgq_ok0 (pcs := p_X8_seatsThatSee) (by decide) rfl rfl (fun a ha => by simp only [al_X8_seatsThatSee_0, List.mem_cons, List.not_mem_nil, or_false] at ha; rcases ha with rfl <;> decide +kernel) (fun gh => x_X8_seatsThatSee_0 d) (by decide +kernel)
def q_X8_seatsThatSee_1 : List (Nat × Nat) := [(0, zk1), (9, zk21), (11, zk12), (12, zk12), (15, zk5), (16, zk18), (17, zk18), (18, zk19), (19, zk3), (20, zk7), (21, zk10), (22, zk12)]
noncomputable def al_X8_seatsThatSee_1 : zAq := [(some (.inl 9223372043297226815), [(0, zk1), (9, zk21), (11, zk12), (12, zk12), (15, zk5), (16, zk18), (17, zk18), (18, zk19), (19, zk4), (20, zk9), (21, zk10), (22, zk12)])]
def mq_X8_seatsThatSee_1_1 : List (Nat × Nat) := [(0, zk1), (9, zk21), (11, zk12), (12, zk12), (15, zk5), (16, zk18), (17, zk18), (18, zk19), (19, zk4), (20, zk9), (21, zk10), (22, zk12)]
noncomputable def fm_X8_seatsThatSee_1 : List zFm := [(0, [], (fun vs => [.inr (.ref 0), .inl 9223372043297226757]), (fun vs => zP q_X8_seatsThatSee_1), (fun vs => Nat.sub (Nat.add 7 0) 0)),
  (1, [(4, 2147483648, 2147483654)], (fun vs => [.inr (.ref 0), .inl 9223372043297226757, .inl 9223372043297226851, .inl 9223372043297226815, .inl (zn 0 vs 0)]), (fun vs => zP mq_X8_seatsThatSee_1_1), (fun vs => Nat.sub (Nat.add 2147483654 0) (Nat.add 0 (Nat.mul 1 (zn 0 vs 0)))))]
def bf_X8_seatsThatSee_1 : List Nat := [0, 2]
theorem r_X8_seatsThatSee_1_0 : zbox [] (fun vs => zFrun (zpost (zAlq al_X8_seatsThatSee_1)) 1000 t_X8_seatsThatSee fm_X8_seatsThatSee_1 bf_X8_seatsThatSee_1 (0, vs)) = true := by decide +kernel
theorem r_X8_seatsThatSee_1_1 : zbox [(4, 2147483648, 2147483654)] (fun vs => zFrun (zpost (zAlq al_X8_seatsThatSee_1)) 1000 t_X8_seatsThatSee fm_X8_seatsThatSee_1 bf_X8_seatsThatSee_1 (1, vs)) = true := by decide +kernel
set_option maxRecDepth 100000 in
theorem x_X8_seatsThatSee_1 (d : Nat) : zS l G gh (d + 5) (zpost (zAlq al_X8_seatsThatSee_1)) n_X8_seatsThatSee (zn 0 p_X8_seatsThatSee 0) (zwc (0, [.inr (.ref 0), .inl 9223372043297226757], zP q_X8_seatsThatSee_1) 0) := zentry (tt_X8_seatsThatSee d) fm_X8_seatsThatSee_1 bf_X8_seatsThatSee_1 1000 (by decide +kernel) rfl ⟨Nat.zero_lt_succ _, trivial⟩ (fun f hf => match f, hf with
  | 0, _ => fun vs hv => (zbox_t r_X8_seatsThatSee_1_0) vs hv
  | 1, _ => fun vs hv => (zbox_t r_X8_seatsThatSee_1_1) vs hv
  | f + 2, h => absurd (show f + 2 < 2 from h) (Nat.not_lt.mpr (Nat.le_add_left 2 f)))
noncomputable def gs_X8_seatsThatSee_1 : zMt := zgq false [] 5 [.inr (.ref 0), .inl 9223372043297226757] q_X8_seatsThatSee_1 al_X8_seatsThatSee_1
set_option maxRecDepth 100000 in
theorem cs_X8_seatsThatSee_1 (d : Nat) : zC l G gh (d + 5) n_X8_seatsThatSee gs_X8_seatsThatSee_1 := zgq_ok0 (pcs := p_X8_seatsThatSee) (by decide) rfl rfl (fun a ha => by simp only [al_X8_seatsThatSee_1, List.mem_cons, List.not_mem_nil, or_false] at ha; rcases ha with rfl <;> decide +kernel) (fun gh => x_X8_seatsThatSee_1 d) (by decide +kernel)
noncomputable def gs_X8_seatsThatSee : zMt := (zor gs_X8_seatsThatSee_0 gs_X8_seatsThatSee_1)
theorem cs_X8_seatsThatSee (d : Nat) : zC l G gh (d + 5) n_X8_seatsThatSee gs_X8_seatsThatSee := (zor_ok (cs_X8_seatsThatSee_0 d) (cs_X8_seatsThatSee_1 d))
def p_X0_thingsSeenFrom : List Nat := [0, 6, 15, 27, 36, 42]
noncomputable def b_X0_thingsSeenFrom_0 : zBl := fun jp K => oInt 2147483648 <| oIst 4 <| oInt 2147483648 <| oIst 5 <| jp 1
theorem s_X0_thingsSeenFrom_0 (d : Nat) : zPb l G gh (d + 5) n_X0_thingsSeenFrom p_X0_thingsSeenFrom 0 b_X0_thingsSeenFrom_0 := fun K jp hj =>
    z_iconst (n := 0) (zd (i := .iconst (0)) (n := 1) (by decide +kernel)) (by decide +kernel) <|
    z_istore (i := 4) (zd (i := .istore 4) (n := 2) (by decide +kernel)) (by decide +kernel) <|
    z_iconst (n := 0) (zd (i := .iconst (0)) (n := 1) (by decide +kernel)) (by decide +kernel) <|
    z_istore (i := 5) (zd (i := .istore 5) (n := 2) (by decide +kernel)) (by decide +kernel) <|
    (zj (hj 1) (by decide +kernel))
noncomputable def b_X0_thingsSeenFrom_1 : zBl := fun jp K => oNLF 5 0 0 2 zgeN zltN zn1_ge zn1_lt (jp 5) (jp 2)
theorem s_X0_thingsSeenFrom_1 (d : Nat) : zPb l G gh (d + 5) n_X0_thingsSeenFrom p_X0_thingsSeenFrom 6 b_X0_thingsSeenFrom_1 := fun K jp hj =>
    z_nLF_ge (i := 5) (r := 0) (ci := 0) (j := 2) (a1 := 2) (a2 := 4) (off := 30) (tgt := 42) (zLd_w (i := 5) (zd (i := .iload 5) (n := 2) (by decide +kernel))) (zFd_n (n := 0) (r := 0) (ci := 0) (j := 2) (idx := 19) (zd (i := .aload_n 0) (n := 1) (by decide +kernel)) rfl (zd (i := .getfield 19) (n := 3) (by decide +kernel)) (by decide +kernel) (by decide +kernel) rfl g278) (by decide +kernel) rfl (zd (i := .if_icmp .ge (30)) (n := 3) (by decide +kernel)) (by decide +kernel) (zj (hj 5) (by decide +kernel)) (zj (hj 2) (by decide +kernel))
noncomputable def b_X0_thingsSeenFrom_2 : zBl := fun jp K => oAld 0 <| oIld 1 <| oIld 5 <| oIld 2 <| oIld 3 <| oCv 0 4 gs_X0_isSeenFrom <| oIf zeq zne (jp 4) (jp 3)
theorem s_X0_thingsSeenFrom_2 (d : Nat) : zPb l G gh (d + 5) n_X0_thingsSeenFrom p_X0_thingsSeenFrom 15 b_X0_thingsSeenFrom_2 := fun K jp hj =>
    z_aload_n (n := 0) (i := 0) (zd (i := .aload_n 0) (n := 1) (by decide +kernel)) rfl <|
    z_iload_n (n := 1) (i := 1) (zd (i := .iload_n 1) (n := 1) (by decide +kernel)) rfl <|
    z_iload (i := 5) (zd (i := .iload 5) (n := 2) (by decide +kernel)) <|
    z_iload_n (n := 2) (i := 2) (zd (i := .iload_n 2) (n := 1) (by decide +kernel)) rfl <|
    z_iload_n (n := 3) (i := 3) (zd (i := .iload_n 3) (n := 1) (by decide +kernel)) rfl <|
    z_callV (idx := 83) (ci := 0) (N := n_X0_isSeenFrom) (zd (i := .invokevirtual 83) (n := 3) (by decide +kernel)) to_X0_isSeenFrom g783 g746 g747 (by decide +kernel) rfl rfl rfl (cs_X0_isSeenFrom (l := l) (G := G) (gh := gh) (d)) <|
    z_if_eq (off := 12) (tgt := 36) (zd (i := .ifCond .eq (12)) (n := 3) (by decide +kernel)) (by decide +kernel) (zj (hj 4) (by decide +kernel)) (zj (hj 3) (by decide +kernel))
noncomputable def b_X0_thingsSeenFrom_3 : zBl := fun jp K => oIld 4 <| oInt 2147483649 <| oIld 5 <| oB2 zishl <| oB2 zior <| oIst 4 <| jp 4
theorem s_X0_thingsSeenFrom_3 (d : Nat) : zPb l G gh (d + 5) n_X0_thingsSeenFrom p_X0_thingsSeenFrom 27 b_X0_thingsSeenFrom_3 := fun K jp hj =>
    z_iload (i := 4) (zd (i := .iload 4) (n := 2) (by decide +kernel)) <|
    z_iconst (n := 1) (zd (i := .iconst (1)) (n := 1) (by decide +kernel)) (by decide +kernel) <|
    z_iload (i := 5) (zd (i := .iload 5) (n := 2) (by decide +kernel)) <|
    z_ishl (zd (i := .ishl) (n := 1) (by decide +kernel)) <|
    z_ior (zd (i := .ior) (n := 1) (by decide +kernel)) <|
    z_istore (i := 4) (zd (i := .istore 4) (n := 2) (by decide +kernel)) (by decide +kernel) <|
    (zj (hj 4) (by decide +kernel))
noncomputable def b_X0_thingsSeenFrom_4 : zBl := fun jp K => oInc 5 2147483649 <| jp 1
theorem s_X0_thingsSeenFrom_4 (d : Nat) : zPb l G gh (d + 5) n_X0_thingsSeenFrom p_X0_thingsSeenFrom 36 b_X0_thingsSeenFrom_4 := fun K jp hj =>
    z_iinc (i := 5) (n := 1) (zd (i := .iinc 5 (1)) (n := 3) (by decide +kernel)) (by decide +kernel) (by decide +kernel) <|
    z_goto (off := -33) (tgt := 6) (zd (i := .goto (-33)) (n := 3) (by decide +kernel)) (by decide +kernel) (zj (hj 1) (by decide +kernel))
noncomputable def b_X0_thingsSeenFrom_5 : zBl := fun jp K => oIld 4 <| oIret K
theorem s_X0_thingsSeenFrom_5 (d : Nat) : zPb l G gh (d + 5) n_X0_thingsSeenFrom p_X0_thingsSeenFrom 42 b_X0_thingsSeenFrom_5 := fun K jp hj =>
    z_iload (i := 4) (zd (i := .iload 4) (n := 2) (by decide +kernel)) <|
    z_iret (zd (i := .ireturn) (n := 1) (by decide +kernel)) rfl
noncomputable def t_X0_thingsSeenFrom : List zBl := [b_X0_thingsSeenFrom_0, b_X0_thingsSeenFrom_1, b_X0_thingsSeenFrom_2, b_X0_thingsSeenFrom_3, b_X0_thingsSeenFrom_4, b_X0_thingsSeenFrom_5]
theorem tt_X0_thingsSeenFrom (d : Nat) : zT (zPb l G gh (d + 5) n_X0_thingsSeenFrom p_X0_thingsSeenFrom) t_X0_thingsSeenFrom p_X0_thingsSeenFrom := ⟨s_X0_thingsSeenFrom_0 d, s_X0_thingsSeenFrom_1 d, s_X0_thingsSeenFrom_2 d, s_X0_thingsSeenFrom_3 d, s_X0_thingsSeenFrom_4 d, s_X0_thingsSeenFrom_5 d, trivial⟩
def q_X0_thingsSeenFrom_0 : List (Nat × Nat) := [(259, zk20), (261, zk12), (262, zk12), (265, zk2), (266, zk18), (267, zk18), (268, zk19), (269, zk3), (270, zk7)]
noncomputable def al_X0_thingsSeenFrom_0 : zAq := [(some (.inl 9223372043297226815), [(259, zk20), (261, zk12), (262, zk12), (265, zk2), (266, zk18), (267, zk18), (268, zk19), (269, zk4), (270, zk9)])]
def mq_X0_thingsSeenFrom_0_1 : List (Nat × Nat) := [(259, zk20), (261, zk12), (262, zk12), (265, zk2), (266, zk18), (267, zk18), (268, zk19), (269, zk4), (270, zk9)]
noncomputable def fm_X0_thingsSeenFrom_0 : List zFm := [(0, [], (fun vs => [.inr (.ref 259), .inl 8589934591, .inl 8589934591, .inl 8589934591]), (fun vs => zP q_X0_thingsSeenFrom_0), (fun vs => Nat.sub (Nat.add 7 0) 0)),
  (1, [(5, 2147483648, 2147483654)], (fun vs => [.inr (.ref 259), .inl 8589934591, .inl 8589934591, .inl 8589934591, .inl 9223372043297226815, .inl (zn 0 vs 0)]), (fun vs => zP mq_X0_thingsSeenFrom_0_1), (fun vs => Nat.sub (Nat.add 2147483654 0) (Nat.add 0 (Nat.mul 1 (zn 0 vs 0)))))]
def bf_X0_thingsSeenFrom_0 : List Nat := [0, 2]
theorem r_X0_thingsSeenFrom_0_0 : zbox [] (fun vs => zFrun (zpost (zAlq al_X0_thingsSeenFrom_0)) 1000 t_X0_thingsSeenFrom fm_X0_thingsSeenFrom_0 bf_X0_thingsSeenFrom_0 (0, vs)) = true := by decide +kernel
theorem r_X0_thingsSeenFrom_0_1 : zbox [(5, 2147483648, 2147483654)] (fun vs => zFrun (zpost (zAlq al_X0_thingsSeenFrom_0)) 1000 t_X0_thingsSeenFrom fm_X0_thingsSeenFrom_0 bf_X0_thingsSeenFrom_0 (1, vs)) = true := by decide +kernel
set_option maxRecDepth 100000 in
theorem x_X0_thingsSeenFrom_0 (d : Nat) : zS l G gh (d + 5) (zpost (zAlq al_X0_thingsSeenFrom_0)) n_X0_thingsSeenFrom (zn 0 p_X0_thingsSeenFrom 0) (zwc (0, [.inr (.ref 259), .inl 8589934591, .inl 8589934591, .inl 8589934591], zP q_X0_thingsSeenFrom_0) 0) := zentry (tt_X0_thingsSeenFrom d) fm_X0_thingsSeenFrom_0 bf_X0_thingsSeenFrom_0 1000 (by decide +kernel) rfl ⟨Nat.zero_lt_succ _, trivial⟩ (fun f hf => match f, hf with
  | 0, _ => fun vs hv => (zbox_t r_X0_thingsSeenFrom_0_0) vs hv
  | 1, _ => fun vs hv => (zbox_t r_X0_thingsSeenFrom_0_1) vs hv
  | f + 2, h => absurd (show f + 2 < 2 from h) (Nat.not_lt.mpr (Nat.le_add_left 2 f)))
noncomputable def gs_X0_thingsSeenFrom_0 : zMt := zgq false [] 6 [.inr (.ref 259), .inl 8589934591, .inl 8589934591, .inl 8589934591] q_X0_thingsSeenFrom_0 al_X0_thingsSeenFrom_0
set_option maxRecDepth 100000 in
theorem cs_X0_thingsSeenFrom_0 (d : Nat) : zC l G gh (d + 5) n_X0_thingsSeenFrom gs_X0_thingsSeenFrom_0 := zgq_ok0 (pcs := p_X0_thingsSeenFrom) (by decide) rfl rfl (fun a ha => by simp only [al_X0_thingsSeenFrom_0, List.mem_cons, List.not_mem_nil, or_false] at ha; rcases ha with rfl <;> decide +kernel) (fun gh => x_X0_thingsSeenFrom_0 d) (by decide +kernel)
def q_X0_thingsSeenFrom_1 : List (Nat × Nat) := [(9, zk21), (11, zk12), (12, zk12), (15, zk5), (16, zk18), (17, zk18), (18, zk19), (19, zk3), (20, zk7)]
noncomputable def al_X0_thingsSeenFrom_1 : zAq := [(some (.inl 9223372043297226815), [(9, zk21), (11, zk12), (12, zk12), (15, zk5), (16, zk18), (17, zk18), (18, zk19), (19, zk4), (20, zk9)])]
def mq_X0_thingsSeenFrom_1_1 : List (Nat × Nat) := [(9, zk21), (11, zk12), (12, zk12), (15, zk5), (16, zk18), (17, zk18), (18, zk19), (19, zk4), (20, zk9)]
noncomputable def fm_X0_thingsSeenFrom_1 : List zFm := [(0, [], (fun vs => [.inr (.ref 9), .inl 8589934591, .inl 8589934591, .inl 8589934591]), (fun vs => zP q_X0_thingsSeenFrom_1), (fun vs => Nat.sub (Nat.add 7 0) 0)),
  (1, [(5, 2147483648, 2147483654)], (fun vs => [.inr (.ref 9), .inl 8589934591, .inl 8589934591, .inl 8589934591, .inl 9223372043297226815, .inl (zn 0 vs 0)]), (fun vs => zP mq_X0_thingsSeenFrom_1_1), (fun vs => Nat.sub (Nat.add 2147483654 0) (Nat.add 0 (Nat.mul 1 (zn 0 vs 0)))))]
def bf_X0_thingsSeenFrom_1 : List Nat := [0, 2]
theorem r_X0_thingsSeenFrom_1_0 : zbox [] (fun vs => zFrun (zpost (zAlq al_X0_thingsSeenFrom_1)) 1000 t_X0_thingsSeenFrom fm_X0_thingsSeenFrom_1 bf_X0_thingsSeenFrom_1 (0, vs)) = true := by decide +kernel
theorem r_X0_thingsSeenFrom_1_1 : zbox [(5, 2147483648, 2147483654)] (fun vs => zFrun (zpost (zAlq al_X0_thingsSeenFrom_1)) 1000 t_X0_thingsSeenFrom fm_X0_thingsSeenFrom_1 bf_X0_thingsSeenFrom_1 (1, vs)) = true := by decide +kernel
set_option maxRecDepth 100000 in
theorem x_X0_thingsSeenFrom_1 (d : Nat) : zS l G gh (d + 5) (zpost (zAlq al_X0_thingsSeenFrom_1)) n_X0_thingsSeenFrom (zn 0 p_X0_thingsSeenFrom 0) (zwc (0, [.inr (.ref 9), .inl 8589934591, .inl 8589934591, .inl 8589934591], zP q_X0_thingsSeenFrom_1) 0) := zentry (tt_X0_thingsSeenFrom d) fm_X0_thingsSeenFrom_1 bf_X0_thingsSeenFrom_1 1000 (by decide +kernel) rfl ⟨Nat.zero_lt_succ _, trivial⟩ (fun f hf => match f, hf with
  | 0, _ => fun vs hv => (zbox_t r_X0_thingsSeenFrom_1_0) vs hv
  | 1, _ => fun vs hv => (zbox_t r_X0_thingsSeenFrom_1_1) vs hv
  | f + 2, h => absurd (show f + 2 < 2 from h) (Nat.not_lt.mpr (Nat.le_add_left 2 f)))
noncomputable def gs_X0_thingsSeenFrom_1 : zMt := zgq false [] 6 [.inr (.ref 9), .inl 8589934591, .inl 8589934591, .inl 8589934591] q_X0_thingsSeenFrom_1 al_X0_thingsSeenFrom_1
set_option maxRecDepth 100000 in
theorem cs_X0_thingsSeenFrom_1 (d : Nat) : zC l G gh (d + 5) n_X0_thingsSeenFrom gs_X0_thingsSeenFrom_1 := zgq_ok0 (pcs := p_X0_thingsSeenFrom) (by decide) rfl rfl (fun a ha => by simp only [al_X0_thingsSeenFrom_1, List.mem_cons, List.not_mem_nil, or_false] at ha; rcases ha with rfl <;> decide +kernel) (fun gh => x_X0_thingsSeenFrom_1 d) (by decide +kernel)
noncomputable def gs_X0_thingsSeenFrom : zMt := (zor gs_X0_thingsSeenFrom_0 gs_X0_thingsSeenFrom_1)
theorem cs_X0_thingsSeenFrom (d : Nat) : zC l G gh (d + 5) n_X0_thingsSeenFrom gs_X0_thingsSeenFrom := (zor_ok (cs_X0_thingsSeenFrom_0 d) (cs_X0_thingsSeenFrom_1 d))
def p_X8_tells : List Nat := [0, 5, 10, 14, 15, 22, 27, 31, 32, 39, 46, 54, 59, 64, 72, 75, 124, 127, 146, 167, 189]
noncomputable def b_X8_tells_0 : zBl := fun jp K => oNLC 1 2147483649 zeqN zneN zn1_eq zn1_ne (jp 2) (jp 1)
theorem s_X8_tells_0 (d : Nat) : zPb l G gh (d + 5) n_X8_tells p_X8_tells 0 b_X8_tells_0 := fun K jp hj =>
    z_nLC_eq (i := 1) (c0 := 2147483649) (a1 := 1) (a2 := 1) (off := 8) (tgt := 10) (zLd_n (n := 1) (i := 1) (zd (i := .iload_n 1) (n := 1) (by decide +kernel)) rfl) (zCn_c (n := 1) (zd (i := .iconst (1)) (n := 1) (by decide +kernel)) (by decide +kernel)) (zd (i := .if_icmp .eq (8)) (n := 3) (by decide +kernel)) (by decide +kernel) (zj (hj 2) (by decide +kernel)) (zj (hj 1) (by decide +kernel))
noncomputable def b_X8_tells_1 : zBl := fun jp K => oNLC 1 2147483650 zneN zeqN zn1_ne zn1_eq (jp 3) (jp 2)
theorem s_X8_tells_1 (d : Nat) : zPb l G gh (d + 5) n_X8_tells p_X8_tells 5 b_X8_tells_1 := fun K jp hj =>
    z_nLC_ne (i := 1) (c0 := 2147483650) (a1 := 1) (a2 := 1) (off := 7) (tgt := 14) (zLd_n (n := 1) (i := 1) (zd (i := .iload_n 1) (n := 1) (by decide +kernel)) rfl) (zCn_c (n := 2) (zd (i := .iconst (2)) (n := 1) (by decide +kernel)) (by decide +kernel)) (zd (i := .if_icmp .ne (7)) (n := 3) (by decide +kernel)) (by decide +kernel) (zj (hj 3) (by decide +kernel)) (zj (hj 2) (by decide +kernel))
noncomputable def b_X8_tells_2 : zBl := fun jp K => oInt 2147483649 <| jp 4
theorem s_X8_tells_2 (d : Nat) : zPb l G gh (d + 5) n_X8_tells p_X8_tells 10 b_X8_tells_2 := fun K jp hj =>
    z_iconst (n := 1) (zd (i := .iconst (1)) (n := 1) (by decide +kernel)) (by decide +kernel) <|
    z_goto (off := 4) (tgt := 15) (zd (i := .goto (4)) (n := 3) (by decide +kernel)) (by decide +kernel) (zj (hj 4) (by decide +kernel))
noncomputable def b_X8_tells_3 : zBl := fun jp K => oInt 2147483648 <| jp 4
theorem s_X8_tells_3 (d : Nat) : zPb l G gh (d + 5) n_X8_tells p_X8_tells 14 b_X8_tells_3 := fun K jp hj =>
    z_iconst (n := 0) (zd (i := .iconst (0)) (n := 1) (by decide +kernel)) (by decide +kernel) <|
    (zj (hj 4) (by decide +kernel))
noncomputable def b_X8_tells_4 : zBl := fun jp K => oIst 5 <| oNLC 1 2147483650 zeqN zneN zn1_eq zn1_ne (jp 6) (jp 5)
theorem s_X8_tells_4 (d : Nat) : zPb l G gh (d + 5) n_X8_tells p_X8_tells 15 b_X8_tells_4 := fun K jp hj =>
    z_istore (i := 5) (zd (i := .istore 5) (n := 2) (by decide +kernel)) (by decide +kernel) <|
    z_nLC_eq (i := 1) (c0 := 2147483650) (a1 := 1) (a2 := 1) (off := 8) (tgt := 27) (zLd_n (n := 1) (i := 1) (zd (i := .iload_n 1) (n := 1) (by decide +kernel)) rfl) (zCn_c (n := 2) (zd (i := .iconst (2)) (n := 1) (by decide +kernel)) (by decide +kernel)) (zd (i := .if_icmp .eq (8)) (n := 3) (by decide +kernel)) (by decide +kernel) (zj (hj 6) (by decide +kernel)) (zj (hj 5) (by decide +kernel))
noncomputable def b_X8_tells_5 : zBl := fun jp K => oNLC 1 2147483651 zneN zeqN zn1_ne zn1_eq (jp 7) (jp 6)
theorem s_X8_tells_5 (d : Nat) : zPb l G gh (d + 5) n_X8_tells p_X8_tells 22 b_X8_tells_5 := fun K jp hj =>
    z_nLC_ne (i := 1) (c0 := 2147483651) (a1 := 1) (a2 := 1) (off := 7) (tgt := 31) (zLd_n (n := 1) (i := 1) (zd (i := .iload_n 1) (n := 1) (by decide +kernel)) rfl) (zCn_c (n := 3) (zd (i := .iconst (3)) (n := 1) (by decide +kernel)) (by decide +kernel)) (zd (i := .if_icmp .ne (7)) (n := 3) (by decide +kernel)) (by decide +kernel) (zj (hj 7) (by decide +kernel)) (zj (hj 6) (by decide +kernel))
noncomputable def b_X8_tells_6 : zBl := fun jp K => oInt 2147483649 <| jp 8
theorem s_X8_tells_6 (d : Nat) : zPb l G gh (d + 5) n_X8_tells p_X8_tells 27 b_X8_tells_6 := fun K jp hj =>
    z_iconst (n := 1) (zd (i := .iconst (1)) (n := 1) (by decide +kernel)) (by decide +kernel) <|
    z_goto (off := 4) (tgt := 32) (zd (i := .goto (4)) (n := 3) (by decide +kernel)) (by decide +kernel) (zj (hj 8) (by decide +kernel))
noncomputable def b_X8_tells_7 : zBl := fun jp K => oInt 2147483648 <| jp 8
theorem s_X8_tells_7 (d : Nat) : zPb l G gh (d + 5) n_X8_tells p_X8_tells 31 b_X8_tells_7 := fun K jp hj =>
    z_iconst (n := 0) (zd (i := .iconst (0)) (n := 1) (by decide +kernel)) (by decide +kernel) <|
    (zj (hj 8) (by decide +kernel))
noncomputable def b_X8_tells_8 : zBl := fun jp K => oIst 6 <| oNLC 5 2147483648 zeqN zneN zn1_eq zn1_ne (jp 11) (jp 9)
theorem s_X8_tells_8 (d : Nat) : zPb l G gh (d + 5) n_X8_tells p_X8_tells 32 b_X8_tells_8 := fun K jp hj =>
    z_istore (i := 6) (zd (i := .istore 6) (n := 2) (by decide +kernel)) (by decide +kernel) <|
    z_nL0_eq (i := 5) (a1 := 2) (off := 18) (tgt := 54) (zLd_w (i := 5) (zd (i := .iload 5) (n := 2) (by decide +kernel))) (zd (i := .ifCond .eq (18)) (n := 3) (by decide +kernel)) (by decide +kernel) (zj (hj 11) (by decide +kernel)) (zj (hj 9) (by decide +kernel))
noncomputable def b_X8_tells_9 : zBl := fun jp K => oIld 2 <| oCs 1 f_X8_isX <| oIf zeq zne (jp 14) (jp 10)
theorem s_X8_tells_9 (d : Nat) : zPb l G gh (d + 5) n_X8_tells p_X8_tells 39 b_X8_tells_9 := fun K jp hj =>
    z_iload_n (n := 2) (i := 2) (zd (i := .iload_n 2) (n := 1) (by decide +kernel)) rfl <|
    z_callS (idx := 175) (N := n_X8_isX) (zd (i := .invokestatic 175) (n := 3) (by decide +kernel)) to_X8_isX g805 g806 rfl rfl (c_X8_isX (l := l) (G := G) (gh := gh) (d + 3)) <|
    z_if_eq (off := 29) (tgt := 72) (zd (i := .ifCond .eq (29)) (n := 3) (by decide +kernel)) (by decide +kernel) (zj (hj 14) (by decide +kernel)) (zj (hj 10) (by decide +kernel))
noncomputable def b_X8_tells_10 : zBl := fun jp K => oAld 0 <| oIld 3 <| oCv 8 1 f_X8_isThing <| oIf zeq zne (jp 14) (jp 11)
theorem s_X8_tells_10 (d : Nat) : zPb l G gh (d + 5) n_X8_tells p_X8_tells 46 b_X8_tells_10 := fun K jp hj =>
    z_aload_n (n := 0) (i := 0) (zd (i := .aload_n 0) (n := 1) (by decide +kernel)) rfl <|
    z_iload_n (n := 3) (i := 3) (zd (i := .iload_n 3) (n := 1) (by decide +kernel)) rfl <|
    z_callV (idx := 115) (ci := 8) (N := n_X8_isThing) (zd (i := .invokevirtual 115) (n := 3) (by decide +kernel)) to_X8_isThing g708 g710 g17 (by decide +kernel) rfl rfl rfl (c_X8_isThing (l := l) (G := G) (gh := gh) (d + 3)) <|
    z_if_eq (off := 21) (tgt := 72) (zd (i := .ifCond .eq (21)) (n := 3) (by decide +kernel)) (by decide +kernel) (zj (hj 14) (by decide +kernel)) (zj (hj 11) (by decide +kernel))
noncomputable def b_X8_tells_11 : zBl := fun jp K => oNLC 6 2147483648 zeqN zneN zn1_eq zn1_ne (jp 15) (jp 12)
theorem s_X8_tells_11 (d : Nat) : zPb l G gh (d + 5) n_X8_tells p_X8_tells 54 b_X8_tells_11 := fun K jp hj =>
    z_nL0_eq (i := 6) (a1 := 2) (off := 19) (tgt := 75) (zLd_w (i := 6) (zd (i := .iload 6) (n := 2) (by decide +kernel))) (zd (i := .ifCond .eq (19)) (n := 3) (by decide +kernel)) (by decide +kernel) (zj (hj 15) (by decide +kernel)) (zj (hj 12) (by decide +kernel))
noncomputable def b_X8_tells_12 : zBl := fun jp K => oNLC 4 2147483648 zltN zgeN zn1_lt zn1_ge (jp 14) (jp 13)
theorem s_X8_tells_12 (d : Nat) : zPb l G gh (d + 5) n_X8_tells p_X8_tells 59 b_X8_tells_12 := fun K jp hj =>
    z_nL0_lt (i := 4) (a1 := 2) (off := 11) (tgt := 72) (zLd_w (i := 4) (zd (i := .iload 4) (n := 2) (by decide +kernel))) (zd (i := .ifCond .lt (11)) (n := 3) (by decide +kernel)) (by decide +kernel) (zj (hj 14) (by decide +kernel)) (zj (hj 13) (by decide +kernel))
noncomputable def b_X8_tells_13 : zBl := fun jp K => oNLC 4 2147484647 zleN zgtN zn1_le zn1_gt (jp 15) (jp 14)
theorem s_X8_tells_13 (d : Nat) : zPb l G gh (d + 5) n_X8_tells p_X8_tells 64 b_X8_tells_13 := fun K jp hj =>
    z_nLC_le (i := 4) (c0 := 2147484647) (a1 := 2) (a2 := 3) (off := 6) (tgt := 75) (zLd_w (i := 4) (zd (i := .iload 4) (n := 2) (by decide +kernel))) (zCn_s (n := 999) (zd (i := .sipush (999)) (n := 3) (by decide +kernel)) (by decide +kernel)) (zd (i := .if_icmp .le (6)) (n := 3) (by decide +kernel)) (by decide +kernel) (zj (hj 15) (by decide +kernel)) (zj (hj 14) (by decide +kernel))
noncomputable def b_X8_tells_14 : zBl := fun jp K => oInt 2147483548 <| oIret K
theorem s_X8_tells_14 (d : Nat) : zPb l G gh (d + 5) n_X8_tells p_X8_tells 72 b_X8_tells_14 := fun K jp hj =>
    z_bipush (n := -100) (zd (i := .bipush (-100)) (n := 2) (by decide +kernel)) (by decide +kernel) <|
    z_iret (zd (i := .ireturn) (n := 1) (by decide +kernel)) rfl
noncomputable def b_X8_tells_15 : zBl := fun jp K => oAld 0 <| oGetR 8 12 <| oAld 0 <| oGetR 8 2 <| oGetI 4 0 <| oCv 0 1 f_X0_heat <| oIst 7 <| oIld 1 <| oTab 2147483648 [jp 16, jp 17, jp 18, jp 19] (jp 20)
theorem s_X8_tells_15 (d : Nat) : zPb l G gh (d + 5) n_X8_tells p_X8_tells 75 b_X8_tells_15 := fun K jp hj =>
    z_aload_n (n := 0) (i := 0) (zd (i := .aload_n 0) (n := 1) (by decide +kernel)) rfl <|
    z_getR (ci := 8) (j := 12) (idx := 71) (zd (i := .getfield 71) (n := 3) (by decide +kernel)) (by decide +kernel) (by decide +kernel) rfl g464 <|
    z_aload_n (n := 0) (i := 0) (zd (i := .aload_n 0) (n := 1) (by decide +kernel)) rfl <|
    z_getR (ci := 8) (j := 2) (idx := 26) (zd (i := .getfield 26) (n := 3) (by decide +kernel)) (by decide +kernel) (by decide +kernel) rfl g454 <|
    z_getI (ci := 4) (j := 0) (idx := 140) (zd (i := .getfield 140) (n := 3) (by decide +kernel)) (by decide +kernel) (by decide +kernel) rfl g368 <|
    z_callV (idx := 143) (ci := 0) (N := n_X0_heat) (zd (i := .invokevirtual 143) (n := 3) (by decide +kernel)) to_X0_heat g716 g717 g718 (by decide +kernel) rfl rfl rfl (c_X0_heat (l := l) (G := G) (gh := gh) (d)) <|
    z_istore (i := 7) (zd (i := .istore 7) (n := 2) (by decide +kernel)) (by decide +kernel) <|
    z_iload_n (n := 1) (i := 1) (zd (i := .iload_n 1) (n := 1) (by decide +kernel)) rfl <|
    z_table (v := 2147483648) (df := 189) (len := 32) (x := 0) (dflt := 97) (lo := 0) (hi := 3) (offs := #[32, 35, 54, 75]) (tgts := [124, 127, 146, 167]) (zd (i := .tableswitch (97) (0) (3) #[32, 35, 54, 75]) (n := 32) (by decide +kernel)) (by decide +kernel) rfl rfl (by decide +kernel) (by decide +kernel) (by decide +kernel) ⟨(zj (hj 16) (by decide +kernel)), (zj (hj 17) (by decide +kernel)), (zj (hj 18) (by decide +kernel)), (zj (hj 19) (by decide +kernel)), trivial⟩ (zj (hj 20) (by decide +kernel))
noncomputable def b_X8_tells_16 : zBl := fun jp K => oIld 7 <| oIret K
theorem s_X8_tells_16 (d : Nat) : zPb l G gh (d + 5) n_X8_tells p_X8_tells 124 b_X8_tells_16 := fun K jp hj =>
    z_iload (i := 7) (zd (i := .iload 7) (n := 2) (by decide +kernel)) <|
    z_iret (zd (i := .ireturn) (n := 1) (by decide +kernel)) rfl
noncomputable def b_X8_tells_17 : zBl := fun jp K => oAld 0 <| oGetR 8 12 <| oIld 2 <| oIld 3 <| oAld 0 <| oGetR 8 2 <| oGetI 4 0 <| oIld 7 <| oCv 0 4 gs_X0_movedFrom <| oIret K
theorem s_X8_tells_17 (d : Nat) : zPb l G gh (d + 5) n_X8_tells p_X8_tells 127 b_X8_tells_17 := fun K jp hj =>
    z_aload_n (n := 0) (i := 0) (zd (i := .aload_n 0) (n := 1) (by decide +kernel)) rfl <|
    z_getR (ci := 8) (j := 12) (idx := 71) (zd (i := .getfield 71) (n := 3) (by decide +kernel)) (by decide +kernel) (by decide +kernel) rfl g464 <|
    z_iload_n (n := 2) (i := 2) (zd (i := .iload_n 2) (n := 1) (by decide +kernel)) rfl <|
    z_iload_n (n := 3) (i := 3) (zd (i := .iload_n 3) (n := 1) (by decide +kernel)) rfl <|
    z_aload_n (n := 0) (i := 0) (zd (i := .aload_n 0) (n := 1) (by decide +kernel)) rfl <|
    z_getR (ci := 8) (j := 2) (idx := 26) (zd (i := .getfield 26) (n := 3) (by decide +kernel)) (by decide +kernel) (by decide +kernel) rfl g454 <|
    z_getI (ci := 4) (j := 0) (idx := 140) (zd (i := .getfield 140) (n := 3) (by decide +kernel)) (by decide +kernel) (by decide +kernel) rfl g368 <|
    z_iload (i := 7) (zd (i := .iload 7) (n := 2) (by decide +kernel)) <|
    z_callV (idx := 178) (ci := 0) (N := n_X0_movedFrom) (zd (i := .invokevirtual 178) (n := 3) (by decide +kernel)) to_X0_movedFrom g808 g809 g810 (by decide +kernel) rfl rfl rfl (cs_X0_movedFrom (l := l) (G := G) (gh := gh) (d)) <|
    z_iret (zd (i := .ireturn) (n := 1) (by decide +kernel)) rfl
noncomputable def b_X8_tells_18 : zBl := fun jp K => oAld 0 <| oGetR 8 12 <| oIld 2 <| oIld 3 <| oAld 0 <| oGetR 8 2 <| oGetI 4 0 <| oIld 7 <| oIld 4 <| oCv 0 5 gs_X0_rentFrom <| oIret K
theorem s_X8_tells_18 (d : Nat) : zPb l G gh (d + 5) n_X8_tells p_X8_tells 146 b_X8_tells_18 := fun K jp hj =>
    z_aload_n (n := 0) (i := 0) (zd (i := .aload_n 0) (n := 1) (by decide +kernel)) rfl <|
    z_getR (ci := 8) (j := 12) (idx := 71) (zd (i := .getfield 71) (n := 3) (by decide +kernel)) (by decide +kernel) (by decide +kernel) rfl g464 <|
    z_iload_n (n := 2) (i := 2) (zd (i := .iload_n 2) (n := 1) (by decide +kernel)) rfl <|
    z_iload_n (n := 3) (i := 3) (zd (i := .iload_n 3) (n := 1) (by decide +kernel)) rfl <|
    z_aload_n (n := 0) (i := 0) (zd (i := .aload_n 0) (n := 1) (by decide +kernel)) rfl <|
    z_getR (ci := 8) (j := 2) (idx := 26) (zd (i := .getfield 26) (n := 3) (by decide +kernel)) (by decide +kernel) (by decide +kernel) rfl g454 <|
    z_getI (ci := 4) (j := 0) (idx := 140) (zd (i := .getfield 140) (n := 3) (by decide +kernel)) (by decide +kernel) (by decide +kernel) rfl g368 <|
    z_iload (i := 7) (zd (i := .iload 7) (n := 2) (by decide +kernel)) <|
    z_iload (i := 4) (zd (i := .iload 4) (n := 2) (by decide +kernel)) <|
    z_callV (idx := 182) (ci := 0) (N := n_X0_rentFrom) (zd (i := .invokevirtual 182) (n := 3) (by decide +kernel)) to_X0_rentFrom g816 g817 g818 (by decide +kernel) rfl rfl rfl (cs_X0_rentFrom (l := l) (G := G) (gh := gh) (d)) <|
    z_iret (zd (i := .ireturn) (n := 1) (by decide +kernel)) rfl
noncomputable def b_X8_tells_19 : zBl := fun jp K => oAld 0 <| oGetR 8 12 <| oGetR 0 12 <| oAld 0 <| oGetR 8 2 <| oGetI 4 0 <| oIld 7 <| oIld 4 <| oCv 2 3 f_X2_interest <| oIret K
theorem s_X8_tells_19 (d : Nat) : zPb l G gh (d + 5) n_X8_tells p_X8_tells 167 b_X8_tells_19 := fun K jp hj =>
    z_aload_n (n := 0) (i := 0) (zd (i := .aload_n 0) (n := 1) (by decide +kernel)) rfl <|
    z_getR (ci := 8) (j := 12) (idx := 71) (zd (i := .getfield 71) (n := 3) (by decide +kernel)) (by decide +kernel) (by decide +kernel) rfl g464 <|
    z_getR (ci := 0) (j := 12) (idx := 186) (zd (i := .getfield 186) (n := 3) (by decide +kernel)) (by decide +kernel) (by decide +kernel) rfl g306 <|
    z_aload_n (n := 0) (i := 0) (zd (i := .aload_n 0) (n := 1) (by decide +kernel)) rfl <|
    z_getR (ci := 8) (j := 2) (idx := 26) (zd (i := .getfield 26) (n := 3) (by decide +kernel)) (by decide +kernel) (by decide +kernel) rfl g454 <|
    z_getI (ci := 4) (j := 0) (idx := 140) (zd (i := .getfield 140) (n := 3) (by decide +kernel)) (by decide +kernel) (by decide +kernel) rfl g368 <|
    z_iload (i := 7) (zd (i := .iload 7) (n := 2) (by decide +kernel)) <|
    z_iload (i := 4) (zd (i := .iload 4) (n := 2) (by decide +kernel)) <|
    z_callV (idx := 190) (ci := 2) (N := n_X2_interest) (zd (i := .invokevirtual 190) (n := 3) (by decide +kernel)) to_X2_interest g824 g825 g826 (by decide +kernel) rfl rfl rfl (c_X2_interest (l := l) (G := G) (gh := gh) (d + 1)) <|
    z_iret (zd (i := .ireturn) (n := 1) (by decide +kernel)) rfl
noncomputable def b_X8_tells_20 : zBl := fun jp K => oInt 2147483548 <| oIret K
theorem s_X8_tells_20 (d : Nat) : zPb l G gh (d + 5) n_X8_tells p_X8_tells 189 b_X8_tells_20 := fun K jp hj =>
    z_bipush (n := -100) (zd (i := .bipush (-100)) (n := 2) (by decide +kernel)) (by decide +kernel) <|
    z_iret (zd (i := .ireturn) (n := 1) (by decide +kernel)) rfl
noncomputable def t_X8_tells : List zBl := [b_X8_tells_0, b_X8_tells_1, b_X8_tells_2, b_X8_tells_3, b_X8_tells_4, b_X8_tells_5, b_X8_tells_6, b_X8_tells_7, b_X8_tells_8, b_X8_tells_9, b_X8_tells_10, b_X8_tells_11, b_X8_tells_12, b_X8_tells_13, b_X8_tells_14, b_X8_tells_15, b_X8_tells_16, b_X8_tells_17, b_X8_tells_18, b_X8_tells_19, b_X8_tells_20]
theorem tt_X8_tells (d : Nat) : zT (zPb l G gh (d + 5) n_X8_tells p_X8_tells) t_X8_tells p_X8_tells := ⟨s_X8_tells_0 d, s_X8_tells_1 d, s_X8_tells_2 d, s_X8_tells_3 d, s_X8_tells_4 d, s_X8_tells_5 d, s_X8_tells_6 d, s_X8_tells_7 d, s_X8_tells_8 d, s_X8_tells_9 d, s_X8_tells_10 d, s_X8_tells_11 d, s_X8_tells_12 d, s_X8_tells_13 d, s_X8_tells_14 d, s_X8_tells_15 d, s_X8_tells_16 d, s_X8_tells_17 d, s_X8_tells_18 d, s_X8_tells_19 d, s_X8_tells_20 d, trivial⟩
def q_X8_tells_0 : List (Nat × Nat) := [(0, zk0), (21, zk10), (259, zk20), (265, zk2), (266, zk18), (267, zk18), (268, zk19), (269, zk3), (270, zk7)]
noncomputable def al_X8_tells_0 : zAq := [(some (.inl 9223372043297226851), [(0, zk0), (21, zk10), (259, zk20), (265, zk2), (266, zk18), (267, zk18), (268, zk19), (269, zk4), (270, zk9)])]
noncomputable def fm_X8_tells_0 : List zFm := [(0, [], (fun vs => [.inr (.ref 0), .inl 2147483648, .inl 9223372043297226771, .inl 9223372043297226757, .inl 8589934591]), (fun vs => zP q_X8_tells_0), (fun vs => Nat.sub (Nat.add 0 0) 0))]
def bf_X8_tells_0 : List Nat := []
theorem r_X8_tells_0_0 : zbox [] (fun vs => zFrun (zpost (zAlq al_X8_tells_0)) 1000 t_X8_tells fm_X8_tells_0 bf_X8_tells_0 (0, vs)) = true := by decide +kernel
set_option maxRecDepth 100000 in
theorem x_X8_tells_0 (d : Nat) : zS l G gh (d + 5) (zpost (zAlq al_X8_tells_0)) n_X8_tells (zn 0 p_X8_tells 0) (zwc (0, [.inr (.ref 0), .inl 2147483648, .inl 9223372043297226771, .inl 9223372043297226757, .inl 8589934591], zP q_X8_tells_0) 0) := zentry (tt_X8_tells d) fm_X8_tells_0 bf_X8_tells_0 1000 (by decide +kernel) rfl ⟨Nat.zero_lt_succ _, trivial⟩ (fun f hf => match f, hf with
  | 0, _ => fun vs hv => (zbox_t r_X8_tells_0_0) vs hv
  | f + 1, h => absurd (show f + 1 < 1 from h) (Nat.not_lt.mpr (Nat.le_add_left 1 f)))
noncomputable def gs_X8_tells_0 : zMt := zgq false [] 8 [.inr (.ref 0), .inl 2147483648, .inl 9223372043297226771, .inl 9223372043297226757, .inl 8589934591] q_X8_tells_0 al_X8_tells_0
set_option maxRecDepth 100000 in
theorem cs_X8_tells_0 (d : Nat) : zC l G gh (d + 5) n_X8_tells gs_X8_tells_0 := zgq_ok0 (pcs := p_X8_tells) (by decide) rfl rfl (fun a ha => by simp only [al_X8_tells_0, List.mem_cons, List.not_mem_nil, or_false] at ha; rcases ha with rfl <;> decide +kernel) (fun gh => x_X8_tells_0 d) (by decide +kernel)
def q_X8_tells_1 : List (Nat × Nat) := [(0, zk0), (21, zk10), (259, zk20), (265, zk2), (266, zk18), (267, zk18), (268, zk19), (269, zk3), (270, zk7)]
noncomputable def al_X8_tells_1 : zAq := [(some (.inl 9223372043297226851), [(0, zk0), (21, zk10), (259, zk20), (265, zk2), (266, zk18), (267, zk18), (268, zk19), (269, zk4), (270, zk9)])]
noncomputable def fm_X8_tells_1 : List zFm := [(0, [], (fun vs => [.inr (.ref 0), .inl 2147483648, .inl 9223372043297226771, .inl 6442450943, .inl 8589934591]), (fun vs => zP q_X8_tells_1), (fun vs => Nat.sub (Nat.add 0 0) 0))]
def bf_X8_tells_1 : List Nat := []
theorem r_X8_tells_1_0 : zbox [] (fun vs => zFrun (zpost (zAlq al_X8_tells_1)) 1000 t_X8_tells fm_X8_tells_1 bf_X8_tells_1 (0, vs)) = true := by decide +kernel
set_option maxRecDepth 100000 in
theorem x_X8_tells_1 (d : Nat) : zS l G gh (d + 5) (zpost (zAlq al_X8_tells_1)) n_X8_tells (zn 0 p_X8_tells 0) (zwc (0, [.inr (.ref 0), .inl 2147483648, .inl 9223372043297226771, .inl 6442450943, .inl 8589934591], zP q_X8_tells_1) 0) := zentry (tt_X8_tells d) fm_X8_tells_1 bf_X8_tells_1 1000 (by decide +kernel) rfl ⟨Nat.zero_lt_succ _, trivial⟩ (fun f hf => match f, hf with
  | 0, _ => fun vs hv => (zbox_t r_X8_tells_1_0) vs hv
  | f + 1, h => absurd (show f + 1 < 1 from h) (Nat.not_lt.mpr (Nat.le_add_left 1 f)))
noncomputable def gs_X8_tells_1 : zMt := zgq false [] 8 [.inr (.ref 0), .inl 2147483648, .inl 9223372043297226771, .inl 6442450943, .inl 8589934591] q_X8_tells_1 al_X8_tells_1
set_option maxRecDepth 100000 in
theorem cs_X8_tells_1 (d : Nat) : zC l G gh (d + 5) n_X8_tells gs_X8_tells_1 := zgq_ok0 (pcs := p_X8_tells) (by decide) rfl rfl (fun a ha => by simp only [al_X8_tells_1, List.mem_cons, List.not_mem_nil, or_false] at ha; rcases ha with rfl <;> decide +kernel) (fun gh => x_X8_tells_1 d) (by decide +kernel)
def q_X8_tells_2 : List (Nat × Nat) := [(0, zk0), (21, zk10), (259, zk20), (265, zk2), (266, zk18), (267, zk18), (268, zk19), (269, zk3), (270, zk7)]
noncomputable def al_X8_tells_2 : zAq := [(some (.inl 9223372043297226851), [(0, zk0), (21, zk10), (259, zk20), (265, zk2), (266, zk18), (267, zk18), (268, zk19), (269, zk4), (270, zk9)])]
noncomputable def fm_X8_tells_2 : List zFm := [(0, [], (fun vs => [.inr (.ref 0), .inl 2147483648, .inl 9223372043297226771, .inl 9223372071214514175, .inl 8589934591]), (fun vs => zP q_X8_tells_2), (fun vs => Nat.sub (Nat.add 0 0) 0))]
def bf_X8_tells_2 : List Nat := []
theorem r_X8_tells_2_0 : zbox [] (fun vs => zFrun (zpost (zAlq al_X8_tells_2)) 1000 t_X8_tells fm_X8_tells_2 bf_X8_tells_2 (0, vs)) = true := by decide +kernel
set_option maxRecDepth 100000 in
theorem x_X8_tells_2 (d : Nat) : zS l G gh (d + 5) (zpost (zAlq al_X8_tells_2)) n_X8_tells (zn 0 p_X8_tells 0) (zwc (0, [.inr (.ref 0), .inl 2147483648, .inl 9223372043297226771, .inl 9223372071214514175, .inl 8589934591], zP q_X8_tells_2) 0) := zentry (tt_X8_tells d) fm_X8_tells_2 bf_X8_tells_2 1000 (by decide +kernel) rfl ⟨Nat.zero_lt_succ _, trivial⟩ (fun f hf => match f, hf with
  | 0, _ => fun vs hv => (zbox_t r_X8_tells_2_0) vs hv
  | f + 1, h => absurd (show f + 1 < 1 from h) (Nat.not_lt.mpr (Nat.le_add_left 1 f)))
noncomputable def gs_X8_tells_2 : zMt := zgq false [] 8 [.inr (.ref 0), .inl 2147483648, .inl 9223372043297226771, .inl 9223372071214514175, .inl 8589934591] q_X8_tells_2 al_X8_tells_2
set_option maxRecDepth 100000 in
theorem cs_X8_tells_2 (d : Nat) : zC l G gh (d + 5) n_X8_tells gs_X8_tells_2 := zgq_ok0 (pcs := p_X8_tells) (by decide) rfl rfl (fun a ha => by simp only [al_X8_tells_2, List.mem_cons, List.not_mem_nil, or_false] at ha; rcases ha with rfl <;> decide +kernel) (fun gh => x_X8_tells_2 d) (by decide +kernel)
def q_X8_tells_3 : List (Nat × Nat) := [(0, zk0), (21, zk10), (259, zk20), (265, zk2), (266, zk18), (267, zk18), (268, zk19), (269, zk3), (270, zk7)]
noncomputable def al_X8_tells_3 : zAq := [(some (.inl 9223372043297226851), [(0, zk0), (21, zk10), (259, zk20), (265, zk2), (266, zk18), (267, zk18), (268, zk19), (269, zk4), (270, zk9)])]
noncomputable def fm_X8_tells_3 : List zFm := [(0, [], (fun vs => [.inr (.ref 0), .inl 2147483648, .inl 6442450943, .inl 8589934591, .inl 8589934591]), (fun vs => zP q_X8_tells_3), (fun vs => Nat.sub (Nat.add 0 0) 0))]
def bf_X8_tells_3 : List Nat := []
theorem r_X8_tells_3_0 : zbox [] (fun vs => zFrun (zpost (zAlq al_X8_tells_3)) 1000 t_X8_tells fm_X8_tells_3 bf_X8_tells_3 (0, vs)) = true := by decide +kernel
set_option maxRecDepth 100000 in
theorem x_X8_tells_3 (d : Nat) : zS l G gh (d + 5) (zpost (zAlq al_X8_tells_3)) n_X8_tells (zn 0 p_X8_tells 0) (zwc (0, [.inr (.ref 0), .inl 2147483648, .inl 6442450943, .inl 8589934591, .inl 8589934591], zP q_X8_tells_3) 0) := zentry (tt_X8_tells d) fm_X8_tells_3 bf_X8_tells_3 1000 (by decide +kernel) rfl ⟨Nat.zero_lt_succ _, trivial⟩ (fun f hf => match f, hf with
  | 0, _ => fun vs hv => (zbox_t r_X8_tells_3_0) vs hv
  | f + 1, h => absurd (show f + 1 < 1 from h) (Nat.not_lt.mpr (Nat.le_add_left 1 f)))
noncomputable def gs_X8_tells_3 : zMt := zgq false [] 8 [.inr (.ref 0), .inl 2147483648, .inl 6442450943, .inl 8589934591, .inl 8589934591] q_X8_tells_3 al_X8_tells_3
set_option maxRecDepth 100000 in
theorem cs_X8_tells_3 (d : Nat) : zC l G gh (d + 5) n_X8_tells gs_X8_tells_3 := zgq_ok0 (pcs := p_X8_tells) (by decide) rfl rfl (fun a ha => by simp only [al_X8_tells_3, List.mem_cons, List.not_mem_nil, or_false] at ha; rcases ha with rfl <;> decide +kernel) (fun gh => x_X8_tells_3 d) (by decide +kernel)
def q_X8_tells_4 : List (Nat × Nat) := [(0, zk0), (21, zk10), (259, zk20), (265, zk2), (266, zk18), (267, zk18), (268, zk19), (269, zk3), (270, zk7)]
noncomputable def al_X8_tells_4 : zAq := [(some (.inl 9223372043297226851), [(0, zk0), (21, zk10), (259, zk20), (265, zk2), (266, zk18), (267, zk18), (268, zk19), (269, zk4), (270, zk9)])]
noncomputable def fm_X8_tells_4 : List zFm := [(0, [], (fun vs => [.inr (.ref 0), .inl 2147483648, .inl 9223372131344056319, .inl 8589934591, .inl 8589934591]), (fun vs => zP q_X8_tells_4), (fun vs => Nat.sub (Nat.add 0 0) 0))]
def bf_X8_tells_4 : List Nat := []
theorem r_X8_tells_4_0 : zbox [] (fun vs => zFrun (zpost (zAlq al_X8_tells_4)) 1000 t_X8_tells fm_X8_tells_4 bf_X8_tells_4 (0, vs)) = true := by decide +kernel
set_option maxRecDepth 100000 in
theorem x_X8_tells_4 (d : Nat) : zS l G gh (d + 5) (zpost (zAlq al_X8_tells_4)) n_X8_tells (zn 0 p_X8_tells 0) (zwc (0, [.inr (.ref 0), .inl 2147483648, .inl 9223372131344056319, .inl 8589934591, .inl 8589934591], zP q_X8_tells_4) 0) := zentry (tt_X8_tells d) fm_X8_tells_4 bf_X8_tells_4 1000 (by decide +kernel) rfl ⟨Nat.zero_lt_succ _, trivial⟩ (fun f hf => match f, hf with
  | 0, _ => fun vs hv => (zbox_t r_X8_tells_4_0) vs hv
  | f + 1, h => absurd (show f + 1 < 1 from h) (Nat.not_lt.mpr (Nat.le_add_left 1 f)))
noncomputable def gs_X8_tells_4 : zMt := zgq false [] 8 [.inr (.ref 0), .inl 2147483648, .inl 9223372131344056319, .inl 8589934591, .inl 8589934591] q_X8_tells_4 al_X8_tells_4
set_option maxRecDepth 100000 in
theorem cs_X8_tells_4 (d : Nat) : zC l G gh (d + 5) n_X8_tells gs_X8_tells_4 := zgq_ok0 (pcs := p_X8_tells) (by decide) rfl rfl (fun a ha => by simp only [al_X8_tells_4, List.mem_cons, List.not_mem_nil, or_false] at ha; rcases ha with rfl <;> decide +kernel) (fun gh => x_X8_tells_4 d) (by decide +kernel)
def q_X8_tells_5 : List (Nat × Nat) := [(0, zk0), (21, zk10), (259, zk20), (261, zk12), (262, zk12), (265, zk2), (266, zk18), (267, zk18), (268, zk19), (269, zk3), (270, zk7)]
noncomputable def al_X8_tells_5 : zAq := [(some (.inl 9223371613800497161), [(0, zk0), (21, zk10), (259, zk20), (261, zk12), (262, zk12), (265, zk2), (266, zk18), (267, zk18), (268, zk19), (269, zk4), (270, zk9)])]
noncomputable def fm_X8_tells_5 : List zFm := [(0, [], (fun vs => [.inr (.ref 0), .inl 2147483649, .inl 9223372043297226771, .inl 9223372043297226757, .inl 8589934591]), (fun vs => zP q_X8_tells_5), (fun vs => Nat.sub (Nat.add 0 0) 0))]
def bf_X8_tells_5 : List Nat := []
theorem r_X8_tells_5_0 : zbox [] (fun vs => zFrun (zpost (zAlq al_X8_tells_5)) 1000 t_X8_tells fm_X8_tells_5 bf_X8_tells_5 (0, vs)) = true := by decide +kernel
set_option maxRecDepth 100000 in
theorem x_X8_tells_5 (d : Nat) : zS l G gh (d + 5) (zpost (zAlq al_X8_tells_5)) n_X8_tells (zn 0 p_X8_tells 0) (zwc (0, [.inr (.ref 0), .inl 2147483649, .inl 9223372043297226771, .inl 9223372043297226757, .inl 8589934591], zP q_X8_tells_5) 0) := zentry (tt_X8_tells d) fm_X8_tells_5 bf_X8_tells_5 1000 (by decide +kernel) rfl ⟨Nat.zero_lt_succ _, trivial⟩ (fun f hf => match f, hf with
  | 0, _ => fun vs hv => (zbox_t r_X8_tells_5_0) vs hv
  | f + 1, h => absurd (show f + 1 < 1 from h) (Nat.not_lt.mpr (Nat.le_add_left 1 f)))
noncomputable def gs_X8_tells_5 : zMt := zgq false [] 8 [.inr (.ref 0), .inl 2147483649, .inl 9223372043297226771, .inl 9223372043297226757, .inl 8589934591] q_X8_tells_5 al_X8_tells_5
set_option maxRecDepth 100000 in
theorem cs_X8_tells_5 (d : Nat) : zC l G gh (d + 5) n_X8_tells gs_X8_tells_5 := zgq_ok0 (pcs := p_X8_tells) (by decide) rfl rfl (fun a ha => by simp only [al_X8_tells_5, List.mem_cons, List.not_mem_nil, or_false] at ha; rcases ha with rfl <;> decide +kernel) (fun gh => x_X8_tells_5 d) (by decide +kernel)
def q_X8_tells_6 : List (Nat × Nat) := [(0, zk0)]
noncomputable def al_X8_tells_6 : zAq := [(some (.inl 2147483548), [(0, zk0)])]
noncomputable def fm_X8_tells_6 : List zFm := [(0, [], (fun vs => [.inr (.ref 0), .inl 2147483649, .inl 9223372043297226771, .inl 6442450943, .inl 8589934591]), (fun vs => zP q_X8_tells_6), (fun vs => Nat.sub (Nat.add 0 0) 0))]
def bf_X8_tells_6 : List Nat := []
theorem r_X8_tells_6_0 : zbox [] (fun vs => zFrun (zpost (zAlq al_X8_tells_6)) 1000 t_X8_tells fm_X8_tells_6 bf_X8_tells_6 (0, vs)) = true := by decide +kernel
set_option maxRecDepth 100000 in
theorem x_X8_tells_6 (d : Nat) : zS l G gh (d + 5) (zpost (zAlq al_X8_tells_6)) n_X8_tells (zn 0 p_X8_tells 0) (zwc (0, [.inr (.ref 0), .inl 2147483649, .inl 9223372043297226771, .inl 6442450943, .inl 8589934591], zP q_X8_tells_6) 0) := zentry (tt_X8_tells d) fm_X8_tells_6 bf_X8_tells_6 1000 (by decide +kernel) rfl ⟨Nat.zero_lt_succ _, trivial⟩ (fun f hf => match f, hf with
  | 0, _ => fun vs hv => (zbox_t r_X8_tells_6_0) vs hv
  | f + 1, h => absurd (show f + 1 < 1 from h) (Nat.not_lt.mpr (Nat.le_add_left 1 f)))
noncomputable def gs_X8_tells_6 : zMt := zgq false [] 8 [.inr (.ref 0), .inl 2147483649, .inl 9223372043297226771, .inl 6442450943, .inl 8589934591] q_X8_tells_6 al_X8_tells_6
set_option maxRecDepth 100000 in
theorem cs_X8_tells_6 (d : Nat) : zC l G gh (d + 5) n_X8_tells gs_X8_tells_6 := zgq_ok0 (pcs := p_X8_tells) (by decide) rfl rfl (fun a ha => by simp only [al_X8_tells_6, List.mem_cons, List.not_mem_nil, or_false] at ha; rcases ha with rfl <;> decide +kernel) (fun gh => x_X8_tells_6 d) (by decide +kernel)
def q_X8_tells_7 : List (Nat × Nat) := [(0, zk0), (259, zk20)]
noncomputable def al_X8_tells_7 : zAq := [(some (.inl 2147483548), [(0, zk0), (259, zk20)])]
noncomputable def fm_X8_tells_7 : List zFm := [(0, [], (fun vs => [.inr (.ref 0), .inl 2147483649, .inl 9223372043297226771, .inl 9223372071214514175, .inl 8589934591]), (fun vs => zP q_X8_tells_7), (fun vs => Nat.sub (Nat.add 0 0) 0))]
def bf_X8_tells_7 : List Nat := []
theorem r_X8_tells_7_0 : zbox [] (fun vs => zFrun (zpost (zAlq al_X8_tells_7)) 1000 t_X8_tells fm_X8_tells_7 bf_X8_tells_7 (0, vs)) = true := by decide +kernel
set_option maxRecDepth 100000 in
theorem x_X8_tells_7 (d : Nat) : zS l G gh (d + 5) (zpost (zAlq al_X8_tells_7)) n_X8_tells (zn 0 p_X8_tells 0) (zwc (0, [.inr (.ref 0), .inl 2147483649, .inl 9223372043297226771, .inl 9223372071214514175, .inl 8589934591], zP q_X8_tells_7) 0) := zentry (tt_X8_tells d) fm_X8_tells_7 bf_X8_tells_7 1000 (by decide +kernel) rfl ⟨Nat.zero_lt_succ _, trivial⟩ (fun f hf => match f, hf with
  | 0, _ => fun vs hv => (zbox_t r_X8_tells_7_0) vs hv
  | f + 1, h => absurd (show f + 1 < 1 from h) (Nat.not_lt.mpr (Nat.le_add_left 1 f)))
noncomputable def gs_X8_tells_7 : zMt := zgq false [] 8 [.inr (.ref 0), .inl 2147483649, .inl 9223372043297226771, .inl 9223372071214514175, .inl 8589934591] q_X8_tells_7 al_X8_tells_7
set_option maxRecDepth 100000 in
theorem cs_X8_tells_7 (d : Nat) : zC l G gh (d + 5) n_X8_tells gs_X8_tells_7 := zgq_ok0 (pcs := p_X8_tells) (by decide) rfl rfl (fun a ha => by simp only [al_X8_tells_7, List.mem_cons, List.not_mem_nil, or_false] at ha; rcases ha with rfl <;> decide +kernel) (fun gh => x_X8_tells_7 d) (by decide +kernel)
def q_X8_tells_8 : List (Nat × Nat) := []
noncomputable def al_X8_tells_8 : zAq := [(some (.inl 2147483548), [])]
noncomputable def fm_X8_tells_8 : List zFm := [(0, [], (fun vs => [.inr (.ref 0), .inl 2147483649, .inl 6442450943, .inl 8589934591, .inl 8589934591]), (fun vs => zP q_X8_tells_8), (fun vs => Nat.sub (Nat.add 0 0) 0))]
def bf_X8_tells_8 : List Nat := []
theorem r_X8_tells_8_0 : zbox [] (fun vs => zFrun (zpost (zAlq al_X8_tells_8)) 1000 t_X8_tells fm_X8_tells_8 bf_X8_tells_8 (0, vs)) = true := by decide +kernel
set_option maxRecDepth 100000 in
theorem x_X8_tells_8 (d : Nat) : zS l G gh (d + 5) (zpost (zAlq al_X8_tells_8)) n_X8_tells (zn 0 p_X8_tells 0) (zwc (0, [.inr (.ref 0), .inl 2147483649, .inl 6442450943, .inl 8589934591, .inl 8589934591], zP q_X8_tells_8) 0) := zentry (tt_X8_tells d) fm_X8_tells_8 bf_X8_tells_8 1000 (by decide +kernel) rfl ⟨Nat.zero_lt_succ _, trivial⟩ (fun f hf => match f, hf with
  | 0, _ => fun vs hv => (zbox_t r_X8_tells_8_0) vs hv
  | f + 1, h => absurd (show f + 1 < 1 from h) (Nat.not_lt.mpr (Nat.le_add_left 1 f)))
noncomputable def gs_X8_tells_8 : zMt := zgq false [] 8 [.inr (.ref 0), .inl 2147483649, .inl 6442450943, .inl 8589934591, .inl 8589934591] q_X8_tells_8 al_X8_tells_8
set_option maxRecDepth 100000 in
theorem cs_X8_tells_8 (d : Nat) : zC l G gh (d + 5) n_X8_tells gs_X8_tells_8 := zgq_ok0 (pcs := p_X8_tells) (by decide) rfl rfl (fun a ha => by simp only [al_X8_tells_8, List.mem_cons, List.not_mem_nil, or_false] at ha; rcases ha with rfl <;> decide +kernel) (fun gh => x_X8_tells_8 d) (by decide +kernel)
def q_X8_tells_9 : List (Nat × Nat) := []
noncomputable def al_X8_tells_9 : zAq := [(some (.inl 2147483548), [])]
noncomputable def fm_X8_tells_9 : List zFm := [(0, [], (fun vs => [.inr (.ref 0), .inl 2147483649, .inl 9223372131344056319, .inl 8589934591, .inl 8589934591]), (fun vs => zP q_X8_tells_9), (fun vs => Nat.sub (Nat.add 0 0) 0))]
def bf_X8_tells_9 : List Nat := []
theorem r_X8_tells_9_0 : zbox [] (fun vs => zFrun (zpost (zAlq al_X8_tells_9)) 1000 t_X8_tells fm_X8_tells_9 bf_X8_tells_9 (0, vs)) = true := by decide +kernel
set_option maxRecDepth 100000 in
theorem x_X8_tells_9 (d : Nat) : zS l G gh (d + 5) (zpost (zAlq al_X8_tells_9)) n_X8_tells (zn 0 p_X8_tells 0) (zwc (0, [.inr (.ref 0), .inl 2147483649, .inl 9223372131344056319, .inl 8589934591, .inl 8589934591], zP q_X8_tells_9) 0) := zentry (tt_X8_tells d) fm_X8_tells_9 bf_X8_tells_9 1000 (by decide +kernel) rfl ⟨Nat.zero_lt_succ _, trivial⟩ (fun f hf => match f, hf with
  | 0, _ => fun vs hv => (zbox_t r_X8_tells_9_0) vs hv
  | f + 1, h => absurd (show f + 1 < 1 from h) (Nat.not_lt.mpr (Nat.le_add_left 1 f)))
noncomputable def gs_X8_tells_9 : zMt := zgq false [] 8 [.inr (.ref 0), .inl 2147483649, .inl 9223372131344056319, .inl 8589934591, .inl 8589934591] q_X8_tells_9 al_X8_tells_9
set_option maxRecDepth 100000 in
theorem cs_X8_tells_9 (d : Nat) : zC l G gh (d + 5) n_X8_tells gs_X8_tells_9 := zgq_ok0 (pcs := p_X8_tells) (by decide) rfl rfl (fun a ha => by simp only [al_X8_tells_9, List.mem_cons, List.not_mem_nil, or_false] at ha; rcases ha with rfl <;> decide +kernel) (fun gh => x_X8_tells_9 d) (by decide +kernel)
def q_X8_tells_10 : List (Nat × Nat) := [(0, zk0), (21, zk10), (259, zk20), (261, zk12), (262, zk12), (265, zk2), (266, zk18), (267, zk18), (268, zk19), (269, zk3), (270, zk7)]
noncomputable def al_X8_tells_10 : zAq := [(some (.inl 9223371613800497251), [(0, zk0), (21, zk10), (259, zk20), (261, zk12), (262, zk12), (265, zk2), (266, zk18), (267, zk18), (268, zk19), (269, zk4), (270, zk9)])]
noncomputable def fm_X8_tells_10 : List zFm := [(0, [], (fun vs => [.inr (.ref 0), .inl 2147483650, .inl 9223372043297226771, .inl 9223372043297226757, .inl 8589934591]), (fun vs => zP q_X8_tells_10), (fun vs => Nat.sub (Nat.add 0 0) 0))]
def bf_X8_tells_10 : List Nat := []
theorem r_X8_tells_10_0 : zbox [] (fun vs => zFrun (zpost (zAlq al_X8_tells_10)) 1000 t_X8_tells fm_X8_tells_10 bf_X8_tells_10 (0, vs)) = true := by decide +kernel
set_option maxRecDepth 100000 in
theorem x_X8_tells_10 (d : Nat) : zS l G gh (d + 5) (zpost (zAlq al_X8_tells_10)) n_X8_tells (zn 0 p_X8_tells 0) (zwc (0, [.inr (.ref 0), .inl 2147483650, .inl 9223372043297226771, .inl 9223372043297226757, .inl 8589934591], zP q_X8_tells_10) 0) := zentry (tt_X8_tells d) fm_X8_tells_10 bf_X8_tells_10 1000 (by decide +kernel) rfl ⟨Nat.zero_lt_succ _, trivial⟩ (fun f hf => match f, hf with
  | 0, _ => fun vs hv => (zbox_t r_X8_tells_10_0) vs hv
  | f + 1, h => absurd (show f + 1 < 1 from h) (Nat.not_lt.mpr (Nat.le_add_left 1 f)))
noncomputable def gs_X8_tells_10 : zMt := zgq false [] 8 [.inr (.ref 0), .inl 2147483650, .inl 9223372043297226771, .inl 9223372043297226757, .inl 8589934591] q_X8_tells_10 al_X8_tells_10
set_option maxRecDepth 100000 in
theorem cs_X8_tells_10 (d : Nat) : zC l G gh (d + 5) n_X8_tells gs_X8_tells_10 := zgq_ok0 (pcs := p_X8_tells) (by decide) rfl rfl (fun a ha => by simp only [al_X8_tells_10, List.mem_cons, List.not_mem_nil, or_false] at ha; rcases ha with rfl <;> decide +kernel) (fun gh => x_X8_tells_10 d) (by decide +kernel)
def q_X8_tells_11 : List (Nat × Nat) := [(0, zk0)]
noncomputable def al_X8_tells_11 : zAq := [(some (.inl 2147483548), [(0, zk0)])]
noncomputable def fm_X8_tells_11 : List zFm := [(0, [], (fun vs => [.inr (.ref 0), .inl 2147483650, .inl 9223372043297226771, .inl 6442450943, .inl 8589934591]), (fun vs => zP q_X8_tells_11), (fun vs => Nat.sub (Nat.add 0 0) 0))]
def bf_X8_tells_11 : List Nat := []
theorem r_X8_tells_11_0 : zbox [] (fun vs => zFrun (zpost (zAlq al_X8_tells_11)) 1000 t_X8_tells fm_X8_tells_11 bf_X8_tells_11 (0, vs)) = true := by decide +kernel
set_option maxRecDepth 100000 in
theorem x_X8_tells_11 (d : Nat) : zS l G gh (d + 5) (zpost (zAlq al_X8_tells_11)) n_X8_tells (zn 0 p_X8_tells 0) (zwc (0, [.inr (.ref 0), .inl 2147483650, .inl 9223372043297226771, .inl 6442450943, .inl 8589934591], zP q_X8_tells_11) 0) := zentry (tt_X8_tells d) fm_X8_tells_11 bf_X8_tells_11 1000 (by decide +kernel) rfl ⟨Nat.zero_lt_succ _, trivial⟩ (fun f hf => match f, hf with
  | 0, _ => fun vs hv => (zbox_t r_X8_tells_11_0) vs hv
  | f + 1, h => absurd (show f + 1 < 1 from h) (Nat.not_lt.mpr (Nat.le_add_left 1 f)))
noncomputable def gs_X8_tells_11 : zMt := zgq false [] 8 [.inr (.ref 0), .inl 2147483650, .inl 9223372043297226771, .inl 6442450943, .inl 8589934591] q_X8_tells_11 al_X8_tells_11
set_option maxRecDepth 100000 in
theorem cs_X8_tells_11 (d : Nat) : zC l G gh (d + 5) n_X8_tells gs_X8_tells_11 := zgq_ok0 (pcs := p_X8_tells) (by decide) rfl rfl (fun a ha => by simp only [al_X8_tells_11, List.mem_cons, List.not_mem_nil, or_false] at ha; rcases ha with rfl <;> decide +kernel) (fun gh => x_X8_tells_11 d) (by decide +kernel)
def q_X8_tells_12 : List (Nat × Nat) := [(0, zk0), (259, zk20)]
noncomputable def al_X8_tells_12 : zAq := [(some (.inl 2147483548), [(0, zk0), (259, zk20)])]
noncomputable def fm_X8_tells_12 : List zFm := [(0, [], (fun vs => [.inr (.ref 0), .inl 2147483650, .inl 9223372043297226771, .inl 9223372071214514175, .inl 8589934591]), (fun vs => zP q_X8_tells_12), (fun vs => Nat.sub (Nat.add 0 0) 0))]
def bf_X8_tells_12 : List Nat := []
theorem r_X8_tells_12_0 : zbox [] (fun vs => zFrun (zpost (zAlq al_X8_tells_12)) 1000 t_X8_tells fm_X8_tells_12 bf_X8_tells_12 (0, vs)) = true := by decide +kernel
set_option maxRecDepth 100000 in
theorem x_X8_tells_12 (d : Nat) : zS l G gh (d + 5) (zpost (zAlq al_X8_tells_12)) n_X8_tells (zn 0 p_X8_tells 0) (zwc (0, [.inr (.ref 0), .inl 2147483650, .inl 9223372043297226771, .inl 9223372071214514175, .inl 8589934591], zP q_X8_tells_12) 0) := zentry (tt_X8_tells d) fm_X8_tells_12 bf_X8_tells_12 1000 (by decide +kernel) rfl ⟨Nat.zero_lt_succ _, trivial⟩ (fun f hf => match f, hf with
  | 0, _ => fun vs hv => (zbox_t r_X8_tells_12_0) vs hv
  | f + 1, h => absurd (show f + 1 < 1 from h) (Nat.not_lt.mpr (Nat.le_add_left 1 f)))
noncomputable def gs_X8_tells_12 : zMt := zgq false [] 8 [.inr (.ref 0), .inl 2147483650, .inl 9223372043297226771, .inl 9223372071214514175, .inl 8589934591] q_X8_tells_12 al_X8_tells_12
set_option maxRecDepth 100000 in
theorem cs_X8_tells_12 (d : Nat) : zC l G gh (d + 5) n_X8_tells gs_X8_tells_12 := zgq_ok0 (pcs := p_X8_tells) (by decide) rfl rfl (fun a ha => by simp only [al_X8_tells_12, List.mem_cons, List.not_mem_nil, or_false] at ha; rcases ha with rfl <;> decide +kernel) (fun gh => x_X8_tells_12 d) (by decide +kernel)
def q_X8_tells_13 : List (Nat × Nat) := []
noncomputable def al_X8_tells_13 : zAq := [(some (.inl 2147483548), [])]
noncomputable def fm_X8_tells_13 : List zFm := [(0, [], (fun vs => [.inr (.ref 0), .inl 2147483650, .inl 6442450943, .inl 8589934591, .inl 8589934591]), (fun vs => zP q_X8_tells_13), (fun vs => Nat.sub (Nat.add 0 0) 0))]
def bf_X8_tells_13 : List Nat := []
theorem r_X8_tells_13_0 : zbox [] (fun vs => zFrun (zpost (zAlq al_X8_tells_13)) 1000 t_X8_tells fm_X8_tells_13 bf_X8_tells_13 (0, vs)) = true := by decide +kernel
set_option maxRecDepth 100000 in
theorem x_X8_tells_13 (d : Nat) : zS l G gh (d + 5) (zpost (zAlq al_X8_tells_13)) n_X8_tells (zn 0 p_X8_tells 0) (zwc (0, [.inr (.ref 0), .inl 2147483650, .inl 6442450943, .inl 8589934591, .inl 8589934591], zP q_X8_tells_13) 0) := zentry (tt_X8_tells d) fm_X8_tells_13 bf_X8_tells_13 1000 (by decide +kernel) rfl ⟨Nat.zero_lt_succ _, trivial⟩ (fun f hf => match f, hf with
  | 0, _ => fun vs hv => (zbox_t r_X8_tells_13_0) vs hv
  | f + 1, h => absurd (show f + 1 < 1 from h) (Nat.not_lt.mpr (Nat.le_add_left 1 f)))
noncomputable def gs_X8_tells_13 : zMt := zgq false [] 8 [.inr (.ref 0), .inl 2147483650, .inl 6442450943, .inl 8589934591, .inl 8589934591] q_X8_tells_13 al_X8_tells_13
set_option maxRecDepth 100000 in
theorem cs_X8_tells_13 (d : Nat) : zC l G gh (d + 5) n_X8_tells gs_X8_tells_13 := zgq_ok0 (pcs := p_X8_tells) (by decide) rfl rfl (fun a ha => by simp only [al_X8_tells_13, List.mem_cons, List.not_mem_nil, or_false] at ha; rcases ha with rfl <;> decide +kernel) (fun gh => x_X8_tells_13 d) (by decide +kernel)
def q_X8_tells_14 : List (Nat × Nat) := []
noncomputable def al_X8_tells_14 : zAq := [(some (.inl 2147483548), [])]
noncomputable def fm_X8_tells_14 : List zFm := [(0, [], (fun vs => [.inr (.ref 0), .inl 2147483650, .inl 9223372131344056319, .inl 8589934591, .inl 8589934591]), (fun vs => zP q_X8_tells_14), (fun vs => Nat.sub (Nat.add 0 0) 0))]
def bf_X8_tells_14 : List Nat := []
theorem r_X8_tells_14_0 : zbox [] (fun vs => zFrun (zpost (zAlq al_X8_tells_14)) 1000 t_X8_tells fm_X8_tells_14 bf_X8_tells_14 (0, vs)) = true := by decide +kernel
set_option maxRecDepth 100000 in
theorem x_X8_tells_14 (d : Nat) : zS l G gh (d + 5) (zpost (zAlq al_X8_tells_14)) n_X8_tells (zn 0 p_X8_tells 0) (zwc (0, [.inr (.ref 0), .inl 2147483650, .inl 9223372131344056319, .inl 8589934591, .inl 8589934591], zP q_X8_tells_14) 0) := zentry (tt_X8_tells d) fm_X8_tells_14 bf_X8_tells_14 1000 (by decide +kernel) rfl ⟨Nat.zero_lt_succ _, trivial⟩ (fun f hf => match f, hf with
  | 0, _ => fun vs hv => (zbox_t r_X8_tells_14_0) vs hv
  | f + 1, h => absurd (show f + 1 < 1 from h) (Nat.not_lt.mpr (Nat.le_add_left 1 f)))
noncomputable def gs_X8_tells_14 : zMt := zgq false [] 8 [.inr (.ref 0), .inl 2147483650, .inl 9223372131344056319, .inl 8589934591, .inl 8589934591] q_X8_tells_14 al_X8_tells_14
set_option maxRecDepth 100000 in
theorem cs_X8_tells_14 (d : Nat) : zC l G gh (d + 5) n_X8_tells gs_X8_tells_14 := zgq_ok0 (pcs := p_X8_tells) (by decide) rfl rfl (fun a ha => by simp only [al_X8_tells_14, List.mem_cons, List.not_mem_nil, or_false] at ha; rcases ha with rfl <;> decide +kernel) (fun gh => x_X8_tells_14 d) (by decide +kernel)
def q_X8_tells_15 : List (Nat × Nat) := [(0, zk0), (21, zk10), (259, zk20), (265, zk2), (266, zk18), (267, zk18), (268, zk19), (269, zk3), (270, zk7)]
noncomputable def al_X8_tells_15 : zAq := [(some (.inl 9223371613800497251), [(0, zk0), (21, zk10), (259, zk20), (265, zk2), (266, zk18), (267, zk18), (268, zk19), (269, zk4), (270, zk9)])]
noncomputable def fm_X8_tells_15 : List zFm := [(0, [], (fun vs => [.inr (.ref 0), .inl 2147483651, .inl 9223372043297226771, .inl 9223372043297226757, .inl 8589934591]), (fun vs => zP q_X8_tells_15), (fun vs => Nat.sub (Nat.add 0 0) 0))]
def bf_X8_tells_15 : List Nat := []
theorem r_X8_tells_15_0 : zbox [] (fun vs => zFrun (zpost (zAlq al_X8_tells_15)) 1000 t_X8_tells fm_X8_tells_15 bf_X8_tells_15 (0, vs)) = true := by decide +kernel
set_option maxRecDepth 100000 in
theorem x_X8_tells_15 (d : Nat) : zS l G gh (d + 5) (zpost (zAlq al_X8_tells_15)) n_X8_tells (zn 0 p_X8_tells 0) (zwc (0, [.inr (.ref 0), .inl 2147483651, .inl 9223372043297226771, .inl 9223372043297226757, .inl 8589934591], zP q_X8_tells_15) 0) := zentry (tt_X8_tells d) fm_X8_tells_15 bf_X8_tells_15 1000 (by decide +kernel) rfl ⟨Nat.zero_lt_succ _, trivial⟩ (fun f hf => match f, hf with
  | 0, _ => fun vs hv => (zbox_t r_X8_tells_15_0) vs hv
  | f + 1, h => absurd (show f + 1 < 1 from h) (Nat.not_lt.mpr (Nat.le_add_left 1 f)))
noncomputable def gs_X8_tells_15 : zMt := zgq false [] 8 [.inr (.ref 0), .inl 2147483651, .inl 9223372043297226771, .inl 9223372043297226757, .inl 8589934591] q_X8_tells_15 al_X8_tells_15
set_option maxRecDepth 100000 in
theorem cs_X8_tells_15 (d : Nat) : zC l G gh (d + 5) n_X8_tells gs_X8_tells_15 := zgq_ok0 (pcs := p_X8_tells) (by decide) rfl rfl (fun a ha => by simp only [al_X8_tells_15, List.mem_cons, List.not_mem_nil, or_false] at ha; rcases ha with rfl <;> decide +kernel) (fun gh => x_X8_tells_15 d) (by decide +kernel)
def q_X8_tells_16 : List (Nat × Nat) := [(0, zk0), (21, zk10), (259, zk20), (265, zk2), (266, zk18), (267, zk18), (268, zk19), (269, zk3), (270, zk7)]
noncomputable def al_X8_tells_16 : zAq := [(some (.inl 9223371613800497251), [(0, zk0), (21, zk10), (259, zk20), (265, zk2), (266, zk18), (267, zk18), (268, zk19), (269, zk4), (270, zk9)])]
noncomputable def fm_X8_tells_16 : List zFm := [(0, [], (fun vs => [.inr (.ref 0), .inl 2147483651, .inl 9223372043297226771, .inl 6442450943, .inl 8589934591]), (fun vs => zP q_X8_tells_16), (fun vs => Nat.sub (Nat.add 0 0) 0))]
def bf_X8_tells_16 : List Nat := []
theorem r_X8_tells_16_0 : zbox [] (fun vs => zFrun (zpost (zAlq al_X8_tells_16)) 1000 t_X8_tells fm_X8_tells_16 bf_X8_tells_16 (0, vs)) = true := by decide +kernel
set_option maxRecDepth 100000 in
theorem x_X8_tells_16 (d : Nat) : zS l G gh (d + 5) (zpost (zAlq al_X8_tells_16)) n_X8_tells (zn 0 p_X8_tells 0) (zwc (0, [.inr (.ref 0), .inl 2147483651, .inl 9223372043297226771, .inl 6442450943, .inl 8589934591], zP q_X8_tells_16) 0) := zentry (tt_X8_tells d) fm_X8_tells_16 bf_X8_tells_16 1000 (by decide +kernel) rfl ⟨Nat.zero_lt_succ _, trivial⟩ (fun f hf => match f, hf with
  | 0, _ => fun vs hv => (zbox_t r_X8_tells_16_0) vs hv
  | f + 1, h => absurd (show f + 1 < 1 from h) (Nat.not_lt.mpr (Nat.le_add_left 1 f)))
noncomputable def gs_X8_tells_16 : zMt := zgq false [] 8 [.inr (.ref 0), .inl 2147483651, .inl 9223372043297226771, .inl 6442450943, .inl 8589934591] q_X8_tells_16 al_X8_tells_16
set_option maxRecDepth 100000 in
theorem cs_X8_tells_16 (d : Nat) : zC l G gh (d + 5) n_X8_tells gs_X8_tells_16 := zgq_ok0 (pcs := p_X8_tells) (by decide) rfl rfl (fun a ha => by simp only [al_X8_tells_16, List.mem_cons, List.not_mem_nil, or_false] at ha; rcases ha with rfl <;> decide +kernel) (fun gh => x_X8_tells_16 d) (by decide +kernel)
def q_X8_tells_17 : List (Nat × Nat) := [(0, zk0), (21, zk10), (259, zk20), (265, zk2), (266, zk18), (267, zk18), (268, zk19), (269, zk3), (270, zk7)]
noncomputable def al_X8_tells_17 : zAq := [(some (.inl 9223371613800497251), [(0, zk0), (21, zk10), (259, zk20), (265, zk2), (266, zk18), (267, zk18), (268, zk19), (269, zk4), (270, zk9)])]
noncomputable def fm_X8_tells_17 : List zFm := [(0, [], (fun vs => [.inr (.ref 0), .inl 2147483651, .inl 9223372043297226771, .inl 9223372071214514175, .inl 8589934591]), (fun vs => zP q_X8_tells_17), (fun vs => Nat.sub (Nat.add 0 0) 0))]
def bf_X8_tells_17 : List Nat := []
theorem r_X8_tells_17_0 : zbox [] (fun vs => zFrun (zpost (zAlq al_X8_tells_17)) 1000 t_X8_tells fm_X8_tells_17 bf_X8_tells_17 (0, vs)) = true := by decide +kernel
set_option maxRecDepth 100000 in
theorem x_X8_tells_17 (d : Nat) : zS l G gh (d + 5) (zpost (zAlq al_X8_tells_17)) n_X8_tells (zn 0 p_X8_tells 0) (zwc (0, [.inr (.ref 0), .inl 2147483651, .inl 9223372043297226771, .inl 9223372071214514175, .inl 8589934591], zP q_X8_tells_17) 0) := zentry (tt_X8_tells d) fm_X8_tells_17 bf_X8_tells_17 1000 (by decide +kernel) rfl ⟨Nat.zero_lt_succ _, trivial⟩ (fun f hf => match f, hf with
  | 0, _ => fun vs hv => (zbox_t r_X8_tells_17_0) vs hv
  | f + 1, h => absurd (show f + 1 < 1 from h) (Nat.not_lt.mpr (Nat.le_add_left 1 f)))
noncomputable def gs_X8_tells_17 : zMt := zgq false [] 8 [.inr (.ref 0), .inl 2147483651, .inl 9223372043297226771, .inl 9223372071214514175, .inl 8589934591] q_X8_tells_17 al_X8_tells_17
set_option maxRecDepth 100000 in
theorem cs_X8_tells_17 (d : Nat) : zC l G gh (d + 5) n_X8_tells gs_X8_tells_17 := zgq_ok0 (pcs := p_X8_tells) (by decide) rfl rfl (fun a ha => by simp only [al_X8_tells_17, List.mem_cons, List.not_mem_nil, or_false] at ha; rcases ha with rfl <;> decide +kernel) (fun gh => x_X8_tells_17 d) (by decide +kernel)
def q_X8_tells_18 : List (Nat × Nat) := [(0, zk0), (21, zk10), (259, zk20), (265, zk2), (266, zk18), (267, zk18), (268, zk19), (269, zk3), (270, zk7)]
noncomputable def al_X8_tells_18 : zAq := [(some (.inl 9223371613800497251), [(0, zk0), (21, zk10), (259, zk20), (265, zk2), (266, zk18), (267, zk18), (268, zk19), (269, zk4), (270, zk9)])]
noncomputable def fm_X8_tells_18 : List zFm := [(0, [], (fun vs => [.inr (.ref 0), .inl 2147483651, .inl 6442450943, .inl 8589934591, .inl 8589934591]), (fun vs => zP q_X8_tells_18), (fun vs => Nat.sub (Nat.add 0 0) 0))]
def bf_X8_tells_18 : List Nat := []
theorem r_X8_tells_18_0 : zbox [] (fun vs => zFrun (zpost (zAlq al_X8_tells_18)) 1000 t_X8_tells fm_X8_tells_18 bf_X8_tells_18 (0, vs)) = true := by decide +kernel
set_option maxRecDepth 100000 in
theorem x_X8_tells_18 (d : Nat) : zS l G gh (d + 5) (zpost (zAlq al_X8_tells_18)) n_X8_tells (zn 0 p_X8_tells 0) (zwc (0, [.inr (.ref 0), .inl 2147483651, .inl 6442450943, .inl 8589934591, .inl 8589934591], zP q_X8_tells_18) 0) := zentry (tt_X8_tells d) fm_X8_tells_18 bf_X8_tells_18 1000 (by decide +kernel) rfl ⟨Nat.zero_lt_succ _, trivial⟩ (fun f hf => match f, hf with
  | 0, _ => fun vs hv => (zbox_t r_X8_tells_18_0) vs hv
  | f + 1, h => absurd (show f + 1 < 1 from h) (Nat.not_lt.mpr (Nat.le_add_left 1 f)))
noncomputable def gs_X8_tells_18 : zMt := zgq false [] 8 [.inr (.ref 0), .inl 2147483651, .inl 6442450943, .inl 8589934591, .inl 8589934591] q_X8_tells_18 al_X8_tells_18
set_option maxRecDepth 100000 in
theorem cs_X8_tells_18 (d : Nat) : zC l G gh (d + 5) n_X8_tells gs_X8_tells_18 := zgq_ok0 (pcs := p_X8_tells) (by decide) rfl rfl (fun a ha => by simp only [al_X8_tells_18, List.mem_cons, List.not_mem_nil, or_false] at ha; rcases ha with rfl <;> decide +kernel) (fun gh => x_X8_tells_18 d) (by decide +kernel)
def q_X8_tells_19 : List (Nat × Nat) := [(0, zk0), (21, zk10), (259, zk20), (265, zk2), (266, zk18), (267, zk18), (268, zk19), (269, zk3), (270, zk7)]
noncomputable def al_X8_tells_19 : zAq := [(some (.inl 9223371613800497251), [(0, zk0), (21, zk10), (259, zk20), (265, zk2), (266, zk18), (267, zk18), (268, zk19), (269, zk4), (270, zk9)])]
noncomputable def fm_X8_tells_19 : List zFm := [(0, [], (fun vs => [.inr (.ref 0), .inl 2147483651, .inl 9223372131344056319, .inl 8589934591, .inl 8589934591]), (fun vs => zP q_X8_tells_19), (fun vs => Nat.sub (Nat.add 0 0) 0))]
def bf_X8_tells_19 : List Nat := []
theorem r_X8_tells_19_0 : zbox [] (fun vs => zFrun (zpost (zAlq al_X8_tells_19)) 1000 t_X8_tells fm_X8_tells_19 bf_X8_tells_19 (0, vs)) = true := by decide +kernel
set_option maxRecDepth 100000 in
theorem x_X8_tells_19 (d : Nat) : zS l G gh (d + 5) (zpost (zAlq al_X8_tells_19)) n_X8_tells (zn 0 p_X8_tells 0) (zwc (0, [.inr (.ref 0), .inl 2147483651, .inl 9223372131344056319, .inl 8589934591, .inl 8589934591], zP q_X8_tells_19) 0) := zentry (tt_X8_tells d) fm_X8_tells_19 bf_X8_tells_19 1000 (by decide +kernel) rfl ⟨Nat.zero_lt_succ _, trivial⟩ (fun f hf => match f, hf with
  | 0, _ => fun vs hv => (zbox_t r_X8_tells_19_0) vs hv
  | f + 1, h => absurd (show f + 1 < 1 from h) (Nat.not_lt.mpr (Nat.le_add_left 1 f)))
noncomputable def gs_X8_tells_19 : zMt := zgq false [] 8 [.inr (.ref 0), .inl 2147483651, .inl 9223372131344056319, .inl 8589934591, .inl 8589934591] q_X8_tells_19 al_X8_tells_19
set_option maxRecDepth 100000 in
theorem cs_X8_tells_19 (d : Nat) : zC l G gh (d + 5) n_X8_tells gs_X8_tells_19 := zgq_ok0 (pcs := p_X8_tells) (by decide) rfl rfl (fun a ha => by simp only [al_X8_tells_19, List.mem_cons, List.not_mem_nil, or_false] at ha; rcases ha with rfl <;> decide +kernel) (fun gh => x_X8_tells_19 d) (by decide +kernel)
def q_X8_tells_20 : List (Nat × Nat) := [(0, zk0), (21, zk10), (259, zk20), (265, zk2), (266, zk18), (267, zk18), (268, zk19), (269, zk3), (270, zk7)]
noncomputable def al_X8_tells_20 : zAq := [(some (.inl 2147483548), [(0, zk0), (21, zk10), (259, zk20), (265, zk2), (266, zk18), (267, zk18), (268, zk19), (269, zk4), (270, zk9)])]
noncomputable def fm_X8_tells_20 : List zFm := [(0, [], (fun vs => [.inr (.ref 0), .inl 6442450943, .inl 8589934591, .inl 8589934591, .inl 8589934591]), (fun vs => zP q_X8_tells_20), (fun vs => Nat.sub (Nat.add 0 0) 0))]
def bf_X8_tells_20 : List Nat := []
theorem r_X8_tells_20_0 : zbox [] (fun vs => zFrun (zpost (zAlq al_X8_tells_20)) 1000 t_X8_tells fm_X8_tells_20 bf_X8_tells_20 (0, vs)) = true := by decide +kernel
set_option maxRecDepth 100000 in
theorem x_X8_tells_20 (d : Nat) : zS l G gh (d + 5) (zpost (zAlq al_X8_tells_20)) n_X8_tells (zn 0 p_X8_tells 0) (zwc (0, [.inr (.ref 0), .inl 6442450943, .inl 8589934591, .inl 8589934591, .inl 8589934591], zP q_X8_tells_20) 0) := zentry (tt_X8_tells d) fm_X8_tells_20 bf_X8_tells_20 1000 (by decide +kernel) rfl ⟨Nat.zero_lt_succ _, trivial⟩ (fun f hf => match f, hf with
  | 0, _ => fun vs hv => (zbox_t r_X8_tells_20_0) vs hv
  | f + 1, h => absurd (show f + 1 < 1 from h) (Nat.not_lt.mpr (Nat.le_add_left 1 f)))
noncomputable def gs_X8_tells_20 : zMt := zgq false [] 8 [.inr (.ref 0), .inl 6442450943, .inl 8589934591, .inl 8589934591, .inl 8589934591] q_X8_tells_20 al_X8_tells_20
set_option maxRecDepth 100000 in
theorem cs_X8_tells_20 (d : Nat) : zC l G gh (d + 5) n_X8_tells gs_X8_tells_20 := zgq_ok0 (pcs := p_X8_tells) (by decide) rfl rfl (fun a ha => by simp only [al_X8_tells_20, List.mem_cons, List.not_mem_nil, or_false] at ha; rcases ha with rfl <;> decide +kernel) (fun gh => x_X8_tells_20 d) (by decide +kernel)
def q_X8_tells_21 : List (Nat × Nat) := [(0, zk0), (21, zk10), (259, zk20), (265, zk2), (266, zk18), (267, zk18), (268, zk19), (269, zk3), (270, zk7)]
noncomputable def al_X8_tells_21 : zAq := [(some (.inl 2147483548), [(0, zk0), (21, zk10), (259, zk20), (265, zk2), (266, zk18), (267, zk18), (268, zk19), (269, zk4), (270, zk9)])]
noncomputable def fm_X8_tells_21 : List zFm := [(0, [], (fun vs => [.inr (.ref 0), .inl 9223372062624579583, .inl 8589934591, .inl 8589934591, .inl 8589934591]), (fun vs => zP q_X8_tells_21), (fun vs => Nat.sub (Nat.add 0 0) 0))]
def bf_X8_tells_21 : List Nat := []
theorem r_X8_tells_21_0 : zbox [] (fun vs => zFrun (zpost (zAlq al_X8_tells_21)) 1000 t_X8_tells fm_X8_tells_21 bf_X8_tells_21 (0, vs)) = true := by decide +kernel
set_option maxRecDepth 100000 in
theorem x_X8_tells_21 (d : Nat) : zS l G gh (d + 5) (zpost (zAlq al_X8_tells_21)) n_X8_tells (zn 0 p_X8_tells 0) (zwc (0, [.inr (.ref 0), .inl 9223372062624579583, .inl 8589934591, .inl 8589934591, .inl 8589934591], zP q_X8_tells_21) 0) := zentry (tt_X8_tells d) fm_X8_tells_21 bf_X8_tells_21 1000 (by decide +kernel) rfl ⟨Nat.zero_lt_succ _, trivial⟩ (fun f hf => match f, hf with
  | 0, _ => fun vs hv => (zbox_t r_X8_tells_21_0) vs hv
  | f + 1, h => absurd (show f + 1 < 1 from h) (Nat.not_lt.mpr (Nat.le_add_left 1 f)))
noncomputable def gs_X8_tells_21 : zMt := zgq false [] 8 [.inr (.ref 0), .inl 9223372062624579583, .inl 8589934591, .inl 8589934591, .inl 8589934591] q_X8_tells_21 al_X8_tells_21
set_option maxRecDepth 100000 in
theorem cs_X8_tells_21 (d : Nat) : zC l G gh (d + 5) n_X8_tells gs_X8_tells_21 := zgq_ok0 (pcs := p_X8_tells) (by decide) rfl rfl (fun a ha => by simp only [al_X8_tells_21, List.mem_cons, List.not_mem_nil, or_false] at ha; rcases ha with rfl <;> decide +kernel) (fun gh => x_X8_tells_21 d) (by decide +kernel)
def q_X8_tells_22 : List (Nat × Nat) := [(0, zk1), (9, zk21), (15, zk5), (16, zk18), (17, zk18), (18, zk19), (19, zk3), (20, zk7), (21, zk10)]
noncomputable def al_X8_tells_22 : zAq := [(some (.inl 9223372043297226851), [(0, zk1), (9, zk21), (15, zk5), (16, zk18), (17, zk18), (18, zk19), (19, zk4), (20, zk9), (21, zk10)])]
noncomputable def fm_X8_tells_22 : List zFm := [(0, [], (fun vs => [.inr (.ref 0), .inl 2147483648, .inl 9223372043297226771, .inl 9223372043297226757, .inl 8589934591]), (fun vs => zP q_X8_tells_22), (fun vs => Nat.sub (Nat.add 0 0) 0))]
def bf_X8_tells_22 : List Nat := []
theorem r_X8_tells_22_0 : zbox [] (fun vs => zFrun (zpost (zAlq al_X8_tells_22)) 1000 t_X8_tells fm_X8_tells_22 bf_X8_tells_22 (0, vs)) = true := by decide +kernel
set_option maxRecDepth 100000 in
theorem x_X8_tells_22 (d : Nat) : zS l G gh (d + 5) (zpost (zAlq al_X8_tells_22)) n_X8_tells (zn 0 p_X8_tells 0) (zwc (0, [.inr (.ref 0), .inl 2147483648, .inl 9223372043297226771, .inl 9223372043297226757, .inl 8589934591], zP q_X8_tells_22) 0) := zentry (tt_X8_tells d) fm_X8_tells_22 bf_X8_tells_22 1000 (by decide +kernel) rfl ⟨Nat.zero_lt_succ _, trivial⟩ (fun f hf => match f, hf with
  | 0, _ => fun vs hv => (zbox_t r_X8_tells_22_0) vs hv
  | f + 1, h => absurd (show f + 1 < 1 from h) (Nat.not_lt.mpr (Nat.le_add_left 1 f)))
noncomputable def gs_X8_tells_22 : zMt := zgq false [] 8 [.inr (.ref 0), .inl 2147483648, .inl 9223372043297226771, .inl 9223372043297226757, .inl 8589934591] q_X8_tells_22 al_X8_tells_22
set_option maxRecDepth 100000 in
theorem cs_X8_tells_22 (d : Nat) : zC l G gh (d + 5) n_X8_tells gs_X8_tells_22 := zgq_ok0 (pcs := p_X8_tells) (by decide) rfl rfl (fun a ha => by simp only [al_X8_tells_22, List.mem_cons, List.not_mem_nil, or_false] at ha; rcases ha with rfl <;> decide +kernel) (fun gh => x_X8_tells_22 d) (by decide +kernel)
def q_X8_tells_23 : List (Nat × Nat) := [(0, zk1), (9, zk21), (15, zk5), (16, zk18), (17, zk18), (18, zk19), (19, zk3), (20, zk7), (21, zk10)]
noncomputable def al_X8_tells_23 : zAq := [(some (.inl 9223372043297226851), [(0, zk1), (9, zk21), (15, zk5), (16, zk18), (17, zk18), (18, zk19), (19, zk4), (20, zk9), (21, zk10)])]
noncomputable def fm_X8_tells_23 : List zFm := [(0, [], (fun vs => [.inr (.ref 0), .inl 2147483648, .inl 9223372043297226771, .inl 6442450943, .inl 8589934591]), (fun vs => zP q_X8_tells_23), (fun vs => Nat.sub (Nat.add 0 0) 0))]
def bf_X8_tells_23 : List Nat := []
theorem r_X8_tells_23_0 : zbox [] (fun vs => zFrun (zpost (zAlq al_X8_tells_23)) 1000 t_X8_tells fm_X8_tells_23 bf_X8_tells_23 (0, vs)) = true := by decide +kernel
set_option maxRecDepth 100000 in
theorem x_X8_tells_23 (d : Nat) : zS l G gh (d + 5) (zpost (zAlq al_X8_tells_23)) n_X8_tells (zn 0 p_X8_tells 0) (zwc (0, [.inr (.ref 0), .inl 2147483648, .inl 9223372043297226771, .inl 6442450943, .inl 8589934591], zP q_X8_tells_23) 0) := zentry (tt_X8_tells d) fm_X8_tells_23 bf_X8_tells_23 1000 (by decide +kernel) rfl ⟨Nat.zero_lt_succ _, trivial⟩ (fun f hf => match f, hf with
  | 0, _ => fun vs hv => (zbox_t r_X8_tells_23_0) vs hv
  | f + 1, h => absurd (show f + 1 < 1 from h) (Nat.not_lt.mpr (Nat.le_add_left 1 f)))
noncomputable def gs_X8_tells_23 : zMt := zgq false [] 8 [.inr (.ref 0), .inl 2147483648, .inl 9223372043297226771, .inl 6442450943, .inl 8589934591] q_X8_tells_23 al_X8_tells_23
set_option maxRecDepth 100000 in
theorem cs_X8_tells_23 (d : Nat) : zC l G gh (d + 5) n_X8_tells gs_X8_tells_23 := zgq_ok0 (pcs := p_X8_tells) (by decide) rfl rfl (fun a ha => by simp only [al_X8_tells_23, List.mem_cons, List.not_mem_nil, or_false] at ha; rcases ha with rfl <;> decide +kernel) (fun gh => x_X8_tells_23 d) (by decide +kernel)
def q_X8_tells_24 : List (Nat × Nat) := [(0, zk1), (9, zk21), (15, zk5), (16, zk18), (17, zk18), (18, zk19), (19, zk3), (20, zk7), (21, zk10)]
noncomputable def al_X8_tells_24 : zAq := [(some (.inl 9223372043297226851), [(0, zk1), (9, zk21), (15, zk5), (16, zk18), (17, zk18), (18, zk19), (19, zk4), (20, zk9), (21, zk10)])]
noncomputable def fm_X8_tells_24 : List zFm := [(0, [], (fun vs => [.inr (.ref 0), .inl 2147483648, .inl 9223372043297226771, .inl 9223372071214514175, .inl 8589934591]), (fun vs => zP q_X8_tells_24), (fun vs => Nat.sub (Nat.add 0 0) 0))]
def bf_X8_tells_24 : List Nat := []
theorem r_X8_tells_24_0 : zbox [] (fun vs => zFrun (zpost (zAlq al_X8_tells_24)) 1000 t_X8_tells fm_X8_tells_24 bf_X8_tells_24 (0, vs)) = true := by decide +kernel
set_option maxRecDepth 100000 in
theorem x_X8_tells_24 (d : Nat) : zS l G gh (d + 5) (zpost (zAlq al_X8_tells_24)) n_X8_tells (zn 0 p_X8_tells 0) (zwc (0, [.inr (.ref 0), .inl 2147483648, .inl 9223372043297226771, .inl 9223372071214514175, .inl 8589934591], zP q_X8_tells_24) 0) := zentry (tt_X8_tells d) fm_X8_tells_24 bf_X8_tells_24 1000 (by decide +kernel) rfl ⟨Nat.zero_lt_succ _, trivial⟩ (fun f hf => match f, hf with
  | 0, _ => fun vs hv => (zbox_t r_X8_tells_24_0) vs hv
  | f + 1, h => absurd (show f + 1 < 1 from h) (Nat.not_lt.mpr (Nat.le_add_left 1 f)))
noncomputable def gs_X8_tells_24 : zMt := zgq false [] 8 [.inr (.ref 0), .inl 2147483648, .inl 9223372043297226771, .inl 9223372071214514175, .inl 8589934591] q_X8_tells_24 al_X8_tells_24
set_option maxRecDepth 100000 in
theorem cs_X8_tells_24 (d : Nat) : zC l G gh (d + 5) n_X8_tells gs_X8_tells_24 := zgq_ok0 (pcs := p_X8_tells) (by decide) rfl rfl (fun a ha => by simp only [al_X8_tells_24, List.mem_cons, List.not_mem_nil, or_false] at ha; rcases ha with rfl <;> decide +kernel) (fun gh => x_X8_tells_24 d) (by decide +kernel)
def q_X8_tells_25 : List (Nat × Nat) := [(0, zk1), (9, zk21), (15, zk5), (16, zk18), (17, zk18), (18, zk19), (19, zk3), (20, zk7), (21, zk10)]
noncomputable def al_X8_tells_25 : zAq := [(some (.inl 9223372043297226851), [(0, zk1), (9, zk21), (15, zk5), (16, zk18), (17, zk18), (18, zk19), (19, zk4), (20, zk9), (21, zk10)])]
noncomputable def fm_X8_tells_25 : List zFm := [(0, [], (fun vs => [.inr (.ref 0), .inl 2147483648, .inl 6442450943, .inl 8589934591, .inl 8589934591]), (fun vs => zP q_X8_tells_25), (fun vs => Nat.sub (Nat.add 0 0) 0))]
def bf_X8_tells_25 : List Nat := []
theorem r_X8_tells_25_0 : zbox [] (fun vs => zFrun (zpost (zAlq al_X8_tells_25)) 1000 t_X8_tells fm_X8_tells_25 bf_X8_tells_25 (0, vs)) = true := by decide +kernel
set_option maxRecDepth 100000 in
theorem x_X8_tells_25 (d : Nat) : zS l G gh (d + 5) (zpost (zAlq al_X8_tells_25)) n_X8_tells (zn 0 p_X8_tells 0) (zwc (0, [.inr (.ref 0), .inl 2147483648, .inl 6442450943, .inl 8589934591, .inl 8589934591], zP q_X8_tells_25) 0) := zentry (tt_X8_tells d) fm_X8_tells_25 bf_X8_tells_25 1000 (by decide +kernel) rfl ⟨Nat.zero_lt_succ _, trivial⟩ (fun f hf => match f, hf with
  | 0, _ => fun vs hv => (zbox_t r_X8_tells_25_0) vs hv
  | f + 1, h => absurd (show f + 1 < 1 from h) (Nat.not_lt.mpr (Nat.le_add_left 1 f)))
noncomputable def gs_X8_tells_25 : zMt := zgq false [] 8 [.inr (.ref 0), .inl 2147483648, .inl 6442450943, .inl 8589934591, .inl 8589934591] q_X8_tells_25 al_X8_tells_25
set_option maxRecDepth 100000 in
theorem cs_X8_tells_25 (d : Nat) : zC l G gh (d + 5) n_X8_tells gs_X8_tells_25 := zgq_ok0 (pcs := p_X8_tells) (by decide) rfl rfl (fun a ha => by simp only [al_X8_tells_25, List.mem_cons, List.not_mem_nil, or_false] at ha; rcases ha with rfl <;> decide +kernel) (fun gh => x_X8_tells_25 d) (by decide +kernel)
def q_X8_tells_26 : List (Nat × Nat) := [(0, zk1), (9, zk21), (15, zk5), (16, zk18), (17, zk18), (18, zk19), (19, zk3), (20, zk7), (21, zk10)]
noncomputable def al_X8_tells_26 : zAq := [(some (.inl 9223372043297226851), [(0, zk1), (9, zk21), (15, zk5), (16, zk18), (17, zk18), (18, zk19), (19, zk4), (20, zk9), (21, zk10)])]
noncomputable def fm_X8_tells_26 : List zFm := [(0, [], (fun vs => [.inr (.ref 0), .inl 2147483648, .inl 9223372131344056319, .inl 8589934591, .inl 8589934591]), (fun vs => zP q_X8_tells_26), (fun vs => Nat.sub (Nat.add 0 0) 0))]
def bf_X8_tells_26 : List Nat := []
theorem r_X8_tells_26_0 : zbox [] (fun vs => zFrun (zpost (zAlq al_X8_tells_26)) 1000 t_X8_tells fm_X8_tells_26 bf_X8_tells_26 (0, vs)) = true := by decide +kernel
set_option maxRecDepth 100000 in
theorem x_X8_tells_26 (d : Nat) : zS l G gh (d + 5) (zpost (zAlq al_X8_tells_26)) n_X8_tells (zn 0 p_X8_tells 0) (zwc (0, [.inr (.ref 0), .inl 2147483648, .inl 9223372131344056319, .inl 8589934591, .inl 8589934591], zP q_X8_tells_26) 0) := zentry (tt_X8_tells d) fm_X8_tells_26 bf_X8_tells_26 1000 (by decide +kernel) rfl ⟨Nat.zero_lt_succ _, trivial⟩ (fun f hf => match f, hf with
  | 0, _ => fun vs hv => (zbox_t r_X8_tells_26_0) vs hv
  | f + 1, h => absurd (show f + 1 < 1 from h) (Nat.not_lt.mpr (Nat.le_add_left 1 f)))
noncomputable def gs_X8_tells_26 : zMt := zgq false [] 8 [.inr (.ref 0), .inl 2147483648, .inl 9223372131344056319, .inl 8589934591, .inl 8589934591] q_X8_tells_26 al_X8_tells_26
set_option maxRecDepth 100000 in
theorem cs_X8_tells_26 (d : Nat) : zC l G gh (d + 5) n_X8_tells gs_X8_tells_26 := zgq_ok0 (pcs := p_X8_tells) (by decide) rfl rfl (fun a ha => by simp only [al_X8_tells_26, List.mem_cons, List.not_mem_nil, or_false] at ha; rcases ha with rfl <;> decide +kernel) (fun gh => x_X8_tells_26 d) (by decide +kernel)
def q_X8_tells_27 : List (Nat × Nat) := [(0, zk1), (9, zk21), (11, zk12), (12, zk12), (15, zk5), (16, zk18), (17, zk18), (18, zk19), (19, zk3), (20, zk7), (21, zk10)]
noncomputable def al_X8_tells_27 : zAq := [(some (.inl 9223371613800497161), [(0, zk1), (9, zk21), (11, zk12), (12, zk12), (15, zk5), (16, zk18), (17, zk18), (18, zk19), (19, zk4), (20, zk9), (21, zk10)])]
noncomputable def fm_X8_tells_27 : List zFm := [(0, [], (fun vs => [.inr (.ref 0), .inl 2147483649, .inl 9223372043297226771, .inl 9223372043297226757, .inl 8589934591]), (fun vs => zP q_X8_tells_27), (fun vs => Nat.sub (Nat.add 0 0) 0))]
def bf_X8_tells_27 : List Nat := []
theorem r_X8_tells_27_0 : zbox [] (fun vs => zFrun (zpost (zAlq al_X8_tells_27)) 1000 t_X8_tells fm_X8_tells_27 bf_X8_tells_27 (0, vs)) = true := by decide +kernel
set_option maxRecDepth 100000 in
theorem x_X8_tells_27 (d : Nat) : zS l G gh (d + 5) (zpost (zAlq al_X8_tells_27)) n_X8_tells (zn 0 p_X8_tells 0) (zwc (0, [.inr (.ref 0), .inl 2147483649, .inl 9223372043297226771, .inl 9223372043297226757, .inl 8589934591], zP q_X8_tells_27) 0) := zentry (tt_X8_tells d) fm_X8_tells_27 bf_X8_tells_27 1000 (by decide +kernel) rfl ⟨Nat.zero_lt_succ _, trivial⟩ (fun f hf => match f, hf with
  | 0, _ => fun vs hv => (zbox_t r_X8_tells_27_0) vs hv
  | f + 1, h => absurd (show f + 1 < 1 from h) (Nat.not_lt.mpr (Nat.le_add_left 1 f)))
noncomputable def gs_X8_tells_27 : zMt := zgq false [] 8 [.inr (.ref 0), .inl 2147483649, .inl 9223372043297226771, .inl 9223372043297226757, .inl 8589934591] q_X8_tells_27 al_X8_tells_27
set_option maxRecDepth 100000 in
theorem cs_X8_tells_27 (d : Nat) : zC l G gh (d + 5) n_X8_tells gs_X8_tells_27 := zgq_ok0 (pcs := p_X8_tells) (by decide) rfl rfl (fun a ha => by simp only [al_X8_tells_27, List.mem_cons, List.not_mem_nil, or_false] at ha; rcases ha with rfl <;> decide +kernel) (fun gh => x_X8_tells_27 d) (by decide +kernel)
def q_X8_tells_28 : List (Nat × Nat) := [(0, zk1)]
noncomputable def al_X8_tells_28 : zAq := [(some (.inl 2147483548), [(0, zk1)])]
noncomputable def fm_X8_tells_28 : List zFm := [(0, [], (fun vs => [.inr (.ref 0), .inl 2147483649, .inl 9223372043297226771, .inl 6442450943, .inl 8589934591]), (fun vs => zP q_X8_tells_28), (fun vs => Nat.sub (Nat.add 0 0) 0))]
def bf_X8_tells_28 : List Nat := []
theorem r_X8_tells_28_0 : zbox [] (fun vs => zFrun (zpost (zAlq al_X8_tells_28)) 1000 t_X8_tells fm_X8_tells_28 bf_X8_tells_28 (0, vs)) = true := by decide +kernel
set_option maxRecDepth 100000 in
theorem x_X8_tells_28 (d : Nat) : zS l G gh (d + 5) (zpost (zAlq al_X8_tells_28)) n_X8_tells (zn 0 p_X8_tells 0) (zwc (0, [.inr (.ref 0), .inl 2147483649, .inl 9223372043297226771, .inl 6442450943, .inl 8589934591], zP q_X8_tells_28) 0) := zentry (tt_X8_tells d) fm_X8_tells_28 bf_X8_tells_28 1000 (by decide +kernel) rfl ⟨Nat.zero_lt_succ _, trivial⟩ (fun f hf => match f, hf with
  | 0, _ => fun vs hv => (zbox_t r_X8_tells_28_0) vs hv
  | f + 1, h => absurd (show f + 1 < 1 from h) (Nat.not_lt.mpr (Nat.le_add_left 1 f)))
noncomputable def gs_X8_tells_28 : zMt := zgq false [] 8 [.inr (.ref 0), .inl 2147483649, .inl 9223372043297226771, .inl 6442450943, .inl 8589934591] q_X8_tells_28 al_X8_tells_28
set_option maxRecDepth 100000 in
theorem cs_X8_tells_28 (d : Nat) : zC l G gh (d + 5) n_X8_tells gs_X8_tells_28 := zgq_ok0 (pcs := p_X8_tells) (by decide) rfl rfl (fun a ha => by simp only [al_X8_tells_28, List.mem_cons, List.not_mem_nil, or_false] at ha; rcases ha with rfl <;> decide +kernel) (fun gh => x_X8_tells_28 d) (by decide +kernel)
def q_X8_tells_29 : List (Nat × Nat) := [(0, zk1), (9, zk21)]
noncomputable def al_X8_tells_29 : zAq := [(some (.inl 2147483548), [(0, zk1), (9, zk21)])]
noncomputable def fm_X8_tells_29 : List zFm := [(0, [], (fun vs => [.inr (.ref 0), .inl 2147483649, .inl 9223372043297226771, .inl 9223372071214514175, .inl 8589934591]), (fun vs => zP q_X8_tells_29), (fun vs => Nat.sub (Nat.add 0 0) 0))]
def bf_X8_tells_29 : List Nat := []
theorem r_X8_tells_29_0 : zbox [] (fun vs => zFrun (zpost (zAlq al_X8_tells_29)) 1000 t_X8_tells fm_X8_tells_29 bf_X8_tells_29 (0, vs)) = true := by decide +kernel
set_option maxRecDepth 100000 in
theorem x_X8_tells_29 (d : Nat) : zS l G gh (d + 5) (zpost (zAlq al_X8_tells_29)) n_X8_tells (zn 0 p_X8_tells 0) (zwc (0, [.inr (.ref 0), .inl 2147483649, .inl 9223372043297226771, .inl 9223372071214514175, .inl 8589934591], zP q_X8_tells_29) 0) := zentry (tt_X8_tells d) fm_X8_tells_29 bf_X8_tells_29 1000 (by decide +kernel) rfl ⟨Nat.zero_lt_succ _, trivial⟩ (fun f hf => match f, hf with
  | 0, _ => fun vs hv => (zbox_t r_X8_tells_29_0) vs hv
  | f + 1, h => absurd (show f + 1 < 1 from h) (Nat.not_lt.mpr (Nat.le_add_left 1 f)))
noncomputable def gs_X8_tells_29 : zMt := zgq false [] 8 [.inr (.ref 0), .inl 2147483649, .inl 9223372043297226771, .inl 9223372071214514175, .inl 8589934591] q_X8_tells_29 al_X8_tells_29
set_option maxRecDepth 100000 in
theorem cs_X8_tells_29 (d : Nat) : zC l G gh (d + 5) n_X8_tells gs_X8_tells_29 := zgq_ok0 (pcs := p_X8_tells) (by decide) rfl rfl (fun a ha => by simp only [al_X8_tells_29, List.mem_cons, List.not_mem_nil, or_false] at ha; rcases ha with rfl <;> decide +kernel) (fun gh => x_X8_tells_29 d) (by decide +kernel)
def q_X8_tells_30 : List (Nat × Nat) := []
noncomputable def al_X8_tells_30 : zAq := [(some (.inl 2147483548), [])]
noncomputable def fm_X8_tells_30 : List zFm := [(0, [], (fun vs => [.inr (.ref 0), .inl 2147483649, .inl 6442450943, .inl 8589934591, .inl 8589934591]), (fun vs => zP q_X8_tells_30), (fun vs => Nat.sub (Nat.add 0 0) 0))]
def bf_X8_tells_30 : List Nat := []
theorem r_X8_tells_30_0 : zbox [] (fun vs => zFrun (zpost (zAlq al_X8_tells_30)) 1000 t_X8_tells fm_X8_tells_30 bf_X8_tells_30 (0, vs)) = true := by decide +kernel
set_option maxRecDepth 100000 in
theorem x_X8_tells_30 (d : Nat) : zS l G gh (d + 5) (zpost (zAlq al_X8_tells_30)) n_X8_tells (zn 0 p_X8_tells 0) (zwc (0, [.inr (.ref 0), .inl 2147483649, .inl 6442450943, .inl 8589934591, .inl 8589934591], zP q_X8_tells_30) 0) := zentry (tt_X8_tells d) fm_X8_tells_30 bf_X8_tells_30 1000 (by decide +kernel) rfl ⟨Nat.zero_lt_succ _, trivial⟩ (fun f hf => match f, hf with
  | 0, _ => fun vs hv => (zbox_t r_X8_tells_30_0) vs hv
  | f + 1, h => absurd (show f + 1 < 1 from h) (Nat.not_lt.mpr (Nat.le_add_left 1 f)))
noncomputable def gs_X8_tells_30 : zMt := zgq false [] 8 [.inr (.ref 0), .inl 2147483649, .inl 6442450943, .inl 8589934591, .inl 8589934591] q_X8_tells_30 al_X8_tells_30
set_option maxRecDepth 100000 in
theorem cs_X8_tells_30 (d : Nat) : zC l G gh (d + 5) n_X8_tells gs_X8_tells_30 := zgq_ok0 (pcs := p_X8_tells) (by decide) rfl rfl (fun a ha => by simp only [al_X8_tells_30, List.mem_cons, List.not_mem_nil, or_false] at ha; rcases ha with rfl <;> decide +kernel) (fun gh => x_X8_tells_30 d) (by decide +kernel)
def q_X8_tells_31 : List (Nat × Nat) := []
noncomputable def al_X8_tells_31 : zAq := [(some (.inl 2147483548), [])]
noncomputable def fm_X8_tells_31 : List zFm := [(0, [], (fun vs => [.inr (.ref 0), .inl 2147483649, .inl 9223372131344056319, .inl 8589934591, .inl 8589934591]), (fun vs => zP q_X8_tells_31), (fun vs => Nat.sub (Nat.add 0 0) 0))]
def bf_X8_tells_31 : List Nat := []
theorem r_X8_tells_31_0 : zbox [] (fun vs => zFrun (zpost (zAlq al_X8_tells_31)) 1000 t_X8_tells fm_X8_tells_31 bf_X8_tells_31 (0, vs)) = true := by decide +kernel
set_option maxRecDepth 100000 in
theorem x_X8_tells_31 (d : Nat) : zS l G gh (d + 5) (zpost (zAlq al_X8_tells_31)) n_X8_tells (zn 0 p_X8_tells 0) (zwc (0, [.inr (.ref 0), .inl 2147483649, .inl 9223372131344056319, .inl 8589934591, .inl 8589934591], zP q_X8_tells_31) 0) := zentry (tt_X8_tells d) fm_X8_tells_31 bf_X8_tells_31 1000 (by decide +kernel) rfl ⟨Nat.zero_lt_succ _, trivial⟩ (fun f hf => match f, hf with
  | 0, _ => fun vs hv => (zbox_t r_X8_tells_31_0) vs hv
  | f + 1, h => absurd (show f + 1 < 1 from h) (Nat.not_lt.mpr (Nat.le_add_left 1 f)))
noncomputable def gs_X8_tells_31 : zMt := zgq false [] 8 [.inr (.ref 0), .inl 2147483649, .inl 9223372131344056319, .inl 8589934591, .inl 8589934591] q_X8_tells_31 al_X8_tells_31
set_option maxRecDepth 100000 in
theorem cs_X8_tells_31 (d : Nat) : zC l G gh (d + 5) n_X8_tells gs_X8_tells_31 := zgq_ok0 (pcs := p_X8_tells) (by decide) rfl rfl (fun a ha => by simp only [al_X8_tells_31, List.mem_cons, List.not_mem_nil, or_false] at ha; rcases ha with rfl <;> decide +kernel) (fun gh => x_X8_tells_31 d) (by decide +kernel)
def q_X8_tells_32 : List (Nat × Nat) := [(0, zk1), (9, zk21), (11, zk12), (12, zk12), (15, zk5), (16, zk18), (17, zk18), (18, zk19), (19, zk3), (20, zk7), (21, zk10)]
noncomputable def al_X8_tells_32 : zAq := [(some (.inl 9223371613800497251), [(0, zk1), (9, zk21), (11, zk12), (12, zk12), (15, zk5), (16, zk18), (17, zk18), (18, zk19), (19, zk4), (20, zk9), (21, zk10)])]
noncomputable def fm_X8_tells_32 : List zFm := [(0, [], (fun vs => [.inr (.ref 0), .inl 2147483650, .inl 9223372043297226771, .inl 9223372043297226757, .inl 8589934591]), (fun vs => zP q_X8_tells_32), (fun vs => Nat.sub (Nat.add 0 0) 0))]
def bf_X8_tells_32 : List Nat := []
theorem r_X8_tells_32_0 : zbox [] (fun vs => zFrun (zpost (zAlq al_X8_tells_32)) 1000 t_X8_tells fm_X8_tells_32 bf_X8_tells_32 (0, vs)) = true := by decide +kernel
set_option maxRecDepth 100000 in
theorem x_X8_tells_32 (d : Nat) : zS l G gh (d + 5) (zpost (zAlq al_X8_tells_32)) n_X8_tells (zn 0 p_X8_tells 0) (zwc (0, [.inr (.ref 0), .inl 2147483650, .inl 9223372043297226771, .inl 9223372043297226757, .inl 8589934591], zP q_X8_tells_32) 0) := zentry (tt_X8_tells d) fm_X8_tells_32 bf_X8_tells_32 1000 (by decide +kernel) rfl ⟨Nat.zero_lt_succ _, trivial⟩ (fun f hf => match f, hf with
  | 0, _ => fun vs hv => (zbox_t r_X8_tells_32_0) vs hv
  | f + 1, h => absurd (show f + 1 < 1 from h) (Nat.not_lt.mpr (Nat.le_add_left 1 f)))
noncomputable def gs_X8_tells_32 : zMt := zgq false [] 8 [.inr (.ref 0), .inl 2147483650, .inl 9223372043297226771, .inl 9223372043297226757, .inl 8589934591] q_X8_tells_32 al_X8_tells_32
set_option maxRecDepth 100000 in
theorem cs_X8_tells_32 (d : Nat) : zC l G gh (d + 5) n_X8_tells gs_X8_tells_32 := zgq_ok0 (pcs := p_X8_tells) (by decide) rfl rfl (fun a ha => by simp only [al_X8_tells_32, List.mem_cons, List.not_mem_nil, or_false] at ha; rcases ha with rfl <;> decide +kernel) (fun gh => x_X8_tells_32 d) (by decide +kernel)
def q_X8_tells_33 : List (Nat × Nat) := [(0, zk1)]
noncomputable def al_X8_tells_33 : zAq := [(some (.inl 2147483548), [(0, zk1)])]
noncomputable def fm_X8_tells_33 : List zFm := [(0, [], (fun vs => [.inr (.ref 0), .inl 2147483650, .inl 9223372043297226771, .inl 6442450943, .inl 8589934591]), (fun vs => zP q_X8_tells_33), (fun vs => Nat.sub (Nat.add 0 0) 0))]
def bf_X8_tells_33 : List Nat := []
theorem r_X8_tells_33_0 : zbox [] (fun vs => zFrun (zpost (zAlq al_X8_tells_33)) 1000 t_X8_tells fm_X8_tells_33 bf_X8_tells_33 (0, vs)) = true := by decide +kernel
set_option maxRecDepth 100000 in
theorem x_X8_tells_33 (d : Nat) : zS l G gh (d + 5) (zpost (zAlq al_X8_tells_33)) n_X8_tells (zn 0 p_X8_tells 0) (zwc (0, [.inr (.ref 0), .inl 2147483650, .inl 9223372043297226771, .inl 6442450943, .inl 8589934591], zP q_X8_tells_33) 0) := zentry (tt_X8_tells d) fm_X8_tells_33 bf_X8_tells_33 1000 (by decide +kernel) rfl ⟨Nat.zero_lt_succ _, trivial⟩ (fun f hf => match f, hf with
  | 0, _ => fun vs hv => (zbox_t r_X8_tells_33_0) vs hv
  | f + 1, h => absurd (show f + 1 < 1 from h) (Nat.not_lt.mpr (Nat.le_add_left 1 f)))
noncomputable def gs_X8_tells_33 : zMt := zgq false [] 8 [.inr (.ref 0), .inl 2147483650, .inl 9223372043297226771, .inl 6442450943, .inl 8589934591] q_X8_tells_33 al_X8_tells_33
set_option maxRecDepth 100000 in
theorem cs_X8_tells_33 (d : Nat) : zC l G gh (d + 5) n_X8_tells gs_X8_tells_33 := zgq_ok0 (pcs := p_X8_tells) (by decide) rfl rfl (fun a ha => by simp only [al_X8_tells_33, List.mem_cons, List.not_mem_nil, or_false] at ha; rcases ha with rfl <;> decide +kernel) (fun gh => x_X8_tells_33 d) (by decide +kernel)
def q_X8_tells_34 : List (Nat × Nat) := [(0, zk1), (9, zk21)]
noncomputable def al_X8_tells_34 : zAq := [(some (.inl 2147483548), [(0, zk1), (9, zk21)])]
noncomputable def fm_X8_tells_34 : List zFm := [(0, [], (fun vs => [.inr (.ref 0), .inl 2147483650, .inl 9223372043297226771, .inl 9223372071214514175, .inl 8589934591]), (fun vs => zP q_X8_tells_34), (fun vs => Nat.sub (Nat.add 0 0) 0))]
def bf_X8_tells_34 : List Nat := []
theorem r_X8_tells_34_0 : zbox [] (fun vs => zFrun (zpost (zAlq al_X8_tells_34)) 1000 t_X8_tells fm_X8_tells_34 bf_X8_tells_34 (0, vs)) = true := by decide +kernel
set_option maxRecDepth 100000 in
theorem x_X8_tells_34 (d : Nat) : zS l G gh (d + 5) (zpost (zAlq al_X8_tells_34)) n_X8_tells (zn 0 p_X8_tells 0) (zwc (0, [.inr (.ref 0), .inl 2147483650, .inl 9223372043297226771, .inl 9223372071214514175, .inl 8589934591], zP q_X8_tells_34) 0) := zentry (tt_X8_tells d) fm_X8_tells_34 bf_X8_tells_34 1000 (by decide +kernel) rfl ⟨Nat.zero_lt_succ _, trivial⟩ (fun f hf => match f, hf with
  | 0, _ => fun vs hv => (zbox_t r_X8_tells_34_0) vs hv
  | f + 1, h => absurd (show f + 1 < 1 from h) (Nat.not_lt.mpr (Nat.le_add_left 1 f)))
noncomputable def gs_X8_tells_34 : zMt := zgq false [] 8 [.inr (.ref 0), .inl 2147483650, .inl 9223372043297226771, .inl 9223372071214514175, .inl 8589934591] q_X8_tells_34 al_X8_tells_34
set_option maxRecDepth 100000 in
theorem cs_X8_tells_34 (d : Nat) : zC l G gh (d + 5) n_X8_tells gs_X8_tells_34 := zgq_ok0 (pcs := p_X8_tells) (by decide) rfl rfl (fun a ha => by simp only [al_X8_tells_34, List.mem_cons, List.not_mem_nil, or_false] at ha; rcases ha with rfl <;> decide +kernel) (fun gh => x_X8_tells_34 d) (by decide +kernel)
def q_X8_tells_35 : List (Nat × Nat) := []
noncomputable def al_X8_tells_35 : zAq := [(some (.inl 2147483548), [])]
noncomputable def fm_X8_tells_35 : List zFm := [(0, [], (fun vs => [.inr (.ref 0), .inl 2147483650, .inl 6442450943, .inl 8589934591, .inl 8589934591]), (fun vs => zP q_X8_tells_35), (fun vs => Nat.sub (Nat.add 0 0) 0))]
def bf_X8_tells_35 : List Nat := []
theorem r_X8_tells_35_0 : zbox [] (fun vs => zFrun (zpost (zAlq al_X8_tells_35)) 1000 t_X8_tells fm_X8_tells_35 bf_X8_tells_35 (0, vs)) = true := by decide +kernel
set_option maxRecDepth 100000 in
theorem x_X8_tells_35 (d : Nat) : zS l G gh (d + 5) (zpost (zAlq al_X8_tells_35)) n_X8_tells (zn 0 p_X8_tells 0) (zwc (0, [.inr (.ref 0), .inl 2147483650, .inl 6442450943, .inl 8589934591, .inl 8589934591], zP q_X8_tells_35) 0) := zentry (tt_X8_tells d) fm_X8_tells_35 bf_X8_tells_35 1000 (by decide +kernel) rfl ⟨Nat.zero_lt_succ _, trivial⟩ (fun f hf => match f, hf with
  | 0, _ => fun vs hv => (zbox_t r_X8_tells_35_0) vs hv
  | f + 1, h => absurd (show f + 1 < 1 from h) (Nat.not_lt.mpr (Nat.le_add_left 1 f)))
noncomputable def gs_X8_tells_35 : zMt := zgq false [] 8 [.inr (.ref 0), .inl 2147483650, .inl 6442450943, .inl 8589934591, .inl 8589934591] q_X8_tells_35 al_X8_tells_35
set_option maxRecDepth 100000 in
theorem cs_X8_tells_35 (d : Nat) : zC l G gh (d + 5) n_X8_tells gs_X8_tells_35 := zgq_ok0 (pcs := p_X8_tells) (by decide) rfl rfl (fun a ha => by simp only [al_X8_tells_35, List.mem_cons, List.not_mem_nil, or_false] at ha; rcases ha with rfl <;> decide +kernel) (fun gh => x_X8_tells_35 d) (by decide +kernel)
def q_X8_tells_36 : List (Nat × Nat) := []
noncomputable def al_X8_tells_36 : zAq := [(some (.inl 2147483548), [])]
noncomputable def fm_X8_tells_36 : List zFm := [(0, [], (fun vs => [.inr (.ref 0), .inl 2147483650, .inl 9223372131344056319, .inl 8589934591, .inl 8589934591]), (fun vs => zP q_X8_tells_36), (fun vs => Nat.sub (Nat.add 0 0) 0))]
def bf_X8_tells_36 : List Nat := []
theorem r_X8_tells_36_0 : zbox [] (fun vs => zFrun (zpost (zAlq al_X8_tells_36)) 1000 t_X8_tells fm_X8_tells_36 bf_X8_tells_36 (0, vs)) = true := by decide +kernel
set_option maxRecDepth 100000 in
theorem x_X8_tells_36 (d : Nat) : zS l G gh (d + 5) (zpost (zAlq al_X8_tells_36)) n_X8_tells (zn 0 p_X8_tells 0) (zwc (0, [.inr (.ref 0), .inl 2147483650, .inl 9223372131344056319, .inl 8589934591, .inl 8589934591], zP q_X8_tells_36) 0) := zentry (tt_X8_tells d) fm_X8_tells_36 bf_X8_tells_36 1000 (by decide +kernel) rfl ⟨Nat.zero_lt_succ _, trivial⟩ (fun f hf => match f, hf with
  | 0, _ => fun vs hv => (zbox_t r_X8_tells_36_0) vs hv
  | f + 1, h => absurd (show f + 1 < 1 from h) (Nat.not_lt.mpr (Nat.le_add_left 1 f)))
noncomputable def gs_X8_tells_36 : zMt := zgq false [] 8 [.inr (.ref 0), .inl 2147483650, .inl 9223372131344056319, .inl 8589934591, .inl 8589934591] q_X8_tells_36 al_X8_tells_36
set_option maxRecDepth 100000 in
theorem cs_X8_tells_36 (d : Nat) : zC l G gh (d + 5) n_X8_tells gs_X8_tells_36 := zgq_ok0 (pcs := p_X8_tells) (by decide) rfl rfl (fun a ha => by simp only [al_X8_tells_36, List.mem_cons, List.not_mem_nil, or_false] at ha; rcases ha with rfl <;> decide +kernel) (fun gh => x_X8_tells_36 d) (by decide +kernel)
def q_X8_tells_37 : List (Nat × Nat) := [(0, zk1), (9, zk21), (15, zk5), (16, zk18), (17, zk18), (18, zk19), (19, zk3), (20, zk7), (21, zk10)]
noncomputable def al_X8_tells_37 : zAq := [(some (.inl 9223371613800497251), [(0, zk1), (9, zk21), (15, zk5), (16, zk18), (17, zk18), (18, zk19), (19, zk4), (20, zk9), (21, zk10)])]
noncomputable def fm_X8_tells_37 : List zFm := [(0, [], (fun vs => [.inr (.ref 0), .inl 2147483651, .inl 9223372043297226771, .inl 9223372043297226757, .inl 8589934591]), (fun vs => zP q_X8_tells_37), (fun vs => Nat.sub (Nat.add 0 0) 0))]
def bf_X8_tells_37 : List Nat := []
theorem r_X8_tells_37_0 : zbox [] (fun vs => zFrun (zpost (zAlq al_X8_tells_37)) 1000 t_X8_tells fm_X8_tells_37 bf_X8_tells_37 (0, vs)) = true := by decide +kernel
set_option maxRecDepth 100000 in
theorem x_X8_tells_37 (d : Nat) : zS l G gh (d + 5) (zpost (zAlq al_X8_tells_37)) n_X8_tells (zn 0 p_X8_tells 0) (zwc (0, [.inr (.ref 0), .inl 2147483651, .inl 9223372043297226771, .inl 9223372043297226757, .inl 8589934591], zP q_X8_tells_37) 0) := zentry (tt_X8_tells d) fm_X8_tells_37 bf_X8_tells_37 1000 (by decide +kernel) rfl ⟨Nat.zero_lt_succ _, trivial⟩ (fun f hf => match f, hf with
  | 0, _ => fun vs hv => (zbox_t r_X8_tells_37_0) vs hv
  | f + 1, h => absurd (show f + 1 < 1 from h) (Nat.not_lt.mpr (Nat.le_add_left 1 f)))
noncomputable def gs_X8_tells_37 : zMt := zgq false [] 8 [.inr (.ref 0), .inl 2147483651, .inl 9223372043297226771, .inl 9223372043297226757, .inl 8589934591] q_X8_tells_37 al_X8_tells_37
set_option maxRecDepth 100000 in
theorem cs_X8_tells_37 (d : Nat) : zC l G gh (d + 5) n_X8_tells gs_X8_tells_37 := zgq_ok0 (pcs := p_X8_tells) (by decide) rfl rfl (fun a ha => by simp only [al_X8_tells_37, List.mem_cons, List.not_mem_nil, or_false] at ha; rcases ha with rfl <;> decide +kernel) (fun gh => x_X8_tells_37 d) (by decide +kernel)
def q_X8_tells_38 : List (Nat × Nat) := [(0, zk1), (9, zk21), (15, zk5), (16, zk18), (17, zk18), (18, zk19), (19, zk3), (20, zk7), (21, zk10)]
noncomputable def al_X8_tells_38 : zAq := [(some (.inl 9223371613800497251), [(0, zk1), (9, zk21), (15, zk5), (16, zk18), (17, zk18), (18, zk19), (19, zk4), (20, zk9), (21, zk10)])]
noncomputable def fm_X8_tells_38 : List zFm := [(0, [], (fun vs => [.inr (.ref 0), .inl 2147483651, .inl 9223372043297226771, .inl 6442450943, .inl 8589934591]), (fun vs => zP q_X8_tells_38), (fun vs => Nat.sub (Nat.add 0 0) 0))]
def bf_X8_tells_38 : List Nat := []
theorem r_X8_tells_38_0 : zbox [] (fun vs => zFrun (zpost (zAlq al_X8_tells_38)) 1000 t_X8_tells fm_X8_tells_38 bf_X8_tells_38 (0, vs)) = true := by decide +kernel
set_option maxRecDepth 100000 in
theorem x_X8_tells_38 (d : Nat) : zS l G gh (d + 5) (zpost (zAlq al_X8_tells_38)) n_X8_tells (zn 0 p_X8_tells 0) (zwc (0, [.inr (.ref 0), .inl 2147483651, .inl 9223372043297226771, .inl 6442450943, .inl 8589934591], zP q_X8_tells_38) 0) := zentry (tt_X8_tells d) fm_X8_tells_38 bf_X8_tells_38 1000 (by decide +kernel) rfl ⟨Nat.zero_lt_succ _, trivial⟩ (fun f hf => match f, hf with
  | 0, _ => fun vs hv => (zbox_t r_X8_tells_38_0) vs hv
  | f + 1, h => absurd (show f + 1 < 1 from h) (Nat.not_lt.mpr (Nat.le_add_left 1 f)))
noncomputable def gs_X8_tells_38 : zMt := zgq false [] 8 [.inr (.ref 0), .inl 2147483651, .inl 9223372043297226771, .inl 6442450943, .inl 8589934591] q_X8_tells_38 al_X8_tells_38
set_option maxRecDepth 100000 in
theorem cs_X8_tells_38 (d : Nat) : zC l G gh (d + 5) n_X8_tells gs_X8_tells_38 := zgq_ok0 (pcs := p_X8_tells) (by decide) rfl rfl (fun a ha => by simp only [al_X8_tells_38, List.mem_cons, List.not_mem_nil, or_false] at ha; rcases ha with rfl <;> decide +kernel) (fun gh => x_X8_tells_38 d) (by decide +kernel)
def q_X8_tells_39 : List (Nat × Nat) := [(0, zk1), (9, zk21), (15, zk5), (16, zk18), (17, zk18), (18, zk19), (19, zk3), (20, zk7), (21, zk10)]
noncomputable def al_X8_tells_39 : zAq := [(some (.inl 9223371613800497251), [(0, zk1), (9, zk21), (15, zk5), (16, zk18), (17, zk18), (18, zk19), (19, zk4), (20, zk9), (21, zk10)])]
noncomputable def fm_X8_tells_39 : List zFm := [(0, [], (fun vs => [.inr (.ref 0), .inl 2147483651, .inl 9223372043297226771, .inl 9223372071214514175, .inl 8589934591]), (fun vs => zP q_X8_tells_39), (fun vs => Nat.sub (Nat.add 0 0) 0))]
def bf_X8_tells_39 : List Nat := []
theorem r_X8_tells_39_0 : zbox [] (fun vs => zFrun (zpost (zAlq al_X8_tells_39)) 1000 t_X8_tells fm_X8_tells_39 bf_X8_tells_39 (0, vs)) = true := by decide +kernel
set_option maxRecDepth 100000 in
theorem x_X8_tells_39 (d : Nat) : zS l G gh (d + 5) (zpost (zAlq al_X8_tells_39)) n_X8_tells (zn 0 p_X8_tells 0) (zwc (0, [.inr (.ref 0), .inl 2147483651, .inl 9223372043297226771, .inl 9223372071214514175, .inl 8589934591], zP q_X8_tells_39) 0) := zentry (tt_X8_tells d) fm_X8_tells_39 bf_X8_tells_39 1000 (by decide +kernel) rfl ⟨Nat.zero_lt_succ _, trivial⟩ (fun f hf => match f, hf with
  | 0, _ => fun vs hv => (zbox_t r_X8_tells_39_0) vs hv
  | f + 1, h => absurd (show f + 1 < 1 from h) (Nat.not_lt.mpr (Nat.le_add_left 1 f)))
noncomputable def gs_X8_tells_39 : zMt := zgq false [] 8 [.inr (.ref 0), .inl 2147483651, .inl 9223372043297226771, .inl 9223372071214514175, .inl 8589934591] q_X8_tells_39 al_X8_tells_39
set_option maxRecDepth 100000 in
theorem cs_X8_tells_39 (d : Nat) : zC l G gh (d + 5) n_X8_tells gs_X8_tells_39 := zgq_ok0 (pcs := p_X8_tells) (by decide) rfl rfl (fun a ha => by simp only [al_X8_tells_39, List.mem_cons, List.not_mem_nil, or_false] at ha; rcases ha with rfl <;> decide +kernel) (fun gh => x_X8_tells_39 d) (by decide +kernel)
def q_X8_tells_40 : List (Nat × Nat) := [(0, zk1), (9, zk21), (15, zk5), (16, zk18), (17, zk18), (18, zk19), (19, zk3), (20, zk7), (21, zk10)]
noncomputable def al_X8_tells_40 : zAq := [(some (.inl 9223371613800497251), [(0, zk1), (9, zk21), (15, zk5), (16, zk18), (17, zk18), (18, zk19), (19, zk4), (20, zk9), (21, zk10)])]
noncomputable def fm_X8_tells_40 : List zFm := [(0, [], (fun vs => [.inr (.ref 0), .inl 2147483651, .inl 6442450943, .inl 8589934591, .inl 8589934591]), (fun vs => zP q_X8_tells_40), (fun vs => Nat.sub (Nat.add 0 0) 0))]
def bf_X8_tells_40 : List Nat := []
theorem r_X8_tells_40_0 : zbox [] (fun vs => zFrun (zpost (zAlq al_X8_tells_40)) 1000 t_X8_tells fm_X8_tells_40 bf_X8_tells_40 (0, vs)) = true := by decide +kernel
set_option maxRecDepth 100000 in
theorem x_X8_tells_40 (d : Nat) : zS l G gh (d + 5) (zpost (zAlq al_X8_tells_40)) n_X8_tells (zn 0 p_X8_tells 0) (zwc (0, [.inr (.ref 0), .inl 2147483651, .inl 6442450943, .inl 8589934591, .inl 8589934591], zP q_X8_tells_40) 0) := zentry (tt_X8_tells d) fm_X8_tells_40 bf_X8_tells_40 1000 (by decide +kernel) rfl ⟨Nat.zero_lt_succ _, trivial⟩ (fun f hf => match f, hf with
  | 0, _ => fun vs hv => (zbox_t r_X8_tells_40_0) vs hv
  | f + 1, h => absurd (show f + 1 < 1 from h) (Nat.not_lt.mpr (Nat.le_add_left 1 f)))
noncomputable def gs_X8_tells_40 : zMt := zgq false [] 8 [.inr (.ref 0), .inl 2147483651, .inl 6442450943, .inl 8589934591, .inl 8589934591] q_X8_tells_40 al_X8_tells_40
set_option maxRecDepth 100000 in
theorem cs_X8_tells_40 (d : Nat) : zC l G gh (d + 5) n_X8_tells gs_X8_tells_40 := zgq_ok0 (pcs := p_X8_tells) (by decide) rfl rfl (fun a ha => by simp only [al_X8_tells_40, List.mem_cons, List.not_mem_nil, or_false] at ha; rcases ha with rfl <;> decide +kernel) (fun gh => x_X8_tells_40 d) (by decide +kernel)
def q_X8_tells_41 : List (Nat × Nat) := [(0, zk1), (9, zk21), (15, zk5), (16, zk18), (17, zk18), (18, zk19), (19, zk3), (20, zk7), (21, zk10)]
noncomputable def al_X8_tells_41 : zAq := [(some (.inl 9223371613800497251), [(0, zk1), (9, zk21), (15, zk5), (16, zk18), (17, zk18), (18, zk19), (19, zk4), (20, zk9), (21, zk10)])]
noncomputable def fm_X8_tells_41 : List zFm := [(0, [], (fun vs => [.inr (.ref 0), .inl 2147483651, .inl 9223372131344056319, .inl 8589934591, .inl 8589934591]), (fun vs => zP q_X8_tells_41), (fun vs => Nat.sub (Nat.add 0 0) 0))]
def bf_X8_tells_41 : List Nat := []
theorem r_X8_tells_41_0 : zbox [] (fun vs => zFrun (zpost (zAlq al_X8_tells_41)) 1000 t_X8_tells fm_X8_tells_41 bf_X8_tells_41 (0, vs)) = true := by decide +kernel
set_option maxRecDepth 100000 in
theorem x_X8_tells_41 (d : Nat) : zS l G gh (d + 5) (zpost (zAlq al_X8_tells_41)) n_X8_tells (zn 0 p_X8_tells 0) (zwc (0, [.inr (.ref 0), .inl 2147483651, .inl 9223372131344056319, .inl 8589934591, .inl 8589934591], zP q_X8_tells_41) 0) := zentry (tt_X8_tells d) fm_X8_tells_41 bf_X8_tells_41 1000 (by decide +kernel) rfl ⟨Nat.zero_lt_succ _, trivial⟩ (fun f hf => match f, hf with
  | 0, _ => fun vs hv => (zbox_t r_X8_tells_41_0) vs hv
  | f + 1, h => absurd (show f + 1 < 1 from h) (Nat.not_lt.mpr (Nat.le_add_left 1 f)))
noncomputable def gs_X8_tells_41 : zMt := zgq false [] 8 [.inr (.ref 0), .inl 2147483651, .inl 9223372131344056319, .inl 8589934591, .inl 8589934591] q_X8_tells_41 al_X8_tells_41
set_option maxRecDepth 100000 in
theorem cs_X8_tells_41 (d : Nat) : zC l G gh (d + 5) n_X8_tells gs_X8_tells_41 := zgq_ok0 (pcs := p_X8_tells) (by decide) rfl rfl (fun a ha => by simp only [al_X8_tells_41, List.mem_cons, List.not_mem_nil, or_false] at ha; rcases ha with rfl <;> decide +kernel) (fun gh => x_X8_tells_41 d) (by decide +kernel)
def q_X8_tells_42 : List (Nat × Nat) := [(0, zk1), (9, zk21), (15, zk5), (16, zk18), (17, zk18), (18, zk19), (19, zk3), (20, zk7), (21, zk10)]
noncomputable def al_X8_tells_42 : zAq := [(some (.inl 2147483548), [(0, zk1), (9, zk21), (15, zk5), (16, zk18), (17, zk18), (18, zk19), (19, zk4), (20, zk9), (21, zk10)])]
noncomputable def fm_X8_tells_42 : List zFm := [(0, [], (fun vs => [.inr (.ref 0), .inl 6442450943, .inl 8589934591, .inl 8589934591, .inl 8589934591]), (fun vs => zP q_X8_tells_42), (fun vs => Nat.sub (Nat.add 0 0) 0))]
def bf_X8_tells_42 : List Nat := []
theorem r_X8_tells_42_0 : zbox [] (fun vs => zFrun (zpost (zAlq al_X8_tells_42)) 1000 t_X8_tells fm_X8_tells_42 bf_X8_tells_42 (0, vs)) = true := by decide +kernel
set_option maxRecDepth 100000 in
theorem x_X8_tells_42 (d : Nat) : zS l G gh (d + 5) (zpost (zAlq al_X8_tells_42)) n_X8_tells (zn 0 p_X8_tells 0) (zwc (0, [.inr (.ref 0), .inl 6442450943, .inl 8589934591, .inl 8589934591, .inl 8589934591], zP q_X8_tells_42) 0) := zentry (tt_X8_tells d) fm_X8_tells_42 bf_X8_tells_42 1000 (by decide +kernel) rfl ⟨Nat.zero_lt_succ _, trivial⟩ (fun f hf => match f, hf with
  | 0, _ => fun vs hv => (zbox_t r_X8_tells_42_0) vs hv
  | f + 1, h => absurd (show f + 1 < 1 from h) (Nat.not_lt.mpr (Nat.le_add_left 1 f)))
noncomputable def gs_X8_tells_42 : zMt := zgq false [] 8 [.inr (.ref 0), .inl 6442450943, .inl 8589934591, .inl 8589934591, .inl 8589934591] q_X8_tells_42 al_X8_tells_42
set_option maxRecDepth 100000 in
theorem cs_X8_tells_42 (d : Nat) : zC l G gh (d + 5) n_X8_tells gs_X8_tells_42 := zgq_ok0 (pcs := p_X8_tells) (by decide) rfl rfl (fun a ha => by simp only [al_X8_tells_42, List.mem_cons, List.not_mem_nil, or_false] at ha; rcases ha with rfl <;> decide +kernel) (fun gh => x_X8_tells_42 d) (by decide +kernel)
def q_X8_tells_43 : List (Nat × Nat) := [(0, zk1), (9, zk21), (15, zk5), (16, zk18), (17, zk18), (18, zk19), (19, zk3), (20, zk7), (21, zk10)]
noncomputable def al_X8_tells_43 : zAq := [(some (.inl 2147483548), [(0, zk1), (9, zk21), (15, zk5), (16, zk18), (17, zk18), (18, zk19), (19, zk4), (20, zk9), (21, zk10)])]
noncomputable def fm_X8_tells_43 : List zFm := [(0, [], (fun vs => [.inr (.ref 0), .inl 9223372062624579583, .inl 8589934591, .inl 8589934591, .inl 8589934591]), (fun vs => zP q_X8_tells_43), (fun vs => Nat.sub (Nat.add 0 0) 0))]
def bf_X8_tells_43 : List Nat := []
theorem r_X8_tells_43_0 : zbox [] (fun vs => zFrun (zpost (zAlq al_X8_tells_43)) 1000 t_X8_tells fm_X8_tells_43 bf_X8_tells_43 (0, vs)) = true := by decide +kernel
set_option maxRecDepth 100000 in
theorem x_X8_tells_43 (d : Nat) : zS l G gh (d + 5) (zpost (zAlq al_X8_tells_43)) n_X8_tells (zn 0 p_X8_tells 0) (zwc (0, [.inr (.ref 0), .inl 9223372062624579583, .inl 8589934591, .inl 8589934591, .inl 8589934591], zP q_X8_tells_43) 0) := zentry (tt_X8_tells d) fm_X8_tells_43 bf_X8_tells_43 1000 (by decide +kernel) rfl ⟨Nat.zero_lt_succ _, trivial⟩ (fun f hf => match f, hf with
  | 0, _ => fun vs hv => (zbox_t r_X8_tells_43_0) vs hv
  | f + 1, h => absurd (show f + 1 < 1 from h) (Nat.not_lt.mpr (Nat.le_add_left 1 f)))
noncomputable def gs_X8_tells_43 : zMt := zgq false [] 8 [.inr (.ref 0), .inl 9223372062624579583, .inl 8589934591, .inl 8589934591, .inl 8589934591] q_X8_tells_43 al_X8_tells_43
set_option maxRecDepth 100000 in
theorem cs_X8_tells_43 (d : Nat) : zC l G gh (d + 5) n_X8_tells gs_X8_tells_43 := zgq_ok0 (pcs := p_X8_tells) (by decide) rfl rfl (fun a ha => by simp only [al_X8_tells_43, List.mem_cons, List.not_mem_nil, or_false] at ha; rcases ha with rfl <;> decide +kernel) (fun gh => x_X8_tells_43 d) (by decide +kernel)
noncomputable def gs_X8_tells : zMt := (zor gs_X8_tells_0 (zor gs_X8_tells_1 (zor gs_X8_tells_2 (zor gs_X8_tells_3 (zor gs_X8_tells_4 (zor gs_X8_tells_5 (zor gs_X8_tells_6 (zor gs_X8_tells_7 (zor gs_X8_tells_8 (zor gs_X8_tells_9 (zor gs_X8_tells_10 (zor gs_X8_tells_11 (zor gs_X8_tells_12 (zor gs_X8_tells_13 (zor gs_X8_tells_14 (zor gs_X8_tells_15 (zor gs_X8_tells_16 (zor gs_X8_tells_17 (zor gs_X8_tells_18 (zor gs_X8_tells_19 (zor gs_X8_tells_20 (zor gs_X8_tells_21 (zor gs_X8_tells_22 (zor gs_X8_tells_23 (zor gs_X8_tells_24 (zor gs_X8_tells_25 (zor gs_X8_tells_26 (zor gs_X8_tells_27 (zor gs_X8_tells_28 (zor gs_X8_tells_29 (zor gs_X8_tells_30 (zor gs_X8_tells_31 (zor gs_X8_tells_32 (zor gs_X8_tells_33 (zor gs_X8_tells_34 (zor gs_X8_tells_35 (zor gs_X8_tells_36 (zor gs_X8_tells_37 (zor gs_X8_tells_38 (zor gs_X8_tells_39 (zor gs_X8_tells_40 (zor gs_X8_tells_41 (zor gs_X8_tells_42 gs_X8_tells_43)))))))))))))))))))))))))))))))))))))))))))
theorem cs_X8_tells (d : Nat) : zC l G gh (d + 5) n_X8_tells gs_X8_tells := (zor_ok (cs_X8_tells_0 d) (zor_ok (cs_X8_tells_1 d) (zor_ok (cs_X8_tells_2 d) (zor_ok (cs_X8_tells_3 d) (zor_ok (cs_X8_tells_4 d) (zor_ok (cs_X8_tells_5 d) (zor_ok (cs_X8_tells_6 d) (zor_ok (cs_X8_tells_7 d) (zor_ok (cs_X8_tells_8 d) (zor_ok (cs_X8_tells_9 d) (zor_ok (cs_X8_tells_10 d) (zor_ok (cs_X8_tells_11 d) (zor_ok (cs_X8_tells_12 d) (zor_ok (cs_X8_tells_13 d) (zor_ok (cs_X8_tells_14 d) (zor_ok (cs_X8_tells_15 d) (zor_ok (cs_X8_tells_16 d) (zor_ok (cs_X8_tells_17 d) (zor_ok (cs_X8_tells_18 d) (zor_ok (cs_X8_tells_19 d) (zor_ok (cs_X8_tells_20 d) (zor_ok (cs_X8_tells_21 d) (zor_ok (cs_X8_tells_22 d) (zor_ok (cs_X8_tells_23 d) (zor_ok (cs_X8_tells_24 d) (zor_ok (cs_X8_tells_25 d) (zor_ok (cs_X8_tells_26 d) (zor_ok (cs_X8_tells_27 d) (zor_ok (cs_X8_tells_28 d) (zor_ok (cs_X8_tells_29 d) (zor_ok (cs_X8_tells_30 d) (zor_ok (cs_X8_tells_31 d) (zor_ok (cs_X8_tells_32 d) (zor_ok (cs_X8_tells_33 d) (zor_ok (cs_X8_tells_34 d) (zor_ok (cs_X8_tells_35 d) (zor_ok (cs_X8_tells_36 d) (zor_ok (cs_X8_tells_37 d) (zor_ok (cs_X8_tells_38 d) (zor_ok (cs_X8_tells_39 d) (zor_ok (cs_X8_tells_40 d) (zor_ok (cs_X8_tells_41 d) (zor_ok (cs_X8_tells_42 d) (cs_X8_tells_43 d))))))))))))))))))))))))))))))))))))))))))))
def p_X8_seesNow : List Nat := [0]
noncomputable def b_X8_seesNow_0 : zBl := fun jp K => oAld 0 <| oGetR 8 12 <| oAld 0 <| oGetR 8 2 <| oGetR 4 1 <| oIld 1 <| oXald 10 <| oIld 2 <| oAld 0 <| oGetR 8 2 <| oGetI 4 0 <| oAld 0 <| oGetR 8 12 <| oAld 0 <| oGetR 8 2 <| oGetI 4 0 <| oCv 0 1 f_X0_heat <| oCv 0 4 gs_X0_isSeenFrom <| oZret K
theorem s_X8_seesNow_0 (d : Nat) : zPb l G gh (d + 5) n_X8_seesNow p_X8_seesNow 0 b_X8_seesNow_0 := fun K jp hj =>
    z_aload_n (n := 0) (i := 0) (zd (i := .aload_n 0) (n := 1) (by decide +kernel)) rfl <|
    z_getR (ci := 8) (j := 12) (idx := 71) (zd (i := .getfield 71) (n := 3) (by decide +kernel)) (by decide +kernel) (by decide +kernel) rfl g464 <|
    z_aload_n (n := 0) (i := 0) (zd (i := .aload_n 0) (n := 1) (by decide +kernel)) rfl <|
    z_getR (ci := 8) (j := 2) (idx := 26) (zd (i := .getfield 26) (n := 3) (by decide +kernel)) (by decide +kernel) (by decide +kernel) rfl g454 <|
    z_getR (ci := 4) (j := 1) (idx := 134) (zd (i := .getfield 134) (n := 3) (by decide +kernel)) (by decide +kernel) (by decide +kernel) rfl g371 <|
    z_iload_n (n := 1) (i := 1) (zd (i := .iload_n 1) (n := 1) (by decide +kernel)) rfl <|
    z_iald (zd (i := .iaload) (n := 1) (by decide +kernel)) <|
    z_iload_n (n := 2) (i := 2) (zd (i := .iload_n 2) (n := 1) (by decide +kernel)) rfl <|
    z_aload_n (n := 0) (i := 0) (zd (i := .aload_n 0) (n := 1) (by decide +kernel)) rfl <|
    z_getR (ci := 8) (j := 2) (idx := 26) (zd (i := .getfield 26) (n := 3) (by decide +kernel)) (by decide +kernel) (by decide +kernel) rfl g454 <|
    z_getI (ci := 4) (j := 0) (idx := 140) (zd (i := .getfield 140) (n := 3) (by decide +kernel)) (by decide +kernel) (by decide +kernel) rfl g368 <|
    z_aload_n (n := 0) (i := 0) (zd (i := .aload_n 0) (n := 1) (by decide +kernel)) rfl <|
    z_getR (ci := 8) (j := 12) (idx := 71) (zd (i := .getfield 71) (n := 3) (by decide +kernel)) (by decide +kernel) (by decide +kernel) rfl g464 <|
    z_aload_n (n := 0) (i := 0) (zd (i := .aload_n 0) (n := 1) (by decide +kernel)) rfl <|
    z_getR (ci := 8) (j := 2) (idx := 26) (zd (i := .getfield 26) (n := 3) (by decide +kernel)) (by decide +kernel) (by decide +kernel) rfl g454 <|
    z_getI (ci := 4) (j := 0) (idx := 140) (zd (i := .getfield 140) (n := 3) (by decide +kernel)) (by decide +kernel) (by decide +kernel) rfl g368 <|
    z_callV (idx := 143) (ci := 0) (N := n_X0_heat) (zd (i := .invokevirtual 143) (n := 3) (by decide +kernel)) to_X0_heat g716 g717 g718 (by decide +kernel) rfl rfl rfl (c_X0_heat (l := l) (G := G) (gh := gh) (d)) <|
    z_callV (idx := 239) (ci := 0) (N := n_X0_isSeenFrom) (zd (i := .invokevirtual 239) (n := 3) (by decide +kernel)) to_X0_isSeenFrom g745 g746 g747 (by decide +kernel) rfl rfl rfl (cs_X0_isSeenFrom (l := l) (G := G) (gh := gh) (d)) <|
    z_zret (zd (i := .ireturn) (n := 1) (by decide +kernel)) rfl
noncomputable def t_X8_seesNow : List zBl := [b_X8_seesNow_0]
theorem tt_X8_seesNow (d : Nat) : zT (zPb l G gh (d + 5) n_X8_seesNow p_X8_seesNow) t_X8_seesNow p_X8_seesNow := ⟨s_X8_seesNow_0 d, trivial⟩
def q_X8_seesNow_0 : List (Nat × Nat) := [(0, zk0), (21, zk10), (22, zk12), (259, zk20), (261, zk12), (262, zk12), (265, zk2), (266, zk18), (267, zk18), (268, zk19), (269, zk3), (270, zk7)]
noncomputable def al_X8_seesNow_0 : zAq := [(some (.inl 9223372043297226753), [(0, zk0), (21, zk10), (22, zk12), (259, zk20), (261, zk12), (262, zk12), (265, zk2), (266, zk18), (267, zk18), (268, zk19), (269, zk4), (270, zk9)])]
noncomputable def fm_X8_seesNow_0 : List zFm := [(0, [], (fun vs => [.inr (.ref 0), .inl 9223372043297226757, .inl 9223372043297226757]), (fun vs => zP q_X8_seesNow_0), (fun vs => Nat.sub (Nat.add 0 0) 0))]
def bf_X8_seesNow_0 : List Nat := []
theorem r_X8_seesNow_0_0 : zbox [] (fun vs => zFrun (zpost (zAlq al_X8_seesNow_0)) 1000 t_X8_seesNow fm_X8_seesNow_0 bf_X8_seesNow_0 (0, vs)) = true := by decide +kernel
set_option maxRecDepth 100000 in
theorem x_X8_seesNow_0 (d : Nat) : zS l G gh (d + 5) (zpost (zAlq al_X8_seesNow_0)) n_X8_seesNow (zn 0 p_X8_seesNow 0) (zwc (0, [.inr (.ref 0), .inl 9223372043297226757, .inl 9223372043297226757], zP q_X8_seesNow_0) 0) := zentry (tt_X8_seesNow d) fm_X8_seesNow_0 bf_X8_seesNow_0 1000 (by decide +kernel) rfl ⟨Nat.zero_lt_succ _, trivial⟩ (fun f hf => match f, hf with
  | 0, _ => fun vs hv => (zbox_t r_X8_seesNow_0_0) vs hv
  | f + 1, h => absurd (show f + 1 < 1 from h) (Nat.not_lt.mpr (Nat.le_add_left 1 f)))
noncomputable def gs_X8_seesNow_0 : zMt := zgq false [] 3 [.inr (.ref 0), .inl 9223372043297226757, .inl 9223372043297226757] q_X8_seesNow_0 al_X8_seesNow_0
set_option maxRecDepth 100000 in
theorem cs_X8_seesNow_0 (d : Nat) : zC l G gh (d + 5) n_X8_seesNow gs_X8_seesNow_0 := zgq_ok0 (pcs := p_X8_seesNow) (by decide) rfl rfl (fun a ha => by simp only [al_X8_seesNow_0, List.mem_cons, List.not_mem_nil, or_false] at ha; rcases ha with rfl <;> decide +kernel) (fun gh => x_X8_seesNow_0 d) (by decide +kernel)
def q_X8_seesNow_1 : List (Nat × Nat) := [(0, zk1), (9, zk21), (11, zk12), (12, zk12), (15, zk5), (16, zk18), (17, zk18), (18, zk19), (19, zk3), (20, zk7), (21, zk10), (22, zk12)]
noncomputable def al_X8_seesNow_1 : zAq := [(some (.inl 9223372043297226753), [(0, zk1), (9, zk21), (11, zk12), (12, zk12), (15, zk5), (16, zk18), (17, zk18), (18, zk19), (19, zk4), (20, zk9), (21, zk10), (22, zk12)])]
noncomputable def fm_X8_seesNow_1 : List zFm := [(0, [], (fun vs => [.inr (.ref 0), .inl 9223372043297226757, .inl 9223372043297226757]), (fun vs => zP q_X8_seesNow_1), (fun vs => Nat.sub (Nat.add 0 0) 0))]
def bf_X8_seesNow_1 : List Nat := []
theorem r_X8_seesNow_1_0 : zbox [] (fun vs => zFrun (zpost (zAlq al_X8_seesNow_1)) 1000 t_X8_seesNow fm_X8_seesNow_1 bf_X8_seesNow_1 (0, vs)) = true := by decide +kernel
set_option maxRecDepth 100000 in
theorem x_X8_seesNow_1 (d : Nat) : zS l G gh (d + 5) (zpost (zAlq al_X8_seesNow_1)) n_X8_seesNow (zn 0 p_X8_seesNow 0) (zwc (0, [.inr (.ref 0), .inl 9223372043297226757, .inl 9223372043297226757], zP q_X8_seesNow_1) 0) := zentry (tt_X8_seesNow d) fm_X8_seesNow_1 bf_X8_seesNow_1 1000 (by decide +kernel) rfl ⟨Nat.zero_lt_succ _, trivial⟩ (fun f hf => match f, hf with
  | 0, _ => fun vs hv => (zbox_t r_X8_seesNow_1_0) vs hv
  | f + 1, h => absurd (show f + 1 < 1 from h) (Nat.not_lt.mpr (Nat.le_add_left 1 f)))
noncomputable def gs_X8_seesNow_1 : zMt := zgq false [] 3 [.inr (.ref 0), .inl 9223372043297226757, .inl 9223372043297226757] q_X8_seesNow_1 al_X8_seesNow_1
set_option maxRecDepth 100000 in
theorem cs_X8_seesNow_1 (d : Nat) : zC l G gh (d + 5) n_X8_seesNow gs_X8_seesNow_1 := zgq_ok0 (pcs := p_X8_seesNow) (by decide) rfl rfl (fun a ha => by simp only [al_X8_seesNow_1, List.mem_cons, List.not_mem_nil, or_false] at ha; rcases ha with rfl <;> decide +kernel) (fun gh => x_X8_seesNow_1 d) (by decide +kernel)
noncomputable def gs_X8_seesNow : zMt := (zor gs_X8_seesNow_0 gs_X8_seesNow_1)
theorem cs_X8_seesNow (d : Nat) : zC l G gh (d + 5) n_X8_seesNow gs_X8_seesNow := (zor_ok (cs_X8_seesNow_0 d) (cs_X8_seesNow_1 d))
def p_X0_pass : List Nat := [0, 3, 9, 34, 43, 46, 55, 74, 80, 96]
noncomputable def b_X0_pass_0 : zBl := fun jp K => oInt 2147483648 <| oIst 5 <| jp 1
theorem s_X0_pass_0 (d : Nat) : zPb l G gh (d + 5) n_X0_pass p_X0_pass 0 b_X0_pass_0 := fun K jp hj =>
    z_iconst (n := 0) (zd (i := .iconst (0)) (n := 1) (by decide +kernel)) (by decide +kernel) <|
    z_istore (i := 5) (zd (i := .istore 5) (n := 2) (by decide +kernel)) (by decide +kernel) <|
    (zj (hj 1) (by decide +kernel))
noncomputable def b_X0_pass_1 : zBl := fun jp K => oNLL 5 2 zgeN zltN zn1_ge zn2_ge zn1_lt zn2_lt (jp 9) (jp 2)
theorem s_X0_pass_1 (d : Nat) : zPb l G gh (d + 5) n_X0_pass p_X0_pass 3 b_X0_pass_1 := fun K jp hj =>
    z_nLL_ge (i := 5) (j := 2) (a1 := 2) (a2 := 1) (off := 90) (tgt := 96) (zLd_w (i := 5) (zd (i := .iload 5) (n := 2) (by decide +kernel))) (zLd_n (n := 2) (i := 2) (zd (i := .iload_n 2) (n := 1) (by decide +kernel)) rfl) (zd (i := .if_icmp .ge (90)) (n := 3) (by decide +kernel)) (by decide +kernel) (zj (hj 9) (by decide +kernel)) (zj (hj 2) (by decide +kernel))
noncomputable def b_X0_pass_2 : zBl := fun jp K => oAld 0 <| oAld 1 <| oGetI 4 0 <| oCv 0 1 f_X0_heat <| oIst 6 <| oAld 1 <| oGetI 4 0 <| oIld 3 <| oIld 4 <| oCs 3 f_X0_isWind <| oIst 7 <| oInt 2147483648 <| oIst 8 <| jp 3
theorem s_X0_pass_2 (d : Nat) : zPb l G gh (d + 5) n_X0_pass p_X0_pass 9 b_X0_pass_2 := fun K jp hj =>
    z_aload_n (n := 0) (i := 0) (zd (i := .aload_n 0) (n := 1) (by decide +kernel)) rfl <|
    z_aload_n (n := 1) (i := 1) (zd (i := .aload_n 1) (n := 1) (by decide +kernel)) rfl <|
    z_getI (ci := 4) (j := 0) (idx := 95) (zd (i := .getfield 95) (n := 3) (by decide +kernel)) (by decide +kernel) (by decide +kernel) rfl g369 <|
    z_callV (idx := 100) (ci := 0) (N := n_X0_heat) (zd (i := .invokevirtual 100) (n := 3) (by decide +kernel)) to_X0_heat g869 g717 g718 (by decide +kernel) rfl rfl rfl (c_X0_heat (l := l) (G := G) (gh := gh) (d)) <|
    z_istore (i := 6) (zd (i := .istore 6) (n := 2) (by decide +kernel)) (by decide +kernel) <|
    z_aload_n (n := 1) (i := 1) (zd (i := .aload_n 1) (n := 1) (by decide +kernel)) rfl <|
    z_getI (ci := 4) (j := 0) (idx := 95) (zd (i := .getfield 95) (n := 3) (by decide +kernel)) (by decide +kernel) (by decide +kernel) rfl g369 <|
    z_iload_n (n := 3) (i := 3) (zd (i := .iload_n 3) (n := 1) (by decide +kernel)) rfl <|
    z_iload (i := 4) (zd (i := .iload 4) (n := 2) (by decide +kernel)) <|
    z_callS (idx := 101) (N := n_X0_isWind) (zd (i := .invokestatic 101) (n := 3) (by decide +kernel)) to_X0_isWind g870 g871 rfl rfl (c_X0_isWind (l := l) (G := G) (gh := gh) (d + 1)) <|
    z_istore (i := 7) (zd (i := .istore 7) (n := 2) (by decide +kernel)) (by decide +kernel) <|
    z_iconst (n := 0) (zd (i := .iconst (0)) (n := 1) (by decide +kernel)) (by decide +kernel) <|
    z_istore (i := 8) (zd (i := .istore 8) (n := 2) (by decide +kernel)) (by decide +kernel) <|
    (zj (hj 3) (by decide +kernel))
noncomputable def b_X0_pass_3 : zBl := fun jp K => oNLF 8 0 0 5 zgeN zltN zn1_ge zn1_lt (jp 8) (jp 4)
theorem s_X0_pass_3 (d : Nat) : zPb l G gh (d + 5) n_X0_pass p_X0_pass 34 b_X0_pass_3 := fun K jp hj =>
    z_nLF_ge (i := 8) (r := 0) (ci := 0) (j := 5) (a1 := 2) (a2 := 4) (off := 40) (tgt := 80) (zLd_w (i := 8) (zd (i := .iload 8) (n := 2) (by decide +kernel))) (zFd_n (n := 0) (r := 0) (ci := 0) (j := 5) (idx := 29) (zd (i := .aload_n 0) (n := 1) (by decide +kernel)) rfl (zd (i := .getfield 29) (n := 3) (by decide +kernel)) (by decide +kernel) (by decide +kernel) rfl g285) (by decide +kernel) rfl (zd (i := .if_icmp .ge (40)) (n := 3) (by decide +kernel)) (by decide +kernel) (zj (hj 8) (by decide +kernel)) (zj (hj 4) (by decide +kernel))
noncomputable def b_X0_pass_4 : zBl := fun jp K => oInt 2147483648 <| oIst 9 <| jp 5
theorem s_X0_pass_4 (d : Nat) : zPb l G gh (d + 5) n_X0_pass p_X0_pass 43 b_X0_pass_4 := fun K jp hj =>
    z_iconst (n := 0) (zd (i := .iconst (0)) (n := 1) (by decide +kernel)) (by decide +kernel) <|
    z_istore (i := 9) (zd (i := .istore 9) (n := 2) (by decide +kernel)) (by decide +kernel) <|
    (zj (hj 5) (by decide +kernel))
noncomputable def b_X0_pass_5 : zBl := fun jp K => oNLF 9 0 0 2 zgeN zltN zn1_ge zn1_lt (jp 7) (jp 6)
theorem s_X0_pass_5 (d : Nat) : zPb l G gh (d + 5) n_X0_pass p_X0_pass 46 b_X0_pass_5 := fun K jp hj =>
    z_nLF_ge (i := 9) (r := 0) (ci := 0) (j := 2) (a1 := 2) (a2 := 4) (off := 22) (tgt := 74) (zLd_w (i := 9) (zd (i := .iload 9) (n := 2) (by decide +kernel))) (zFd_n (n := 0) (r := 0) (ci := 0) (j := 2) (idx := 19) (zd (i := .aload_n 0) (n := 1) (by decide +kernel)) rfl (zd (i := .getfield 19) (n := 3) (by decide +kernel)) (by decide +kernel) (by decide +kernel) rfl g278) (by decide +kernel) rfl (zd (i := .if_icmp .ge (22)) (n := 3) (by decide +kernel)) (by decide +kernel) (zj (hj 7) (by decide +kernel)) (zj (hj 6) (by decide +kernel))
noncomputable def b_X0_pass_6 : zBl := fun jp K => oAld 0 <| oAld 1 <| oIld 8 <| oIld 9 <| oIld 6 <| oIld 7 <| oCv 0 5 gs_X0_passLoan <| oInc 9 2147483649 <| jp 5
theorem s_X0_pass_6 (d : Nat) : zPb l G gh (d + 5) n_X0_pass p_X0_pass 55 b_X0_pass_6 := fun K jp hj =>
    z_aload_n (n := 0) (i := 0) (zd (i := .aload_n 0) (n := 1) (by decide +kernel)) rfl <|
    z_aload_n (n := 1) (i := 1) (zd (i := .aload_n 1) (n := 1) (by decide +kernel)) rfl <|
    z_iload (i := 8) (zd (i := .iload 8) (n := 2) (by decide +kernel)) <|
    z_iload (i := 9) (zd (i := .iload 9) (n := 2) (by decide +kernel)) <|
    z_iload (i := 6) (zd (i := .iload 6) (n := 2) (by decide +kernel)) <|
    z_iload (i := 7) (zd (i := .iload 7) (n := 2) (by decide +kernel)) <|
    z_callV (idx := 105) (ci := 0) (N := n_X0_passLoan) (zd (i := .invokevirtual 105) (n := 3) (by decide +kernel)) to_X0_passLoan g880 g882 g28 (by decide +kernel) rfl rfl rfl (cs_X0_passLoan (l := l) (G := G) (gh := gh) (d)) <|
    z_iinc (i := 9) (n := 1) (zd (i := .iinc 9 (1)) (n := 3) (by decide +kernel)) (by decide +kernel) (by decide +kernel) <|
    z_goto (off := -25) (tgt := 46) (zd (i := .goto (-25)) (n := 3) (by decide +kernel)) (by decide +kernel) (zj (hj 5) (by decide +kernel))
noncomputable def b_X0_pass_7 : zBl := fun jp K => oInc 8 2147483649 <| jp 3
theorem s_X0_pass_7 (d : Nat) : zPb l G gh (d + 5) n_X0_pass p_X0_pass 74 b_X0_pass_7 := fun K jp hj =>
    z_iinc (i := 8) (n := 1) (zd (i := .iinc 8 (1)) (n := 3) (by decide +kernel)) (by decide +kernel) (by decide +kernel) <|
    z_goto (off := -43) (tgt := 34) (zd (i := .goto (-43)) (n := 3) (by decide +kernel)) (by decide +kernel) (zj (hj 3) (by decide +kernel))
noncomputable def b_X0_pass_8 : zBl := fun jp K => oAld 1 <| oDup <| oGetI 4 0 <| oInt 2147483649 <| oB2 zadd <| oPutI 4 0 <| oInc 5 2147483649 <| jp 1
theorem s_X0_pass_8 (d : Nat) : zPb l G gh (d + 5) n_X0_pass p_X0_pass 80 b_X0_pass_8 := fun K jp hj =>
    z_aload_n (n := 1) (i := 1) (zd (i := .aload_n 1) (n := 1) (by decide +kernel)) rfl <|
    z_dup (zd (i := .dup) (n := 1) (by decide +kernel)) <|
    z_getI (ci := 4) (j := 0) (idx := 95) (zd (i := .getfield 95) (n := 3) (by decide +kernel)) (by decide +kernel) (by decide +kernel) rfl g369 <|
    z_iconst (n := 1) (zd (i := .iconst (1)) (n := 1) (by decide +kernel)) (by decide +kernel) <|
    z_iadd (zd (i := .iadd) (n := 1) (by decide +kernel)) <|
    z_putI (ci := 4) (j := 0) (idx := 95) (zd (i := .putfield 95) (n := 3) (by decide +kernel)) (by decide +kernel) (by decide +kernel) rfl g369 (Or.inl rfl) <|
    z_iinc (i := 5) (n := 1) (zd (i := .iinc 5 (1)) (n := 3) (by decide +kernel)) (by decide +kernel) (by decide +kernel) <|
    z_goto (off := -90) (tgt := 3) (zd (i := .goto (-90)) (n := 3) (by decide +kernel)) (by decide +kernel) (zj (hj 1) (by decide +kernel))
noncomputable def b_X0_pass_9 : zBl := fun jp K => oVret K
theorem s_X0_pass_9 (d : Nat) : zPb l G gh (d + 5) n_X0_pass p_X0_pass 96 b_X0_pass_9 := fun K jp hj =>
    z_vret (zd (i := .return_) (n := 1) (by decide +kernel)) rfl
noncomputable def t_X0_pass : List zBl := [b_X0_pass_0, b_X0_pass_1, b_X0_pass_2, b_X0_pass_3, b_X0_pass_4, b_X0_pass_5, b_X0_pass_6, b_X0_pass_7, b_X0_pass_8, b_X0_pass_9]
theorem tt_X0_pass (d : Nat) : zT (zPb l G gh (d + 5) n_X0_pass p_X0_pass) t_X0_pass p_X0_pass := ⟨s_X0_pass_0 d, s_X0_pass_1 d, s_X0_pass_2 d, s_X0_pass_3 d, s_X0_pass_4 d, s_X0_pass_5 d, s_X0_pass_6 d, s_X0_pass_7 d, s_X0_pass_8 d, s_X0_pass_9 d, trivial⟩
def q_X0_pass_0 : List (Nat × Nat) := [(21, zk10), (22, zk12), (23, zk12), (24, zk12), (25, zk12), (26, zk11), (27, zk11), (259, zk20), (261, zk12), (262, zk12), (265, zk2), (266, zk18), (267, zk18), (268, zk19), (269, zk3), (270, zk7)]
noncomputable def al_X0_pass_0 : zAq := [(none, [(21, zk88), (22, zk12), (23, zk57), (24, zk57), (25, zk57), (26, zk58), (27, zk58), (259, zk20), (261, zk12), (262, zk12), (265, zk2), (266, zk18), (267, zk18), (268, zk19), (269, zk4), (270, zk9)])]
def mq_X0_pass_0_1 : List (Nat × Nat) := [(21, zk88), (22, zk12), (23, zk57), (24, zk57), (25, zk57), (26, zk58), (27, zk58), (259, zk20), (261, zk12), (262, zk12), (265, zk2), (266, zk18), (267, zk18), (268, zk19), (269, zk4), (270, zk9)]
def mq_X0_pass_0_2 : List (Nat × Nat) := [(21, zk88), (22, zk12), (23, zk57), (24, zk57), (25, zk57), (26, zk58), (27, zk58), (259, zk20), (261, zk12), (262, zk12), (265, zk2), (266, zk18), (267, zk18), (268, zk19), (269, zk4), (270, zk9)]
def mq_X0_pass_0_3 : List (Nat × Nat) := [(21, zk88), (22, zk12), (23, zk57), (24, zk57), (25, zk57), (26, zk58), (27, zk58), (259, zk20), (261, zk12), (262, zk12), (265, zk2), (266, zk18), (267, zk18), (268, zk19), (269, zk4), (270, zk9)]
noncomputable def fm_X0_pass_0 : List zFm := [(0, [], (fun vs => [.inr (.ref 259), .inr (.ref 21), .inl 9223372043297226800, .inl 8589934591, .inl 8589934591]), (fun vs => zP q_X0_pass_0), (fun vs => Nat.sub (Nat.add 9604 0) 0)),
  (1, [(5, 2147483648, 2147483696)], (fun vs => [.inr (.ref 259), .inr (.ref 21), .inl 9223372043297226800, .inl 8589934591, .inl 8589934591, .inl (zn 0 vs 0)]), (fun vs => zP mq_X0_pass_0_1), (fun vs => Nat.sub (Nat.add 420906804514 0) (Nat.add 0 (Nat.mul 196 (zn 0 vs 0))))),
  (3, [(5, 2147483648, 2147483695), (8, 2147483648, 2147483654)], (fun vs => [.inr (.ref 259), .inr (.ref 21), .inl 9223372047592194096, .inl 8589934591, .inl 8589934591, .inl (zn 0 vs 0), .inl 9223372043297226851, .inl 9223372043297226753, .inl (zn 0 vs 1)]), (fun vs => zP mq_X0_pass_0_2), (fun vs => Nat.sub (Nat.add 450971575579 0) (Nat.add (Nat.add 0 (Nat.mul 196 (zn 0 vs 0))) (Nat.mul 14 (zn 0 vs 1))))),
  (5, [(5, 2147483648, 2147483695), (8, 2147483648, 2147483653), (9, 2147483648, 2147483654)], (fun vs => [.inr (.ref 259), .inr (.ref 21), .inl 9223372047592194096, .inl 8589934591, .inl 8589934591, .inl (zn 0 vs 0), .inl 9223372043297226851, .inl 9223372043297226753, .inl (zn 0 vs 1), .inl (zn 0 vs 2)]), (fun vs => zP mq_X0_pass_0_3), (fun vs => Nat.sub (Nat.add 453119059226 0) (Nat.add (Nat.add (Nat.add 0 (Nat.mul 196 (zn 0 vs 0))) (Nat.mul 14 (zn 0 vs 1))) (Nat.mul 1 (zn 0 vs 2)))))]
def bf_X0_pass_0 : List Nat := [0, 2, 0, 3, 0, 4]
theorem r_X0_pass_0_0 : zbox [] (fun vs => zFrun (zpost (zAlq al_X0_pass_0)) 1000 t_X0_pass fm_X0_pass_0 bf_X0_pass_0 (0, vs)) = true := by decide +kernel
theorem r_X0_pass_0_1 : zbox [(5, 2147483648, 2147483696)] (fun vs => zFrun (zpost (zAlq al_X0_pass_0)) 1000 t_X0_pass fm_X0_pass_0 bf_X0_pass_0 (1, vs)) = true := by decide +kernel
theorem r_X0_pass_0_2 : zbox [(5, 2147483648, 2147483695), (8, 2147483648, 2147483654)] (fun vs => zFrun (zpost (zAlq al_X0_pass_0)) 1000 t_X0_pass fm_X0_pass_0 bf_X0_pass_0 (2, vs)) = true := by decide +kernel
theorem r_X0_pass_0_3 : zbox [(5, 2147483648, 2147483695), (8, 2147483648, 2147483653), (9, 2147483648, 2147483654)] (fun vs => zFrun (zpost (zAlq al_X0_pass_0)) 1000 t_X0_pass fm_X0_pass_0 bf_X0_pass_0 (3, vs)) = true := by decide +kernel
set_option maxRecDepth 100000 in
theorem x_X0_pass_0 (d : Nat) : zS l G gh (d + 5) (zpost (zAlq al_X0_pass_0)) n_X0_pass (zn 0 p_X0_pass 0) (zwc (0, [.inr (.ref 259), .inr (.ref 21), .inl 9223372043297226800, .inl 8589934591, .inl 8589934591], zP q_X0_pass_0) 0) := zentry (tt_X0_pass d) fm_X0_pass_0 bf_X0_pass_0 1000 (by decide +kernel) rfl ⟨Nat.zero_lt_succ _, trivial⟩ (fun f hf => match f, hf with
  | 0, _ => fun vs hv => (zbox_t r_X0_pass_0_0) vs hv
  | 1, _ => fun vs hv => (zbox_t r_X0_pass_0_1) vs hv
  | 2, _ => fun vs hv => (zbox_t r_X0_pass_0_2) vs hv
  | 3, _ => fun vs hv => (zbox_t r_X0_pass_0_3) vs hv
  | f + 4, h => absurd (show f + 4 < 4 from h) (Nat.not_lt.mpr (Nat.le_add_left 4 f)))
noncomputable def gs_X0_pass_0 : zMt := zgq false [] 10 [.inr (.ref 259), .inr (.ref 21), .inl 9223372043297226800, .inl 8589934591, .inl 8589934591] q_X0_pass_0 al_X0_pass_0
set_option maxRecDepth 100000 in
theorem cs_X0_pass_0 (d : Nat) : zC l G gh (d + 5) n_X0_pass gs_X0_pass_0 := zgq_ok0 (pcs := p_X0_pass) (by decide) rfl rfl (fun a ha => by simp only [al_X0_pass_0, List.mem_cons, List.not_mem_nil, or_false] at ha; rcases ha with rfl <;> decide +kernel) (fun gh => x_X0_pass_0 d) (by decide +kernel)
def q_X0_pass_1 : List (Nat × Nat) := [(9, zk21), (11, zk12), (12, zk12), (15, zk5), (16, zk18), (17, zk18), (18, zk19), (19, zk3), (20, zk7), (21, zk10), (22, zk12), (23, zk12), (24, zk12), (25, zk12), (26, zk11), (27, zk11)]
noncomputable def al_X0_pass_1 : zAq := [(none, [(9, zk21), (11, zk12), (12, zk12), (15, zk5), (16, zk18), (17, zk18), (18, zk19), (19, zk4), (20, zk9), (21, zk88), (22, zk12), (23, zk57), (24, zk57), (25, zk57), (26, zk58), (27, zk58)])]
def mq_X0_pass_1_1 : List (Nat × Nat) := [(9, zk21), (11, zk12), (12, zk12), (15, zk5), (16, zk18), (17, zk18), (18, zk19), (19, zk4), (20, zk9), (21, zk88), (22, zk12), (23, zk57), (24, zk57), (25, zk57), (26, zk58), (27, zk58)]
def mq_X0_pass_1_2 : List (Nat × Nat) := [(9, zk21), (11, zk12), (12, zk12), (15, zk5), (16, zk18), (17, zk18), (18, zk19), (19, zk4), (20, zk9), (21, zk88), (22, zk12), (23, zk57), (24, zk57), (25, zk57), (26, zk58), (27, zk58)]
def mq_X0_pass_1_3 : List (Nat × Nat) := [(9, zk21), (11, zk12), (12, zk12), (15, zk5), (16, zk18), (17, zk18), (18, zk19), (19, zk4), (20, zk9), (21, zk88), (22, zk12), (23, zk57), (24, zk57), (25, zk57), (26, zk58), (27, zk58)]
noncomputable def fm_X0_pass_1 : List zFm := [(0, [], (fun vs => [.inr (.ref 9), .inr (.ref 21), .inl 9223372043297226800, .inl 8589934591, .inl 8589934591]), (fun vs => zP q_X0_pass_1), (fun vs => Nat.sub (Nat.add 9604 0) 0)),
  (1, [(5, 2147483648, 2147483696)], (fun vs => [.inr (.ref 9), .inr (.ref 21), .inl 9223372043297226800, .inl 8589934591, .inl 8589934591, .inl (zn 0 vs 0)]), (fun vs => zP mq_X0_pass_1_1), (fun vs => Nat.sub (Nat.add 420906804514 0) (Nat.add 0 (Nat.mul 196 (zn 0 vs 0))))),
  (3, [(5, 2147483648, 2147483695), (8, 2147483648, 2147483654)], (fun vs => [.inr (.ref 9), .inr (.ref 21), .inl 9223372047592194096, .inl 8589934591, .inl 8589934591, .inl (zn 0 vs 0), .inl 9223372043297226851, .inl 9223372043297226753, .inl (zn 0 vs 1)]), (fun vs => zP mq_X0_pass_1_2), (fun vs => Nat.sub (Nat.add 450971575579 0) (Nat.add (Nat.add 0 (Nat.mul 196 (zn 0 vs 0))) (Nat.mul 14 (zn 0 vs 1))))),
  (5, [(5, 2147483648, 2147483695), (8, 2147483648, 2147483653), (9, 2147483648, 2147483654)], (fun vs => [.inr (.ref 9), .inr (.ref 21), .inl 9223372047592194096, .inl 8589934591, .inl 8589934591, .inl (zn 0 vs 0), .inl 9223372043297226851, .inl 9223372043297226753, .inl (zn 0 vs 1), .inl (zn 0 vs 2)]), (fun vs => zP mq_X0_pass_1_3), (fun vs => Nat.sub (Nat.add 453119059226 0) (Nat.add (Nat.add (Nat.add 0 (Nat.mul 196 (zn 0 vs 0))) (Nat.mul 14 (zn 0 vs 1))) (Nat.mul 1 (zn 0 vs 2)))))]
def bf_X0_pass_1 : List Nat := [0, 2, 0, 3, 0, 4]
theorem r_X0_pass_1_0 : zbox [] (fun vs => zFrun (zpost (zAlq al_X0_pass_1)) 1000 t_X0_pass fm_X0_pass_1 bf_X0_pass_1 (0, vs)) = true := by decide +kernel
theorem r_X0_pass_1_1 : zbox [(5, 2147483648, 2147483696)] (fun vs => zFrun (zpost (zAlq al_X0_pass_1)) 1000 t_X0_pass fm_X0_pass_1 bf_X0_pass_1 (1, vs)) = true := by decide +kernel
theorem r_X0_pass_1_2 : zbox [(5, 2147483648, 2147483695), (8, 2147483648, 2147483654)] (fun vs => zFrun (zpost (zAlq al_X0_pass_1)) 1000 t_X0_pass fm_X0_pass_1 bf_X0_pass_1 (2, vs)) = true := by decide +kernel
theorem r_X0_pass_1_3 : zbox [(5, 2147483648, 2147483695), (8, 2147483648, 2147483653), (9, 2147483648, 2147483654)] (fun vs => zFrun (zpost (zAlq al_X0_pass_1)) 1000 t_X0_pass fm_X0_pass_1 bf_X0_pass_1 (3, vs)) = true := by decide +kernel
set_option maxRecDepth 100000 in
theorem x_X0_pass_1 (d : Nat) : zS l G gh (d + 5) (zpost (zAlq al_X0_pass_1)) n_X0_pass (zn 0 p_X0_pass 0) (zwc (0, [.inr (.ref 9), .inr (.ref 21), .inl 9223372043297226800, .inl 8589934591, .inl 8589934591], zP q_X0_pass_1) 0) := zentry (tt_X0_pass d) fm_X0_pass_1 bf_X0_pass_1 1000 (by decide +kernel) rfl ⟨Nat.zero_lt_succ _, trivial⟩ (fun f hf => match f, hf with
  | 0, _ => fun vs hv => (zbox_t r_X0_pass_1_0) vs hv
  | 1, _ => fun vs hv => (zbox_t r_X0_pass_1_1) vs hv
  | 2, _ => fun vs hv => (zbox_t r_X0_pass_1_2) vs hv
  | 3, _ => fun vs hv => (zbox_t r_X0_pass_1_3) vs hv
  | f + 4, h => absurd (show f + 4 < 4 from h) (Nat.not_lt.mpr (Nat.le_add_left 4 f)))
noncomputable def gs_X0_pass_1 : zMt := zgq false [] 10 [.inr (.ref 9), .inr (.ref 21), .inl 9223372043297226800, .inl 8589934591, .inl 8589934591] q_X0_pass_1 al_X0_pass_1
set_option maxRecDepth 100000 in
theorem cs_X0_pass_1 (d : Nat) : zC l G gh (d + 5) n_X0_pass gs_X0_pass_1 := zgq_ok0 (pcs := p_X0_pass) (by decide) rfl rfl (fun a ha => by simp only [al_X0_pass_1, List.mem_cons, List.not_mem_nil, or_false] at ha; rcases ha with rfl <;> decide +kernel) (fun gh => x_X0_pass_1 d) (by decide +kernel)
def q_X0_pass_2 : List (Nat × Nat) := [(28, zk22), (29, zk12), (30, zk12), (31, zk12), (32, zk12), (33, zk11), (34, zk11), (259, zk20), (261, zk12), (262, zk12), (265, zk2), (266, zk18), (267, zk18), (268, zk19), (269, zk3), (270, zk7)]
noncomputable def al_X0_pass_2 : zAq := [(none, [(28, zk98), (29, zk12), (30, zk57), (31, zk57), (32, zk57), (33, zk58), (34, zk58), (259, zk20), (261, zk12), (262, zk12), (265, zk2), (266, zk18), (267, zk18), (268, zk19), (269, zk4), (270, zk9)])]
def mq_X0_pass_2_1 : List (Nat × Nat) := [(28, zk98), (29, zk12), (30, zk57), (31, zk57), (32, zk57), (33, zk58), (34, zk58), (259, zk20), (261, zk12), (262, zk12), (265, zk2), (266, zk18), (267, zk18), (268, zk19), (269, zk4), (270, zk9)]
def mq_X0_pass_2_2 : List (Nat × Nat) := [(28, zk98), (29, zk12), (30, zk57), (31, zk57), (32, zk57), (33, zk58), (34, zk58), (259, zk20), (261, zk12), (262, zk12), (265, zk2), (266, zk18), (267, zk18), (268, zk19), (269, zk4), (270, zk9)]
def mq_X0_pass_2_3 : List (Nat × Nat) := [(28, zk98), (29, zk12), (30, zk57), (31, zk57), (32, zk57), (33, zk58), (34, zk58), (259, zk20), (261, zk12), (262, zk12), (265, zk2), (266, zk18), (267, zk18), (268, zk19), (269, zk4), (270, zk9)]
noncomputable def fm_X0_pass_2 : List zFm := [(0, [], (fun vs => [.inr (.ref 259), .inr (.ref 28), .inl 9223372043297226800, .inl 8589934591, .inl 8589934591]), (fun vs => zP q_X0_pass_2), (fun vs => Nat.sub (Nat.add 9604 0) 0)),
  (1, [(5, 2147483648, 2147483696)], (fun vs => [.inr (.ref 259), .inr (.ref 28), .inl 9223372043297226800, .inl 8589934591, .inl 8589934591, .inl (zn 0 vs 0)]), (fun vs => zP mq_X0_pass_2_1), (fun vs => Nat.sub (Nat.add 420906804514 0) (Nat.add 0 (Nat.mul 196 (zn 0 vs 0))))),
  (3, [(5, 2147483648, 2147483695), (8, 2147483648, 2147483654)], (fun vs => [.inr (.ref 259), .inr (.ref 28), .inl 9223372047592194096, .inl 8589934591, .inl 8589934591, .inl (zn 0 vs 0), .inl 9223372043297226851, .inl 9223372043297226753, .inl (zn 0 vs 1)]), (fun vs => zP mq_X0_pass_2_2), (fun vs => Nat.sub (Nat.add 450971575579 0) (Nat.add (Nat.add 0 (Nat.mul 196 (zn 0 vs 0))) (Nat.mul 14 (zn 0 vs 1))))),
  (5, [(5, 2147483648, 2147483695), (8, 2147483648, 2147483653), (9, 2147483648, 2147483654)], (fun vs => [.inr (.ref 259), .inr (.ref 28), .inl 9223372047592194096, .inl 8589934591, .inl 8589934591, .inl (zn 0 vs 0), .inl 9223372043297226851, .inl 9223372043297226753, .inl (zn 0 vs 1), .inl (zn 0 vs 2)]), (fun vs => zP mq_X0_pass_2_3), (fun vs => Nat.sub (Nat.add 453119059226 0) (Nat.add (Nat.add (Nat.add 0 (Nat.mul 196 (zn 0 vs 0))) (Nat.mul 14 (zn 0 vs 1))) (Nat.mul 1 (zn 0 vs 2)))))]
def bf_X0_pass_2 : List Nat := [0, 2, 0, 3, 0, 4]
theorem r_X0_pass_2_0 : zbox [] (fun vs => zFrun (zpost (zAlq al_X0_pass_2)) 1000 t_X0_pass fm_X0_pass_2 bf_X0_pass_2 (0, vs)) = true := by decide +kernel
theorem r_X0_pass_2_1 : zbox [(5, 2147483648, 2147483696)] (fun vs => zFrun (zpost (zAlq al_X0_pass_2)) 1000 t_X0_pass fm_X0_pass_2 bf_X0_pass_2 (1, vs)) = true := by decide +kernel
theorem r_X0_pass_2_2 : zbox [(5, 2147483648, 2147483695), (8, 2147483648, 2147483654)] (fun vs => zFrun (zpost (zAlq al_X0_pass_2)) 1000 t_X0_pass fm_X0_pass_2 bf_X0_pass_2 (2, vs)) = true := by decide +kernel
theorem r_X0_pass_2_3 : zbox [(5, 2147483648, 2147483695), (8, 2147483648, 2147483653), (9, 2147483648, 2147483654)] (fun vs => zFrun (zpost (zAlq al_X0_pass_2)) 1000 t_X0_pass fm_X0_pass_2 bf_X0_pass_2 (3, vs)) = true := by decide +kernel
set_option maxRecDepth 100000 in
theorem x_X0_pass_2 (d : Nat) : zS l G gh (d + 5) (zpost (zAlq al_X0_pass_2)) n_X0_pass (zn 0 p_X0_pass 0) (zwc (0, [.inr (.ref 259), .inr (.ref 28), .inl 9223372043297226800, .inl 8589934591, .inl 8589934591], zP q_X0_pass_2) 0) := zentry (tt_X0_pass d) fm_X0_pass_2 bf_X0_pass_2 1000 (by decide +kernel) rfl ⟨Nat.zero_lt_succ _, trivial⟩ (fun f hf => match f, hf with
  | 0, _ => fun vs hv => (zbox_t r_X0_pass_2_0) vs hv
  | 1, _ => fun vs hv => (zbox_t r_X0_pass_2_1) vs hv
  | 2, _ => fun vs hv => (zbox_t r_X0_pass_2_2) vs hv
  | 3, _ => fun vs hv => (zbox_t r_X0_pass_2_3) vs hv
  | f + 4, h => absurd (show f + 4 < 4 from h) (Nat.not_lt.mpr (Nat.le_add_left 4 f)))
noncomputable def gs_X0_pass_2 : zMt := zgq false [] 10 [.inr (.ref 259), .inr (.ref 28), .inl 9223372043297226800, .inl 8589934591, .inl 8589934591] q_X0_pass_2 al_X0_pass_2
set_option maxRecDepth 100000 in
theorem cs_X0_pass_2 (d : Nat) : zC l G gh (d + 5) n_X0_pass gs_X0_pass_2 := zgq_ok0 (pcs := p_X0_pass) (by decide) rfl rfl (fun a ha => by simp only [al_X0_pass_2, List.mem_cons, List.not_mem_nil, or_false] at ha; rcases ha with rfl <;> decide +kernel) (fun gh => x_X0_pass_2 d) (by decide +kernel)
def q_X0_pass_3 : List (Nat × Nat) := [(9, zk21), (11, zk12), (12, zk12), (15, zk5), (16, zk18), (17, zk18), (18, zk19), (19, zk3), (20, zk7), (28, zk22), (29, zk12), (30, zk12), (31, zk12), (32, zk12), (33, zk11), (34, zk11)]
noncomputable def al_X0_pass_3 : zAq := [(none, [(9, zk21), (11, zk12), (12, zk12), (15, zk5), (16, zk18), (17, zk18), (18, zk19), (19, zk4), (20, zk9), (28, zk98), (29, zk12), (30, zk57), (31, zk57), (32, zk57), (33, zk58), (34, zk58)])]
def mq_X0_pass_3_1 : List (Nat × Nat) := [(9, zk21), (11, zk12), (12, zk12), (15, zk5), (16, zk18), (17, zk18), (18, zk19), (19, zk4), (20, zk9), (28, zk98), (29, zk12), (30, zk57), (31, zk57), (32, zk57), (33, zk58), (34, zk58)]
def mq_X0_pass_3_2 : List (Nat × Nat) := [(9, zk21), (11, zk12), (12, zk12), (15, zk5), (16, zk18), (17, zk18), (18, zk19), (19, zk4), (20, zk9), (28, zk98), (29, zk12), (30, zk57), (31, zk57), (32, zk57), (33, zk58), (34, zk58)]
def mq_X0_pass_3_3 : List (Nat × Nat) := [(9, zk21), (11, zk12), (12, zk12), (15, zk5), (16, zk18), (17, zk18), (18, zk19), (19, zk4), (20, zk9), (28, zk98), (29, zk12), (30, zk57), (31, zk57), (32, zk57), (33, zk58), (34, zk58)]
noncomputable def fm_X0_pass_3 : List zFm := [(0, [], (fun vs => [.inr (.ref 9), .inr (.ref 28), .inl 9223372043297226800, .inl 8589934591, .inl 8589934591]), (fun vs => zP q_X0_pass_3), (fun vs => Nat.sub (Nat.add 9604 0) 0)),
  (1, [(5, 2147483648, 2147483696)], (fun vs => [.inr (.ref 9), .inr (.ref 28), .inl 9223372043297226800, .inl 8589934591, .inl 8589934591, .inl (zn 0 vs 0)]), (fun vs => zP mq_X0_pass_3_1), (fun vs => Nat.sub (Nat.add 420906804514 0) (Nat.add 0 (Nat.mul 196 (zn 0 vs 0))))),
  (3, [(5, 2147483648, 2147483695), (8, 2147483648, 2147483654)], (fun vs => [.inr (.ref 9), .inr (.ref 28), .inl 9223372047592194096, .inl 8589934591, .inl 8589934591, .inl (zn 0 vs 0), .inl 9223372043297226851, .inl 9223372043297226753, .inl (zn 0 vs 1)]), (fun vs => zP mq_X0_pass_3_2), (fun vs => Nat.sub (Nat.add 450971575579 0) (Nat.add (Nat.add 0 (Nat.mul 196 (zn 0 vs 0))) (Nat.mul 14 (zn 0 vs 1))))),
  (5, [(5, 2147483648, 2147483695), (8, 2147483648, 2147483653), (9, 2147483648, 2147483654)], (fun vs => [.inr (.ref 9), .inr (.ref 28), .inl 9223372047592194096, .inl 8589934591, .inl 8589934591, .inl (zn 0 vs 0), .inl 9223372043297226851, .inl 9223372043297226753, .inl (zn 0 vs 1), .inl (zn 0 vs 2)]), (fun vs => zP mq_X0_pass_3_3), (fun vs => Nat.sub (Nat.add 453119059226 0) (Nat.add (Nat.add (Nat.add 0 (Nat.mul 196 (zn 0 vs 0))) (Nat.mul 14 (zn 0 vs 1))) (Nat.mul 1 (zn 0 vs 2)))))]
def bf_X0_pass_3 : List Nat := [0, 2, 0, 3, 0, 4]
theorem r_X0_pass_3_0 : zbox [] (fun vs => zFrun (zpost (zAlq al_X0_pass_3)) 1000 t_X0_pass fm_X0_pass_3 bf_X0_pass_3 (0, vs)) = true := by decide +kernel
theorem r_X0_pass_3_1 : zbox [(5, 2147483648, 2147483696)] (fun vs => zFrun (zpost (zAlq al_X0_pass_3)) 1000 t_X0_pass fm_X0_pass_3 bf_X0_pass_3 (1, vs)) = true := by decide +kernel
theorem r_X0_pass_3_2 : zbox [(5, 2147483648, 2147483695), (8, 2147483648, 2147483654)] (fun vs => zFrun (zpost (zAlq al_X0_pass_3)) 1000 t_X0_pass fm_X0_pass_3 bf_X0_pass_3 (2, vs)) = true := by decide +kernel
theorem r_X0_pass_3_3 : zbox [(5, 2147483648, 2147483695), (8, 2147483648, 2147483653), (9, 2147483648, 2147483654)] (fun vs => zFrun (zpost (zAlq al_X0_pass_3)) 1000 t_X0_pass fm_X0_pass_3 bf_X0_pass_3 (3, vs)) = true := by decide +kernel
set_option maxRecDepth 100000 in
theorem x_X0_pass_3 (d : Nat) : zS l G gh (d + 5) (zpost (zAlq al_X0_pass_3)) n_X0_pass (zn 0 p_X0_pass 0) (zwc (0, [.inr (.ref 9), .inr (.ref 28), .inl 9223372043297226800, .inl 8589934591, .inl 8589934591], zP q_X0_pass_3) 0) := zentry (tt_X0_pass d) fm_X0_pass_3 bf_X0_pass_3 1000 (by decide +kernel) rfl ⟨Nat.zero_lt_succ _, trivial⟩ (fun f hf => match f, hf with
  | 0, _ => fun vs hv => (zbox_t r_X0_pass_3_0) vs hv
  | 1, _ => fun vs hv => (zbox_t r_X0_pass_3_1) vs hv
  | 2, _ => fun vs hv => (zbox_t r_X0_pass_3_2) vs hv
  | 3, _ => fun vs hv => (zbox_t r_X0_pass_3_3) vs hv
  | f + 4, h => absurd (show f + 4 < 4 from h) (Nat.not_lt.mpr (Nat.le_add_left 4 f)))
noncomputable def gs_X0_pass_3 : zMt := zgq false [] 10 [.inr (.ref 9), .inr (.ref 28), .inl 9223372043297226800, .inl 8589934591, .inl 8589934591] q_X0_pass_3 al_X0_pass_3
set_option maxRecDepth 100000 in
theorem cs_X0_pass_3 (d : Nat) : zC l G gh (d + 5) n_X0_pass gs_X0_pass_3 := zgq_ok0 (pcs := p_X0_pass) (by decide) rfl rfl (fun a ha => by simp only [al_X0_pass_3, List.mem_cons, List.not_mem_nil, or_false] at ha; rcases ha with rfl <;> decide +kernel) (fun gh => x_X0_pass_3 d) (by decide +kernel)
noncomputable def gs_X0_pass : zMt := (zor gs_X0_pass_0 (zor gs_X0_pass_1 (zor gs_X0_pass_2 gs_X0_pass_3)))
theorem cs_X0_pass (d : Nat) : zC l G gh (d + 5) n_X0_pass gs_X0_pass := (zor_ok (cs_X0_pass_0 d) (zor_ok (cs_X0_pass_1 d) (zor_ok (cs_X0_pass_2 d) (cs_X0_pass_3 d))))
def p_X0_spotFrom : List Nat := [0]
noncomputable def b_X0_spotFrom_0 : zBl := fun jp K => oAld 0 <| oGetR 0 12 <| oIld 3 <| oIld 4 <| oIld 1 <| oAld 0 <| oGetR 0 3 <| oIld 2 <| oXald 10 <| oAld 0 <| oGetR 0 4 <| oIld 2 <| oXald 10 <| oCv 2 5 gs_X2_aim <| oAld 0 <| oGetR 0 12 <| oCv 2 0 f_X2_spot <| oIret K
theorem s_X0_spotFrom_0 (d : Nat) : zPb l G gh (d + 5) n_X0_spotFrom p_X0_spotFrom 0 b_X0_spotFrom_0 := fun K jp hj =>
    z_aload_n (n := 0) (i := 0) (zd (i := .aload_n 0) (n := 1) (by decide +kernel)) rfl <|
    z_getR (ci := 0) (j := 12) (idx := 53) (zd (i := .getfield 53) (n := 3) (by decide +kernel)) (by decide +kernel) (by decide +kernel) rfl g304 <|
    z_iload_n (n := 3) (i := 3) (zd (i := .iload_n 3) (n := 1) (by decide +kernel)) rfl <|
    z_iload (i := 4) (zd (i := .iload 4) (n := 2) (by decide +kernel)) <|
    z_iload_n (n := 1) (i := 1) (zd (i := .iload_n 1) (n := 1) (by decide +kernel)) rfl <|
    z_aload_n (n := 0) (i := 0) (zd (i := .aload_n 0) (n := 1) (by decide +kernel)) rfl <|
    z_getR (ci := 0) (j := 3) (idx := 22) (zd (i := .getfield 22) (n := 3) (by decide +kernel)) (by decide +kernel) (by decide +kernel) rfl g281 <|
    z_iload_n (n := 2) (i := 2) (zd (i := .iload_n 2) (n := 1) (by decide +kernel)) rfl <|
    z_iald (zd (i := .iaload) (n := 1) (by decide +kernel)) <|
    z_aload_n (n := 0) (i := 0) (zd (i := .aload_n 0) (n := 1) (by decide +kernel)) rfl <|
    z_getR (ci := 0) (j := 4) (idx := 26) (zd (i := .getfield 26) (n := 3) (by decide +kernel)) (by decide +kernel) (by decide +kernel) rfl g283 <|
    z_iload_n (n := 2) (i := 2) (zd (i := .iload_n 2) (n := 1) (by decide +kernel)) rfl <|
    z_iald (zd (i := .iaload) (n := 1) (by decide +kernel)) <|
    z_callV (idx := 65) (ci := 2) (N := n_X2_aim) (zd (i := .invokevirtual 65) (n := 3) (by decide +kernel)) to_X2_aim g749 g750 g751 (by decide +kernel) rfl rfl rfl (cs_X2_aim (l := l) (G := G) (gh := gh) (d + 3)) <|
    z_aload_n (n := 0) (i := 0) (zd (i := .aload_n 0) (n := 1) (by decide +kernel)) rfl <|
    z_getR (ci := 0) (j := 12) (idx := 53) (zd (i := .getfield 53) (n := 3) (by decide +kernel)) (by decide +kernel) (by decide +kernel) rfl g304 <|
    z_callV (idx := 73) (ci := 2) (N := n_X2_spot) (zd (i := .invokevirtual 73) (n := 3) (by decide +kernel)) to_X2_spot g905 g906 g907 (by decide +kernel) rfl rfl rfl (c_X2_spot (l := l) (G := G) (gh := gh) (d)) <|
    z_iret (zd (i := .ireturn) (n := 1) (by decide +kernel)) rfl
noncomputable def t_X0_spotFrom : List zBl := [b_X0_spotFrom_0]
theorem tt_X0_spotFrom (d : Nat) : zT (zPb l G gh (d + 5) n_X0_spotFrom p_X0_spotFrom) t_X0_spotFrom p_X0_spotFrom := ⟨s_X0_spotFrom_0 d, trivial⟩
def q_X0_spotFrom_0 : List (Nat × Nat) := [(259, zk20), (261, zk12), (262, zk12), (265, zk2), (266, zk18), (267, zk18), (268, zk19), (269, zk3), (270, zk7)]
noncomputable def al_X0_spotFrom_0 : zAq := [(some (.inl 9223372039002259475), [(259, zk20), (261, zk12), (262, zk12), (265, zk2), (266, zk18), (267, zk18), (268, zk19), (269, zk4), (270, zk9)])]
noncomputable def fm_X0_spotFrom_0 : List zFm := [(0, [], (fun vs => [.inr (.ref 259), .inl 8589934591, .inl 9223372043297226757, .inl 8589934591, .inl 8589934591]), (fun vs => zP q_X0_spotFrom_0), (fun vs => Nat.sub (Nat.add 0 0) 0))]
def bf_X0_spotFrom_0 : List Nat := []
theorem r_X0_spotFrom_0_0 : zbox [] (fun vs => zFrun (zpost (zAlq al_X0_spotFrom_0)) 1000 t_X0_spotFrom fm_X0_spotFrom_0 bf_X0_spotFrom_0 (0, vs)) = true := by decide +kernel
set_option maxRecDepth 100000 in
theorem x_X0_spotFrom_0 (d : Nat) : zS l G gh (d + 5) (zpost (zAlq al_X0_spotFrom_0)) n_X0_spotFrom (zn 0 p_X0_spotFrom 0) (zwc (0, [.inr (.ref 259), .inl 8589934591, .inl 9223372043297226757, .inl 8589934591, .inl 8589934591], zP q_X0_spotFrom_0) 0) := zentry (tt_X0_spotFrom d) fm_X0_spotFrom_0 bf_X0_spotFrom_0 1000 (by decide +kernel) rfl ⟨Nat.zero_lt_succ _, trivial⟩ (fun f hf => match f, hf with
  | 0, _ => fun vs hv => (zbox_t r_X0_spotFrom_0_0) vs hv
  | f + 1, h => absurd (show f + 1 < 1 from h) (Nat.not_lt.mpr (Nat.le_add_left 1 f)))
noncomputable def gs_X0_spotFrom_0 : zMt := zgq false [] 5 [.inr (.ref 259), .inl 8589934591, .inl 9223372043297226757, .inl 8589934591, .inl 8589934591] q_X0_spotFrom_0 al_X0_spotFrom_0
set_option maxRecDepth 100000 in
theorem cs_X0_spotFrom_0 (d : Nat) : zC l G gh (d + 5) n_X0_spotFrom gs_X0_spotFrom_0 := zgq_ok0 (pcs := p_X0_spotFrom) (by decide) rfl rfl (fun a ha => by simp only [al_X0_spotFrom_0, List.mem_cons, List.not_mem_nil, or_false] at ha; rcases ha with rfl <;> decide +kernel) (fun gh => x_X0_spotFrom_0 d) (by decide +kernel)
def q_X0_spotFrom_1 : List (Nat × Nat) := [(9, zk21), (11, zk12), (12, zk12), (15, zk5), (16, zk18), (17, zk18), (18, zk19), (19, zk3), (20, zk7)]
noncomputable def al_X0_spotFrom_1 : zAq := [(some (.inl 9223372039002259475), [(9, zk21), (11, zk12), (12, zk12), (15, zk5), (16, zk18), (17, zk18), (18, zk19), (19, zk4), (20, zk9)])]
noncomputable def fm_X0_spotFrom_1 : List zFm := [(0, [], (fun vs => [.inr (.ref 9), .inl 8589934591, .inl 9223372043297226757, .inl 8589934591, .inl 8589934591]), (fun vs => zP q_X0_spotFrom_1), (fun vs => Nat.sub (Nat.add 0 0) 0))]
def bf_X0_spotFrom_1 : List Nat := []
theorem r_X0_spotFrom_1_0 : zbox [] (fun vs => zFrun (zpost (zAlq al_X0_spotFrom_1)) 1000 t_X0_spotFrom fm_X0_spotFrom_1 bf_X0_spotFrom_1 (0, vs)) = true := by decide +kernel
set_option maxRecDepth 100000 in
theorem x_X0_spotFrom_1 (d : Nat) : zS l G gh (d + 5) (zpost (zAlq al_X0_spotFrom_1)) n_X0_spotFrom (zn 0 p_X0_spotFrom 0) (zwc (0, [.inr (.ref 9), .inl 8589934591, .inl 9223372043297226757, .inl 8589934591, .inl 8589934591], zP q_X0_spotFrom_1) 0) := zentry (tt_X0_spotFrom d) fm_X0_spotFrom_1 bf_X0_spotFrom_1 1000 (by decide +kernel) rfl ⟨Nat.zero_lt_succ _, trivial⟩ (fun f hf => match f, hf with
  | 0, _ => fun vs hv => (zbox_t r_X0_spotFrom_1_0) vs hv
  | f + 1, h => absurd (show f + 1 < 1 from h) (Nat.not_lt.mpr (Nat.le_add_left 1 f)))
noncomputable def gs_X0_spotFrom_1 : zMt := zgq false [] 5 [.inr (.ref 9), .inl 8589934591, .inl 9223372043297226757, .inl 8589934591, .inl 8589934591] q_X0_spotFrom_1 al_X0_spotFrom_1
set_option maxRecDepth 100000 in
theorem cs_X0_spotFrom_1 (d : Nat) : zC l G gh (d + 5) n_X0_spotFrom gs_X0_spotFrom_1 := zgq_ok0 (pcs := p_X0_spotFrom) (by decide) rfl rfl (fun a ha => by simp only [al_X0_spotFrom_1, List.mem_cons, List.not_mem_nil, or_false] at ha; rcases ha with rfl <;> decide +kernel) (fun gh => x_X0_spotFrom_1 d) (by decide +kernel)
noncomputable def gs_X0_spotFrom : zMt := (zor gs_X0_spotFrom_0 gs_X0_spotFrom_1)
theorem cs_X0_spotFrom (d : Nat) : zC l G gh (d + 5) n_X0_spotFrom gs_X0_spotFrom := (zor_ok (cs_X0_spotFrom_0 d) (cs_X0_spotFrom_1 d))
def p_X8_dawns : List Nat := [0, 7, 15, 17, 19, 25, 59, 61, 67]
noncomputable def b_X8_dawns_0 : zBl := fun jp K => oIld 1 <| oCs 1 f_X8_isX <| oIf zeq zne (jp 2) (jp 1)
theorem s_X8_dawns_0 (d : Nat) : zPb l G gh (d + 5) n_X8_dawns p_X8_dawns 0 b_X8_dawns_0 := fun K jp hj =>
    z_iload_n (n := 1) (i := 1) (zd (i := .iload_n 1) (n := 1) (by decide +kernel)) rfl <|
    z_callS (idx := 175) (N := n_X8_isX) (zd (i := .invokestatic 175) (n := 3) (by decide +kernel)) to_X8_isX g805 g806 rfl rfl (c_X8_isX (l := l) (G := G) (gh := gh) (d + 3)) <|
    z_if_eq (off := 11) (tgt := 15) (zd (i := .ifCond .eq (11)) (n := 3) (by decide +kernel)) (by decide +kernel) (zj (hj 2) (by decide +kernel)) (zj (hj 1) (by decide +kernel))
noncomputable def b_X8_dawns_1 : zBl := fun jp K => oAld 0 <| oIld 2 <| oCv 8 1 f_X8_isThing <| oIf zne zeq (jp 3) (jp 2)
theorem s_X8_dawns_1 (d : Nat) : zPb l G gh (d + 5) n_X8_dawns p_X8_dawns 7 b_X8_dawns_1 := fun K jp hj =>
    z_aload_n (n := 0) (i := 0) (zd (i := .aload_n 0) (n := 1) (by decide +kernel)) rfl <|
    z_iload_n (n := 2) (i := 2) (zd (i := .iload_n 2) (n := 1) (by decide +kernel)) rfl <|
    z_callV (idx := 115) (ci := 8) (N := n_X8_isThing) (zd (i := .invokevirtual 115) (n := 3) (by decide +kernel)) to_X8_isThing g708 g710 g17 (by decide +kernel) rfl rfl rfl (c_X8_isThing (l := l) (G := G) (gh := gh) (d + 3)) <|
    z_if_ne (off := 5) (tgt := 17) (zd (i := .ifCond .ne (5)) (n := 3) (by decide +kernel)) (by decide +kernel) (zj (hj 3) (by decide +kernel)) (zj (hj 2) (by decide +kernel))
noncomputable def b_X8_dawns_2 : zBl := fun jp K => oInt 2147483647 <| oIret K
theorem s_X8_dawns_2 (d : Nat) : zPb l G gh (d + 5) n_X8_dawns p_X8_dawns 15 b_X8_dawns_2 := fun K jp hj =>
    z_iconst (n := -1) (zd (i := .iconst (-1)) (n := 1) (by decide +kernel)) (by decide +kernel) <|
    z_iret (zd (i := .ireturn) (n := 1) (by decide +kernel)) rfl
noncomputable def b_X8_dawns_3 : zBl := fun jp K => oInt 2147483648 <| oIst 3 <| jp 4
theorem s_X8_dawns_3 (d : Nat) : zPb l G gh (d + 5) n_X8_dawns p_X8_dawns 17 b_X8_dawns_3 := fun K jp hj =>
    z_iconst (n := 0) (zd (i := .iconst (0)) (n := 1) (by decide +kernel)) (by decide +kernel) <|
    z_istore_n (n := 3) (i := 3) (zd (i := .istore_n 3) (n := 1) (by decide +kernel)) rfl (by decide +kernel) <|
    (zj (hj 4) (by decide +kernel))
noncomputable def b_X8_dawns_4 : zBl := fun jp K => oNLC 3 2147483696 zgtN zleN zn1_gt zn1_le (jp 8) (jp 5)
theorem s_X8_dawns_4 (d : Nat) : zPb l G gh (d + 5) n_X8_dawns p_X8_dawns 19 b_X8_dawns_4 := fun K jp hj =>
    z_nLC_gt (i := 3) (c0 := 2147483696) (a1 := 1) (a2 := 2) (off := 45) (tgt := 67) (zLd_n (n := 3) (i := 3) (zd (i := .iload_n 3) (n := 1) (by decide +kernel)) rfl) (zCn_b (n := 48) (zd (i := .bipush (48)) (n := 2) (by decide +kernel)) (by decide +kernel)) (zd (i := .if_icmp .gt (45)) (n := 3) (by decide +kernel)) (by decide +kernel) (zj (hj 8) (by decide +kernel)) (zj (hj 5) (by decide +kernel))
noncomputable def b_X8_dawns_5 : zBl := fun jp K => oAld 0 <| oGetR 8 2 <| oGetI 4 0 <| oIld 3 <| oB2 zadd <| oIst 4 <| oAld 0 <| oGetR 8 12 <| oIld 1 <| oIld 2 <| oIld 4 <| oAld 0 <| oGetR 8 12 <| oIld 4 <| oCv 0 1 f_X0_heat <| oCv 0 4 gs_X0_isSeenFrom <| oIf zeq zne (jp 7) (jp 6)
theorem s_X8_dawns_5 (d : Nat) : zPb l G gh (d + 5) n_X8_dawns p_X8_dawns 25 b_X8_dawns_5 := fun K jp hj =>
    z_aload_n (n := 0) (i := 0) (zd (i := .aload_n 0) (n := 1) (by decide +kernel)) rfl <|
    z_getR (ci := 8) (j := 2) (idx := 26) (zd (i := .getfield 26) (n := 3) (by decide +kernel)) (by decide +kernel) (by decide +kernel) rfl g454 <|
    z_getI (ci := 4) (j := 0) (idx := 140) (zd (i := .getfield 140) (n := 3) (by decide +kernel)) (by decide +kernel) (by decide +kernel) rfl g368 <|
    z_iload_n (n := 3) (i := 3) (zd (i := .iload_n 3) (n := 1) (by decide +kernel)) rfl <|
    z_iadd (zd (i := .iadd) (n := 1) (by decide +kernel)) <|
    z_istore (i := 4) (zd (i := .istore 4) (n := 2) (by decide +kernel)) (by decide +kernel) <|
    z_aload_n (n := 0) (i := 0) (zd (i := .aload_n 0) (n := 1) (by decide +kernel)) rfl <|
    z_getR (ci := 8) (j := 12) (idx := 71) (zd (i := .getfield 71) (n := 3) (by decide +kernel)) (by decide +kernel) (by decide +kernel) rfl g464 <|
    z_iload_n (n := 1) (i := 1) (zd (i := .iload_n 1) (n := 1) (by decide +kernel)) rfl <|
    z_iload_n (n := 2) (i := 2) (zd (i := .iload_n 2) (n := 1) (by decide +kernel)) rfl <|
    z_iload (i := 4) (zd (i := .iload 4) (n := 2) (by decide +kernel)) <|
    z_aload_n (n := 0) (i := 0) (zd (i := .aload_n 0) (n := 1) (by decide +kernel)) rfl <|
    z_getR (ci := 8) (j := 12) (idx := 71) (zd (i := .getfield 71) (n := 3) (by decide +kernel)) (by decide +kernel) (by decide +kernel) rfl g464 <|
    z_iload (i := 4) (zd (i := .iload 4) (n := 2) (by decide +kernel)) <|
    z_callV (idx := 143) (ci := 0) (N := n_X0_heat) (zd (i := .invokevirtual 143) (n := 3) (by decide +kernel)) to_X0_heat g716 g717 g718 (by decide +kernel) rfl rfl rfl (c_X0_heat (l := l) (G := G) (gh := gh) (d)) <|
    z_callV (idx := 239) (ci := 0) (N := n_X0_isSeenFrom) (zd (i := .invokevirtual 239) (n := 3) (by decide +kernel)) to_X0_isSeenFrom g745 g746 g747 (by decide +kernel) rfl rfl rfl (cs_X0_isSeenFrom (l := l) (G := G) (gh := gh) (d)) <|
    z_if_eq (off := 5) (tgt := 61) (zd (i := .ifCond .eq (5)) (n := 3) (by decide +kernel)) (by decide +kernel) (zj (hj 7) (by decide +kernel)) (zj (hj 6) (by decide +kernel))
noncomputable def b_X8_dawns_6 : zBl := fun jp K => oIld 3 <| oIret K
theorem s_X8_dawns_6 (d : Nat) : zPb l G gh (d + 5) n_X8_dawns p_X8_dawns 59 b_X8_dawns_6 := fun K jp hj =>
    z_iload_n (n := 3) (i := 3) (zd (i := .iload_n 3) (n := 1) (by decide +kernel)) rfl <|
    z_iret (zd (i := .ireturn) (n := 1) (by decide +kernel)) rfl
noncomputable def b_X8_dawns_7 : zBl := fun jp K => oInc 3 2147483649 <| jp 4
theorem s_X8_dawns_7 (d : Nat) : zPb l G gh (d + 5) n_X8_dawns p_X8_dawns 61 b_X8_dawns_7 := fun K jp hj =>
    z_iinc (i := 3) (n := 1) (zd (i := .iinc 3 (1)) (n := 3) (by decide +kernel)) (by decide +kernel) (by decide +kernel) <|
    z_goto (off := -45) (tgt := 19) (zd (i := .goto (-45)) (n := 3) (by decide +kernel)) (by decide +kernel) (zj (hj 4) (by decide +kernel))
noncomputable def b_X8_dawns_8 : zBl := fun jp K => oInt 2147483646 <| oIret K
theorem s_X8_dawns_8 (d : Nat) : zPb l G gh (d + 5) n_X8_dawns p_X8_dawns 67 b_X8_dawns_8 := fun K jp hj =>
    z_bipush (n := -2) (zd (i := .bipush (-2)) (n := 2) (by decide +kernel)) (by decide +kernel) <|
    z_iret (zd (i := .ireturn) (n := 1) (by decide +kernel)) rfl
noncomputable def t_X8_dawns : List zBl := [b_X8_dawns_0, b_X8_dawns_1, b_X8_dawns_2, b_X8_dawns_3, b_X8_dawns_4, b_X8_dawns_5, b_X8_dawns_6, b_X8_dawns_7, b_X8_dawns_8]
theorem tt_X8_dawns (d : Nat) : zT (zPb l G gh (d + 5) n_X8_dawns p_X8_dawns) t_X8_dawns p_X8_dawns := ⟨s_X8_dawns_0 d, s_X8_dawns_1 d, s_X8_dawns_2 d, s_X8_dawns_3 d, s_X8_dawns_4 d, s_X8_dawns_5 d, s_X8_dawns_6 d, s_X8_dawns_7 d, s_X8_dawns_8 d, trivial⟩
def q_X8_dawns_0 : List (Nat × Nat) := [(0, zk0), (21, zk10), (259, zk20), (261, zk12), (262, zk12), (265, zk2), (266, zk18), (267, zk18), (268, zk19), (269, zk3), (270, zk7)]
noncomputable def al_X8_dawns_0 : zAq := [(some (.inl 9223372034707292208), [(0, zk0), (21, zk10), (259, zk20), (261, zk12), (262, zk12), (265, zk2), (266, zk18), (267, zk18), (268, zk19), (269, zk4), (270, zk9)])]
def mq_X8_dawns_0_1 : List (Nat × Nat) := [(0, zk0), (21, zk10), (259, zk20), (261, zk12), (262, zk12), (265, zk2), (266, zk18), (267, zk18), (268, zk19), (269, zk4), (270, zk9)]
noncomputable def fm_X8_dawns_0 : List zFm := [(0, [], (fun vs => [.inr (.ref 0), .inl 8589934591, .inl 9223372043297226757]), (fun vs => zP q_X8_dawns_0), (fun vs => Nat.sub (Nat.add 50 0) 0)),
  (4, [(3, 2147483648, 2147483697)], (fun vs => [.inr (.ref 0), .inl 8589934591, .inl 9223372043297226757, .inl (zn 0 vs 0)]), (fun vs => zP mq_X8_dawns_0_1), (fun vs => Nat.sub (Nat.add 2147483697 0) (Nat.add 0 (Nat.mul 1 (zn 0 vs 0)))))]
def bf_X8_dawns_0 : List Nat := [0, 0, 0, 0, 2]
theorem r_X8_dawns_0_0 : zbox [] (fun vs => zFrun (zpost (zAlq al_X8_dawns_0)) 1000 t_X8_dawns fm_X8_dawns_0 bf_X8_dawns_0 (0, vs)) = true := by decide +kernel
theorem r_X8_dawns_0_1 : zbox [(3, 2147483648, 2147483697)] (fun vs => zFrun (zpost (zAlq al_X8_dawns_0)) 1000 t_X8_dawns fm_X8_dawns_0 bf_X8_dawns_0 (1, vs)) = true := by decide +kernel
set_option maxRecDepth 100000 in
theorem x_X8_dawns_0 (d : Nat) : zS l G gh (d + 5) (zpost (zAlq al_X8_dawns_0)) n_X8_dawns (zn 0 p_X8_dawns 0) (zwc (0, [.inr (.ref 0), .inl 8589934591, .inl 9223372043297226757], zP q_X8_dawns_0) 0) := zentry (tt_X8_dawns d) fm_X8_dawns_0 bf_X8_dawns_0 1000 (by decide +kernel) rfl ⟨Nat.zero_lt_succ _, trivial⟩ (fun f hf => match f, hf with
  | 0, _ => fun vs hv => (zbox_t r_X8_dawns_0_0) vs hv
  | 1, _ => fun vs hv => (zbox_t r_X8_dawns_0_1) vs hv
  | f + 2, h => absurd (show f + 2 < 2 from h) (Nat.not_lt.mpr (Nat.le_add_left 2 f)))
noncomputable def gs_X8_dawns_0 : zMt := zgq false [] 5 [.inr (.ref 0), .inl 8589934591, .inl 9223372043297226757] q_X8_dawns_0 al_X8_dawns_0
set_option maxRecDepth 100000 in
theorem cs_X8_dawns_0 (d : Nat) : zC l G gh (d + 5) n_X8_dawns gs_X8_dawns_0 := zgq_ok0 (pcs := p_X8_dawns) (by decide) rfl rfl (fun a ha => by simp only [al_X8_dawns_0, List.mem_cons, List.not_mem_nil, or_false] at ha; rcases ha with rfl <;> decide +kernel) (fun gh => x_X8_dawns_0 d) (by decide +kernel)
def q_X8_dawns_1 : List (Nat × Nat) := [(0, zk0)]
noncomputable def al_X8_dawns_1 : zAq := [(some (.inl 2147483647), [(0, zk0)])]
noncomputable def fm_X8_dawns_1 : List zFm := [(0, [], (fun vs => [.inr (.ref 0), .inl 8589934591, .inl 6442450943]), (fun vs => zP q_X8_dawns_1), (fun vs => Nat.sub (Nat.add 0 0) 0))]
def bf_X8_dawns_1 : List Nat := []
theorem r_X8_dawns_1_0 : zbox [] (fun vs => zFrun (zpost (zAlq al_X8_dawns_1)) 1000 t_X8_dawns fm_X8_dawns_1 bf_X8_dawns_1 (0, vs)) = true := by decide +kernel
set_option maxRecDepth 100000 in
theorem x_X8_dawns_1 (d : Nat) : zS l G gh (d + 5) (zpost (zAlq al_X8_dawns_1)) n_X8_dawns (zn 0 p_X8_dawns 0) (zwc (0, [.inr (.ref 0), .inl 8589934591, .inl 6442450943], zP q_X8_dawns_1) 0) := zentry (tt_X8_dawns d) fm_X8_dawns_1 bf_X8_dawns_1 1000 (by decide +kernel) rfl ⟨Nat.zero_lt_succ _, trivial⟩ (fun f hf => match f, hf with
  | 0, _ => fun vs hv => (zbox_t r_X8_dawns_1_0) vs hv
  | f + 1, h => absurd (show f + 1 < 1 from h) (Nat.not_lt.mpr (Nat.le_add_left 1 f)))
noncomputable def gs_X8_dawns_1 : zMt := zgq false [] 5 [.inr (.ref 0), .inl 8589934591, .inl 6442450943] q_X8_dawns_1 al_X8_dawns_1
set_option maxRecDepth 100000 in
theorem cs_X8_dawns_1 (d : Nat) : zC l G gh (d + 5) n_X8_dawns gs_X8_dawns_1 := zgq_ok0 (pcs := p_X8_dawns) (by decide) rfl rfl (fun a ha => by simp only [al_X8_dawns_1, List.mem_cons, List.not_mem_nil, or_false] at ha; rcases ha with rfl <;> decide +kernel) (fun gh => x_X8_dawns_1 d) (by decide +kernel)
def q_X8_dawns_2 : List (Nat × Nat) := [(0, zk0), (259, zk20)]
noncomputable def al_X8_dawns_2 : zAq := [(some (.inl 2147483647), [(0, zk0), (259, zk20)])]
noncomputable def fm_X8_dawns_2 : List zFm := [(0, [], (fun vs => [.inr (.ref 0), .inl 8589934591, .inl 9223372071214514175]), (fun vs => zP q_X8_dawns_2), (fun vs => Nat.sub (Nat.add 0 0) 0))]
def bf_X8_dawns_2 : List Nat := []
theorem r_X8_dawns_2_0 : zbox [] (fun vs => zFrun (zpost (zAlq al_X8_dawns_2)) 1000 t_X8_dawns fm_X8_dawns_2 bf_X8_dawns_2 (0, vs)) = true := by decide +kernel
set_option maxRecDepth 100000 in
theorem x_X8_dawns_2 (d : Nat) : zS l G gh (d + 5) (zpost (zAlq al_X8_dawns_2)) n_X8_dawns (zn 0 p_X8_dawns 0) (zwc (0, [.inr (.ref 0), .inl 8589934591, .inl 9223372071214514175], zP q_X8_dawns_2) 0) := zentry (tt_X8_dawns d) fm_X8_dawns_2 bf_X8_dawns_2 1000 (by decide +kernel) rfl ⟨Nat.zero_lt_succ _, trivial⟩ (fun f hf => match f, hf with
  | 0, _ => fun vs hv => (zbox_t r_X8_dawns_2_0) vs hv
  | f + 1, h => absurd (show f + 1 < 1 from h) (Nat.not_lt.mpr (Nat.le_add_left 1 f)))
noncomputable def gs_X8_dawns_2 : zMt := zgq false [] 5 [.inr (.ref 0), .inl 8589934591, .inl 9223372071214514175] q_X8_dawns_2 al_X8_dawns_2
set_option maxRecDepth 100000 in
theorem cs_X8_dawns_2 (d : Nat) : zC l G gh (d + 5) n_X8_dawns gs_X8_dawns_2 := zgq_ok0 (pcs := p_X8_dawns) (by decide) rfl rfl (fun a ha => by simp only [al_X8_dawns_2, List.mem_cons, List.not_mem_nil, or_false] at ha; rcases ha with rfl <;> decide +kernel) (fun gh => x_X8_dawns_2 d) (by decide +kernel)
def q_X8_dawns_3 : List (Nat × Nat) := [(0, zk1), (9, zk21), (11, zk12), (12, zk12), (15, zk5), (16, zk18), (17, zk18), (18, zk19), (19, zk3), (20, zk7), (21, zk10)]
noncomputable def al_X8_dawns_3 : zAq := [(some (.inl 9223372034707292208), [(0, zk1), (9, zk21), (11, zk12), (12, zk12), (15, zk5), (16, zk18), (17, zk18), (18, zk19), (19, zk4), (20, zk9), (21, zk10)])]
def mq_X8_dawns_3_1 : List (Nat × Nat) := [(0, zk1), (9, zk21), (11, zk12), (12, zk12), (15, zk5), (16, zk18), (17, zk18), (18, zk19), (19, zk4), (20, zk9), (21, zk10)]
noncomputable def fm_X8_dawns_3 : List zFm := [(0, [], (fun vs => [.inr (.ref 0), .inl 8589934591, .inl 9223372043297226757]), (fun vs => zP q_X8_dawns_3), (fun vs => Nat.sub (Nat.add 50 0) 0)),
  (4, [(3, 2147483648, 2147483697)], (fun vs => [.inr (.ref 0), .inl 8589934591, .inl 9223372043297226757, .inl (zn 0 vs 0)]), (fun vs => zP mq_X8_dawns_3_1), (fun vs => Nat.sub (Nat.add 2147483697 0) (Nat.add 0 (Nat.mul 1 (zn 0 vs 0)))))]
def bf_X8_dawns_3 : List Nat := [0, 0, 0, 0, 2]
theorem r_X8_dawns_3_0 : zbox [] (fun vs => zFrun (zpost (zAlq al_X8_dawns_3)) 1000 t_X8_dawns fm_X8_dawns_3 bf_X8_dawns_3 (0, vs)) = true := by decide +kernel
theorem r_X8_dawns_3_1 : zbox [(3, 2147483648, 2147483697)] (fun vs => zFrun (zpost (zAlq al_X8_dawns_3)) 1000 t_X8_dawns fm_X8_dawns_3 bf_X8_dawns_3 (1, vs)) = true := by decide +kernel
set_option maxRecDepth 100000 in
theorem x_X8_dawns_3 (d : Nat) : zS l G gh (d + 5) (zpost (zAlq al_X8_dawns_3)) n_X8_dawns (zn 0 p_X8_dawns 0) (zwc (0, [.inr (.ref 0), .inl 8589934591, .inl 9223372043297226757], zP q_X8_dawns_3) 0) := zentry (tt_X8_dawns d) fm_X8_dawns_3 bf_X8_dawns_3 1000 (by decide +kernel) rfl ⟨Nat.zero_lt_succ _, trivial⟩ (fun f hf => match f, hf with
  | 0, _ => fun vs hv => (zbox_t r_X8_dawns_3_0) vs hv
  | 1, _ => fun vs hv => (zbox_t r_X8_dawns_3_1) vs hv
  | f + 2, h => absurd (show f + 2 < 2 from h) (Nat.not_lt.mpr (Nat.le_add_left 2 f)))
noncomputable def gs_X8_dawns_3 : zMt := zgq false [] 5 [.inr (.ref 0), .inl 8589934591, .inl 9223372043297226757] q_X8_dawns_3 al_X8_dawns_3
set_option maxRecDepth 100000 in
theorem cs_X8_dawns_3 (d : Nat) : zC l G gh (d + 5) n_X8_dawns gs_X8_dawns_3 := zgq_ok0 (pcs := p_X8_dawns) (by decide) rfl rfl (fun a ha => by simp only [al_X8_dawns_3, List.mem_cons, List.not_mem_nil, or_false] at ha; rcases ha with rfl <;> decide +kernel) (fun gh => x_X8_dawns_3 d) (by decide +kernel)
def q_X8_dawns_4 : List (Nat × Nat) := [(0, zk1)]
noncomputable def al_X8_dawns_4 : zAq := [(some (.inl 2147483647), [(0, zk1)])]
noncomputable def fm_X8_dawns_4 : List zFm := [(0, [], (fun vs => [.inr (.ref 0), .inl 8589934591, .inl 6442450943]), (fun vs => zP q_X8_dawns_4), (fun vs => Nat.sub (Nat.add 0 0) 0))]
def bf_X8_dawns_4 : List Nat := []
theorem r_X8_dawns_4_0 : zbox [] (fun vs => zFrun (zpost (zAlq al_X8_dawns_4)) 1000 t_X8_dawns fm_X8_dawns_4 bf_X8_dawns_4 (0, vs)) = true := by decide +kernel
set_option maxRecDepth 100000 in
theorem x_X8_dawns_4 (d : Nat) : zS l G gh (d + 5) (zpost (zAlq al_X8_dawns_4)) n_X8_dawns (zn 0 p_X8_dawns 0) (zwc (0, [.inr (.ref 0), .inl 8589934591, .inl 6442450943], zP q_X8_dawns_4) 0) := zentry (tt_X8_dawns d) fm_X8_dawns_4 bf_X8_dawns_4 1000 (by decide +kernel) rfl ⟨Nat.zero_lt_succ _, trivial⟩ (fun f hf => match f, hf with
  | 0, _ => fun vs hv => (zbox_t r_X8_dawns_4_0) vs hv
  | f + 1, h => absurd (show f + 1 < 1 from h) (Nat.not_lt.mpr (Nat.le_add_left 1 f)))
noncomputable def gs_X8_dawns_4 : zMt := zgq false [] 5 [.inr (.ref 0), .inl 8589934591, .inl 6442450943] q_X8_dawns_4 al_X8_dawns_4
set_option maxRecDepth 100000 in
theorem cs_X8_dawns_4 (d : Nat) : zC l G gh (d + 5) n_X8_dawns gs_X8_dawns_4 := zgq_ok0 (pcs := p_X8_dawns) (by decide) rfl rfl (fun a ha => by simp only [al_X8_dawns_4, List.mem_cons, List.not_mem_nil, or_false] at ha; rcases ha with rfl <;> decide +kernel) (fun gh => x_X8_dawns_4 d) (by decide +kernel)
def q_X8_dawns_5 : List (Nat × Nat) := [(0, zk1), (9, zk21)]
noncomputable def al_X8_dawns_5 : zAq := [(some (.inl 2147483647), [(0, zk1), (9, zk21)])]
noncomputable def fm_X8_dawns_5 : List zFm := [(0, [], (fun vs => [.inr (.ref 0), .inl 8589934591, .inl 9223372071214514175]), (fun vs => zP q_X8_dawns_5), (fun vs => Nat.sub (Nat.add 0 0) 0))]
def bf_X8_dawns_5 : List Nat := []
theorem r_X8_dawns_5_0 : zbox [] (fun vs => zFrun (zpost (zAlq al_X8_dawns_5)) 1000 t_X8_dawns fm_X8_dawns_5 bf_X8_dawns_5 (0, vs)) = true := by decide +kernel
set_option maxRecDepth 100000 in
theorem x_X8_dawns_5 (d : Nat) : zS l G gh (d + 5) (zpost (zAlq al_X8_dawns_5)) n_X8_dawns (zn 0 p_X8_dawns 0) (zwc (0, [.inr (.ref 0), .inl 8589934591, .inl 9223372071214514175], zP q_X8_dawns_5) 0) := zentry (tt_X8_dawns d) fm_X8_dawns_5 bf_X8_dawns_5 1000 (by decide +kernel) rfl ⟨Nat.zero_lt_succ _, trivial⟩ (fun f hf => match f, hf with
  | 0, _ => fun vs hv => (zbox_t r_X8_dawns_5_0) vs hv
  | f + 1, h => absurd (show f + 1 < 1 from h) (Nat.not_lt.mpr (Nat.le_add_left 1 f)))
noncomputable def gs_X8_dawns_5 : zMt := zgq false [] 5 [.inr (.ref 0), .inl 8589934591, .inl 9223372071214514175] q_X8_dawns_5 al_X8_dawns_5
set_option maxRecDepth 100000 in
theorem cs_X8_dawns_5 (d : Nat) : zC l G gh (d + 5) n_X8_dawns gs_X8_dawns_5 := zgq_ok0 (pcs := p_X8_dawns) (by decide) rfl rfl (fun a ha => by simp only [al_X8_dawns_5, List.mem_cons, List.not_mem_nil, or_false] at ha; rcases ha with rfl <;> decide +kernel) (fun gh => x_X8_dawns_5 d) (by decide +kernel)
noncomputable def gs_X8_dawns : zMt := (zor gs_X8_dawns_0 (zor gs_X8_dawns_1 (zor gs_X8_dawns_2 (zor gs_X8_dawns_3 (zor gs_X8_dawns_4 gs_X8_dawns_5)))))
theorem cs_X8_dawns (d : Nat) : zC l G gh (d + 5) n_X8_dawns gs_X8_dawns := (zor_ok (cs_X8_dawns_0 d) (zor_ok (cs_X8_dawns_1 d) (zor_ok (cs_X8_dawns_2 d) (zor_ok (cs_X8_dawns_3 d) (zor_ok (cs_X8_dawns_4 d) (cs_X8_dawns_5 d))))))
def p_X8_unseenOf : List Nat := [0, 16, 23, 26, 38, 48, 87, 98, 104, 110]
noncomputable def b_X8_unseenOf_0 : zBl := fun jp K => oAld 0 <| oGetR 8 12 <| oIld 3 <| oCv 0 1 f_X0_heat <| oIst 4 <| oIld 1 <| oIst 5 <| oInt 2147483648 <| oIst 6 <| jp 1
theorem s_X8_unseenOf_0 (d : Nat) : zPb l G gh (d + 5) n_X8_unseenOf p_X8_unseenOf 0 b_X8_unseenOf_0 := fun K jp hj =>
    z_aload_n (n := 0) (i := 0) (zd (i := .aload_n 0) (n := 1) (by decide +kernel)) rfl <|
    z_getR (ci := 8) (j := 12) (idx := 71) (zd (i := .getfield 71) (n := 3) (by decide +kernel)) (by decide +kernel) (by decide +kernel) rfl g464 <|
    z_iload_n (n := 3) (i := 3) (zd (i := .iload_n 3) (n := 1) (by decide +kernel)) rfl <|
    z_callV (idx := 143) (ci := 0) (N := n_X0_heat) (zd (i := .invokevirtual 143) (n := 3) (by decide +kernel)) to_X0_heat g716 g717 g718 (by decide +kernel) rfl rfl rfl (c_X0_heat (l := l) (G := G) (gh := gh) (d)) <|
    z_istore (i := 4) (zd (i := .istore 4) (n := 2) (by decide +kernel)) (by decide +kernel) <|
    z_iload_n (n := 1) (i := 1) (zd (i := .iload_n 1) (n := 1) (by decide +kernel)) rfl <|
    z_istore (i := 5) (zd (i := .istore 5) (n := 2) (by decide +kernel)) (by decide +kernel) <|
    z_iconst (n := 0) (zd (i := .iconst (0)) (n := 1) (by decide +kernel)) (by decide +kernel) <|
    z_istore (i := 6) (zd (i := .istore 6) (n := 2) (by decide +kernel)) (by decide +kernel) <|
    (zj (hj 1) (by decide +kernel))
noncomputable def b_X8_unseenOf_1 : zBl := fun jp K => oNLC 6 2147483668 zgeN zltN zn1_ge zn1_lt (jp 9) (jp 2)
theorem s_X8_unseenOf_1 (d : Nat) : zPb l G gh (d + 5) n_X8_unseenOf p_X8_unseenOf 16 b_X8_unseenOf_1 := fun K jp hj =>
    z_nLC_ge (i := 6) (c0 := 2147483668) (a1 := 2) (a2 := 2) (off := 90) (tgt := 110) (zLd_w (i := 6) (zd (i := .iload 6) (n := 2) (by decide +kernel))) (zCn_b (n := 20) (zd (i := .bipush (20)) (n := 2) (by decide +kernel)) (by decide +kernel)) (zd (i := .if_icmp .ge (90)) (n := 3) (by decide +kernel)) (by decide +kernel) (zj (hj 9) (by decide +kernel)) (zj (hj 2) (by decide +kernel))
noncomputable def b_X8_unseenOf_2 : zBl := fun jp K => oInt 2147483648 <| oIst 7 <| jp 3
theorem s_X8_unseenOf_2 (d : Nat) : zPb l G gh (d + 5) n_X8_unseenOf p_X8_unseenOf 23 b_X8_unseenOf_2 := fun K jp hj =>
    z_iconst (n := 0) (zd (i := .iconst (0)) (n := 1) (by decide +kernel)) (by decide +kernel) <|
    z_istore (i := 7) (zd (i := .istore 7) (n := 2) (by decide +kernel)) (by decide +kernel) <|
    (zj (hj 3) (by decide +kernel))
noncomputable def b_X8_unseenOf_3 : zBl := fun jp K => oIld 7 <| oAld 0 <| oGetR 8 12 <| oGetI 0 5 <| oIc zge zlt (jp 8) (jp 4)
theorem s_X8_unseenOf_3 (d : Nat) : zPb l G gh (d + 5) n_X8_unseenOf p_X8_unseenOf 26 b_X8_unseenOf_3 := fun K jp hj =>
    z_iload (i := 7) (zd (i := .iload 7) (n := 2) (by decide +kernel)) <|
    z_aload_n (n := 0) (i := 0) (zd (i := .aload_n 0) (n := 1) (by decide +kernel)) rfl <|
    z_getR (ci := 8) (j := 12) (idx := 71) (zd (i := .getfield 71) (n := 3) (by decide +kernel)) (by decide +kernel) (by decide +kernel) rfl g464 <|
    z_getI (ci := 0) (j := 5) (idx := 230) (zd (i := .getfield 230) (n := 3) (by decide +kernel)) (by decide +kernel) (by decide +kernel) rfl g288 <|
    z_icmp_ge (off := 69) (tgt := 104) (zd (i := .if_icmp .ge (69)) (n := 3) (by decide +kernel)) (by decide +kernel) (zj (hj 8) (by decide +kernel)) (zj (hj 4) (by decide +kernel))
noncomputable def b_X8_unseenOf_4 : zBl := fun jp K => oIld 5 <| oIld 6 <| oB2 zishr <| oInt 2147483649 <| oB2 ziand <| oIf zeq zne (jp 8) (jp 5)
theorem s_X8_unseenOf_4 (d : Nat) : zPb l G gh (d + 5) n_X8_unseenOf p_X8_unseenOf 38 b_X8_unseenOf_4 := fun K jp hj =>
    z_iload (i := 5) (zd (i := .iload 5) (n := 2) (by decide +kernel)) <|
    z_iload (i := 6) (zd (i := .iload 6) (n := 2) (by decide +kernel)) <|
    z_ishr (zd (i := .ishr) (n := 1) (by decide +kernel)) <|
    z_iconst (n := 1) (zd (i := .iconst (1)) (n := 1) (by decide +kernel)) (by decide +kernel) <|
    z_iand (zd (i := .iand) (n := 1) (by decide +kernel)) <|
    z_if_eq (off := 59) (tgt := 104) (zd (i := .ifCond .eq (59)) (n := 3) (by decide +kernel)) (by decide +kernel) (zj (hj 8) (by decide +kernel)) (zj (hj 5) (by decide +kernel))
noncomputable def b_X8_unseenOf_5 : zBl := fun jp K => oAld 0 <| oGetR 8 12 <| oGetR 0 12 <| oIld 3 <| oIld 4 <| oAld 0 <| oGetR 8 2 <| oGetR 4 1 <| oIld 7 <| oXald 10 <| oIld 6 <| oIld 2 <| oCv 2 5 gs_X2_aim <| oAld 0 <| oGetR 8 12 <| oGetR 0 12 <| oCv 2 0 f_X2_isSeen <| oIf zeq zne (jp 7) (jp 6)
theorem s_X8_unseenOf_5 (d : Nat) : zPb l G gh (d + 5) n_X8_unseenOf p_X8_unseenOf 48 b_X8_unseenOf_5 := fun K jp hj =>
    z_aload_n (n := 0) (i := 0) (zd (i := .aload_n 0) (n := 1) (by decide +kernel)) rfl <|
    z_getR (ci := 8) (j := 12) (idx := 71) (zd (i := .getfield 71) (n := 3) (by decide +kernel)) (by decide +kernel) (by decide +kernel) rfl g464 <|
    z_getR (ci := 0) (j := 12) (idx := 186) (zd (i := .getfield 186) (n := 3) (by decide +kernel)) (by decide +kernel) (by decide +kernel) rfl g306 <|
    z_iload_n (n := 3) (i := 3) (zd (i := .iload_n 3) (n := 1) (by decide +kernel)) rfl <|
    z_iload (i := 4) (zd (i := .iload 4) (n := 2) (by decide +kernel)) <|
    z_aload_n (n := 0) (i := 0) (zd (i := .aload_n 0) (n := 1) (by decide +kernel)) rfl <|
    z_getR (ci := 8) (j := 2) (idx := 26) (zd (i := .getfield 26) (n := 3) (by decide +kernel)) (by decide +kernel) (by decide +kernel) rfl g454 <|
    z_getR (ci := 4) (j := 1) (idx := 134) (zd (i := .getfield 134) (n := 3) (by decide +kernel)) (by decide +kernel) (by decide +kernel) rfl g371 <|
    z_iload (i := 7) (zd (i := .iload 7) (n := 2) (by decide +kernel)) <|
    z_iald (zd (i := .iaload) (n := 1) (by decide +kernel)) <|
    z_iload (i := 6) (zd (i := .iload 6) (n := 2) (by decide +kernel)) <|
    z_iload_n (n := 2) (i := 2) (zd (i := .iload_n 2) (n := 1) (by decide +kernel)) rfl <|
    z_callV (idx := 286) (ci := 2) (N := n_X2_aim) (zd (i := .invokevirtual 286) (n := 3) (by decide +kernel)) to_X2_aim g999 g750 g751 (by decide +kernel) rfl rfl rfl (cs_X2_aim (l := l) (G := G) (gh := gh) (d + 3)) <|
    z_aload_n (n := 0) (i := 0) (zd (i := .aload_n 0) (n := 1) (by decide +kernel)) rfl <|
    z_getR (ci := 8) (j := 12) (idx := 71) (zd (i := .getfield 71) (n := 3) (by decide +kernel)) (by decide +kernel) (by decide +kernel) rfl g464 <|
    z_getR (ci := 0) (j := 12) (idx := 186) (zd (i := .getfield 186) (n := 3) (by decide +kernel)) (by decide +kernel) (by decide +kernel) rfl g306 <|
    z_callV (idx := 290) (ci := 2) (N := n_X2_isSeen) (zd (i := .invokevirtual 290) (n := 3) (by decide +kernel)) to_X2_isSeen g1000 g757 g758 (by decide +kernel) rfl rfl rfl (c_X2_isSeen (l := l) (G := G) (gh := gh) (d + 1)) <|
    z_if_eq (off := 14) (tgt := 98) (zd (i := .ifCond .eq (14)) (n := 3) (by decide +kernel)) (by decide +kernel) (zj (hj 7) (by decide +kernel)) (zj (hj 6) (by decide +kernel))
noncomputable def b_X8_unseenOf_6 : zBl := fun jp K => oIld 5 <| oInt 2147483649 <| oIld 6 <| oB2 zishl <| oInt 2147483647 <| oB2 zixor <| oB2 ziand <| oIst 5 <| jp 7
theorem s_X8_unseenOf_6 (d : Nat) : zPb l G gh (d + 5) n_X8_unseenOf p_X8_unseenOf 87 b_X8_unseenOf_6 := fun K jp hj =>
    z_iload (i := 5) (zd (i := .iload 5) (n := 2) (by decide +kernel)) <|
    z_iconst (n := 1) (zd (i := .iconst (1)) (n := 1) (by decide +kernel)) (by decide +kernel) <|
    z_iload (i := 6) (zd (i := .iload 6) (n := 2) (by decide +kernel)) <|
    z_ishl (zd (i := .ishl) (n := 1) (by decide +kernel)) <|
    z_iconst (n := -1) (zd (i := .iconst (-1)) (n := 1) (by decide +kernel)) (by decide +kernel) <|
    z_ixor (zd (i := .ixor) (n := 1) (by decide +kernel)) <|
    z_iand (zd (i := .iand) (n := 1) (by decide +kernel)) <|
    z_istore (i := 5) (zd (i := .istore 5) (n := 2) (by decide +kernel)) (by decide +kernel) <|
    (zj (hj 7) (by decide +kernel))
noncomputable def b_X8_unseenOf_7 : zBl := fun jp K => oInc 7 2147483649 <| jp 3
theorem s_X8_unseenOf_7 (d : Nat) : zPb l G gh (d + 5) n_X8_unseenOf p_X8_unseenOf 98 b_X8_unseenOf_7 := fun K jp hj =>
    z_iinc (i := 7) (n := 1) (zd (i := .iinc 7 (1)) (n := 3) (by decide +kernel)) (by decide +kernel) (by decide +kernel) <|
    z_goto (off := -75) (tgt := 26) (zd (i := .goto (-75)) (n := 3) (by decide +kernel)) (by decide +kernel) (zj (hj 3) (by decide +kernel))
noncomputable def b_X8_unseenOf_8 : zBl := fun jp K => oInc 6 2147483649 <| jp 1
theorem s_X8_unseenOf_8 (d : Nat) : zPb l G gh (d + 5) n_X8_unseenOf p_X8_unseenOf 104 b_X8_unseenOf_8 := fun K jp hj =>
    z_iinc (i := 6) (n := 1) (zd (i := .iinc 6 (1)) (n := 3) (by decide +kernel)) (by decide +kernel) (by decide +kernel) <|
    z_goto (off := -91) (tgt := 16) (zd (i := .goto (-91)) (n := 3) (by decide +kernel)) (by decide +kernel) (zj (hj 1) (by decide +kernel))
noncomputable def b_X8_unseenOf_9 : zBl := fun jp K => oIld 5 <| oIret K
theorem s_X8_unseenOf_9 (d : Nat) : zPb l G gh (d + 5) n_X8_unseenOf p_X8_unseenOf 110 b_X8_unseenOf_9 := fun K jp hj =>
    z_iload (i := 5) (zd (i := .iload 5) (n := 2) (by decide +kernel)) <|
    z_iret (zd (i := .ireturn) (n := 1) (by decide +kernel)) rfl
noncomputable def t_X8_unseenOf : List zBl := [b_X8_unseenOf_0, b_X8_unseenOf_1, b_X8_unseenOf_2, b_X8_unseenOf_3, b_X8_unseenOf_4, b_X8_unseenOf_5, b_X8_unseenOf_6, b_X8_unseenOf_7, b_X8_unseenOf_8, b_X8_unseenOf_9]
theorem tt_X8_unseenOf (d : Nat) : zT (zPb l G gh (d + 5) n_X8_unseenOf p_X8_unseenOf) t_X8_unseenOf p_X8_unseenOf := ⟨s_X8_unseenOf_0 d, s_X8_unseenOf_1 d, s_X8_unseenOf_2 d, s_X8_unseenOf_3 d, s_X8_unseenOf_4 d, s_X8_unseenOf_5 d, s_X8_unseenOf_6 d, s_X8_unseenOf_7 d, s_X8_unseenOf_8 d, s_X8_unseenOf_9 d, trivial⟩
def q_X8_unseenOf_0 : List (Nat × Nat) := [(0, zk0), (21, zk10), (22, zk12), (259, zk20), (265, zk2), (266, zk18), (267, zk18), (268, zk19), (269, zk3), (270, zk7)]
noncomputable def al_X8_unseenOf_0 : zAq := [(some (.inl 8589934591), [(0, zk0), (21, zk10), (22, zk12), (259, zk20), (265, zk2), (266, zk18), (267, zk18), (268, zk19), (269, zk4), (270, zk9)])]
def mq_X8_unseenOf_0_1 : List (Nat × Nat) := [(0, zk0), (21, zk10), (22, zk12), (259, zk20), (265, zk2), (266, zk18), (267, zk18), (268, zk19), (269, zk4), (270, zk9)]
def mq_X8_unseenOf_0_2 : List (Nat × Nat) := [(0, zk0), (21, zk10), (22, zk12), (259, zk20), (265, zk2), (266, zk18), (267, zk18), (268, zk19), (269, zk4), (270, zk9)]
noncomputable def fm_X8_unseenOf_0 : List zFm := [(0, [], (fun vs => [.inr (.ref 0), .inl 8589934591, .inl 8589934591, .inl 8589934591]), (fun vs => zP q_X8_unseenOf_0), (fun vs => Nat.sub (Nat.add 294 0) 0)),
  (1, [(6, 2147483648, 2147483668)], (fun vs => [.inr (.ref 0), .inl 8589934591, .inl 8589934591, .inl 8589934591, .inl 9223372043297226851, .inl 8589934591, .inl (zn 0 vs 0)]), (fun vs => zP mq_X8_unseenOf_0_1), (fun vs => Nat.sub (Nat.add 30064771359 0) (Nat.add 0 (Nat.mul 14 (zn 0 vs 0))))),
  (3, [(6, 2147483648, 2147483667), (7, 2147483648, 2147483654)], (fun vs => [.inr (.ref 0), .inl 8589934591, .inl 8589934591, .inl 8589934591, .inl 9223372043297226851, .inl 8589934591, .inl (zn 0 vs 0), .inl (zn 0 vs 1)]), (fun vs => zP mq_X8_unseenOf_0_2), (fun vs => Nat.sub (Nat.add 32212255006 0) (Nat.add (Nat.add 0 (Nat.mul 14 (zn 0 vs 0))) (Nat.mul 1 (zn 0 vs 1)))))]
def bf_X8_unseenOf_0 : List Nat := [0, 2, 0, 3]
theorem r_X8_unseenOf_0_0 : zbox [] (fun vs => zFrun (zpost (zAlq al_X8_unseenOf_0)) 1000 t_X8_unseenOf fm_X8_unseenOf_0 bf_X8_unseenOf_0 (0, vs)) = true := by decide +kernel
theorem r_X8_unseenOf_0_1 : zbox [(6, 2147483648, 2147483668)] (fun vs => zFrun (zpost (zAlq al_X8_unseenOf_0)) 1000 t_X8_unseenOf fm_X8_unseenOf_0 bf_X8_unseenOf_0 (1, vs)) = true := by decide +kernel
theorem r_X8_unseenOf_0_2 : zbox [(6, 2147483648, 2147483667), (7, 2147483648, 2147483654)] (fun vs => zFrun (zpost (zAlq al_X8_unseenOf_0)) 1000 t_X8_unseenOf fm_X8_unseenOf_0 bf_X8_unseenOf_0 (2, vs)) = true := by decide +kernel
set_option maxRecDepth 100000 in
theorem x_X8_unseenOf_0 (d : Nat) : zS l G gh (d + 5) (zpost (zAlq al_X8_unseenOf_0)) n_X8_unseenOf (zn 0 p_X8_unseenOf 0) (zwc (0, [.inr (.ref 0), .inl 8589934591, .inl 8589934591, .inl 8589934591], zP q_X8_unseenOf_0) 0) := zentry (tt_X8_unseenOf d) fm_X8_unseenOf_0 bf_X8_unseenOf_0 1000 (by decide +kernel) rfl ⟨Nat.zero_lt_succ _, trivial⟩ (fun f hf => match f, hf with
  | 0, _ => fun vs hv => (zbox_t r_X8_unseenOf_0_0) vs hv
  | 1, _ => fun vs hv => (zbox_t r_X8_unseenOf_0_1) vs hv
  | 2, _ => fun vs hv => (zbox_t r_X8_unseenOf_0_2) vs hv
  | f + 3, h => absurd (show f + 3 < 3 from h) (Nat.not_lt.mpr (Nat.le_add_left 3 f)))
noncomputable def gs_X8_unseenOf_0 : zMt := zgq false [] 8 [.inr (.ref 0), .inl 8589934591, .inl 8589934591, .inl 8589934591] q_X8_unseenOf_0 al_X8_unseenOf_0
set_option maxRecDepth 100000 in
theorem cs_X8_unseenOf_0 (d : Nat) : zC l G gh (d + 5) n_X8_unseenOf gs_X8_unseenOf_0 := zgq_ok0 (pcs := p_X8_unseenOf) (by decide) rfl rfl (fun a ha => by simp only [al_X8_unseenOf_0, List.mem_cons, List.not_mem_nil, or_false] at ha; rcases ha with rfl <;> decide +kernel) (fun gh => x_X8_unseenOf_0 d) (by decide +kernel)
def q_X8_unseenOf_1 : List (Nat × Nat) := [(0, zk1), (9, zk21), (15, zk5), (16, zk18), (17, zk18), (18, zk19), (19, zk3), (20, zk7), (21, zk10), (22, zk12)]
noncomputable def al_X8_unseenOf_1 : zAq := [(some (.inl 8589934591), [(0, zk1), (9, zk21), (15, zk5), (16, zk18), (17, zk18), (18, zk19), (19, zk4), (20, zk9), (21, zk10), (22, zk12)])]
def mq_X8_unseenOf_1_1 : List (Nat × Nat) := [(0, zk1), (9, zk21), (15, zk5), (16, zk18), (17, zk18), (18, zk19), (19, zk4), (20, zk9), (21, zk10), (22, zk12)]
def mq_X8_unseenOf_1_2 : List (Nat × Nat) := [(0, zk1), (9, zk21), (15, zk5), (16, zk18), (17, zk18), (18, zk19), (19, zk4), (20, zk9), (21, zk10), (22, zk12)]
noncomputable def fm_X8_unseenOf_1 : List zFm := [(0, [], (fun vs => [.inr (.ref 0), .inl 8589934591, .inl 8589934591, .inl 8589934591]), (fun vs => zP q_X8_unseenOf_1), (fun vs => Nat.sub (Nat.add 294 0) 0)),
  (1, [(6, 2147483648, 2147483668)], (fun vs => [.inr (.ref 0), .inl 8589934591, .inl 8589934591, .inl 8589934591, .inl 9223372043297226851, .inl 8589934591, .inl (zn 0 vs 0)]), (fun vs => zP mq_X8_unseenOf_1_1), (fun vs => Nat.sub (Nat.add 30064771359 0) (Nat.add 0 (Nat.mul 14 (zn 0 vs 0))))),
  (3, [(6, 2147483648, 2147483667), (7, 2147483648, 2147483654)], (fun vs => [.inr (.ref 0), .inl 8589934591, .inl 8589934591, .inl 8589934591, .inl 9223372043297226851, .inl 8589934591, .inl (zn 0 vs 0), .inl (zn 0 vs 1)]), (fun vs => zP mq_X8_unseenOf_1_2), (fun vs => Nat.sub (Nat.add 32212255006 0) (Nat.add (Nat.add 0 (Nat.mul 14 (zn 0 vs 0))) (Nat.mul 1 (zn 0 vs 1)))))]
def bf_X8_unseenOf_1 : List Nat := [0, 2, 0, 3]
theorem r_X8_unseenOf_1_0 : zbox [] (fun vs => zFrun (zpost (zAlq al_X8_unseenOf_1)) 1000 t_X8_unseenOf fm_X8_unseenOf_1 bf_X8_unseenOf_1 (0, vs)) = true := by decide +kernel
theorem r_X8_unseenOf_1_1 : zbox [(6, 2147483648, 2147483668)] (fun vs => zFrun (zpost (zAlq al_X8_unseenOf_1)) 1000 t_X8_unseenOf fm_X8_unseenOf_1 bf_X8_unseenOf_1 (1, vs)) = true := by decide +kernel
theorem r_X8_unseenOf_1_2 : zbox [(6, 2147483648, 2147483667), (7, 2147483648, 2147483654)] (fun vs => zFrun (zpost (zAlq al_X8_unseenOf_1)) 1000 t_X8_unseenOf fm_X8_unseenOf_1 bf_X8_unseenOf_1 (2, vs)) = true := by decide +kernel
set_option maxRecDepth 100000 in
theorem x_X8_unseenOf_1 (d : Nat) : zS l G gh (d + 5) (zpost (zAlq al_X8_unseenOf_1)) n_X8_unseenOf (zn 0 p_X8_unseenOf 0) (zwc (0, [.inr (.ref 0), .inl 8589934591, .inl 8589934591, .inl 8589934591], zP q_X8_unseenOf_1) 0) := zentry (tt_X8_unseenOf d) fm_X8_unseenOf_1 bf_X8_unseenOf_1 1000 (by decide +kernel) rfl ⟨Nat.zero_lt_succ _, trivial⟩ (fun f hf => match f, hf with
  | 0, _ => fun vs hv => (zbox_t r_X8_unseenOf_1_0) vs hv
  | 1, _ => fun vs hv => (zbox_t r_X8_unseenOf_1_1) vs hv
  | 2, _ => fun vs hv => (zbox_t r_X8_unseenOf_1_2) vs hv
  | f + 3, h => absurd (show f + 3 < 3 from h) (Nat.not_lt.mpr (Nat.le_add_left 3 f)))
noncomputable def gs_X8_unseenOf_1 : zMt := zgq false [] 8 [.inr (.ref 0), .inl 8589934591, .inl 8589934591, .inl 8589934591] q_X8_unseenOf_1 al_X8_unseenOf_1
set_option maxRecDepth 100000 in
theorem cs_X8_unseenOf_1 (d : Nat) : zC l G gh (d + 5) n_X8_unseenOf gs_X8_unseenOf_1 := zgq_ok0 (pcs := p_X8_unseenOf) (by decide) rfl rfl (fun a ha => by simp only [al_X8_unseenOf_1, List.mem_cons, List.not_mem_nil, or_false] at ha; rcases ha with rfl <;> decide +kernel) (fun gh => x_X8_unseenOf_1 d) (by decide +kernel)
noncomputable def gs_X8_unseenOf : zMt := (zor gs_X8_unseenOf_0 gs_X8_unseenOf_1)
theorem cs_X8_unseenOf (d : Nat) : zC l G gh (d + 5) n_X8_unseenOf gs_X8_unseenOf := (zor_ok (cs_X8_unseenOf_0 d) (cs_X8_unseenOf_1 d))
def p_X8_heatIn : List Nat := [0, 7, 26, 27]
noncomputable def b_X8_heatIn_0 : zBl := fun jp K => oIld 1 <| oCs 1 f_X8_isAhead <| oIf zeq zne (jp 2) (jp 1)
theorem s_X8_heatIn_0 (d : Nat) : zPb l G gh (d + 5) n_X8_heatIn p_X8_heatIn 0 b_X8_heatIn_0 := fun K jp hj =>
    z_iload_n (n := 1) (i := 1) (zd (i := .iload_n 1) (n := 1) (by decide +kernel)) rfl <|
    z_callS (idx := 207) (N := n_X8_isAhead) (zd (i := .invokestatic 207) (n := 3) (by decide +kernel)) to_X8_isAhead g862 g863 rfl rfl (c_X8_isAhead (l := l) (G := G) (gh := gh) (d + 3)) <|
    z_if_eq (off := 22) (tgt := 26) (zd (i := .ifCond .eq (22)) (n := 3) (by decide +kernel)) (by decide +kernel) (zj (hj 2) (by decide +kernel)) (zj (hj 1) (by decide +kernel))
noncomputable def b_X8_heatIn_1 : zBl := fun jp K => oAld 0 <| oGetR 8 12 <| oAld 0 <| oGetR 8 2 <| oGetI 4 0 <| oIld 1 <| oB2 zadd <| oCv 0 1 f_X0_heat <| jp 3
theorem s_X8_heatIn_1 (d : Nat) : zPb l G gh (d + 5) n_X8_heatIn p_X8_heatIn 7 b_X8_heatIn_1 := fun K jp hj =>
    z_aload_n (n := 0) (i := 0) (zd (i := .aload_n 0) (n := 1) (by decide +kernel)) rfl <|
    z_getR (ci := 8) (j := 12) (idx := 71) (zd (i := .getfield 71) (n := 3) (by decide +kernel)) (by decide +kernel) (by decide +kernel) rfl g464 <|
    z_aload_n (n := 0) (i := 0) (zd (i := .aload_n 0) (n := 1) (by decide +kernel)) rfl <|
    z_getR (ci := 8) (j := 2) (idx := 26) (zd (i := .getfield 26) (n := 3) (by decide +kernel)) (by decide +kernel) (by decide +kernel) rfl g454 <|
    z_getI (ci := 4) (j := 0) (idx := 140) (zd (i := .getfield 140) (n := 3) (by decide +kernel)) (by decide +kernel) (by decide +kernel) rfl g368 <|
    z_iload_n (n := 1) (i := 1) (zd (i := .iload_n 1) (n := 1) (by decide +kernel)) rfl <|
    z_iadd (zd (i := .iadd) (n := 1) (by decide +kernel)) <|
    z_callV (idx := 143) (ci := 0) (N := n_X0_heat) (zd (i := .invokevirtual 143) (n := 3) (by decide +kernel)) to_X0_heat g716 g717 g718 (by decide +kernel) rfl rfl rfl (c_X0_heat (l := l) (G := G) (gh := gh) (d)) <|
    z_goto (off := 4) (tgt := 27) (zd (i := .goto (4)) (n := 3) (by decide +kernel)) (by decide +kernel) (zj (hj 3) (by decide +kernel))
noncomputable def b_X8_heatIn_2 : zBl := fun jp K => oInt 2147483647 <| jp 3
theorem s_X8_heatIn_2 (d : Nat) : zPb l G gh (d + 5) n_X8_heatIn p_X8_heatIn 26 b_X8_heatIn_2 := fun K jp hj =>
    z_iconst (n := -1) (zd (i := .iconst (-1)) (n := 1) (by decide +kernel)) (by decide +kernel) <|
    (zj (hj 3) (by decide +kernel))
noncomputable def b_X8_heatIn_3 : zBl := fun jp K => oIret K
theorem s_X8_heatIn_3 (d : Nat) : zPb l G gh (d + 5) n_X8_heatIn p_X8_heatIn 27 b_X8_heatIn_3 := fun K jp hj =>
    z_iret (zd (i := .ireturn) (n := 1) (by decide +kernel)) rfl
noncomputable def t_X8_heatIn : List zBl := [b_X8_heatIn_0, b_X8_heatIn_1, b_X8_heatIn_2, b_X8_heatIn_3]
theorem tt_X8_heatIn (d : Nat) : zT (zPb l G gh (d + 5) n_X8_heatIn p_X8_heatIn) t_X8_heatIn p_X8_heatIn := ⟨s_X8_heatIn_0 d, s_X8_heatIn_1 d, s_X8_heatIn_2 d, s_X8_heatIn_3 d, trivial⟩
def q_X8_heatIn_0 : List (Nat × Nat) := [(0, zk0), (21, zk10), (259, zk20), (265, zk2), (266, zk18), (267, zk18), (268, zk19), (269, zk3), (270, zk7)]
noncomputable def al_X8_heatIn_0 : zAq := [(some (.inl 9223372039002259555), [(0, zk0), (21, zk10), (259, zk20), (265, zk2), (266, zk18), (267, zk18), (268, zk19), (269, zk4), (270, zk9)])]
noncomputable def fm_X8_heatIn_0 : List zFm := [(0, [], (fun vs => [.inr (.ref 0), .inl 8589934591]), (fun vs => zP q_X8_heatIn_0), (fun vs => Nat.sub (Nat.add 0 0) 0))]
def bf_X8_heatIn_0 : List Nat := []
theorem r_X8_heatIn_0_0 : zbox [] (fun vs => zFrun (zpost (zAlq al_X8_heatIn_0)) 1000 t_X8_heatIn fm_X8_heatIn_0 bf_X8_heatIn_0 (0, vs)) = true := by decide +kernel
set_option maxRecDepth 100000 in
theorem x_X8_heatIn_0 (d : Nat) : zS l G gh (d + 5) (zpost (zAlq al_X8_heatIn_0)) n_X8_heatIn (zn 0 p_X8_heatIn 0) (zwc (0, [.inr (.ref 0), .inl 8589934591], zP q_X8_heatIn_0) 0) := zentry (tt_X8_heatIn d) fm_X8_heatIn_0 bf_X8_heatIn_0 1000 (by decide +kernel) rfl ⟨Nat.zero_lt_succ _, trivial⟩ (fun f hf => match f, hf with
  | 0, _ => fun vs hv => (zbox_t r_X8_heatIn_0_0) vs hv
  | f + 1, h => absurd (show f + 1 < 1 from h) (Nat.not_lt.mpr (Nat.le_add_left 1 f)))
noncomputable def gs_X8_heatIn_0 : zMt := zgq false [] 2 [.inr (.ref 0), .inl 8589934591] q_X8_heatIn_0 al_X8_heatIn_0
set_option maxRecDepth 100000 in
theorem cs_X8_heatIn_0 (d : Nat) : zC l G gh (d + 5) n_X8_heatIn gs_X8_heatIn_0 := zgq_ok0 (pcs := p_X8_heatIn) (by decide) rfl rfl (fun a ha => by simp only [al_X8_heatIn_0, List.mem_cons, List.not_mem_nil, or_false] at ha; rcases ha with rfl <;> decide +kernel) (fun gh => x_X8_heatIn_0 d) (by decide +kernel)
def q_X8_heatIn_1 : List (Nat × Nat) := [(0, zk1), (9, zk21), (15, zk5), (16, zk18), (17, zk18), (18, zk19), (19, zk3), (20, zk7), (21, zk10)]
noncomputable def al_X8_heatIn_1 : zAq := [(some (.inl 9223372039002259555), [(0, zk1), (9, zk21), (15, zk5), (16, zk18), (17, zk18), (18, zk19), (19, zk4), (20, zk9), (21, zk10)])]
noncomputable def fm_X8_heatIn_1 : List zFm := [(0, [], (fun vs => [.inr (.ref 0), .inl 8589934591]), (fun vs => zP q_X8_heatIn_1), (fun vs => Nat.sub (Nat.add 0 0) 0))]
def bf_X8_heatIn_1 : List Nat := []
theorem r_X8_heatIn_1_0 : zbox [] (fun vs => zFrun (zpost (zAlq al_X8_heatIn_1)) 1000 t_X8_heatIn fm_X8_heatIn_1 bf_X8_heatIn_1 (0, vs)) = true := by decide +kernel
set_option maxRecDepth 100000 in
theorem x_X8_heatIn_1 (d : Nat) : zS l G gh (d + 5) (zpost (zAlq al_X8_heatIn_1)) n_X8_heatIn (zn 0 p_X8_heatIn 0) (zwc (0, [.inr (.ref 0), .inl 8589934591], zP q_X8_heatIn_1) 0) := zentry (tt_X8_heatIn d) fm_X8_heatIn_1 bf_X8_heatIn_1 1000 (by decide +kernel) rfl ⟨Nat.zero_lt_succ _, trivial⟩ (fun f hf => match f, hf with
  | 0, _ => fun vs hv => (zbox_t r_X8_heatIn_1_0) vs hv
  | f + 1, h => absurd (show f + 1 < 1 from h) (Nat.not_lt.mpr (Nat.le_add_left 1 f)))
noncomputable def gs_X8_heatIn_1 : zMt := zgq false [] 2 [.inr (.ref 0), .inl 8589934591] q_X8_heatIn_1 al_X8_heatIn_1
set_option maxRecDepth 100000 in
theorem cs_X8_heatIn_1 (d : Nat) : zC l G gh (d + 5) n_X8_heatIn gs_X8_heatIn_1 := zgq_ok0 (pcs := p_X8_heatIn) (by decide) rfl rfl (fun a ha => by simp only [al_X8_heatIn_1, List.mem_cons, List.not_mem_nil, or_false] at ha; rcases ha with rfl <;> decide +kernel) (fun gh => x_X8_heatIn_1 d) (by decide +kernel)
noncomputable def gs_X8_heatIn : zMt := (zor gs_X8_heatIn_0 gs_X8_heatIn_1)
theorem cs_X8_heatIn (d : Nat) : zC l G gh (d + 5) n_X8_heatIn gs_X8_heatIn := (zor_ok (cs_X8_heatIn_0 d) (cs_X8_heatIn_1 d))
def p_X7_isSo : List Nat := [0, 45, 49, 50]
noncomputable def b_X7_isSo_0 : zBl := fun jp K => oAld 1 <| oGetR 0 12 <| oAld 0 <| oGetR 7 3 <| oIld 2 <| oXald 10 <| oIld 4 <| oAld 0 <| oGetR 7 1 <| oIld 2 <| oXald 10 <| oIld 3 <| oCs 1 f_X7_xOf <| oIld 3 <| oCs 1 f_X7_tallOf <| oCv 2 5 gs_X2_aim <| oAld 1 <| oGetR 0 12 <| oCv 2 0 f_X2_spot <| oAld 0 <| oGetR 7 2 <| oIld 2 <| oXald 10 <| oIc zne zeq (jp 2) (jp 1)
theorem s_X7_isSo_0 (d : Nat) : zPb l G gh (d + 5) n_X7_isSo p_X7_isSo 0 b_X7_isSo_0 := fun K jp hj =>
    z_aload_n (n := 1) (i := 1) (zd (i := .aload_n 1) (n := 1) (by decide +kernel)) rfl <|
    z_getR (ci := 0) (j := 12) (idx := 42) (zd (i := .getfield 42) (n := 3) (by decide +kernel)) (by decide +kernel) (by decide +kernel) rfl g305 <|
    z_aload_n (n := 0) (i := 0) (zd (i := .aload_n 0) (n := 1) (by decide +kernel)) rfl <|
    z_getR (ci := 7) (j := 3) (idx := 22) (zd (i := .getfield 22) (n := 3) (by decide +kernel)) (by decide +kernel) (by decide +kernel) rfl g433 <|
    z_iload_n (n := 2) (i := 2) (zd (i := .iload_n 2) (n := 1) (by decide +kernel)) rfl <|
    z_iald (zd (i := .iaload) (n := 1) (by decide +kernel)) <|
    z_iload (i := 4) (zd (i := .iload 4) (n := 2) (by decide +kernel)) <|
    z_aload_n (n := 0) (i := 0) (zd (i := .aload_n 0) (n := 1) (by decide +kernel)) rfl <|
    z_getR (ci := 7) (j := 1) (idx := 15) (zd (i := .getfield 15) (n := 3) (by decide +kernel)) (by decide +kernel) (by decide +kernel) rfl g431 <|
    z_iload_n (n := 2) (i := 2) (zd (i := .iload_n 2) (n := 1) (by decide +kernel)) rfl <|
    z_iald (zd (i := .iaload) (n := 1) (by decide +kernel)) <|
    z_iload_n (n := 3) (i := 3) (zd (i := .iload_n 3) (n := 1) (by decide +kernel)) rfl <|
    z_callS (idx := 46) (N := n_X7_xOf) (zd (i := .invokestatic 46) (n := 3) (by decide +kernel)) to_X7_xOf g1051 g1052 rfl rfl (c_X7_xOf (l := l) (G := G) (gh := gh) (d + 3)) <|
    z_iload_n (n := 3) (i := 3) (zd (i := .iload_n 3) (n := 1) (by decide +kernel)) rfl <|
    z_callS (idx := 49) (N := n_X7_tallOf) (zd (i := .invokestatic 49) (n := 3) (by decide +kernel)) to_X7_tallOf g1054 g1055 rfl rfl (c_X7_tallOf (l := l) (G := G) (gh := gh) (d + 3)) <|
    z_callV (idx := 52) (ci := 2) (N := n_X2_aim) (zd (i := .invokevirtual 52) (n := 3) (by decide +kernel)) to_X2_aim g1057 g750 g751 (by decide +kernel) rfl rfl rfl (cs_X2_aim (l := l) (G := G) (gh := gh) (d + 3)) <|
    z_aload_n (n := 1) (i := 1) (zd (i := .aload_n 1) (n := 1) (by decide +kernel)) rfl <|
    z_getR (ci := 0) (j := 12) (idx := 42) (zd (i := .getfield 42) (n := 3) (by decide +kernel)) (by decide +kernel) (by decide +kernel) rfl g305 <|
    z_callV (idx := 58) (ci := 2) (N := n_X2_spot) (zd (i := .invokevirtual 58) (n := 3) (by decide +kernel)) to_X2_spot g1058 g906 g907 (by decide +kernel) rfl rfl rfl (c_X2_spot (l := l) (G := G) (gh := gh) (d)) <|
    z_aload_n (n := 0) (i := 0) (zd (i := .aload_n 0) (n := 1) (by decide +kernel)) rfl <|
    z_getR (ci := 7) (j := 2) (idx := 19) (zd (i := .getfield 19) (n := 3) (by decide +kernel)) (by decide +kernel) (by decide +kernel) rfl g432 <|
    z_iload_n (n := 2) (i := 2) (zd (i := .iload_n 2) (n := 1) (by decide +kernel)) rfl <|
    z_iald (zd (i := .iaload) (n := 1) (by decide +kernel)) <|
    z_icmp_ne (off := 7) (tgt := 49) (zd (i := .if_icmp .ne (7)) (n := 3) (by decide +kernel)) (by decide +kernel) (zj (hj 2) (by decide +kernel)) (zj (hj 1) (by decide +kernel))
noncomputable def b_X7_isSo_1 : zBl := fun jp K => oInt 2147483649 <| jp 3
theorem s_X7_isSo_1 (d : Nat) : zPb l G gh (d + 5) n_X7_isSo p_X7_isSo 45 b_X7_isSo_1 := fun K jp hj =>
    z_iconst (n := 1) (zd (i := .iconst (1)) (n := 1) (by decide +kernel)) (by decide +kernel) <|
    z_goto (off := 4) (tgt := 50) (zd (i := .goto (4)) (n := 3) (by decide +kernel)) (by decide +kernel) (zj (hj 3) (by decide +kernel))
noncomputable def b_X7_isSo_2 : zBl := fun jp K => oInt 2147483648 <| jp 3
theorem s_X7_isSo_2 (d : Nat) : zPb l G gh (d + 5) n_X7_isSo p_X7_isSo 49 b_X7_isSo_2 := fun K jp hj =>
    z_iconst (n := 0) (zd (i := .iconst (0)) (n := 1) (by decide +kernel)) (by decide +kernel) <|
    (zj (hj 3) (by decide +kernel))
noncomputable def b_X7_isSo_3 : zBl := fun jp K => oZret K
theorem s_X7_isSo_3 (d : Nat) : zPb l G gh (d + 5) n_X7_isSo p_X7_isSo 50 b_X7_isSo_3 := fun K jp hj =>
    z_zret (zd (i := .ireturn) (n := 1) (by decide +kernel)) rfl
noncomputable def t_X7_isSo : List zBl := [b_X7_isSo_0, b_X7_isSo_1, b_X7_isSo_2, b_X7_isSo_3]
theorem tt_X7_isSo (d : Nat) : zT (zPb l G gh (d + 5) n_X7_isSo p_X7_isSo) t_X7_isSo p_X7_isSo := ⟨s_X7_isSo_0 d, s_X7_isSo_1 d, s_X7_isSo_2 d, s_X7_isSo_3 d, trivial⟩
def q_X7_isSo_0 : List (Nat × Nat) := [(249, zk6), (250, zk7), (251, zk7), (252, zk7), (259, zk20), (265, zk2), (266, zk18), (267, zk18), (268, zk19), (269, zk3), (270, zk7)]
noncomputable def al_X7_isSo_0 : zAq := [(some (.inl 9223372043297226753), [(249, zk6), (250, zk7), (251, zk7), (252, zk7), (259, zk20), (265, zk2), (266, zk18), (267, zk18), (268, zk19), (269, zk4), (270, zk9)])]
noncomputable def fm_X7_isSo_0 : List zFm := [(0, [], (fun vs => [.inr (.ref 249), .inr (.ref 259), .inl 9223372043297226771, .inl 9223372043297226931, .inl 8589934591]), (fun vs => zP q_X7_isSo_0), (fun vs => Nat.sub (Nat.add 0 0) 0))]
def bf_X7_isSo_0 : List Nat := []
theorem r_X7_isSo_0_0 : zbox [] (fun vs => zFrun (zpost (zAlq al_X7_isSo_0)) 1000 t_X7_isSo fm_X7_isSo_0 bf_X7_isSo_0 (0, vs)) = true := by decide +kernel
set_option maxRecDepth 100000 in
theorem x_X7_isSo_0 (d : Nat) : zS l G gh (d + 5) (zpost (zAlq al_X7_isSo_0)) n_X7_isSo (zn 0 p_X7_isSo 0) (zwc (0, [.inr (.ref 249), .inr (.ref 259), .inl 9223372043297226771, .inl 9223372043297226931, .inl 8589934591], zP q_X7_isSo_0) 0) := zentry (tt_X7_isSo d) fm_X7_isSo_0 bf_X7_isSo_0 1000 (by decide +kernel) rfl ⟨Nat.zero_lt_succ _, trivial⟩ (fun f hf => match f, hf with
  | 0, _ => fun vs hv => (zbox_t r_X7_isSo_0_0) vs hv
  | f + 1, h => absurd (show f + 1 < 1 from h) (Nat.not_lt.mpr (Nat.le_add_left 1 f)))
noncomputable def gs_X7_isSo_0 : zMt := zgq false [] 5 [.inr (.ref 249), .inr (.ref 259), .inl 9223372043297226771, .inl 9223372043297226931, .inl 8589934591] q_X7_isSo_0 al_X7_isSo_0
set_option maxRecDepth 100000 in
theorem cs_X7_isSo_0 (d : Nat) : zC l G gh (d + 5) n_X7_isSo gs_X7_isSo_0 := zgq_ok0 (pcs := p_X7_isSo) (by decide) rfl rfl (fun a ha => by simp only [al_X7_isSo_0, List.mem_cons, List.not_mem_nil, or_false] at ha; rcases ha with rfl <;> decide +kernel) (fun gh => x_X7_isSo_0 d) (by decide +kernel)
def q_X7_isSo_1 : List (Nat × Nat) := [(9, zk21), (15, zk5), (16, zk18), (17, zk18), (18, zk19), (19, zk3), (20, zk7), (249, zk6), (250, zk7), (251, zk7), (252, zk7)]
noncomputable def al_X7_isSo_1 : zAq := [(some (.inl 9223372043297226753), [(9, zk21), (15, zk5), (16, zk18), (17, zk18), (18, zk19), (19, zk4), (20, zk9), (249, zk6), (250, zk7), (251, zk7), (252, zk7)])]
noncomputable def fm_X7_isSo_1 : List zFm := [(0, [], (fun vs => [.inr (.ref 249), .inr (.ref 9), .inl 9223372043297226771, .inl 9223372043297226931, .inl 8589934591]), (fun vs => zP q_X7_isSo_1), (fun vs => Nat.sub (Nat.add 0 0) 0))]
def bf_X7_isSo_1 : List Nat := []
theorem r_X7_isSo_1_0 : zbox [] (fun vs => zFrun (zpost (zAlq al_X7_isSo_1)) 1000 t_X7_isSo fm_X7_isSo_1 bf_X7_isSo_1 (0, vs)) = true := by decide +kernel
set_option maxRecDepth 100000 in
theorem x_X7_isSo_1 (d : Nat) : zS l G gh (d + 5) (zpost (zAlq al_X7_isSo_1)) n_X7_isSo (zn 0 p_X7_isSo 0) (zwc (0, [.inr (.ref 249), .inr (.ref 9), .inl 9223372043297226771, .inl 9223372043297226931, .inl 8589934591], zP q_X7_isSo_1) 0) := zentry (tt_X7_isSo d) fm_X7_isSo_1 bf_X7_isSo_1 1000 (by decide +kernel) rfl ⟨Nat.zero_lt_succ _, trivial⟩ (fun f hf => match f, hf with
  | 0, _ => fun vs hv => (zbox_t r_X7_isSo_1_0) vs hv
  | f + 1, h => absurd (show f + 1 < 1 from h) (Nat.not_lt.mpr (Nat.le_add_left 1 f)))
noncomputable def gs_X7_isSo_1 : zMt := zgq false [] 5 [.inr (.ref 249), .inr (.ref 9), .inl 9223372043297226771, .inl 9223372043297226931, .inl 8589934591] q_X7_isSo_1 al_X7_isSo_1
set_option maxRecDepth 100000 in
theorem cs_X7_isSo_1 (d : Nat) : zC l G gh (d + 5) n_X7_isSo gs_X7_isSo_1 := zgq_ok0 (pcs := p_X7_isSo) (by decide) rfl rfl (fun a ha => by simp only [al_X7_isSo_1, List.mem_cons, List.not_mem_nil, or_false] at ha; rcases ha with rfl <;> decide +kernel) (fun gh => x_X7_isSo_1 d) (by decide +kernel)
noncomputable def gs_X7_isSo : zMt := (zor gs_X7_isSo_0 gs_X7_isSo_1)
theorem cs_X7_isSo (d : Nat) : zC l G gh (d + 5) n_X7_isSo gs_X7_isSo := (zor_ok (cs_X7_isSo_0 d) (cs_X7_isSo_1 d))
def p_X7_worstLeft : List Nat := [0, 3, 10, 24, 30, 38, 48, 105, 111]
noncomputable def b_X7_worstLeft_0 : zBl := fun jp K => oInt 2147483648 <| oIst 5 <| jp 1
theorem s_X7_worstLeft_0 (d : Nat) : zPb l G gh (d + 5) n_X7_worstLeft p_X7_worstLeft 0 b_X7_worstLeft_0 := fun K jp hj =>
    z_iconst (n := 0) (zd (i := .iconst (0)) (n := 1) (by decide +kernel)) (by decide +kernel) <|
    z_istore (i := 5) (zd (i := .istore 5) (n := 2) (by decide +kernel)) (by decide +kernel) <|
    (zj (hj 1) (by decide +kernel))
noncomputable def b_X7_worstLeft_1 : zBl := fun jp K => oNLC 5 2147483668 zgtN zleN zn1_gt zn1_le (jp 3) (jp 2)
theorem s_X7_worstLeft_1 (d : Nat) : zPb l G gh (d + 5) n_X7_worstLeft p_X7_worstLeft 3 b_X7_worstLeft_1 := fun K jp hj =>
    z_nLC_gt (i := 5) (c0 := 2147483668) (a1 := 2) (a2 := 2) (off := 17) (tgt := 24) (zLd_w (i := 5) (zd (i := .iload 5) (n := 2) (by decide +kernel))) (zCn_b (n := 20) (zd (i := .bipush (20)) (n := 2) (by decide +kernel)) (by decide +kernel)) (zd (i := .if_icmp .gt (17)) (n := 3) (by decide +kernel)) (by decide +kernel) (zj (hj 3) (by decide +kernel)) (zj (hj 2) (by decide +kernel))
noncomputable def b_X7_worstLeft_2 : zBl := fun jp K => oAld 0 <| oGetR 7 5 <| oIld 5 <| oInt 2147483648 <| oXast 10 zid <| oInc 5 2147483649 <| jp 1
theorem s_X7_worstLeft_2 (d : Nat) : zPb l G gh (d + 5) n_X7_worstLeft p_X7_worstLeft 10 b_X7_worstLeft_2 := fun K jp hj =>
    z_aload_n (n := 0) (i := 0) (zd (i := .aload_n 0) (n := 1) (by decide +kernel)) rfl <|
    z_getR (ci := 7) (j := 5) (idx := 29) (zd (i := .getfield 29) (n := 3) (by decide +kernel)) (by decide +kernel) (by decide +kernel) rfl g435 <|
    z_iload (i := 5) (zd (i := .iload 5) (n := 2) (by decide +kernel)) <|
    z_iconst (n := 0) (zd (i := .iconst (0)) (n := 1) (by decide +kernel)) (by decide +kernel) <|
    z_iast (zd (i := .iastore) (n := 1) (by decide +kernel)) <|
    z_iinc (i := 5) (n := 1) (zd (i := .iinc 5 (1)) (n := 3) (by decide +kernel)) (by decide +kernel) (by decide +kernel) <|
    z_goto (off := -18) (tgt := 3) (zd (i := .goto (-18)) (n := 3) (by decide +kernel)) (by decide +kernel) (zj (hj 1) (by decide +kernel))
noncomputable def b_X7_worstLeft_3 : zBl := fun jp K => oInt 2147483648 <| oIst 5 <| oInt 2147483648 <| oIst 6 <| jp 4
theorem s_X7_worstLeft_3 (d : Nat) : zPb l G gh (d + 5) n_X7_worstLeft p_X7_worstLeft 24 b_X7_worstLeft_3 := fun K jp hj =>
    z_iconst (n := 0) (zd (i := .iconst (0)) (n := 1) (by decide +kernel)) (by decide +kernel) <|
    z_istore (i := 5) (zd (i := .istore 5) (n := 2) (by decide +kernel)) (by decide +kernel) <|
    z_iconst (n := 0) (zd (i := .iconst (0)) (n := 1) (by decide +kernel)) (by decide +kernel) <|
    z_istore (i := 6) (zd (i := .istore 6) (n := 2) (by decide +kernel)) (by decide +kernel) <|
    (zj (hj 4) (by decide +kernel))
noncomputable def b_X7_worstLeft_4 : zBl := fun jp K => oNLC 6 2147483828 zgeN zltN zn1_ge zn1_lt (jp 8) (jp 5)
theorem s_X7_worstLeft_4 (d : Nat) : zPb l G gh (d + 5) n_X7_worstLeft p_X7_worstLeft 30 b_X7_worstLeft_4 := fun K jp hj =>
    z_nLC_ge (i := 6) (c0 := 2147483828) (a1 := 2) (a2 := 3) (off := 76) (tgt := 111) (zLd_w (i := 6) (zd (i := .iload 6) (n := 2) (by decide +kernel))) (zCn_s (n := 180) (zd (i := .sipush (180)) (n := 3) (by decide +kernel)) (by decide +kernel)) (zd (i := .if_icmp .ge (76)) (n := 3) (by decide +kernel)) (by decide +kernel) (zj (hj 8) (by decide +kernel)) (zj (hj 5) (by decide +kernel))
noncomputable def b_X7_worstLeft_5 : zBl := fun jp K => oAld 0 <| oGetR 7 4 <| oIld 6 <| oXald 12 <| oIf zeq zne (jp 7) (jp 6)
theorem s_X7_worstLeft_5 (d : Nat) : zPb l G gh (d + 5) n_X7_worstLeft p_X7_worstLeft 38 b_X7_worstLeft_5 := fun K jp hj =>
    z_aload_n (n := 0) (i := 0) (zd (i := .aload_n 0) (n := 1) (by decide +kernel)) rfl <|
    z_getR (ci := 7) (j := 4) (idx := 25) (zd (i := .getfield 25) (n := 3) (by decide +kernel)) (by decide +kernel) (by decide +kernel) rfl g434 <|
    z_iload (i := 6) (zd (i := .iload 6) (n := 2) (by decide +kernel)) <|
    z_zald (zd (i := .baload) (n := 1) (by decide +kernel)) <|
    z_if_eq (off := 60) (tgt := 105) (zd (i := .ifCond .eq (60)) (n := 3) (by decide +kernel)) (by decide +kernel) (zj (hj 7) (by decide +kernel)) (zj (hj 6) (by decide +kernel))
noncomputable def b_X7_worstLeft_6 : zBl := fun jp K => oAld 1 <| oGetR 0 12 <| oIld 3 <| oIld 4 <| oIld 2 <| oIld 6 <| oCs 1 f_X7_xOf <| oIld 6 <| oCs 1 f_X7_tallOf <| oCv 2 5 gs_X2_aim <| oAld 1 <| oGetR 0 12 <| oCv 2 0 f_X2_spot <| oInt 2147483649 <| oB2 zadd <| oIst 7 <| oAld 0 <| oGetR 7 5 <| oIld 7 <| oDup2 <| oXald 10 <| oInt 2147483649 <| oB2 zadd <| oXast 10 zid <| oIld 5 <| oAld 0 <| oGetR 7 5 <| oIld 7 <| oXald 10 <| oM2 zmax <| oIst 5 <| jp 7
theorem s_X7_worstLeft_6 (d : Nat) : zPb l G gh (d + 5) n_X7_worstLeft p_X7_worstLeft 48 b_X7_worstLeft_6 := fun K jp hj =>
    z_aload_n (n := 1) (i := 1) (zd (i := .aload_n 1) (n := 1) (by decide +kernel)) rfl <|
    z_getR (ci := 0) (j := 12) (idx := 42) (zd (i := .getfield 42) (n := 3) (by decide +kernel)) (by decide +kernel) (by decide +kernel) rfl g305 <|
    z_iload_n (n := 3) (i := 3) (zd (i := .iload_n 3) (n := 1) (by decide +kernel)) rfl <|
    z_iload (i := 4) (zd (i := .iload 4) (n := 2) (by decide +kernel)) <|
    z_iload_n (n := 2) (i := 2) (zd (i := .iload_n 2) (n := 1) (by decide +kernel)) rfl <|
    z_iload (i := 6) (zd (i := .iload 6) (n := 2) (by decide +kernel)) <|
    z_callS (idx := 46) (N := n_X7_xOf) (zd (i := .invokestatic 46) (n := 3) (by decide +kernel)) to_X7_xOf g1051 g1052 rfl rfl (c_X7_xOf (l := l) (G := G) (gh := gh) (d + 3)) <|
    z_iload (i := 6) (zd (i := .iload 6) (n := 2) (by decide +kernel)) <|
    z_callS (idx := 49) (N := n_X7_tallOf) (zd (i := .invokestatic 49) (n := 3) (by decide +kernel)) to_X7_tallOf g1054 g1055 rfl rfl (c_X7_tallOf (l := l) (G := G) (gh := gh) (d + 3)) <|
    z_callV (idx := 52) (ci := 2) (N := n_X2_aim) (zd (i := .invokevirtual 52) (n := 3) (by decide +kernel)) to_X2_aim g1057 g750 g751 (by decide +kernel) rfl rfl rfl (cs_X2_aim (l := l) (G := G) (gh := gh) (d + 3)) <|
    z_aload_n (n := 1) (i := 1) (zd (i := .aload_n 1) (n := 1) (by decide +kernel)) rfl <|
    z_getR (ci := 0) (j := 12) (idx := 42) (zd (i := .getfield 42) (n := 3) (by decide +kernel)) (by decide +kernel) (by decide +kernel) rfl g305 <|
    z_callV (idx := 58) (ci := 2) (N := n_X2_spot) (zd (i := .invokevirtual 58) (n := 3) (by decide +kernel)) to_X2_spot g1058 g906 g907 (by decide +kernel) rfl rfl rfl (c_X2_spot (l := l) (G := G) (gh := gh) (d)) <|
    z_iconst (n := 1) (zd (i := .iconst (1)) (n := 1) (by decide +kernel)) (by decide +kernel) <|
    z_iadd (zd (i := .iadd) (n := 1) (by decide +kernel)) <|
    z_istore (i := 7) (zd (i := .istore 7) (n := 2) (by decide +kernel)) (by decide +kernel) <|
    z_aload_n (n := 0) (i := 0) (zd (i := .aload_n 0) (n := 1) (by decide +kernel)) rfl <|
    z_getR (ci := 7) (j := 5) (idx := 29) (zd (i := .getfield 29) (n := 3) (by decide +kernel)) (by decide +kernel) (by decide +kernel) rfl g435 <|
    z_iload (i := 7) (zd (i := .iload 7) (n := 2) (by decide +kernel)) <|
    z_dup2 (zd (i := .dup2) (n := 1) (by decide +kernel)) <|
    z_iald (zd (i := .iaload) (n := 1) (by decide +kernel)) <|
    z_iconst (n := 1) (zd (i := .iconst (1)) (n := 1) (by decide +kernel)) (by decide +kernel) <|
    z_iadd (zd (i := .iadd) (n := 1) (by decide +kernel)) <|
    z_iast (zd (i := .iastore) (n := 1) (by decide +kernel)) <|
    z_iload (i := 5) (zd (i := .iload 5) (n := 2) (by decide +kernel)) <|
    z_aload_n (n := 0) (i := 0) (zd (i := .aload_n 0) (n := 1) (by decide +kernel)) rfl <|
    z_getR (ci := 7) (j := 5) (idx := 29) (zd (i := .getfield 29) (n := 3) (by decide +kernel)) (by decide +kernel) (by decide +kernel) rfl g435 <|
    z_iload (i := 7) (zd (i := .iload 7) (n := 2) (by decide +kernel)) <|
    z_iald (zd (i := .iaload) (n := 1) (by decide +kernel)) <|
    z_max (idx := 66) (zd (i := .invokestatic 66) (n := 3) (by decide +kernel)) g1079 g575 g111 g576 <|
    z_istore (i := 5) (zd (i := .istore 5) (n := 2) (by decide +kernel)) (by decide +kernel) <|
    (zj (hj 7) (by decide +kernel))
noncomputable def b_X7_worstLeft_7 : zBl := fun jp K => oInc 6 2147483649 <| jp 4
theorem s_X7_worstLeft_7 (d : Nat) : zPb l G gh (d + 5) n_X7_worstLeft p_X7_worstLeft 105 b_X7_worstLeft_7 := fun K jp hj =>
    z_iinc (i := 6) (n := 1) (zd (i := .iinc 6 (1)) (n := 3) (by decide +kernel)) (by decide +kernel) (by decide +kernel) <|
    z_goto (off := -78) (tgt := 30) (zd (i := .goto (-78)) (n := 3) (by decide +kernel)) (by decide +kernel) (zj (hj 4) (by decide +kernel))
noncomputable def b_X7_worstLeft_8 : zBl := fun jp K => oIld 5 <| oIret K
theorem s_X7_worstLeft_8 (d : Nat) : zPb l G gh (d + 5) n_X7_worstLeft p_X7_worstLeft 111 b_X7_worstLeft_8 := fun K jp hj =>
    z_iload (i := 5) (zd (i := .iload 5) (n := 2) (by decide +kernel)) <|
    z_iret (zd (i := .ireturn) (n := 1) (by decide +kernel)) rfl
noncomputable def t_X7_worstLeft : List zBl := [b_X7_worstLeft_0, b_X7_worstLeft_1, b_X7_worstLeft_2, b_X7_worstLeft_3, b_X7_worstLeft_4, b_X7_worstLeft_5, b_X7_worstLeft_6, b_X7_worstLeft_7, b_X7_worstLeft_8]
theorem tt_X7_worstLeft (d : Nat) : zT (zPb l G gh (d + 5) n_X7_worstLeft p_X7_worstLeft) t_X7_worstLeft p_X7_worstLeft := ⟨s_X7_worstLeft_0 d, s_X7_worstLeft_1 d, s_X7_worstLeft_2 d, s_X7_worstLeft_3 d, s_X7_worstLeft_4 d, s_X7_worstLeft_5 d, s_X7_worstLeft_6 d, s_X7_worstLeft_7 d, s_X7_worstLeft_8 d, trivial⟩
def q_X7_worstLeft_0 : List (Nat × Nat) := [(249, zk6), (253, zk89), (254, zk99), (259, zk20), (265, zk2), (266, zk18), (267, zk18), (268, zk19), (269, zk3), (270, zk7)]
noncomputable def al_X7_worstLeft_0 : zAq := [(some (.inl 9223372045444710399), [(249, zk6), (253, zk89), (254, zk100), (259, zk20), (265, zk2), (266, zk18), (267, zk18), (268, zk19), (269, zk4), (270, zk9)])]
def mq_X7_worstLeft_0_1 : List (Nat × Nat) := [(249, zk6), (253, zk89), (254, zk100), (259, zk20), (265, zk2), (266, zk18), (267, zk18), (268, zk19), (269, zk3), (270, zk7)]
def mq_X7_worstLeft_0_2 : List (Nat × Nat) := [(249, zk6), (253, zk89), (254, zk100), (259, zk20), (265, zk2), (266, zk18), (267, zk18), (268, zk19), (269, zk4), (270, zk9)]
noncomputable def fm_X7_worstLeft_0 : List zFm := [(0, [], (fun vs => [.inr (.ref 249), .inr (.ref 259), .inl 8589934591, .inl 8589934591, .inl 8589934591]), (fun vs => zP q_X7_worstLeft_0), (fun vs => Nat.sub (Nat.add 362 0) 0)),
  (1, [(5, 2147483648, 2147483669)], (fun vs => [.inr (.ref 249), .inr (.ref 259), .inl 8589934591, .inl 8589934591, .inl 8589934591, .inl (zn 0 vs 0)]), (fun vs => zP mq_X7_worstLeft_0_1), (fun vs => Nat.sub (Nat.add 2147484009 0) (Nat.add 0 (Nat.mul 1 (zn 0 vs 0))))),
  (4, [(6, 2147483648, 2147483828)], (fun vs => [.inr (.ref 249), .inr (.ref 259), .inl 8589934591, .inl 8589934591, .inl 8589934591, .inl 9223372045444710399, .inl (zn 0 vs 0)]), (fun vs => zP mq_X7_worstLeft_0_2), (fun vs => Nat.sub (Nat.add 2147483828 0) (Nat.add 0 (Nat.mul 1 (zn 0 vs 0)))))]
def bf_X7_worstLeft_0 : List Nat := [0, 2, 0, 0, 3]
theorem r_X7_worstLeft_0_0 : zbox [] (fun vs => zFrun (zpost (zAlq al_X7_worstLeft_0)) 1000 t_X7_worstLeft fm_X7_worstLeft_0 bf_X7_worstLeft_0 (0, vs)) = true := by decide +kernel
theorem r_X7_worstLeft_0_1 : zbox [(5, 2147483648, 2147483669)] (fun vs => zFrun (zpost (zAlq al_X7_worstLeft_0)) 1000 t_X7_worstLeft fm_X7_worstLeft_0 bf_X7_worstLeft_0 (1, vs)) = true := by decide +kernel
theorem r_X7_worstLeft_0_2 : zbox [(6, 2147483648, 2147483828)] (fun vs => zFrun (zpost (zAlq al_X7_worstLeft_0)) 1000 t_X7_worstLeft fm_X7_worstLeft_0 bf_X7_worstLeft_0 (2, vs)) = true := by decide +kernel
set_option maxRecDepth 100000 in
theorem x_X7_worstLeft_0 (d : Nat) : zS l G gh (d + 5) (zpost (zAlq al_X7_worstLeft_0)) n_X7_worstLeft (zn 0 p_X7_worstLeft 0) (zwc (0, [.inr (.ref 249), .inr (.ref 259), .inl 8589934591, .inl 8589934591, .inl 8589934591], zP q_X7_worstLeft_0) 0) := zentry (tt_X7_worstLeft d) fm_X7_worstLeft_0 bf_X7_worstLeft_0 1000 (by decide +kernel) rfl ⟨Nat.zero_lt_succ _, trivial⟩ (fun f hf => match f, hf with
  | 0, _ => fun vs hv => (zbox_t r_X7_worstLeft_0_0) vs hv
  | 1, _ => fun vs hv => (zbox_t r_X7_worstLeft_0_1) vs hv
  | 2, _ => fun vs hv => (zbox_t r_X7_worstLeft_0_2) vs hv
  | f + 3, h => absurd (show f + 3 < 3 from h) (Nat.not_lt.mpr (Nat.le_add_left 3 f)))
noncomputable def gs_X7_worstLeft_0 : zMt := zgq false [] 8 [.inr (.ref 249), .inr (.ref 259), .inl 8589934591, .inl 8589934591, .inl 8589934591] q_X7_worstLeft_0 al_X7_worstLeft_0
set_option maxRecDepth 100000 in
theorem cs_X7_worstLeft_0 (d : Nat) : zC l G gh (d + 5) n_X7_worstLeft gs_X7_worstLeft_0 := zgq_ok0 (pcs := p_X7_worstLeft) (by decide) rfl rfl (fun a ha => by simp only [al_X7_worstLeft_0, List.mem_cons, List.not_mem_nil, or_false] at ha; rcases ha with rfl <;> decide +kernel) (fun gh => x_X7_worstLeft_0 d) (by decide +kernel)
def q_X7_worstLeft_1 : List (Nat × Nat) := [(9, zk21), (15, zk5), (16, zk18), (17, zk18), (18, zk19), (19, zk3), (20, zk7), (249, zk6), (253, zk89), (254, zk99)]
noncomputable def al_X7_worstLeft_1 : zAq := [(some (.inl 9223372045444710399), [(9, zk21), (15, zk5), (16, zk18), (17, zk18), (18, zk19), (19, zk4), (20, zk9), (249, zk6), (253, zk89), (254, zk100)])]
def mq_X7_worstLeft_1_1 : List (Nat × Nat) := [(9, zk21), (15, zk5), (16, zk18), (17, zk18), (18, zk19), (19, zk3), (20, zk7), (249, zk6), (253, zk89), (254, zk100)]
def mq_X7_worstLeft_1_2 : List (Nat × Nat) := [(9, zk21), (15, zk5), (16, zk18), (17, zk18), (18, zk19), (19, zk4), (20, zk9), (249, zk6), (253, zk89), (254, zk100)]
noncomputable def fm_X7_worstLeft_1 : List zFm := [(0, [], (fun vs => [.inr (.ref 249), .inr (.ref 9), .inl 8589934591, .inl 8589934591, .inl 8589934591]), (fun vs => zP q_X7_worstLeft_1), (fun vs => Nat.sub (Nat.add 362 0) 0)),
  (1, [(5, 2147483648, 2147483669)], (fun vs => [.inr (.ref 249), .inr (.ref 9), .inl 8589934591, .inl 8589934591, .inl 8589934591, .inl (zn 0 vs 0)]), (fun vs => zP mq_X7_worstLeft_1_1), (fun vs => Nat.sub (Nat.add 2147484009 0) (Nat.add 0 (Nat.mul 1 (zn 0 vs 0))))),
  (4, [(6, 2147483648, 2147483828)], (fun vs => [.inr (.ref 249), .inr (.ref 9), .inl 8589934591, .inl 8589934591, .inl 8589934591, .inl 9223372045444710399, .inl (zn 0 vs 0)]), (fun vs => zP mq_X7_worstLeft_1_2), (fun vs => Nat.sub (Nat.add 2147483828 0) (Nat.add 0 (Nat.mul 1 (zn 0 vs 0)))))]
def bf_X7_worstLeft_1 : List Nat := [0, 2, 0, 0, 3]
theorem r_X7_worstLeft_1_0 : zbox [] (fun vs => zFrun (zpost (zAlq al_X7_worstLeft_1)) 1000 t_X7_worstLeft fm_X7_worstLeft_1 bf_X7_worstLeft_1 (0, vs)) = true := by decide +kernel
theorem r_X7_worstLeft_1_1 : zbox [(5, 2147483648, 2147483669)] (fun vs => zFrun (zpost (zAlq al_X7_worstLeft_1)) 1000 t_X7_worstLeft fm_X7_worstLeft_1 bf_X7_worstLeft_1 (1, vs)) = true := by decide +kernel
theorem r_X7_worstLeft_1_2 : zbox [(6, 2147483648, 2147483828)] (fun vs => zFrun (zpost (zAlq al_X7_worstLeft_1)) 1000 t_X7_worstLeft fm_X7_worstLeft_1 bf_X7_worstLeft_1 (2, vs)) = true := by decide +kernel
set_option maxRecDepth 100000 in
theorem x_X7_worstLeft_1 (d : Nat) : zS l G gh (d + 5) (zpost (zAlq al_X7_worstLeft_1)) n_X7_worstLeft (zn 0 p_X7_worstLeft 0) (zwc (0, [.inr (.ref 249), .inr (.ref 9), .inl 8589934591, .inl 8589934591, .inl 8589934591], zP q_X7_worstLeft_1) 0) := zentry (tt_X7_worstLeft d) fm_X7_worstLeft_1 bf_X7_worstLeft_1 1000 (by decide +kernel) rfl ⟨Nat.zero_lt_succ _, trivial⟩ (fun f hf => match f, hf with
  | 0, _ => fun vs hv => (zbox_t r_X7_worstLeft_1_0) vs hv
  | 1, _ => fun vs hv => (zbox_t r_X7_worstLeft_1_1) vs hv
  | 2, _ => fun vs hv => (zbox_t r_X7_worstLeft_1_2) vs hv
  | f + 3, h => absurd (show f + 3 < 3 from h) (Nat.not_lt.mpr (Nat.le_add_left 3 f)))
noncomputable def gs_X7_worstLeft_1 : zMt := zgq false [] 8 [.inr (.ref 249), .inr (.ref 9), .inl 8589934591, .inl 8589934591, .inl 8589934591] q_X7_worstLeft_1 al_X7_worstLeft_1
set_option maxRecDepth 100000 in
theorem cs_X7_worstLeft_1 (d : Nat) : zC l G gh (d + 5) n_X7_worstLeft gs_X7_worstLeft_1 := zgq_ok0 (pcs := p_X7_worstLeft) (by decide) rfl rfl (fun a ha => by simp only [al_X7_worstLeft_1, List.mem_cons, List.not_mem_nil, or_false] at ha; rcases ha with rfl <;> decide +kernel) (fun gh => x_X7_worstLeft_1 d) (by decide +kernel)
noncomputable def gs_X7_worstLeft : zMt := (zor gs_X7_worstLeft_0 gs_X7_worstLeft_1)
theorem cs_X7_worstLeft (d : Nat) : zC l G gh (d + 5) n_X7_worstLeft gs_X7_worstLeft := (zor_ok (cs_X7_worstLeft_0 d) (cs_X7_worstLeft_1 d))
def p_X8_thing : List Nat := [0, 8, 10, 40, 50, 60, 66, 72]
noncomputable def b_X8_thing_0 : zBl := fun jp K => oAld 0 <| oIld 1 <| oCv 8 1 f_X8_isThing <| oIf zne zeq (jp 2) (jp 1)
theorem s_X8_thing_0 (d : Nat) : zPb l G gh (d + 6) n_X8_thing p_X8_thing 0 b_X8_thing_0 := fun K jp hj =>
    z_aload_n (n := 0) (i := 0) (zd (i := .aload_n 0) (n := 1) (by decide +kernel)) rfl <|
    z_iload_n (n := 1) (i := 1) (zd (i := .iload_n 1) (n := 1) (by decide +kernel)) rfl <|
    z_callV (idx := 115) (ci := 8) (N := n_X8_isThing) (zd (i := .invokevirtual 115) (n := 3) (by decide +kernel)) to_X8_isThing g708 g710 g17 (by decide +kernel) rfl rfl rfl (c_X8_isThing (l := l) (G := G) (gh := gh) (d + 4)) <|
    z_if_ne (off := 5) (tgt := 10) (zd (i := .ifCond .ne (5)) (n := 3) (by decide +kernel)) (by decide +kernel) (zj (hj 2) (by decide +kernel)) (zj (hj 1) (by decide +kernel))
noncomputable def b_X8_thing_1 : zBl := fun jp K => oInt 2147483647 <| oIret K
theorem s_X8_thing_1 (d : Nat) : zPb l G gh (d + 6) n_X8_thing p_X8_thing 8 b_X8_thing_1 := fun K jp hj =>
    z_iconst (n := -1) (zd (i := .iconst (-1)) (n := 1) (by decide +kernel)) (by decide +kernel) <|
    z_iret (zd (i := .ireturn) (n := 1) (by decide +kernel)) rfl
noncomputable def b_X8_thing_2 : zBl := fun jp K => oIld 2 <| oTab 2147483648 [jp 3, jp 4, jp 5, jp 6] (jp 7)
theorem s_X8_thing_2 (d : Nat) : zPb l G gh (d + 6) n_X8_thing p_X8_thing 10 b_X8_thing_2 := fun K jp hj =>
    z_iload_n (n := 2) (i := 2) (zd (i := .iload_n 2) (n := 1) (by decide +kernel)) rfl <|
    z_table (v := 2147483648) (df := 72) (len := 29) (x := 0) (dflt := 61) (lo := 0) (hi := 3) (offs := #[29, 39, 49, 55]) (tgts := [40, 50, 60, 66]) (zd (i := .tableswitch (61) (0) (3) #[29, 39, 49, 55]) (n := 29) (by decide +kernel)) (by decide +kernel) rfl rfl (by decide +kernel) (by decide +kernel) (by decide +kernel) ⟨(zj (hj 3) (by decide +kernel)), (zj (hj 4) (by decide +kernel)), (zj (hj 5) (by decide +kernel)), (zj (hj 6) (by decide +kernel)), trivial⟩ (zj (hj 7) (by decide +kernel))
noncomputable def b_X8_thing_3 : zBl := fun jp K => oAld 0 <| oGetR 8 12 <| oGetR 0 3 <| oIld 1 <| oXald 10 <| oIret K
theorem s_X8_thing_3 (d : Nat) : zPb l G gh (d + 6) n_X8_thing p_X8_thing 40 b_X8_thing_3 := fun K jp hj =>
    z_aload_n (n := 0) (i := 0) (zd (i := .aload_n 0) (n := 1) (by decide +kernel)) rfl <|
    z_getR (ci := 8) (j := 12) (idx := 71) (zd (i := .getfield 71) (n := 3) (by decide +kernel)) (by decide +kernel) (by decide +kernel) rfl g464 <|
    z_getR (ci := 0) (j := 3) (idx := 118) (zd (i := .getfield 118) (n := 3) (by decide +kernel)) (by decide +kernel) (by decide +kernel) rfl g282 <|
    z_iload_n (n := 1) (i := 1) (zd (i := .iload_n 1) (n := 1) (by decide +kernel)) rfl <|
    z_iald (zd (i := .iaload) (n := 1) (by decide +kernel)) <|
    z_iret (zd (i := .ireturn) (n := 1) (by decide +kernel)) rfl
noncomputable def b_X8_thing_4 : zBl := fun jp K => oAld 0 <| oGetR 8 12 <| oGetR 0 4 <| oIld 1 <| oXald 10 <| oIret K
theorem s_X8_thing_4 (d : Nat) : zPb l G gh (d + 6) n_X8_thing p_X8_thing 50 b_X8_thing_4 := fun K jp hj =>
    z_aload_n (n := 0) (i := 0) (zd (i := .aload_n 0) (n := 1) (by decide +kernel)) rfl <|
    z_getR (ci := 8) (j := 12) (idx := 71) (zd (i := .getfield 71) (n := 3) (by decide +kernel)) (by decide +kernel) (by decide +kernel) rfl g464 <|
    z_getR (ci := 0) (j := 4) (idx := 121) (zd (i := .getfield 121) (n := 3) (by decide +kernel)) (by decide +kernel) (by decide +kernel) rfl g284 <|
    z_iload_n (n := 1) (i := 1) (zd (i := .iload_n 1) (n := 1) (by decide +kernel)) rfl <|
    z_iald (zd (i := .iaload) (n := 1) (by decide +kernel)) <|
    z_iret (zd (i := .ireturn) (n := 1) (by decide +kernel)) rfl
noncomputable def b_X8_thing_5 : zBl := fun jp K => oAld 0 <| oIld 1 <| oCv 8 1 gs_X8_seatsThatSee <| oIret K
theorem s_X8_thing_5 (d : Nat) : zPb l G gh (d + 6) n_X8_thing p_X8_thing 60 b_X8_thing_5 := fun K jp hj =>
    z_aload_n (n := 0) (i := 0) (zd (i := .aload_n 0) (n := 1) (by decide +kernel)) rfl <|
    z_iload_n (n := 1) (i := 1) (zd (i := .iload_n 1) (n := 1) (by decide +kernel)) rfl <|
    z_callV (idx := 124) (ci := 8) (N := n_X8_seatsThatSee) (zd (i := .invokevirtual 124) (n := 3) (by decide +kernel)) to_X8_seatsThatSee g712 g714 g18 (by decide +kernel) rfl rfl rfl (cs_X8_seatsThatSee (l := l) (G := G) (gh := gh) (d)) <|
    z_iret (zd (i := .ireturn) (n := 1) (by decide +kernel)) rfl
noncomputable def b_X8_thing_6 : zBl := fun jp K => oAld 0 <| oIld 1 <| oCv 8 1 gs_X8_seatsThatLent <| oIret K
theorem s_X8_thing_6 (d : Nat) : zPb l G gh (d + 6) n_X8_thing p_X8_thing 66 b_X8_thing_6 := fun K jp hj =>
    z_aload_n (n := 0) (i := 0) (zd (i := .aload_n 0) (n := 1) (by decide +kernel)) rfl <|
    z_iload_n (n := 1) (i := 1) (zd (i := .iload_n 1) (n := 1) (by decide +kernel)) rfl <|
    z_callV (idx := 128) (ci := 8) (N := n_X8_seatsThatLent) (zd (i := .invokevirtual 128) (n := 3) (by decide +kernel)) to_X8_seatsThatLent g760 g762 g22 (by decide +kernel) rfl rfl rfl (cs_X8_seatsThatLent (l := l) (G := G) (gh := gh) (d + 3)) <|
    z_iret (zd (i := .ireturn) (n := 1) (by decide +kernel)) rfl
noncomputable def b_X8_thing_7 : zBl := fun jp K => oInt 2147483647 <| oIret K
theorem s_X8_thing_7 (d : Nat) : zPb l G gh (d + 6) n_X8_thing p_X8_thing 72 b_X8_thing_7 := fun K jp hj =>
    z_iconst (n := -1) (zd (i := .iconst (-1)) (n := 1) (by decide +kernel)) (by decide +kernel) <|
    z_iret (zd (i := .ireturn) (n := 1) (by decide +kernel)) rfl
noncomputable def t_X8_thing : List zBl := [b_X8_thing_0, b_X8_thing_1, b_X8_thing_2, b_X8_thing_3, b_X8_thing_4, b_X8_thing_5, b_X8_thing_6, b_X8_thing_7]
theorem tt_X8_thing (d : Nat) : zT (zPb l G gh (d + 6) n_X8_thing p_X8_thing) t_X8_thing p_X8_thing := ⟨s_X8_thing_0 d, s_X8_thing_1 d, s_X8_thing_2 d, s_X8_thing_3 d, s_X8_thing_4 d, s_X8_thing_5 d, s_X8_thing_6 d, s_X8_thing_7 d, trivial⟩
def q_X8_thing_0 : List (Nat × Nat) := [(0, zk0), (21, zk10), (22, zk12), (26, zk11), (259, zk20), (261, zk12), (262, zk12), (265, zk2), (266, zk18), (267, zk18), (268, zk19), (269, zk3), (270, zk7)]
noncomputable def al_X8_thing_0 : zAq := [(some (.inl 8589934591), [(0, zk0), (21, zk10), (22, zk12), (26, zk11), (259, zk20), (261, zk12), (262, zk12), (265, zk2), (266, zk18), (267, zk18), (268, zk19), (269, zk4), (270, zk9)])]
noncomputable def fm_X8_thing_0 : List zFm := [(0, [], (fun vs => [.inr (.ref 0), .inl 9223372043297226757, .inl 8589934591]), (fun vs => zP q_X8_thing_0), (fun vs => Nat.sub (Nat.add 0 0) 0))]
def bf_X8_thing_0 : List Nat := []
theorem r_X8_thing_0_0 : zbox [] (fun vs => zFrun (zpost (zAlq al_X8_thing_0)) 1000 t_X8_thing fm_X8_thing_0 bf_X8_thing_0 (0, vs)) = true := by decide +kernel
set_option maxRecDepth 100000 in
theorem x_X8_thing_0 (d : Nat) : zS l G gh (d + 6) (zpost (zAlq al_X8_thing_0)) n_X8_thing (zn 0 p_X8_thing 0) (zwc (0, [.inr (.ref 0), .inl 9223372043297226757, .inl 8589934591], zP q_X8_thing_0) 0) := zentry (tt_X8_thing d) fm_X8_thing_0 bf_X8_thing_0 1000 (by decide +kernel) rfl ⟨Nat.zero_lt_succ _, trivial⟩ (fun f hf => match f, hf with
  | 0, _ => fun vs hv => (zbox_t r_X8_thing_0_0) vs hv
  | f + 1, h => absurd (show f + 1 < 1 from h) (Nat.not_lt.mpr (Nat.le_add_left 1 f)))
noncomputable def gs_X8_thing_0 : zMt := zgq false [] 3 [.inr (.ref 0), .inl 9223372043297226757, .inl 8589934591] q_X8_thing_0 al_X8_thing_0
set_option maxRecDepth 100000 in
theorem cs_X8_thing_0 (d : Nat) : zC l G gh (d + 6) n_X8_thing gs_X8_thing_0 := zgq_ok0 (pcs := p_X8_thing) (by decide) rfl rfl (fun a ha => by simp only [al_X8_thing_0, List.mem_cons, List.not_mem_nil, or_false] at ha; rcases ha with rfl <;> decide +kernel) (fun gh => x_X8_thing_0 d) (by decide +kernel)
def q_X8_thing_1 : List (Nat × Nat) := [(0, zk0)]
noncomputable def al_X8_thing_1 : zAq := [(some (.inl 2147483647), [(0, zk0)])]
noncomputable def fm_X8_thing_1 : List zFm := [(0, [], (fun vs => [.inr (.ref 0), .inl 6442450943, .inl 8589934591]), (fun vs => zP q_X8_thing_1), (fun vs => Nat.sub (Nat.add 0 0) 0))]
def bf_X8_thing_1 : List Nat := []
theorem r_X8_thing_1_0 : zbox [] (fun vs => zFrun (zpost (zAlq al_X8_thing_1)) 1000 t_X8_thing fm_X8_thing_1 bf_X8_thing_1 (0, vs)) = true := by decide +kernel
set_option maxRecDepth 100000 in
theorem x_X8_thing_1 (d : Nat) : zS l G gh (d + 6) (zpost (zAlq al_X8_thing_1)) n_X8_thing (zn 0 p_X8_thing 0) (zwc (0, [.inr (.ref 0), .inl 6442450943, .inl 8589934591], zP q_X8_thing_1) 0) := zentry (tt_X8_thing d) fm_X8_thing_1 bf_X8_thing_1 1000 (by decide +kernel) rfl ⟨Nat.zero_lt_succ _, trivial⟩ (fun f hf => match f, hf with
  | 0, _ => fun vs hv => (zbox_t r_X8_thing_1_0) vs hv
  | f + 1, h => absurd (show f + 1 < 1 from h) (Nat.not_lt.mpr (Nat.le_add_left 1 f)))
noncomputable def gs_X8_thing_1 : zMt := zgq false [] 3 [.inr (.ref 0), .inl 6442450943, .inl 8589934591] q_X8_thing_1 al_X8_thing_1
set_option maxRecDepth 100000 in
theorem cs_X8_thing_1 (d : Nat) : zC l G gh (d + 6) n_X8_thing gs_X8_thing_1 := zgq_ok0 (pcs := p_X8_thing) (by decide) rfl rfl (fun a ha => by simp only [al_X8_thing_1, List.mem_cons, List.not_mem_nil, or_false] at ha; rcases ha with rfl <;> decide +kernel) (fun gh => x_X8_thing_1 d) (by decide +kernel)
def q_X8_thing_2 : List (Nat × Nat) := [(0, zk0), (259, zk20)]
noncomputable def al_X8_thing_2 : zAq := [(some (.inl 2147483647), [(0, zk0), (259, zk20)])]
noncomputable def fm_X8_thing_2 : List zFm := [(0, [], (fun vs => [.inr (.ref 0), .inl 9223372071214514175, .inl 8589934591]), (fun vs => zP q_X8_thing_2), (fun vs => Nat.sub (Nat.add 0 0) 0))]
def bf_X8_thing_2 : List Nat := []
theorem r_X8_thing_2_0 : zbox [] (fun vs => zFrun (zpost (zAlq al_X8_thing_2)) 1000 t_X8_thing fm_X8_thing_2 bf_X8_thing_2 (0, vs)) = true := by decide +kernel
set_option maxRecDepth 100000 in
theorem x_X8_thing_2 (d : Nat) : zS l G gh (d + 6) (zpost (zAlq al_X8_thing_2)) n_X8_thing (zn 0 p_X8_thing 0) (zwc (0, [.inr (.ref 0), .inl 9223372071214514175, .inl 8589934591], zP q_X8_thing_2) 0) := zentry (tt_X8_thing d) fm_X8_thing_2 bf_X8_thing_2 1000 (by decide +kernel) rfl ⟨Nat.zero_lt_succ _, trivial⟩ (fun f hf => match f, hf with
  | 0, _ => fun vs hv => (zbox_t r_X8_thing_2_0) vs hv
  | f + 1, h => absurd (show f + 1 < 1 from h) (Nat.not_lt.mpr (Nat.le_add_left 1 f)))
noncomputable def gs_X8_thing_2 : zMt := zgq false [] 3 [.inr (.ref 0), .inl 9223372071214514175, .inl 8589934591] q_X8_thing_2 al_X8_thing_2
set_option maxRecDepth 100000 in
theorem cs_X8_thing_2 (d : Nat) : zC l G gh (d + 6) n_X8_thing gs_X8_thing_2 := zgq_ok0 (pcs := p_X8_thing) (by decide) rfl rfl (fun a ha => by simp only [al_X8_thing_2, List.mem_cons, List.not_mem_nil, or_false] at ha; rcases ha with rfl <;> decide +kernel) (fun gh => x_X8_thing_2 d) (by decide +kernel)
def q_X8_thing_3 : List (Nat × Nat) := [(0, zk1), (9, zk21), (11, zk12), (12, zk12), (15, zk5), (16, zk18), (17, zk18), (18, zk19), (19, zk3), (20, zk7), (21, zk10), (22, zk12), (26, zk11)]
noncomputable def al_X8_thing_3 : zAq := [(some (.inl 8589934591), [(0, zk1), (9, zk21), (11, zk12), (12, zk12), (15, zk5), (16, zk18), (17, zk18), (18, zk19), (19, zk4), (20, zk9), (21, zk10), (22, zk12), (26, zk11)])]
noncomputable def fm_X8_thing_3 : List zFm := [(0, [], (fun vs => [.inr (.ref 0), .inl 9223372043297226757, .inl 8589934591]), (fun vs => zP q_X8_thing_3), (fun vs => Nat.sub (Nat.add 0 0) 0))]
def bf_X8_thing_3 : List Nat := []
theorem r_X8_thing_3_0 : zbox [] (fun vs => zFrun (zpost (zAlq al_X8_thing_3)) 1000 t_X8_thing fm_X8_thing_3 bf_X8_thing_3 (0, vs)) = true := by decide +kernel
set_option maxRecDepth 100000 in
theorem x_X8_thing_3 (d : Nat) : zS l G gh (d + 6) (zpost (zAlq al_X8_thing_3)) n_X8_thing (zn 0 p_X8_thing 0) (zwc (0, [.inr (.ref 0), .inl 9223372043297226757, .inl 8589934591], zP q_X8_thing_3) 0) := zentry (tt_X8_thing d) fm_X8_thing_3 bf_X8_thing_3 1000 (by decide +kernel) rfl ⟨Nat.zero_lt_succ _, trivial⟩ (fun f hf => match f, hf with
  | 0, _ => fun vs hv => (zbox_t r_X8_thing_3_0) vs hv
  | f + 1, h => absurd (show f + 1 < 1 from h) (Nat.not_lt.mpr (Nat.le_add_left 1 f)))
noncomputable def gs_X8_thing_3 : zMt := zgq false [] 3 [.inr (.ref 0), .inl 9223372043297226757, .inl 8589934591] q_X8_thing_3 al_X8_thing_3
set_option maxRecDepth 100000 in
theorem cs_X8_thing_3 (d : Nat) : zC l G gh (d + 6) n_X8_thing gs_X8_thing_3 := zgq_ok0 (pcs := p_X8_thing) (by decide) rfl rfl (fun a ha => by simp only [al_X8_thing_3, List.mem_cons, List.not_mem_nil, or_false] at ha; rcases ha with rfl <;> decide +kernel) (fun gh => x_X8_thing_3 d) (by decide +kernel)
def q_X8_thing_4 : List (Nat × Nat) := [(0, zk1)]
noncomputable def al_X8_thing_4 : zAq := [(some (.inl 2147483647), [(0, zk1)])]
noncomputable def fm_X8_thing_4 : List zFm := [(0, [], (fun vs => [.inr (.ref 0), .inl 6442450943, .inl 8589934591]), (fun vs => zP q_X8_thing_4), (fun vs => Nat.sub (Nat.add 0 0) 0))]
def bf_X8_thing_4 : List Nat := []
theorem r_X8_thing_4_0 : zbox [] (fun vs => zFrun (zpost (zAlq al_X8_thing_4)) 1000 t_X8_thing fm_X8_thing_4 bf_X8_thing_4 (0, vs)) = true := by decide +kernel
set_option maxRecDepth 100000 in
theorem x_X8_thing_4 (d : Nat) : zS l G gh (d + 6) (zpost (zAlq al_X8_thing_4)) n_X8_thing (zn 0 p_X8_thing 0) (zwc (0, [.inr (.ref 0), .inl 6442450943, .inl 8589934591], zP q_X8_thing_4) 0) := zentry (tt_X8_thing d) fm_X8_thing_4 bf_X8_thing_4 1000 (by decide +kernel) rfl ⟨Nat.zero_lt_succ _, trivial⟩ (fun f hf => match f, hf with
  | 0, _ => fun vs hv => (zbox_t r_X8_thing_4_0) vs hv
  | f + 1, h => absurd (show f + 1 < 1 from h) (Nat.not_lt.mpr (Nat.le_add_left 1 f)))
noncomputable def gs_X8_thing_4 : zMt := zgq false [] 3 [.inr (.ref 0), .inl 6442450943, .inl 8589934591] q_X8_thing_4 al_X8_thing_4
set_option maxRecDepth 100000 in
theorem cs_X8_thing_4 (d : Nat) : zC l G gh (d + 6) n_X8_thing gs_X8_thing_4 := zgq_ok0 (pcs := p_X8_thing) (by decide) rfl rfl (fun a ha => by simp only [al_X8_thing_4, List.mem_cons, List.not_mem_nil, or_false] at ha; rcases ha with rfl <;> decide +kernel) (fun gh => x_X8_thing_4 d) (by decide +kernel)
def q_X8_thing_5 : List (Nat × Nat) := [(0, zk1), (9, zk21)]
noncomputable def al_X8_thing_5 : zAq := [(some (.inl 2147483647), [(0, zk1), (9, zk21)])]
noncomputable def fm_X8_thing_5 : List zFm := [(0, [], (fun vs => [.inr (.ref 0), .inl 9223372071214514175, .inl 8589934591]), (fun vs => zP q_X8_thing_5), (fun vs => Nat.sub (Nat.add 0 0) 0))]
def bf_X8_thing_5 : List Nat := []
theorem r_X8_thing_5_0 : zbox [] (fun vs => zFrun (zpost (zAlq al_X8_thing_5)) 1000 t_X8_thing fm_X8_thing_5 bf_X8_thing_5 (0, vs)) = true := by decide +kernel
set_option maxRecDepth 100000 in
theorem x_X8_thing_5 (d : Nat) : zS l G gh (d + 6) (zpost (zAlq al_X8_thing_5)) n_X8_thing (zn 0 p_X8_thing 0) (zwc (0, [.inr (.ref 0), .inl 9223372071214514175, .inl 8589934591], zP q_X8_thing_5) 0) := zentry (tt_X8_thing d) fm_X8_thing_5 bf_X8_thing_5 1000 (by decide +kernel) rfl ⟨Nat.zero_lt_succ _, trivial⟩ (fun f hf => match f, hf with
  | 0, _ => fun vs hv => (zbox_t r_X8_thing_5_0) vs hv
  | f + 1, h => absurd (show f + 1 < 1 from h) (Nat.not_lt.mpr (Nat.le_add_left 1 f)))
noncomputable def gs_X8_thing_5 : zMt := zgq false [] 3 [.inr (.ref 0), .inl 9223372071214514175, .inl 8589934591] q_X8_thing_5 al_X8_thing_5
set_option maxRecDepth 100000 in
theorem cs_X8_thing_5 (d : Nat) : zC l G gh (d + 6) n_X8_thing gs_X8_thing_5 := zgq_ok0 (pcs := p_X8_thing) (by decide) rfl rfl (fun a ha => by simp only [al_X8_thing_5, List.mem_cons, List.not_mem_nil, or_false] at ha; rcases ha with rfl <;> decide +kernel) (fun gh => x_X8_thing_5 d) (by decide +kernel)
noncomputable def gs_X8_thing : zMt := (zor gs_X8_thing_0 (zor gs_X8_thing_1 (zor gs_X8_thing_2 (zor gs_X8_thing_3 (zor gs_X8_thing_4 gs_X8_thing_5)))))
theorem cs_X8_thing (d : Nat) : zC l G gh (d + 6) n_X8_thing gs_X8_thing := (zor_ok (cs_X8_thing_0 d) (zor_ok (cs_X8_thing_1 d) (zor_ok (cs_X8_thing_2 d) (zor_ok (cs_X8_thing_3 d) (zor_ok (cs_X8_thing_4 d) (cs_X8_thing_5 d))))))
def p_X8_thingsSeenFrom : List Nat := [0]
noncomputable def b_X8_thingsSeenFrom_0 : zBl := fun jp K => oAld 0 <| oGetR 8 12 <| oIld 1 <| oAld 0 <| oGetR 8 2 <| oGetI 4 0 <| oIld 2 <| oCv 0 3 gs_X0_thingsSeenFrom <| oIret K
theorem s_X8_thingsSeenFrom_0 (d : Nat) : zPb l G gh (d + 6) n_X8_thingsSeenFrom p_X8_thingsSeenFrom 0 b_X8_thingsSeenFrom_0 := fun K jp hj =>
    z_aload_n (n := 0) (i := 0) (zd (i := .aload_n 0) (n := 1) (by decide +kernel)) rfl <|
    z_getR (ci := 8) (j := 12) (idx := 71) (zd (i := .getfield 71) (n := 3) (by decide +kernel)) (by decide +kernel) (by decide +kernel) rfl g464 <|
    z_iload_n (n := 1) (i := 1) (zd (i := .iload_n 1) (n := 1) (by decide +kernel)) rfl <|
    z_aload_n (n := 0) (i := 0) (zd (i := .aload_n 0) (n := 1) (by decide +kernel)) rfl <|
    z_getR (ci := 8) (j := 2) (idx := 26) (zd (i := .getfield 26) (n := 3) (by decide +kernel)) (by decide +kernel) (by decide +kernel) rfl g454 <|
    z_getI (ci := 4) (j := 0) (idx := 140) (zd (i := .getfield 140) (n := 3) (by decide +kernel)) (by decide +kernel) (by decide +kernel) rfl g368 <|
    z_iload_n (n := 2) (i := 2) (zd (i := .iload_n 2) (n := 1) (by decide +kernel)) rfl <|
    z_callV (idx := 336) (ci := 0) (N := n_X0_thingsSeenFrom) (zd (i := .invokevirtual 336) (n := 3) (by decide +kernel)) to_X0_thingsSeenFrom g779 g780 g781 (by decide +kernel) rfl rfl rfl (cs_X0_thingsSeenFrom (l := l) (G := G) (gh := gh) (d)) <|
    z_iret (zd (i := .ireturn) (n := 1) (by decide +kernel)) rfl
noncomputable def t_X8_thingsSeenFrom : List zBl := [b_X8_thingsSeenFrom_0]
theorem tt_X8_thingsSeenFrom (d : Nat) : zT (zPb l G gh (d + 6) n_X8_thingsSeenFrom p_X8_thingsSeenFrom) t_X8_thingsSeenFrom p_X8_thingsSeenFrom := ⟨s_X8_thingsSeenFrom_0 d, trivial⟩
noncomputable def f_X8_thingsSeenFrom : zMt := zmet 3 t_X8_thingsSeenFrom
theorem c_X8_thingsSeenFrom (d : Nat) : zC l G gh (d + 6) n_X8_thingsSeenFrom f_X8_thingsSeenFrom := zmet_ok (pcs := p_X8_thingsSeenFrom) (by decide) rfl rfl (tt_X8_thingsSeenFrom d)
def p_X8_lend : List Nat := [0, 9, 14, 21, 23, 43, 56, 65, 68]
noncomputable def b_X8_lend_0 : zBl := fun jp K => oAld 0 <| oIld 1 <| oIld 2 <| oCv 8 2 f_X8_isPair <| oIf zeq zne (jp 3) (jp 1)
theorem s_X8_lend_0 (d : Nat) : zPb l G gh (d + 6) n_X8_lend p_X8_lend 0 b_X8_lend_0 := fun K jp hj =>
    z_aload_n (n := 0) (i := 0) (zd (i := .aload_n 0) (n := 1) (by decide +kernel)) rfl <|
    z_iload_n (n := 1) (i := 1) (zd (i := .iload_n 1) (n := 1) (by decide +kernel)) rfl <|
    z_iload_n (n := 2) (i := 2) (zd (i := .iload_n 2) (n := 1) (by decide +kernel)) rfl <|
    z_callV (idx := 162) (ci := 8) (N := n_X8_isPair) (zd (i := .invokevirtual 162) (n := 3) (by decide +kernel)) to_X8_isPair g797 g799 g26 (by decide +kernel) rfl rfl rfl (c_X8_isPair (l := l) (G := G) (gh := gh) (d + 3)) <|
    z_if_eq (off := 15) (tgt := 21) (zd (i := .ifCond .eq (15)) (n := 3) (by decide +kernel)) (by decide +kernel) (zj (hj 3) (by decide +kernel)) (zj (hj 1) (by decide +kernel))
noncomputable def b_X8_lend_1 : zBl := fun jp K => oNLC 3 2147483649 zltN zgeN zn1_lt zn1_ge (jp 3) (jp 2)
theorem s_X8_lend_1 (d : Nat) : zPb l G gh (d + 6) n_X8_lend p_X8_lend 9 b_X8_lend_1 := fun K jp hj =>
    z_nLC_lt (i := 3) (c0 := 2147483649) (a1 := 1) (a2 := 1) (off := 10) (tgt := 21) (zLd_n (n := 3) (i := 3) (zd (i := .iload_n 3) (n := 1) (by decide +kernel)) rfl) (zCn_c (n := 1) (zd (i := .iconst (1)) (n := 1) (by decide +kernel)) (by decide +kernel)) (zd (i := .if_icmp .lt (10)) (n := 3) (by decide +kernel)) (by decide +kernel) (zj (hj 3) (by decide +kernel)) (zj (hj 2) (by decide +kernel))
noncomputable def b_X8_lend_2 : zBl := fun jp K => oNLC 3 2147484647 zleN zgtN zn1_le zn1_gt (jp 4) (jp 3)
theorem s_X8_lend_2 (d : Nat) : zPb l G gh (d + 6) n_X8_lend p_X8_lend 14 b_X8_lend_2 := fun K jp hj =>
    z_nLC_le (i := 3) (c0 := 2147484647) (a1 := 1) (a2 := 3) (off := 5) (tgt := 23) (zLd_n (n := 3) (i := 3) (zd (i := .iload_n 3) (n := 1) (by decide +kernel)) rfl) (zCn_s (n := 999) (zd (i := .sipush (999)) (n := 3) (by decide +kernel)) (by decide +kernel)) (zd (i := .if_icmp .le (5)) (n := 3) (by decide +kernel)) (by decide +kernel) (zj (hj 4) (by decide +kernel)) (zj (hj 3) (by decide +kernel))
noncomputable def b_X8_lend_3 : zBl := fun jp K => oInt 2147483647 <| oIret K
theorem s_X8_lend_3 (d : Nat) : zPb l G gh (d + 6) n_X8_lend p_X8_lend 21 b_X8_lend_3 := fun K jp hj =>
    z_iconst (n := -1) (zd (i := .iconst (-1)) (n := 1) (by decide +kernel)) (by decide +kernel) <|
    z_iret (zd (i := .ireturn) (n := 1) (by decide +kernel)) rfl
noncomputable def b_X8_lend_4 : zBl := fun jp K => oIld 1 <| oIld 2 <| oCs 2 f_X8_loanOf <| oIst 4 <| oAld 0 <| oGetR 8 2 <| oGetR 4 2 <| oIld 1 <| oXald 10 <| oIld 3 <| oIc zlt zge (jp 7) (jp 5)
theorem s_X8_lend_4 (d : Nat) : zPb l G gh (d + 6) n_X8_lend p_X8_lend 23 b_X8_lend_4 := fun K jp hj =>
    z_iload_n (n := 1) (i := 1) (zd (i := .iload_n 1) (n := 1) (by decide +kernel)) rfl <|
    z_iload_n (n := 2) (i := 2) (zd (i := .iload_n 2) (n := 1) (by decide +kernel)) rfl <|
    z_callS (idx := 166) (N := n_X8_loanOf) (zd (i := .invokestatic 166) (n := 3) (by decide +kernel)) to_X8_loanOf g764 g765 rfl rfl (c_X8_loanOf (l := l) (G := G) (gh := gh) (d + 4)) <|
    z_istore (i := 4) (zd (i := .istore 4) (n := 2) (by decide +kernel)) (by decide +kernel) <|
    z_aload_n (n := 0) (i := 0) (zd (i := .aload_n 0) (n := 1) (by decide +kernel)) rfl <|
    z_getR (ci := 8) (j := 2) (idx := 26) (zd (i := .getfield 26) (n := 3) (by decide +kernel)) (by decide +kernel) (by decide +kernel) rfl g454 <|
    z_getR (ci := 4) (j := 2) (idx := 137) (zd (i := .getfield 137) (n := 3) (by decide +kernel)) (by decide +kernel) (by decide +kernel) rfl g374 <|
    z_iload_n (n := 1) (i := 1) (zd (i := .iload_n 1) (n := 1) (by decide +kernel)) rfl <|
    z_iald (zd (i := .iaload) (n := 1) (by decide +kernel)) <|
    z_iload_n (n := 3) (i := 3) (zd (i := .iload_n 3) (n := 1) (by decide +kernel)) rfl <|
    z_icmp_lt (off := 25) (tgt := 65) (zd (i := .if_icmp .lt (25)) (n := 3) (by decide +kernel)) (by decide +kernel) (zj (hj 7) (by decide +kernel)) (zj (hj 5) (by decide +kernel))
noncomputable def b_X8_lend_5 : zBl := fun jp K => oAld 0 <| oGetR 8 2 <| oGetR 4 5 <| oIld 4 <| oXald 10 <| oIf zne zeq (jp 7) (jp 6)
theorem s_X8_lend_5 (d : Nat) : zPb l G gh (d + 6) n_X8_lend p_X8_lend 43 b_X8_lend_5 := fun K jp hj =>
    z_aload_n (n := 0) (i := 0) (zd (i := .aload_n 0) (n := 1) (by decide +kernel)) rfl <|
    z_getR (ci := 8) (j := 2) (idx := 26) (zd (i := .getfield 26) (n := 3) (by decide +kernel)) (by decide +kernel) (by decide +kernel) rfl g454 <|
    z_getR (ci := 4) (j := 5) (idx := 169) (zd (i := .getfield 169) (n := 3) (by decide +kernel)) (by decide +kernel) (by decide +kernel) rfl g383 <|
    z_iload (i := 4) (zd (i := .iload 4) (n := 2) (by decide +kernel)) <|
    z_iald (zd (i := .iaload) (n := 1) (by decide +kernel)) <|
    z_if_ne (off := 12) (tgt := 65) (zd (i := .ifCond .ne (12)) (n := 3) (by decide +kernel)) (by decide +kernel) (zj (hj 7) (by decide +kernel)) (zj (hj 6) (by decide +kernel))
noncomputable def b_X8_lend_6 : zBl := fun jp K => oAld 0 <| oIld 1 <| oIld 2 <| oCv 8 2 gs_X8_seesNow <| oIf zne zeq (jp 8) (jp 7)
theorem s_X8_lend_6 (d : Nat) : zPb l G gh (d + 6) n_X8_lend p_X8_lend 56 b_X8_lend_6 := fun K jp hj =>
    z_aload_n (n := 0) (i := 0) (zd (i := .aload_n 0) (n := 1) (by decide +kernel)) rfl <|
    z_iload_n (n := 1) (i := 1) (zd (i := .iload_n 1) (n := 1) (by decide +kernel)) rfl <|
    z_iload_n (n := 2) (i := 2) (zd (i := .iload_n 2) (n := 1) (by decide +kernel)) rfl <|
    z_callV (idx := 196) (ci := 8) (N := n_X8_seesNow) (zd (i := .invokevirtual 196) (n := 3) (by decide +kernel)) to_X8_seesNow g832 g834 g27 (by decide +kernel) rfl rfl rfl (cs_X8_seesNow (l := l) (G := G) (gh := gh) (d)) <|
    z_if_ne (off := 6) (tgt := 68) (zd (i := .ifCond .ne (6)) (n := 3) (by decide +kernel)) (by decide +kernel) (zj (hj 8) (by decide +kernel)) (zj (hj 7) (by decide +kernel))
noncomputable def b_X8_lend_7 : zBl := fun jp K => oInt 2147483646 <| oIret K
theorem s_X8_lend_7 (d : Nat) : zPb l G gh (d + 6) n_X8_lend p_X8_lend 65 b_X8_lend_7 := fun K jp hj =>
    z_bipush (n := -2) (zd (i := .bipush (-2)) (n := 2) (by decide +kernel)) (by decide +kernel) <|
    z_iret (zd (i := .ireturn) (n := 1) (by decide +kernel)) rfl
noncomputable def b_X8_lend_8 : zBl := fun jp K => oAld 0 <| oGetR 8 4 <| oAld 0 <| oGetR 8 2 <| oCv 3 1 gs_X3_push <| oAld 0 <| oGetR 8 2 <| oGetR 4 2 <| oIld 1 <| oDup2 <| oXald 10 <| oIld 3 <| oB2 zsub <| oXast 10 zid <| oAld 0 <| oGetR 8 2 <| oGetR 4 5 <| oIld 4 <| oIld 3 <| oXast 10 zid <| oAld 0 <| oGetR 8 2 <| oGetR 4 2 <| oIld 1 <| oXald 10 <| oIret K
theorem s_X8_lend_8 (d : Nat) : zPb l G gh (d + 6) n_X8_lend p_X8_lend 68 b_X8_lend_8 := fun K jp hj =>
    z_aload_n (n := 0) (i := 0) (zd (i := .aload_n 0) (n := 1) (by decide +kernel)) rfl <|
    z_getR (ci := 8) (j := 4) (idx := 36) (zd (i := .getfield 36) (n := 3) (by decide +kernel)) (by decide +kernel) (by decide +kernel) rfl g456 <|
    z_aload_n (n := 0) (i := 0) (zd (i := .aload_n 0) (n := 1) (by decide +kernel)) rfl <|
    z_getR (ci := 8) (j := 2) (idx := 26) (zd (i := .getfield 26) (n := 3) (by decide +kernel)) (by decide +kernel) (by decide +kernel) rfl g454 <|
    z_callV (idx := 199) (ci := 3) (N := n_X3_push) (zd (i := .invokevirtual 199) (n := 3) (by decide +kernel)) to_X3_push g836 g837 g838 (by decide +kernel) rfl rfl rfl (cs_X3_push (l := l) (G := G) (gh := gh) (d + 3)) <|
    z_aload_n (n := 0) (i := 0) (zd (i := .aload_n 0) (n := 1) (by decide +kernel)) rfl <|
    z_getR (ci := 8) (j := 2) (idx := 26) (zd (i := .getfield 26) (n := 3) (by decide +kernel)) (by decide +kernel) (by decide +kernel) rfl g454 <|
    z_getR (ci := 4) (j := 2) (idx := 137) (zd (i := .getfield 137) (n := 3) (by decide +kernel)) (by decide +kernel) (by decide +kernel) rfl g374 <|
    z_iload_n (n := 1) (i := 1) (zd (i := .iload_n 1) (n := 1) (by decide +kernel)) rfl <|
    z_dup2 (zd (i := .dup2) (n := 1) (by decide +kernel)) <|
    z_iald (zd (i := .iaload) (n := 1) (by decide +kernel)) <|
    z_iload_n (n := 3) (i := 3) (zd (i := .iload_n 3) (n := 1) (by decide +kernel)) rfl <|
    z_isub (zd (i := .isub) (n := 1) (by decide +kernel)) <|
    z_iast (zd (i := .iastore) (n := 1) (by decide +kernel)) <|
    z_aload_n (n := 0) (i := 0) (zd (i := .aload_n 0) (n := 1) (by decide +kernel)) rfl <|
    z_getR (ci := 8) (j := 2) (idx := 26) (zd (i := .getfield 26) (n := 3) (by decide +kernel)) (by decide +kernel) (by decide +kernel) rfl g454 <|
    z_getR (ci := 4) (j := 5) (idx := 169) (zd (i := .getfield 169) (n := 3) (by decide +kernel)) (by decide +kernel) (by decide +kernel) rfl g383 <|
    z_iload (i := 4) (zd (i := .iload 4) (n := 2) (by decide +kernel)) <|
    z_iload_n (n := 3) (i := 3) (zd (i := .iload_n 3) (n := 1) (by decide +kernel)) rfl <|
    z_iast (zd (i := .iastore) (n := 1) (by decide +kernel)) <|
    z_aload_n (n := 0) (i := 0) (zd (i := .aload_n 0) (n := 1) (by decide +kernel)) rfl <|
    z_getR (ci := 8) (j := 2) (idx := 26) (zd (i := .getfield 26) (n := 3) (by decide +kernel)) (by decide +kernel) (by decide +kernel) rfl g454 <|
    z_getR (ci := 4) (j := 2) (idx := 137) (zd (i := .getfield 137) (n := 3) (by decide +kernel)) (by decide +kernel) (by decide +kernel) rfl g374 <|
    z_iload_n (n := 1) (i := 1) (zd (i := .iload_n 1) (n := 1) (by decide +kernel)) rfl <|
    z_iald (zd (i := .iaload) (n := 1) (by decide +kernel)) <|
    z_iret (zd (i := .ireturn) (n := 1) (by decide +kernel)) rfl
noncomputable def t_X8_lend : List zBl := [b_X8_lend_0, b_X8_lend_1, b_X8_lend_2, b_X8_lend_3, b_X8_lend_4, b_X8_lend_5, b_X8_lend_6, b_X8_lend_7, b_X8_lend_8]
theorem tt_X8_lend (d : Nat) : zT (zPb l G gh (d + 6) n_X8_lend p_X8_lend) t_X8_lend p_X8_lend := ⟨s_X8_lend_0 d, s_X8_lend_1 d, s_X8_lend_2 d, s_X8_lend_3 d, s_X8_lend_4 d, s_X8_lend_5 d, s_X8_lend_6 d, s_X8_lend_7 d, s_X8_lend_8 d, trivial⟩
def q_X8_lend_0 : List (Nat × Nat) := [(0, zk0), (21, zk10), (22, zk12), (23, zk12), (24, zk12), (25, zk12), (26, zk11), (27, zk11), (35, zk23), (36, zk24), (37, zk25), (38, zk12), (39, zk12), (40, zk12), (41, zk12), (42, zk11), (43, zk11), (44, zk26), (45, zk12), (46, zk12), (47, zk12), (48, zk12), (49, zk11), (50, zk11), (51, zk27), (52, zk12), (53, zk12), (54, zk12), (55, zk12), (56, zk11), (57, zk11), (58, zk28), (59, zk12), (60, zk12), (61, zk12), (62, zk12), (63, zk11), (64, zk11), (65, zk29), (66, zk12), (67, zk12), (68, zk12), (69, zk12), (70, zk11), (71, zk11), (72, zk30), (73, zk12), (74, zk12), (75, zk12), (76, zk12), (77, zk11), (78, zk11), (79, zk31), (80, zk12), (81, zk12), (82, zk12), (83, zk12), (84, zk11), (85, zk11), (86, zk32), (87, zk12), (88, zk12), (89, zk12), (90, zk12), (91, zk11), (92, zk11), (93, zk33), (94, zk12), (95, zk12), (96, zk12), (97, zk12), (98, zk11), (99, zk11), (100, zk34), (101, zk12), (102, zk12), (103, zk12), (104, zk12), (105, zk11), (106, zk11), (107, zk35), (108, zk12), (109, zk12), (110, zk12), (111, zk12), (112, zk11), (113, zk11), (114, zk36), (115, zk12), (116, zk12), (117, zk12), (118, zk12), (119, zk11), (120, zk11), (121, zk37), (122, zk12), (123, zk12), (124, zk12), (125, zk12), (126, zk11), (127, zk11), (128, zk38), (129, zk12), (130, zk12), (131, zk12), (132, zk12), (133, zk11), (134, zk11), (135, zk39), (136, zk12), (137, zk12), (138, zk12), (139, zk12), (140, zk11), (141, zk11), (142, zk40), (143, zk12), (144, zk12), (145, zk12), (146, zk12), (147, zk11), (148, zk11), (149, zk41), (150, zk12), (151, zk12), (152, zk12), (153, zk12), (154, zk11), (155, zk11), (156, zk42), (157, zk12), (158, zk12), (159, zk12), (160, zk12), (161, zk11), (162, zk11), (163, zk43), (164, zk12), (165, zk12), (166, zk12), (167, zk12), (168, zk11), (169, zk11), (170, zk44), (171, zk12), (172, zk12), (173, zk12), (174, zk12), (175, zk11), (176, zk11), (177, zk45), (178, zk12), (179, zk12), (180, zk12), (181, zk12), (182, zk11), (183, zk11), (184, zk46), (185, zk12), (186, zk12), (187, zk12), (188, zk12), (189, zk11), (190, zk11), (191, zk47), (192, zk12), (193, zk12), (194, zk12), (195, zk12), (196, zk11), (197, zk11), (198, zk48), (199, zk12), (200, zk12), (201, zk12), (202, zk12), (203, zk11), (204, zk11), (205, zk49), (206, zk12), (207, zk12), (208, zk12), (209, zk12), (210, zk11), (211, zk11), (212, zk50), (213, zk12), (214, zk12), (215, zk12), (216, zk12), (217, zk11), (218, zk11), (219, zk51), (220, zk12), (221, zk12), (222, zk12), (223, zk12), (224, zk11), (225, zk11), (226, zk52), (227, zk12), (228, zk12), (229, zk12), (230, zk12), (231, zk11), (232, zk11), (233, zk53), (234, zk12), (235, zk12), (236, zk12), (237, zk12), (238, zk11), (239, zk11), (240, zk54), (241, zk12), (242, zk12), (243, zk12), (244, zk12), (245, zk11), (246, zk11), (259, zk20), (261, zk12), (262, zk12), (265, zk2), (266, zk18), (267, zk18), (268, zk19), (269, zk3), (270, zk7)]
noncomputable def al_X8_lend_0 : zAq := [(some (.inl 8589934591), [(0, zk0), (21, zk10), (22, zk12), (23, zk57), (24, zk12), (25, zk12), (26, zk58), (27, zk11), (35, zk55), (36, zk24), (37, zk56), (38, zk57), (39, zk57), (40, zk57), (41, zk57), (42, zk58), (43, zk58), (44, zk59), (45, zk57), (46, zk57), (47, zk57), (48, zk57), (49, zk58), (50, zk58), (51, zk60), (52, zk57), (53, zk57), (54, zk57), (55, zk57), (56, zk58), (57, zk58), (58, zk61), (59, zk57), (60, zk57), (61, zk57), (62, zk57), (63, zk58), (64, zk58), (65, zk62), (66, zk57), (67, zk57), (68, zk57), (69, zk57), (70, zk58), (71, zk58), (72, zk63), (73, zk57), (74, zk57), (75, zk57), (76, zk57), (77, zk58), (78, zk58), (79, zk64), (80, zk57), (81, zk57), (82, zk57), (83, zk57), (84, zk58), (85, zk58), (86, zk65), (87, zk57), (88, zk57), (89, zk57), (90, zk57), (91, zk58), (92, zk58), (93, zk66), (94, zk57), (95, zk57), (96, zk57), (97, zk57), (98, zk58), (99, zk58), (100, zk67), (101, zk57), (102, zk57), (103, zk57), (104, zk57), (105, zk58), (106, zk58), (107, zk68), (108, zk57), (109, zk57), (110, zk57), (111, zk57), (112, zk58), (113, zk58), (114, zk69), (115, zk57), (116, zk57), (117, zk57), (118, zk57), (119, zk58), (120, zk58), (121, zk70), (122, zk57), (123, zk57), (124, zk57), (125, zk57), (126, zk58), (127, zk58), (128, zk71), (129, zk57), (130, zk57), (131, zk57), (132, zk57), (133, zk58), (134, zk58), (135, zk72), (136, zk57), (137, zk57), (138, zk57), (139, zk57), (140, zk58), (141, zk58), (142, zk73), (143, zk57), (144, zk57), (145, zk57), (146, zk57), (147, zk58), (148, zk58), (149, zk74), (150, zk57), (151, zk57), (152, zk57), (153, zk57), (154, zk58), (155, zk58), (156, zk75), (157, zk57), (158, zk57), (159, zk57), (160, zk57), (161, zk58), (162, zk58), (163, zk76), (164, zk57), (165, zk57), (166, zk57), (167, zk57), (168, zk58), (169, zk58), (170, zk77), (171, zk57), (172, zk57), (173, zk57), (174, zk57), (175, zk58), (176, zk58), (177, zk78), (178, zk57), (179, zk57), (180, zk57), (181, zk57), (182, zk58), (183, zk58), (184, zk79), (185, zk57), (186, zk57), (187, zk57), (188, zk57), (189, zk58), (190, zk58), (191, zk80), (192, zk57), (193, zk57), (194, zk57), (195, zk57), (196, zk58), (197, zk58), (198, zk81), (199, zk57), (200, zk57), (201, zk57), (202, zk57), (203, zk58), (204, zk58), (205, zk82), (206, zk57), (207, zk57), (208, zk57), (209, zk57), (210, zk58), (211, zk58), (212, zk83), (213, zk57), (214, zk57), (215, zk57), (216, zk57), (217, zk58), (218, zk58), (219, zk84), (220, zk57), (221, zk57), (222, zk57), (223, zk57), (224, zk58), (225, zk58), (226, zk85), (227, zk57), (228, zk57), (229, zk57), (230, zk57), (231, zk58), (232, zk58), (233, zk86), (234, zk57), (235, zk57), (236, zk57), (237, zk57), (238, zk58), (239, zk58), (240, zk87), (241, zk57), (242, zk57), (243, zk57), (244, zk57), (245, zk58), (246, zk58), (259, zk20), (261, zk12), (262, zk12), (265, zk2), (266, zk18), (267, zk18), (268, zk19), (269, zk4), (270, zk9)])]
noncomputable def fm_X8_lend_0 : List zFm := [(0, [], (fun vs => [.inr (.ref 0), .inl 9223372043297226757, .inl 9223372043297226757, .inl 9223372047592195047]), (fun vs => zP q_X8_lend_0), (fun vs => Nat.sub (Nat.add 0 0) 0))]
def bf_X8_lend_0 : List Nat := []
theorem r_X8_lend_0_0 : zbox [] (fun vs => zFrun (zpost (zAlq al_X8_lend_0)) 1000 t_X8_lend fm_X8_lend_0 bf_X8_lend_0 (0, vs)) = true := by decide +kernel
set_option maxRecDepth 100000 in
theorem x_X8_lend_0 (d : Nat) : zS l G gh (d + 6) (zpost (zAlq al_X8_lend_0)) n_X8_lend (zn 0 p_X8_lend 0) (zwc (0, [.inr (.ref 0), .inl 9223372043297226757, .inl 9223372043297226757, .inl 9223372047592195047], zP q_X8_lend_0) 0) := zentry (tt_X8_lend d) fm_X8_lend_0 bf_X8_lend_0 1000 (by decide +kernel) rfl ⟨Nat.zero_lt_succ _, trivial⟩ (fun f hf => match f, hf with
  | 0, _ => fun vs hv => (zbox_t r_X8_lend_0_0) vs hv
  | f + 1, h => absurd (show f + 1 < 1 from h) (Nat.not_lt.mpr (Nat.le_add_left 1 f)))
noncomputable def gs_X8_lend_0 : zMt := zgq false [] 5 [.inr (.ref 0), .inl 9223372043297226757, .inl 9223372043297226757, .inl 9223372047592195047] q_X8_lend_0 al_X8_lend_0
set_option maxRecDepth 100000 in
theorem cs_X8_lend_0 (d : Nat) : zC l G gh (d + 6) n_X8_lend gs_X8_lend_0 := zgq_ok0 (pcs := p_X8_lend) (by decide) rfl rfl (fun a ha => by simp only [al_X8_lend_0, List.mem_cons, List.not_mem_nil, or_false] at ha; rcases ha with rfl <;> decide +kernel) (fun gh => x_X8_lend_0 d) (by decide +kernel)
def q_X8_lend_1 : List (Nat × Nat) := [(0, zk0), (259, zk20)]
noncomputable def al_X8_lend_1 : zAq := [(some (.inl 2147483647), [(0, zk0), (259, zk20)])]
noncomputable def fm_X8_lend_1 : List zFm := [(0, [], (fun vs => [.inr (.ref 0), .inl 9223372043297226757, .inl 9223372043297226757, .inl 6442450944]), (fun vs => zP q_X8_lend_1), (fun vs => Nat.sub (Nat.add 0 0) 0))]
def bf_X8_lend_1 : List Nat := []
theorem r_X8_lend_1_0 : zbox [] (fun vs => zFrun (zpost (zAlq al_X8_lend_1)) 1000 t_X8_lend fm_X8_lend_1 bf_X8_lend_1 (0, vs)) = true := by decide +kernel
set_option maxRecDepth 100000 in
theorem x_X8_lend_1 (d : Nat) : zS l G gh (d + 6) (zpost (zAlq al_X8_lend_1)) n_X8_lend (zn 0 p_X8_lend 0) (zwc (0, [.inr (.ref 0), .inl 9223372043297226757, .inl 9223372043297226757, .inl 6442450944], zP q_X8_lend_1) 0) := zentry (tt_X8_lend d) fm_X8_lend_1 bf_X8_lend_1 1000 (by decide +kernel) rfl ⟨Nat.zero_lt_succ _, trivial⟩ (fun f hf => match f, hf with
  | 0, _ => fun vs hv => (zbox_t r_X8_lend_1_0) vs hv
  | f + 1, h => absurd (show f + 1 < 1 from h) (Nat.not_lt.mpr (Nat.le_add_left 1 f)))
noncomputable def gs_X8_lend_1 : zMt := zgq false [] 5 [.inr (.ref 0), .inl 9223372043297226757, .inl 9223372043297226757, .inl 6442450944] q_X8_lend_1 al_X8_lend_1
set_option maxRecDepth 100000 in
theorem cs_X8_lend_1 (d : Nat) : zC l G gh (d + 6) n_X8_lend gs_X8_lend_1 := zgq_ok0 (pcs := p_X8_lend) (by decide) rfl rfl (fun a ha => by simp only [al_X8_lend_1, List.mem_cons, List.not_mem_nil, or_false] at ha; rcases ha with rfl <;> decide +kernel) (fun gh => x_X8_lend_1 d) (by decide +kernel)
def q_X8_lend_2 : List (Nat × Nat) := [(0, zk0), (259, zk20)]
noncomputable def al_X8_lend_2 : zAq := [(some (.inl 2147483647), [(0, zk0), (259, zk20)])]
noncomputable def fm_X8_lend_2 : List zFm := [(0, [], (fun vs => [.inr (.ref 0), .inl 9223372043297226757, .inl 9223372043297226757, .inl 9223376340412006399]), (fun vs => zP q_X8_lend_2), (fun vs => Nat.sub (Nat.add 0 0) 0))]
def bf_X8_lend_2 : List Nat := []
theorem r_X8_lend_2_0 : zbox [] (fun vs => zFrun (zpost (zAlq al_X8_lend_2)) 1000 t_X8_lend fm_X8_lend_2 bf_X8_lend_2 (0, vs)) = true := by decide +kernel
set_option maxRecDepth 100000 in
theorem x_X8_lend_2 (d : Nat) : zS l G gh (d + 6) (zpost (zAlq al_X8_lend_2)) n_X8_lend (zn 0 p_X8_lend 0) (zwc (0, [.inr (.ref 0), .inl 9223372043297226757, .inl 9223372043297226757, .inl 9223376340412006399], zP q_X8_lend_2) 0) := zentry (tt_X8_lend d) fm_X8_lend_2 bf_X8_lend_2 1000 (by decide +kernel) rfl ⟨Nat.zero_lt_succ _, trivial⟩ (fun f hf => match f, hf with
  | 0, _ => fun vs hv => (zbox_t r_X8_lend_2_0) vs hv
  | f + 1, h => absurd (show f + 1 < 1 from h) (Nat.not_lt.mpr (Nat.le_add_left 1 f)))
noncomputable def gs_X8_lend_2 : zMt := zgq false [] 5 [.inr (.ref 0), .inl 9223372043297226757, .inl 9223372043297226757, .inl 9223376340412006399] q_X8_lend_2 al_X8_lend_2
set_option maxRecDepth 100000 in
theorem cs_X8_lend_2 (d : Nat) : zC l G gh (d + 6) n_X8_lend gs_X8_lend_2 := zgq_ok0 (pcs := p_X8_lend) (by decide) rfl rfl (fun a ha => by simp only [al_X8_lend_2, List.mem_cons, List.not_mem_nil, or_false] at ha; rcases ha with rfl <;> decide +kernel) (fun gh => x_X8_lend_2 d) (by decide +kernel)
def q_X8_lend_3 : List (Nat × Nat) := [(0, zk0), (259, zk20)]
noncomputable def al_X8_lend_3 : zAq := [(some (.inl 2147483647), [(0, zk0), (259, zk20)])]
noncomputable def fm_X8_lend_3 : List zFm := [(0, [], (fun vs => [.inr (.ref 0), .inl 9223372043297226757, .inl 6442450943, .inl 8589934591]), (fun vs => zP q_X8_lend_3), (fun vs => Nat.sub (Nat.add 0 0) 0))]
def bf_X8_lend_3 : List Nat := []
theorem r_X8_lend_3_0 : zbox [] (fun vs => zFrun (zpost (zAlq al_X8_lend_3)) 1000 t_X8_lend fm_X8_lend_3 bf_X8_lend_3 (0, vs)) = true := by decide +kernel
set_option maxRecDepth 100000 in
theorem x_X8_lend_3 (d : Nat) : zS l G gh (d + 6) (zpost (zAlq al_X8_lend_3)) n_X8_lend (zn 0 p_X8_lend 0) (zwc (0, [.inr (.ref 0), .inl 9223372043297226757, .inl 6442450943, .inl 8589934591], zP q_X8_lend_3) 0) := zentry (tt_X8_lend d) fm_X8_lend_3 bf_X8_lend_3 1000 (by decide +kernel) rfl ⟨Nat.zero_lt_succ _, trivial⟩ (fun f hf => match f, hf with
  | 0, _ => fun vs hv => (zbox_t r_X8_lend_3_0) vs hv
  | f + 1, h => absurd (show f + 1 < 1 from h) (Nat.not_lt.mpr (Nat.le_add_left 1 f)))
noncomputable def gs_X8_lend_3 : zMt := zgq false [] 5 [.inr (.ref 0), .inl 9223372043297226757, .inl 6442450943, .inl 8589934591] q_X8_lend_3 al_X8_lend_3
set_option maxRecDepth 100000 in
theorem cs_X8_lend_3 (d : Nat) : zC l G gh (d + 6) n_X8_lend gs_X8_lend_3 := zgq_ok0 (pcs := p_X8_lend) (by decide) rfl rfl (fun a ha => by simp only [al_X8_lend_3, List.mem_cons, List.not_mem_nil, or_false] at ha; rcases ha with rfl <;> decide +kernel) (fun gh => x_X8_lend_3 d) (by decide +kernel)
def q_X8_lend_4 : List (Nat × Nat) := [(0, zk0), (259, zk20)]
noncomputable def al_X8_lend_4 : zAq := [(some (.inl 2147483647), [(0, zk0), (259, zk20)])]
noncomputable def fm_X8_lend_4 : List zFm := [(0, [], (fun vs => [.inr (.ref 0), .inl 9223372043297226757, .inl 9223372071214514175, .inl 8589934591]), (fun vs => zP q_X8_lend_4), (fun vs => Nat.sub (Nat.add 0 0) 0))]
def bf_X8_lend_4 : List Nat := []
theorem r_X8_lend_4_0 : zbox [] (fun vs => zFrun (zpost (zAlq al_X8_lend_4)) 1000 t_X8_lend fm_X8_lend_4 bf_X8_lend_4 (0, vs)) = true := by decide +kernel
set_option maxRecDepth 100000 in
theorem x_X8_lend_4 (d : Nat) : zS l G gh (d + 6) (zpost (zAlq al_X8_lend_4)) n_X8_lend (zn 0 p_X8_lend 0) (zwc (0, [.inr (.ref 0), .inl 9223372043297226757, .inl 9223372071214514175, .inl 8589934591], zP q_X8_lend_4) 0) := zentry (tt_X8_lend d) fm_X8_lend_4 bf_X8_lend_4 1000 (by decide +kernel) rfl ⟨Nat.zero_lt_succ _, trivial⟩ (fun f hf => match f, hf with
  | 0, _ => fun vs hv => (zbox_t r_X8_lend_4_0) vs hv
  | f + 1, h => absurd (show f + 1 < 1 from h) (Nat.not_lt.mpr (Nat.le_add_left 1 f)))
noncomputable def gs_X8_lend_4 : zMt := zgq false [] 5 [.inr (.ref 0), .inl 9223372043297226757, .inl 9223372071214514175, .inl 8589934591] q_X8_lend_4 al_X8_lend_4
set_option maxRecDepth 100000 in
theorem cs_X8_lend_4 (d : Nat) : zC l G gh (d + 6) n_X8_lend gs_X8_lend_4 := zgq_ok0 (pcs := p_X8_lend) (by decide) rfl rfl (fun a ha => by simp only [al_X8_lend_4, List.mem_cons, List.not_mem_nil, or_false] at ha; rcases ha with rfl <;> decide +kernel) (fun gh => x_X8_lend_4 d) (by decide +kernel)
def q_X8_lend_5 : List (Nat × Nat) := [(0, zk0)]
noncomputable def al_X8_lend_5 : zAq := [(some (.inl 2147483647), [(0, zk0)])]
noncomputable def fm_X8_lend_5 : List zFm := [(0, [], (fun vs => [.inr (.ref 0), .inl 6442450943, .inl 8589934591, .inl 8589934591]), (fun vs => zP q_X8_lend_5), (fun vs => Nat.sub (Nat.add 0 0) 0))]
def bf_X8_lend_5 : List Nat := []
theorem r_X8_lend_5_0 : zbox [] (fun vs => zFrun (zpost (zAlq al_X8_lend_5)) 1000 t_X8_lend fm_X8_lend_5 bf_X8_lend_5 (0, vs)) = true := by decide +kernel
set_option maxRecDepth 100000 in
theorem x_X8_lend_5 (d : Nat) : zS l G gh (d + 6) (zpost (zAlq al_X8_lend_5)) n_X8_lend (zn 0 p_X8_lend 0) (zwc (0, [.inr (.ref 0), .inl 6442450943, .inl 8589934591, .inl 8589934591], zP q_X8_lend_5) 0) := zentry (tt_X8_lend d) fm_X8_lend_5 bf_X8_lend_5 1000 (by decide +kernel) rfl ⟨Nat.zero_lt_succ _, trivial⟩ (fun f hf => match f, hf with
  | 0, _ => fun vs hv => (zbox_t r_X8_lend_5_0) vs hv
  | f + 1, h => absurd (show f + 1 < 1 from h) (Nat.not_lt.mpr (Nat.le_add_left 1 f)))
noncomputable def gs_X8_lend_5 : zMt := zgq false [] 5 [.inr (.ref 0), .inl 6442450943, .inl 8589934591, .inl 8589934591] q_X8_lend_5 al_X8_lend_5
set_option maxRecDepth 100000 in
theorem cs_X8_lend_5 (d : Nat) : zC l G gh (d + 6) n_X8_lend gs_X8_lend_5 := zgq_ok0 (pcs := p_X8_lend) (by decide) rfl rfl (fun a ha => by simp only [al_X8_lend_5, List.mem_cons, List.not_mem_nil, or_false] at ha; rcases ha with rfl <;> decide +kernel) (fun gh => x_X8_lend_5 d) (by decide +kernel)
def q_X8_lend_6 : List (Nat × Nat) := [(0, zk0), (259, zk20)]
noncomputable def al_X8_lend_6 : zAq := [(some (.inl 2147483647), [(0, zk0), (259, zk20)])]
noncomputable def fm_X8_lend_6 : List zFm := [(0, [], (fun vs => [.inr (.ref 0), .inl 9223372071214514175, .inl 8589934591, .inl 8589934591]), (fun vs => zP q_X8_lend_6), (fun vs => Nat.sub (Nat.add 0 0) 0))]
def bf_X8_lend_6 : List Nat := []
theorem r_X8_lend_6_0 : zbox [] (fun vs => zFrun (zpost (zAlq al_X8_lend_6)) 1000 t_X8_lend fm_X8_lend_6 bf_X8_lend_6 (0, vs)) = true := by decide +kernel
set_option maxRecDepth 100000 in
theorem x_X8_lend_6 (d : Nat) : zS l G gh (d + 6) (zpost (zAlq al_X8_lend_6)) n_X8_lend (zn 0 p_X8_lend 0) (zwc (0, [.inr (.ref 0), .inl 9223372071214514175, .inl 8589934591, .inl 8589934591], zP q_X8_lend_6) 0) := zentry (tt_X8_lend d) fm_X8_lend_6 bf_X8_lend_6 1000 (by decide +kernel) rfl ⟨Nat.zero_lt_succ _, trivial⟩ (fun f hf => match f, hf with
  | 0, _ => fun vs hv => (zbox_t r_X8_lend_6_0) vs hv
  | f + 1, h => absurd (show f + 1 < 1 from h) (Nat.not_lt.mpr (Nat.le_add_left 1 f)))
noncomputable def gs_X8_lend_6 : zMt := zgq false [] 5 [.inr (.ref 0), .inl 9223372071214514175, .inl 8589934591, .inl 8589934591] q_X8_lend_6 al_X8_lend_6
set_option maxRecDepth 100000 in
theorem cs_X8_lend_6 (d : Nat) : zC l G gh (d + 6) n_X8_lend gs_X8_lend_6 := zgq_ok0 (pcs := p_X8_lend) (by decide) rfl rfl (fun a ha => by simp only [al_X8_lend_6, List.mem_cons, List.not_mem_nil, or_false] at ha; rcases ha with rfl <;> decide +kernel) (fun gh => x_X8_lend_6 d) (by decide +kernel)
def q_X8_lend_7 : List (Nat × Nat) := [(0, zk1), (9, zk21), (11, zk12), (12, zk12), (15, zk5), (16, zk18), (17, zk18), (18, zk19), (19, zk3), (20, zk7), (21, zk10), (22, zk12), (23, zk12), (24, zk12), (25, zk12), (26, zk11), (27, zk11), (35, zk23), (36, zk24), (37, zk25), (38, zk12), (39, zk12), (40, zk12), (41, zk12), (42, zk11), (43, zk11), (44, zk26), (45, zk12), (46, zk12), (47, zk12), (48, zk12), (49, zk11), (50, zk11), (51, zk27), (52, zk12), (53, zk12), (54, zk12), (55, zk12), (56, zk11), (57, zk11), (58, zk28), (59, zk12), (60, zk12), (61, zk12), (62, zk12), (63, zk11), (64, zk11), (65, zk29), (66, zk12), (67, zk12), (68, zk12), (69, zk12), (70, zk11), (71, zk11), (72, zk30), (73, zk12), (74, zk12), (75, zk12), (76, zk12), (77, zk11), (78, zk11), (79, zk31), (80, zk12), (81, zk12), (82, zk12), (83, zk12), (84, zk11), (85, zk11), (86, zk32), (87, zk12), (88, zk12), (89, zk12), (90, zk12), (91, zk11), (92, zk11), (93, zk33), (94, zk12), (95, zk12), (96, zk12), (97, zk12), (98, zk11), (99, zk11), (100, zk34), (101, zk12), (102, zk12), (103, zk12), (104, zk12), (105, zk11), (106, zk11), (107, zk35), (108, zk12), (109, zk12), (110, zk12), (111, zk12), (112, zk11), (113, zk11), (114, zk36), (115, zk12), (116, zk12), (117, zk12), (118, zk12), (119, zk11), (120, zk11), (121, zk37), (122, zk12), (123, zk12), (124, zk12), (125, zk12), (126, zk11), (127, zk11), (128, zk38), (129, zk12), (130, zk12), (131, zk12), (132, zk12), (133, zk11), (134, zk11), (135, zk39), (136, zk12), (137, zk12), (138, zk12), (139, zk12), (140, zk11), (141, zk11), (142, zk40), (143, zk12), (144, zk12), (145, zk12), (146, zk12), (147, zk11), (148, zk11), (149, zk41), (150, zk12), (151, zk12), (152, zk12), (153, zk12), (154, zk11), (155, zk11), (156, zk42), (157, zk12), (158, zk12), (159, zk12), (160, zk12), (161, zk11), (162, zk11), (163, zk43), (164, zk12), (165, zk12), (166, zk12), (167, zk12), (168, zk11), (169, zk11), (170, zk44), (171, zk12), (172, zk12), (173, zk12), (174, zk12), (175, zk11), (176, zk11), (177, zk45), (178, zk12), (179, zk12), (180, zk12), (181, zk12), (182, zk11), (183, zk11), (184, zk46), (185, zk12), (186, zk12), (187, zk12), (188, zk12), (189, zk11), (190, zk11), (191, zk47), (192, zk12), (193, zk12), (194, zk12), (195, zk12), (196, zk11), (197, zk11), (198, zk48), (199, zk12), (200, zk12), (201, zk12), (202, zk12), (203, zk11), (204, zk11), (205, zk49), (206, zk12), (207, zk12), (208, zk12), (209, zk12), (210, zk11), (211, zk11), (212, zk50), (213, zk12), (214, zk12), (215, zk12), (216, zk12), (217, zk11), (218, zk11), (219, zk51), (220, zk12), (221, zk12), (222, zk12), (223, zk12), (224, zk11), (225, zk11), (226, zk52), (227, zk12), (228, zk12), (229, zk12), (230, zk12), (231, zk11), (232, zk11), (233, zk53), (234, zk12), (235, zk12), (236, zk12), (237, zk12), (238, zk11), (239, zk11), (240, zk54), (241, zk12), (242, zk12), (243, zk12), (244, zk12), (245, zk11), (246, zk11)]
noncomputable def al_X8_lend_7 : zAq := [(some (.inl 8589934591), [(0, zk1), (9, zk21), (11, zk12), (12, zk12), (15, zk5), (16, zk18), (17, zk18), (18, zk19), (19, zk4), (20, zk9), (21, zk10), (22, zk12), (23, zk57), (24, zk12), (25, zk12), (26, zk58), (27, zk11), (35, zk55), (36, zk24), (37, zk56), (38, zk57), (39, zk57), (40, zk57), (41, zk57), (42, zk58), (43, zk58), (44, zk59), (45, zk57), (46, zk57), (47, zk57), (48, zk57), (49, zk58), (50, zk58), (51, zk60), (52, zk57), (53, zk57), (54, zk57), (55, zk57), (56, zk58), (57, zk58), (58, zk61), (59, zk57), (60, zk57), (61, zk57), (62, zk57), (63, zk58), (64, zk58), (65, zk62), (66, zk57), (67, zk57), (68, zk57), (69, zk57), (70, zk58), (71, zk58), (72, zk63), (73, zk57), (74, zk57), (75, zk57), (76, zk57), (77, zk58), (78, zk58), (79, zk64), (80, zk57), (81, zk57), (82, zk57), (83, zk57), (84, zk58), (85, zk58), (86, zk65), (87, zk57), (88, zk57), (89, zk57), (90, zk57), (91, zk58), (92, zk58), (93, zk66), (94, zk57), (95, zk57), (96, zk57), (97, zk57), (98, zk58), (99, zk58), (100, zk67), (101, zk57), (102, zk57), (103, zk57), (104, zk57), (105, zk58), (106, zk58), (107, zk68), (108, zk57), (109, zk57), (110, zk57), (111, zk57), (112, zk58), (113, zk58), (114, zk69), (115, zk57), (116, zk57), (117, zk57), (118, zk57), (119, zk58), (120, zk58), (121, zk70), (122, zk57), (123, zk57), (124, zk57), (125, zk57), (126, zk58), (127, zk58), (128, zk71), (129, zk57), (130, zk57), (131, zk57), (132, zk57), (133, zk58), (134, zk58), (135, zk72), (136, zk57), (137, zk57), (138, zk57), (139, zk57), (140, zk58), (141, zk58), (142, zk73), (143, zk57), (144, zk57), (145, zk57), (146, zk57), (147, zk58), (148, zk58), (149, zk74), (150, zk57), (151, zk57), (152, zk57), (153, zk57), (154, zk58), (155, zk58), (156, zk75), (157, zk57), (158, zk57), (159, zk57), (160, zk57), (161, zk58), (162, zk58), (163, zk76), (164, zk57), (165, zk57), (166, zk57), (167, zk57), (168, zk58), (169, zk58), (170, zk77), (171, zk57), (172, zk57), (173, zk57), (174, zk57), (175, zk58), (176, zk58), (177, zk78), (178, zk57), (179, zk57), (180, zk57), (181, zk57), (182, zk58), (183, zk58), (184, zk79), (185, zk57), (186, zk57), (187, zk57), (188, zk57), (189, zk58), (190, zk58), (191, zk80), (192, zk57), (193, zk57), (194, zk57), (195, zk57), (196, zk58), (197, zk58), (198, zk81), (199, zk57), (200, zk57), (201, zk57), (202, zk57), (203, zk58), (204, zk58), (205, zk82), (206, zk57), (207, zk57), (208, zk57), (209, zk57), (210, zk58), (211, zk58), (212, zk83), (213, zk57), (214, zk57), (215, zk57), (216, zk57), (217, zk58), (218, zk58), (219, zk84), (220, zk57), (221, zk57), (222, zk57), (223, zk57), (224, zk58), (225, zk58), (226, zk85), (227, zk57), (228, zk57), (229, zk57), (230, zk57), (231, zk58), (232, zk58), (233, zk86), (234, zk57), (235, zk57), (236, zk57), (237, zk57), (238, zk58), (239, zk58), (240, zk87), (241, zk57), (242, zk57), (243, zk57), (244, zk57), (245, zk58), (246, zk58)])]
noncomputable def fm_X8_lend_7 : List zFm := [(0, [], (fun vs => [.inr (.ref 0), .inl 9223372043297226757, .inl 9223372043297226757, .inl 9223372047592195047]), (fun vs => zP q_X8_lend_7), (fun vs => Nat.sub (Nat.add 0 0) 0))]
def bf_X8_lend_7 : List Nat := []
theorem r_X8_lend_7_0 : zbox [] (fun vs => zFrun (zpost (zAlq al_X8_lend_7)) 1000 t_X8_lend fm_X8_lend_7 bf_X8_lend_7 (0, vs)) = true := by decide +kernel
set_option maxRecDepth 100000 in
theorem x_X8_lend_7 (d : Nat) : zS l G gh (d + 6) (zpost (zAlq al_X8_lend_7)) n_X8_lend (zn 0 p_X8_lend 0) (zwc (0, [.inr (.ref 0), .inl 9223372043297226757, .inl 9223372043297226757, .inl 9223372047592195047], zP q_X8_lend_7) 0) := zentry (tt_X8_lend d) fm_X8_lend_7 bf_X8_lend_7 1000 (by decide +kernel) rfl ⟨Nat.zero_lt_succ _, trivial⟩ (fun f hf => match f, hf with
  | 0, _ => fun vs hv => (zbox_t r_X8_lend_7_0) vs hv
  | f + 1, h => absurd (show f + 1 < 1 from h) (Nat.not_lt.mpr (Nat.le_add_left 1 f)))
noncomputable def gs_X8_lend_7 : zMt := zgq false [] 5 [.inr (.ref 0), .inl 9223372043297226757, .inl 9223372043297226757, .inl 9223372047592195047] q_X8_lend_7 al_X8_lend_7
set_option maxRecDepth 100000 in
theorem cs_X8_lend_7 (d : Nat) : zC l G gh (d + 6) n_X8_lend gs_X8_lend_7 := zgq_ok0 (pcs := p_X8_lend) (by decide) rfl rfl (fun a ha => by simp only [al_X8_lend_7, List.mem_cons, List.not_mem_nil, or_false] at ha; rcases ha with rfl <;> decide +kernel) (fun gh => x_X8_lend_7 d) (by decide +kernel)
def q_X8_lend_8 : List (Nat × Nat) := [(0, zk1), (9, zk21)]
noncomputable def al_X8_lend_8 : zAq := [(some (.inl 2147483647), [(0, zk1), (9, zk21)])]
noncomputable def fm_X8_lend_8 : List zFm := [(0, [], (fun vs => [.inr (.ref 0), .inl 9223372043297226757, .inl 9223372043297226757, .inl 6442450944]), (fun vs => zP q_X8_lend_8), (fun vs => Nat.sub (Nat.add 0 0) 0))]
def bf_X8_lend_8 : List Nat := []
theorem r_X8_lend_8_0 : zbox [] (fun vs => zFrun (zpost (zAlq al_X8_lend_8)) 1000 t_X8_lend fm_X8_lend_8 bf_X8_lend_8 (0, vs)) = true := by decide +kernel
set_option maxRecDepth 100000 in
theorem x_X8_lend_8 (d : Nat) : zS l G gh (d + 6) (zpost (zAlq al_X8_lend_8)) n_X8_lend (zn 0 p_X8_lend 0) (zwc (0, [.inr (.ref 0), .inl 9223372043297226757, .inl 9223372043297226757, .inl 6442450944], zP q_X8_lend_8) 0) := zentry (tt_X8_lend d) fm_X8_lend_8 bf_X8_lend_8 1000 (by decide +kernel) rfl ⟨Nat.zero_lt_succ _, trivial⟩ (fun f hf => match f, hf with
  | 0, _ => fun vs hv => (zbox_t r_X8_lend_8_0) vs hv
  | f + 1, h => absurd (show f + 1 < 1 from h) (Nat.not_lt.mpr (Nat.le_add_left 1 f)))
noncomputable def gs_X8_lend_8 : zMt := zgq false [] 5 [.inr (.ref 0), .inl 9223372043297226757, .inl 9223372043297226757, .inl 6442450944] q_X8_lend_8 al_X8_lend_8
set_option maxRecDepth 100000 in
theorem cs_X8_lend_8 (d : Nat) : zC l G gh (d + 6) n_X8_lend gs_X8_lend_8 := zgq_ok0 (pcs := p_X8_lend) (by decide) rfl rfl (fun a ha => by simp only [al_X8_lend_8, List.mem_cons, List.not_mem_nil, or_false] at ha; rcases ha with rfl <;> decide +kernel) (fun gh => x_X8_lend_8 d) (by decide +kernel)
def q_X8_lend_9 : List (Nat × Nat) := [(0, zk1), (9, zk21)]
noncomputable def al_X8_lend_9 : zAq := [(some (.inl 2147483647), [(0, zk1), (9, zk21)])]
noncomputable def fm_X8_lend_9 : List zFm := [(0, [], (fun vs => [.inr (.ref 0), .inl 9223372043297226757, .inl 9223372043297226757, .inl 9223376340412006399]), (fun vs => zP q_X8_lend_9), (fun vs => Nat.sub (Nat.add 0 0) 0))]
def bf_X8_lend_9 : List Nat := []
theorem r_X8_lend_9_0 : zbox [] (fun vs => zFrun (zpost (zAlq al_X8_lend_9)) 1000 t_X8_lend fm_X8_lend_9 bf_X8_lend_9 (0, vs)) = true := by decide +kernel
set_option maxRecDepth 100000 in
theorem x_X8_lend_9 (d : Nat) : zS l G gh (d + 6) (zpost (zAlq al_X8_lend_9)) n_X8_lend (zn 0 p_X8_lend 0) (zwc (0, [.inr (.ref 0), .inl 9223372043297226757, .inl 9223372043297226757, .inl 9223376340412006399], zP q_X8_lend_9) 0) := zentry (tt_X8_lend d) fm_X8_lend_9 bf_X8_lend_9 1000 (by decide +kernel) rfl ⟨Nat.zero_lt_succ _, trivial⟩ (fun f hf => match f, hf with
  | 0, _ => fun vs hv => (zbox_t r_X8_lend_9_0) vs hv
  | f + 1, h => absurd (show f + 1 < 1 from h) (Nat.not_lt.mpr (Nat.le_add_left 1 f)))
noncomputable def gs_X8_lend_9 : zMt := zgq false [] 5 [.inr (.ref 0), .inl 9223372043297226757, .inl 9223372043297226757, .inl 9223376340412006399] q_X8_lend_9 al_X8_lend_9
set_option maxRecDepth 100000 in
theorem cs_X8_lend_9 (d : Nat) : zC l G gh (d + 6) n_X8_lend gs_X8_lend_9 := zgq_ok0 (pcs := p_X8_lend) (by decide) rfl rfl (fun a ha => by simp only [al_X8_lend_9, List.mem_cons, List.not_mem_nil, or_false] at ha; rcases ha with rfl <;> decide +kernel) (fun gh => x_X8_lend_9 d) (by decide +kernel)
def q_X8_lend_10 : List (Nat × Nat) := [(0, zk1), (9, zk21)]
noncomputable def al_X8_lend_10 : zAq := [(some (.inl 2147483647), [(0, zk1), (9, zk21)])]
noncomputable def fm_X8_lend_10 : List zFm := [(0, [], (fun vs => [.inr (.ref 0), .inl 9223372043297226757, .inl 6442450943, .inl 8589934591]), (fun vs => zP q_X8_lend_10), (fun vs => Nat.sub (Nat.add 0 0) 0))]
def bf_X8_lend_10 : List Nat := []
theorem r_X8_lend_10_0 : zbox [] (fun vs => zFrun (zpost (zAlq al_X8_lend_10)) 1000 t_X8_lend fm_X8_lend_10 bf_X8_lend_10 (0, vs)) = true := by decide +kernel
set_option maxRecDepth 100000 in
theorem x_X8_lend_10 (d : Nat) : zS l G gh (d + 6) (zpost (zAlq al_X8_lend_10)) n_X8_lend (zn 0 p_X8_lend 0) (zwc (0, [.inr (.ref 0), .inl 9223372043297226757, .inl 6442450943, .inl 8589934591], zP q_X8_lend_10) 0) := zentry (tt_X8_lend d) fm_X8_lend_10 bf_X8_lend_10 1000 (by decide +kernel) rfl ⟨Nat.zero_lt_succ _, trivial⟩ (fun f hf => match f, hf with
  | 0, _ => fun vs hv => (zbox_t r_X8_lend_10_0) vs hv
  | f + 1, h => absurd (show f + 1 < 1 from h) (Nat.not_lt.mpr (Nat.le_add_left 1 f)))
noncomputable def gs_X8_lend_10 : zMt := zgq false [] 5 [.inr (.ref 0), .inl 9223372043297226757, .inl 6442450943, .inl 8589934591] q_X8_lend_10 al_X8_lend_10
set_option maxRecDepth 100000 in
theorem cs_X8_lend_10 (d : Nat) : zC l G gh (d + 6) n_X8_lend gs_X8_lend_10 := zgq_ok0 (pcs := p_X8_lend) (by decide) rfl rfl (fun a ha => by simp only [al_X8_lend_10, List.mem_cons, List.not_mem_nil, or_false] at ha; rcases ha with rfl <;> decide +kernel) (fun gh => x_X8_lend_10 d) (by decide +kernel)
def q_X8_lend_11 : List (Nat × Nat) := [(0, zk1), (9, zk21)]
noncomputable def al_X8_lend_11 : zAq := [(some (.inl 2147483647), [(0, zk1), (9, zk21)])]
noncomputable def fm_X8_lend_11 : List zFm := [(0, [], (fun vs => [.inr (.ref 0), .inl 9223372043297226757, .inl 9223372071214514175, .inl 8589934591]), (fun vs => zP q_X8_lend_11), (fun vs => Nat.sub (Nat.add 0 0) 0))]
def bf_X8_lend_11 : List Nat := []
theorem r_X8_lend_11_0 : zbox [] (fun vs => zFrun (zpost (zAlq al_X8_lend_11)) 1000 t_X8_lend fm_X8_lend_11 bf_X8_lend_11 (0, vs)) = true := by decide +kernel
set_option maxRecDepth 100000 in
theorem x_X8_lend_11 (d : Nat) : zS l G gh (d + 6) (zpost (zAlq al_X8_lend_11)) n_X8_lend (zn 0 p_X8_lend 0) (zwc (0, [.inr (.ref 0), .inl 9223372043297226757, .inl 9223372071214514175, .inl 8589934591], zP q_X8_lend_11) 0) := zentry (tt_X8_lend d) fm_X8_lend_11 bf_X8_lend_11 1000 (by decide +kernel) rfl ⟨Nat.zero_lt_succ _, trivial⟩ (fun f hf => match f, hf with
  | 0, _ => fun vs hv => (zbox_t r_X8_lend_11_0) vs hv
  | f + 1, h => absurd (show f + 1 < 1 from h) (Nat.not_lt.mpr (Nat.le_add_left 1 f)))
noncomputable def gs_X8_lend_11 : zMt := zgq false [] 5 [.inr (.ref 0), .inl 9223372043297226757, .inl 9223372071214514175, .inl 8589934591] q_X8_lend_11 al_X8_lend_11
set_option maxRecDepth 100000 in
theorem cs_X8_lend_11 (d : Nat) : zC l G gh (d + 6) n_X8_lend gs_X8_lend_11 := zgq_ok0 (pcs := p_X8_lend) (by decide) rfl rfl (fun a ha => by simp only [al_X8_lend_11, List.mem_cons, List.not_mem_nil, or_false] at ha; rcases ha with rfl <;> decide +kernel) (fun gh => x_X8_lend_11 d) (by decide +kernel)
def q_X8_lend_12 : List (Nat × Nat) := [(0, zk1)]
noncomputable def al_X8_lend_12 : zAq := [(some (.inl 2147483647), [(0, zk1)])]
noncomputable def fm_X8_lend_12 : List zFm := [(0, [], (fun vs => [.inr (.ref 0), .inl 6442450943, .inl 8589934591, .inl 8589934591]), (fun vs => zP q_X8_lend_12), (fun vs => Nat.sub (Nat.add 0 0) 0))]
def bf_X8_lend_12 : List Nat := []
theorem r_X8_lend_12_0 : zbox [] (fun vs => zFrun (zpost (zAlq al_X8_lend_12)) 1000 t_X8_lend fm_X8_lend_12 bf_X8_lend_12 (0, vs)) = true := by decide +kernel
set_option maxRecDepth 100000 in
theorem x_X8_lend_12 (d : Nat) : zS l G gh (d + 6) (zpost (zAlq al_X8_lend_12)) n_X8_lend (zn 0 p_X8_lend 0) (zwc (0, [.inr (.ref 0), .inl 6442450943, .inl 8589934591, .inl 8589934591], zP q_X8_lend_12) 0) := zentry (tt_X8_lend d) fm_X8_lend_12 bf_X8_lend_12 1000 (by decide +kernel) rfl ⟨Nat.zero_lt_succ _, trivial⟩ (fun f hf => match f, hf with
  | 0, _ => fun vs hv => (zbox_t r_X8_lend_12_0) vs hv
  | f + 1, h => absurd (show f + 1 < 1 from h) (Nat.not_lt.mpr (Nat.le_add_left 1 f)))
noncomputable def gs_X8_lend_12 : zMt := zgq false [] 5 [.inr (.ref 0), .inl 6442450943, .inl 8589934591, .inl 8589934591] q_X8_lend_12 al_X8_lend_12
set_option maxRecDepth 100000 in
theorem cs_X8_lend_12 (d : Nat) : zC l G gh (d + 6) n_X8_lend gs_X8_lend_12 := zgq_ok0 (pcs := p_X8_lend) (by decide) rfl rfl (fun a ha => by simp only [al_X8_lend_12, List.mem_cons, List.not_mem_nil, or_false] at ha; rcases ha with rfl <;> decide +kernel) (fun gh => x_X8_lend_12 d) (by decide +kernel)
def q_X8_lend_13 : List (Nat × Nat) := [(0, zk1), (9, zk21)]
noncomputable def al_X8_lend_13 : zAq := [(some (.inl 2147483647), [(0, zk1), (9, zk21)])]
noncomputable def fm_X8_lend_13 : List zFm := [(0, [], (fun vs => [.inr (.ref 0), .inl 9223372071214514175, .inl 8589934591, .inl 8589934591]), (fun vs => zP q_X8_lend_13), (fun vs => Nat.sub (Nat.add 0 0) 0))]
def bf_X8_lend_13 : List Nat := []
theorem r_X8_lend_13_0 : zbox [] (fun vs => zFrun (zpost (zAlq al_X8_lend_13)) 1000 t_X8_lend fm_X8_lend_13 bf_X8_lend_13 (0, vs)) = true := by decide +kernel
set_option maxRecDepth 100000 in
theorem x_X8_lend_13 (d : Nat) : zS l G gh (d + 6) (zpost (zAlq al_X8_lend_13)) n_X8_lend (zn 0 p_X8_lend 0) (zwc (0, [.inr (.ref 0), .inl 9223372071214514175, .inl 8589934591, .inl 8589934591], zP q_X8_lend_13) 0) := zentry (tt_X8_lend d) fm_X8_lend_13 bf_X8_lend_13 1000 (by decide +kernel) rfl ⟨Nat.zero_lt_succ _, trivial⟩ (fun f hf => match f, hf with
  | 0, _ => fun vs hv => (zbox_t r_X8_lend_13_0) vs hv
  | f + 1, h => absurd (show f + 1 < 1 from h) (Nat.not_lt.mpr (Nat.le_add_left 1 f)))
noncomputable def gs_X8_lend_13 : zMt := zgq false [] 5 [.inr (.ref 0), .inl 9223372071214514175, .inl 8589934591, .inl 8589934591] q_X8_lend_13 al_X8_lend_13
set_option maxRecDepth 100000 in
theorem cs_X8_lend_13 (d : Nat) : zC l G gh (d + 6) n_X8_lend gs_X8_lend_13 := zgq_ok0 (pcs := p_X8_lend) (by decide) rfl rfl (fun a ha => by simp only [al_X8_lend_13, List.mem_cons, List.not_mem_nil, or_false] at ha; rcases ha with rfl <;> decide +kernel) (fun gh => x_X8_lend_13 d) (by decide +kernel)
noncomputable def gs_X8_lend : zMt := (zor gs_X8_lend_0 (zor gs_X8_lend_1 (zor gs_X8_lend_2 (zor gs_X8_lend_3 (zor gs_X8_lend_4 (zor gs_X8_lend_5 (zor gs_X8_lend_6 (zor gs_X8_lend_7 (zor gs_X8_lend_8 (zor gs_X8_lend_9 (zor gs_X8_lend_10 (zor gs_X8_lend_11 (zor gs_X8_lend_12 gs_X8_lend_13)))))))))))))
theorem cs_X8_lend (d : Nat) : zC l G gh (d + 6) n_X8_lend gs_X8_lend := (zor_ok (cs_X8_lend_0 d) (zor_ok (cs_X8_lend_1 d) (zor_ok (cs_X8_lend_2 d) (zor_ok (cs_X8_lend_3 d) (zor_ok (cs_X8_lend_4 d) (zor_ok (cs_X8_lend_5 d) (zor_ok (cs_X8_lend_6 d) (zor_ok (cs_X8_lend_7 d) (zor_ok (cs_X8_lend_8 d) (zor_ok (cs_X8_lend_9 d) (zor_ok (cs_X8_lend_10 d) (zor_ok (cs_X8_lend_11 d) (zor_ok (cs_X8_lend_12 d) (cs_X8_lend_13 d))))))))))))))
end
