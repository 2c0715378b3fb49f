section
variable {l : Launch} {G : qG} {gh : zGh}
noncomputable def fv_X7_worstLeft : zMt := zmet 8 [b_X7_worstLeft_0, b_X7_worstLeft_1, b_X7_worstLeft_2, b_X7_worstLeft_3, gC, b_X7_worstLeft_5, b_X7_worstLeft_6, b_X7_worstLeft_7, b_X7_worstLeft_8]
theorem cv_X7_worstLeft (d : Nat) : zC l G gh (d + 5) n_X7_worstLeft fv_X7_worstLeft := zmet_ok (pcs := p_X7_worstLeft) (by decide) rfl rfl ⟨s_X7_worstLeft_0 d, s_X7_worstLeft_1 d, s_X7_worstLeft_2 d, s_X7_worstLeft_3 d, gC_ok, s_X7_worstLeft_5 d, s_X7_worstLeft_6 d, s_X7_worstLeft_7 d, s_X7_worstLeft_8 d, trivial⟩
noncomputable def bv_X7_lookFrom_0 : zBl := fun jp K => oAld 1 <| oIld 2 <| oCv 0 1 f_X0_heat <| oIst 3 <| oInt 2147483648 <| oIst 4 <| oInt 2147483829 <| oIst 5 <| oInt 2147483648 <| oIst 6 <| jp 1
theorem sv_X7_lookFrom_0 (d : Nat) : zPb l G gh (d + 6) n_X7_lookFrom p_X7_lookFrom 0 bv_X7_lookFrom_0 := fun K jp hj =>
    z_aload_n (n := 1) (i := 1) (zd (i := .aload_n 1) (n := 1) (by decide +kernel)) rfl <|
    z_iload_n (n := 2) (i := 2) (zd (i := .iload_n 2) (n := 1) (by decide +kernel)) rfl <|
    z_callV (idx := 32) (ci := 0) (N := n_X0_heat) (zd (i := .invokevirtual 32) (n := 3) (by decide +kernel)) to_X0_heat g1046 g717 g718 (by decide +kernel) rfl rfl rfl (c_X0_heat (l := l) (G := G) (gh := gh) (d + 1)) <|
    z_istore_n (n := 3) (i := 3) (zd (i := .istore_n 3) (n := 1) (by decide +kernel)) rfl (by decide +kernel) <|
    z_iconst (n := 0) (zd (i := .iconst (0)) (n := 1) (by decide +kernel)) (by decide +kernel) <|
    z_istore (i := 4) (zd (i := .istore 4) (n := 2) (by decide +kernel)) (by decide +kernel) <|
    z_sipush (n := 181) (zd (i := .sipush (181)) (n := 3) (by decide +kernel)) (by decide +kernel) <|
    z_istore (i := 5) (zd (i := .istore 5) (n := 2) (by decide +kernel)) (by decide +kernel) <|
    z_iconst (n := 0) (zd (i := .iconst (0)) (n := 1) (by decide +kernel)) (by decide +kernel) <|
    z_istore (i := 6) (zd (i := .istore 6) (n := 2) (by decide +kernel)) (by decide +kernel) <|
    (zj (hj 1) (by decide +kernel))
noncomputable def bv_X7_lookFrom_1 : zBl := fun jp K => oIld 6 <| oInt 2147483668 <| oIc zge zlt (jp 5) (jp 2)
theorem sv_X7_lookFrom_1 (d : Nat) : zPb l G gh (d + 6) n_X7_lookFrom p_X7_lookFrom 17 bv_X7_lookFrom_1 := fun K jp hj =>
    z_iload (i := 6) (zd (i := .iload 6) (n := 2) (by decide +kernel)) <|
    z_bipush (n := 20) (zd (i := .bipush (20)) (n := 2) (by decide +kernel)) (by decide +kernel) <|
    z_icmp_ge (off := 35) (tgt := 56) (zd (i := .if_icmp .ge (35)) (n := 3) (by decide +kernel)) (by decide +kernel) (zj (hj 5) (by decide +kernel)) (zj (hj 2) (by decide +kernel))
noncomputable def bv_X7_lookFrom_2 : zBl := fun jp K => oAld 0 <| oAld 1 <| oIld 6 <| oIld 2 <| oIld 3 <| oCv 7 4 fv_X7_worstLeft <| oIst 7 <| oIld 7 <| oIld 5 <| oIc zge zlt (jp 4) (jp 3)
theorem sv_X7_lookFrom_2 (d : Nat) : zPb l G gh (d + 6) n_X7_lookFrom p_X7_lookFrom 24 bv_X7_lookFrom_2 := fun K jp hj =>
    z_aload_n (n := 0) (i := 0) (zd (i := .aload_n 0) (n := 1) (by decide +kernel)) rfl <|
    z_aload_n (n := 1) (i := 1) (zd (i := .aload_n 1) (n := 1) (by decide +kernel)) rfl <|
    z_iload (i := 6) (zd (i := .iload 6) (n := 2) (by decide +kernel)) <|
    z_iload_n (n := 2) (i := 2) (zd (i := .iload_n 2) (n := 1) (by decide +kernel)) rfl <|
    z_iload_n (n := 3) (i := 3) (zd (i := .iload_n 3) (n := 1) (by decide +kernel)) rfl <|
    z_callV (idx := 62) (ci := 7) (N := n_X7_worstLeft) (zd (i := .invokevirtual 62) (n := 3) (by decide +kernel)) to_X7_worstLeft g1075 g1077 g39 (by decide +kernel) rfl rfl rfl (cv_X7_worstLeft (l := l) (G := G) (gh := gh) d) <|
    z_istore (i := 7) (zd (i := .istore 7) (n := 2) (by decide +kernel)) (by decide +kernel) <|
    z_iload (i := 7) (zd (i := .iload 7) (n := 2) (by decide +kernel)) <|
    z_iload (i := 5) (zd (i := .iload 5) (n := 2) (by decide +kernel)) <|
    z_icmp_ge (off := 11) (tgt := 50) (zd (i := .if_icmp .ge (11)) (n := 3) (by decide +kernel)) (by decide +kernel) (zj (hj 4) (by decide +kernel)) (zj (hj 3) (by decide +kernel))
noncomputable def bv_X7_lookFrom_3 : zBl := fun jp K => oIld 7 <| oIst 5 <| oIld 6 <| oIst 4 <| jp 4
theorem sv_X7_lookFrom_3 (d : Nat) : zPb l G gh (d + 6) n_X7_lookFrom p_X7_lookFrom 42 bv_X7_lookFrom_3 := fun K jp hj =>
    z_iload (i := 7) (zd (i := .iload 7) (n := 2) (by decide +kernel)) <|
    z_istore (i := 5) (zd (i := .istore 5) (n := 2) (by decide +kernel)) (by decide +kernel) <|
    z_iload (i := 6) (zd (i := .iload 6) (n := 2) (by decide +kernel)) <|
    z_istore (i := 4) (zd (i := .istore 4) (n := 2) (by decide +kernel)) (by decide +kernel) <|
    (zj (hj 4) (by decide +kernel))
noncomputable def bv_X7_lookFrom_4 : zBl := fun jp K => oInc 6 2147483649 <| jp 1
theorem sv_X7_lookFrom_4 (d : Nat) : zPb l G gh (d + 6) n_X7_lookFrom p_X7_lookFrom 50 bv_X7_lookFrom_4 := fun K jp hj =>
    z_iinc (i := 6) (n := 1) (zd (i := .iinc 6 (1)) (n := 3) (by decide +kernel)) (by decide +kernel) (by decide +kernel) <|
    z_goto (off := -36) (tgt := 17) (zd (i := .goto (-36)) (n := 3) (by decide +kernel)) (by decide +kernel) (zj (hj 1) (by decide +kernel))
noncomputable def bv_X7_lookFrom_5 : zBl := fun jp K => oIld 4 <| oIret K
theorem sv_X7_lookFrom_5 (d : Nat) : zPb l G gh (d + 6) n_X7_lookFrom p_X7_lookFrom 56 bv_X7_lookFrom_5 := fun K jp hj =>
    z_iload (i := 4) (zd (i := .iload 4) (n := 2) (by decide +kernel)) <|
    z_iret (zd (i := .ireturn) (n := 1) (by decide +kernel)) rfl
noncomputable def fv_X7_lookFrom : zMt := zmet 8 [bv_X7_lookFrom_0, bv_X7_lookFrom_1, bv_X7_lookFrom_2, bv_X7_lookFrom_3, bv_X7_lookFrom_4, bv_X7_lookFrom_5]
theorem cv_X7_lookFrom (d : Nat) : zC l G gh (d + 6) n_X7_lookFrom fv_X7_lookFrom := zmet_ok (pcs := p_X7_lookFrom) (by decide) rfl rfl ⟨sv_X7_lookFrom_0 d, sv_X7_lookFrom_1 d, sv_X7_lookFrom_2 d, sv_X7_lookFrom_3 d, sv_X7_lookFrom_4 d, sv_X7_lookFrom_5 d, trivial⟩
noncomputable def bv_X8_look_0 : zBl := fun jp K => oAld 0 <| oIld 1 <| oCv 8 1 f_X8_isKnown <| oIf zeq zne (jp 3) (jp 1)
theorem sv_X8_look_0 (d : Nat) : zPb l G gh (d + 7) n_X8_look p_X8_look 0 bv_X8_look_0 := fun K jp hj =>
    z_aload_n (n := 0) (i := 0) (zd (i := .aload_n 0) (n := 1) (by decide +kernel)) rfl <|
    z_iload_n (n := 1) (i := 1) (zd (i := .iload_n 1) (n := 1) (by decide +kernel)) rfl <|
    z_callV (idx := 300) (ci := 8) (N := n_X8_isKnown) (zd (i := .invokevirtual 300) (n := 3) (by decide +kernel)) to_X8_isKnown g1038 g1040 g37 (by decide +kernel) rfl rfl rfl (c_X8_isKnown (l := l) (G := G) (gh := gh) (d + 5)) <|
    z_if_eq (off := 13) (tgt := 18) (zd (i := .ifCond .eq (13)) (n := 3) (by decide +kernel)) (by decide +kernel) (zj (hj 3) (by decide +kernel)) (zj (hj 1) (by decide +kernel))
noncomputable def bv_X8_look_1 : zBl := fun jp K => oIld 2 <| oIf zlt zge (jp 3) (jp 2)
theorem sv_X8_look_1 (d : Nat) : zPb l G gh (d + 7) n_X8_look p_X8_look 8 bv_X8_look_1 := fun K jp hj =>
    z_iload_n (n := 2) (i := 2) (zd (i := .iload_n 2) (n := 1) (by decide +kernel)) rfl <|
    z_if_lt (off := 9) (tgt := 18) (zd (i := .ifCond .lt (9)) (n := 3) (by decide +kernel)) (by decide +kernel) (zj (hj 3) (by decide +kernel)) (zj (hj 2) (by decide +kernel))
noncomputable def bv_X8_look_2 : zBl := fun jp K => oIld 2 <| oInt 2147483672 <| oIc zle zgt (jp 4) (jp 3)
theorem sv_X8_look_2 (d : Nat) : zPb l G gh (d + 7) n_X8_look p_X8_look 12 bv_X8_look_2 := fun K jp hj =>
    z_iload_n (n := 2) (i := 2) (zd (i := .iload_n 2) (n := 1) (by decide +kernel)) rfl <|
    z_bipush (n := 24) (zd (i := .bipush (24)) (n := 2) (by decide +kernel)) (by decide +kernel) <|
    z_icmp_le (off := 5) (tgt := 20) (zd (i := .if_icmp .le (5)) (n := 3) (by decide +kernel)) (by decide +kernel) (zj (hj 4) (by decide +kernel)) (zj (hj 3) (by decide +kernel))
noncomputable def bv_X8_look_3 : zBl := fun jp K => oInt 2147483647 <| oIret K
theorem sv_X8_look_3 (d : Nat) : zPb l G gh (d + 7) n_X8_look p_X8_look 18 bv_X8_look_3 := fun K jp hj =>
    z_iconst (n := -1) (zd (i := .iconst (-1)) (n := 1) (by decide +kernel)) (by decide +kernel) <|
    z_iret (zd (i := .ireturn) (n := 1) (by decide +kernel)) rfl
noncomputable def bv_X8_look_4 : zBl := fun jp K => oAld 0 <| oGetR 8 7 <| oAld 0 <| oGetR 8 12 <| oIld 1 <| oCv 7 2 f_X7_sift <| oIf zne zeq (jp 5) (oFail)
theorem sv_X8_look_4 (d : Nat) : zPb l G gh (d + 7) n_X8_look p_X8_look 20 bv_X8_look_4 := fun K jp hj =>
    z_aload_n (n := 0) (i := 0) (zd (i := .aload_n 0) (n := 1) (by decide +kernel)) rfl <|
    z_getR (ci := 8) (j := 7) (idx := 51) (zd (i := .getfield 51) (n := 3) (by decide +kernel)) (by decide +kernel) (by decide +kernel) rfl g459 <|
    z_aload_n (n := 0) (i := 0) (zd (i := .aload_n 0) (n := 1) (by decide +kernel)) rfl <|
    z_getR (ci := 8) (j := 12) (idx := 71) (zd (i := .getfield 71) (n := 3) (by decide +kernel)) (by decide +kernel) (by decide +kernel) rfl g464 <|
    z_iload_n (n := 1) (i := 1) (zd (i := .iload_n 1) (n := 1) (by decide +kernel)) rfl <|
    z_callV (idx := 303) (ci := 7) (N := n_X7_sift) (zd (i := .invokevirtual 303) (n := 3) (by decide +kernel)) to_X7_sift g1042 g1043 g1044 (by decide +kernel) rfl rfl rfl (c_X7_sift (l := l) (G := G) (gh := gh) (d + 5)) <|
    z_if_ne (off := 8) (tgt := 40) (zd (i := .ifCond .ne (8)) (n := 3) (by decide +kernel)) (by decide +kernel) (zj (hj 5) (by decide +kernel)) z_fail
noncomputable def bv_X8_look_5 : zBl := fun jp K => oAld 0 <| oGetR 8 7 <| oAld 0 <| oGetR 8 12 <| oAld 0 <| oGetR 8 2 <| oGetI 4 0 <| oIld 2 <| oB2 zadd <| oCv 7 2 fv_X7_lookFrom <| jp 6
theorem sv_X8_look_5 (d : Nat) : zPb l G gh (d + 7) n_X8_look p_X8_look 40 bv_X8_look_5 := fun K jp hj =>
    z_aload_n (n := 0) (i := 0) (zd (i := .aload_n 0) (n := 1) (by decide +kernel)) rfl <|
    z_getR (ci := 8) (j := 7) (idx := 51) (zd (i := .getfield 51) (n := 3) (by decide +kernel)) (by decide +kernel) (by decide +kernel) rfl g459 <|
    z_aload_n (n := 0) (i := 0) (zd (i := .aload_n 0) (n := 1) (by decide +kernel)) rfl <|
    z_getR (ci := 8) (j := 12) (idx := 71) (zd (i := .getfield 71) (n := 3) (by decide +kernel)) (by decide +kernel) (by decide +kernel) rfl g464 <|
    z_aload_n (n := 0) (i := 0) (zd (i := .aload_n 0) (n := 1) (by decide +kernel)) rfl <|
    z_getR (ci := 8) (j := 2) (idx := 26) (zd (i := .getfield 26) (n := 3) (by decide +kernel)) (by decide +kernel) (by decide +kernel) rfl g454 <|
    z_getI (ci := 4) (j := 0) (idx := 140) (zd (i := .getfield 140) (n := 3) (by decide +kernel)) (by decide +kernel) (by decide +kernel) rfl g368 <|
    z_iload_n (n := 2) (i := 2) (zd (i := .iload_n 2) (n := 1) (by decide +kernel)) rfl <|
    z_iadd (zd (i := .iadd) (n := 1) (by decide +kernel)) <|
    z_callV (idx := 311) (ci := 7) (N := n_X7_lookFrom) (zd (i := .invokevirtual 311) (n := 3) (by decide +kernel)) to_X7_lookFrom g1071 g1072 g1073 (by decide +kernel) rfl rfl rfl (cv_X7_lookFrom (l := l) (G := G) (gh := gh) d) <|
    (zj (hj 6) (by decide +kernel))
noncomputable def bv_X8_look_6 : zBl := fun jp K => oIret K
theorem sv_X8_look_6 (d : Nat) : zPb l G gh (d + 7) n_X8_look p_X8_look 60 bv_X8_look_6 := fun K jp hj =>
    z_iret (zd (i := .ireturn) (n := 1) (by decide +kernel)) rfl
noncomputable def fv_X8_look : zMt := zmet 3 [bv_X8_look_0, bv_X8_look_1, bv_X8_look_2, bv_X8_look_3, bv_X8_look_4, bv_X8_look_5, bv_X8_look_6]
theorem cv_X8_look (d : Nat) : zC l G gh (d + 7) n_X8_look fv_X8_look := zmet_ok (pcs := p_X8_look) (by decide) rfl rfl ⟨sv_X8_look_0 d, sv_X8_look_1 d, sv_X8_look_2 d, sv_X8_look_3 d, sv_X8_look_4 d, sv_X8_look_5 d, sv_X8_look_6 d, trivial⟩
end
