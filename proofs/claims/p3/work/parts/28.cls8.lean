section
variable {l : Launch} {G : qG} {gh : zGh}
def n_X1_takeLaw : qMn := (yX1_takeLaw, cX1_takeLaw, 4, none, 0, 0)
theorem to_X1_takeLaw : qTo n_X1_takeLaw 1 := ⟨g653, g99, ⟨by decide, by decide, by decide +kernel⟩, by decide⟩
def p_X1_takeLaw : List Nat := [0, 10, 14, 15, 31, 36, 43, 53, 58, 63, 83, 87, 88, 107, 111, 112, 145, 149, 150, 184]
noncomputable def b_X1_takeLaw_0 : zBl := fun jp K => oAld 0 <| oNFC 0 1 3 2147483709 zneN zeqN zn1_ne zn1_eq (jp 2) (jp 1)
theorem s_X1_takeLaw_0 (d : Nat) : zPb l G gh (d + 23) n_X1_takeLaw p_X1_takeLaw 0 b_X1_takeLaw_0 := fun K jp hj =>
    z_aload_n (n := 0) (i := 0) (zd (i := .aload_n 0) (n := 1) (by decide +kernel)) rfl <|
    z_nFC_ne (r := 0) (ci := 1) (j := 3) (c0 := 2147483709) (a1 := 4) (a2 := 2) (off := 7) (tgt := 14) (zFd_n (n := 0) (r := 0) (ci := 1) (j := 3) (idx := 29) (zd (i := .aload_n 0) (n := 1) (by decide +kernel)) rfl (zd (i := .getfield 29) (n := 3) (by decide +kernel)) (by decide +kernel) (by decide +kernel) rfl g338) (by decide +kernel) rfl (zCn_b (n := 61) (zd (i := .bipush (61)) (n := 2) (by decide +kernel)) (by decide +kernel)) (zd (i := .if_icmp .ne (7)) (n := 3) (by decide +kernel)) (by decide +kernel) (zj (hj 2) (by decide +kernel)) (zj (hj 1) (by decide +kernel))
noncomputable def b_X1_takeLaw_1 : zBl := fun jp K => oInt 2147483649 <| jp 3
theorem s_X1_takeLaw_1 (d : Nat) : zPb l G gh (d + 23) n_X1_takeLaw p_X1_takeLaw 10 b_X1_takeLaw_1 := fun K jp hj =>
    z_iconst (n := 1) (zd (i := .iconst (1)) (n := 1) (by decide +kernel)) (by decide +kernel) <|
    z_goto (off := 4) (tgt := 15) (zd (i := .goto (4)) (n := 3) (by decide +kernel)) (by decide +kernel) (zj (hj 3) (by decide +kernel))
noncomputable def b_X1_takeLaw_2 : zBl := fun jp K => oInt 2147483648 <| jp 3
theorem s_X1_takeLaw_2 (d : Nat) : zPb l G gh (d + 23) n_X1_takeLaw p_X1_takeLaw 14 b_X1_takeLaw_2 := fun K jp hj =>
    z_iconst (n := 0) (zd (i := .iconst (0)) (n := 1) (by decide +kernel)) (by decide +kernel) <|
    (zj (hj 3) (by decide +kernel))
noncomputable def b_X1_takeLaw_3 : zBl := fun jp K => oCv 1 1 gs_X1_take <| oAld 0 <| oGetR 1 1 <| oGetR 0 12 <| oIld 1 <| oCv 2 1 f_X2_open <| oInt 2147483648 <| oIst 2 <| jp 4
theorem s_X1_takeLaw_3 (d : Nat) : zPb l G gh (d + 23) n_X1_takeLaw p_X1_takeLaw 15 b_X1_takeLaw_3 := fun K jp hj =>
    z_callV (idx := 71) (ci := 1) (N := n_X1_take) (zd (i := .invokevirtual 71) (n := 3) (by decide +kernel)) to_X1_take g626 g628 g7 (by decide +kernel) rfl rfl rfl (cs_X1_take (l := l) (G := G) (gh := gh) (d + 21)) <|
    z_aload_n (n := 0) (i := 0) (zd (i := .aload_n 0) (n := 1) (by decide +kernel)) rfl <|
    z_getR (ci := 1) (j := 1) (idx := 21) (zd (i := .getfield 21) (n := 3) (by decide +kernel)) (by decide +kernel) (by decide +kernel) rfl g336 <|
    z_getR (ci := 0) (j := 12) (idx := 116) (zd (i := .getfield 116) (n := 3) (by decide +kernel)) (by decide +kernel) (by decide +kernel) rfl g307 <|
    z_iload_n (n := 1) (i := 1) (zd (i := .iload_n 1) (n := 1) (by decide +kernel)) rfl <|
    z_callV (idx := 120) (ci := 2) (N := n_X2_open) (zd (i := .invokevirtual 120) (n := 3) (by decide +kernel)) to_X2_open g654 g269 g270 (by decide +kernel) rfl rfl rfl (c_X2_open (l := l) (G := G) (gh := gh) (d + 21)) <|
    z_iconst (n := 0) (zd (i := .iconst (0)) (n := 1) (by decide +kernel)) (by decide +kernel) <|
    z_istore_n (n := 2) (i := 2) (zd (i := .istore_n 2) (n := 1) (by decide +kernel)) rfl (by decide +kernel) <|
    (zj (hj 4) (by decide +kernel))
noncomputable def b_X1_takeLaw_4 : zBl := fun jp K => oNLC 2 2147483652 zgtN zleN zn1_gt zn1_le (jp 19) (jp 5)
theorem s_X1_takeLaw_4 (d : Nat) : zPb l G gh (d + 23) n_X1_takeLaw p_X1_takeLaw 31 b_X1_takeLaw_4 := fun K jp hj =>
    z_nLC_gt (i := 2) (c0 := 2147483652) (a1 := 1) (a2 := 1) (off := 151) (tgt := 184) (zLd_n (n := 2) (i := 2) (zd (i := .iload_n 2) (n := 1) (by decide +kernel)) rfl) (zCn_c (n := 4) (zd (i := .iconst (4)) (n := 1) (by decide +kernel)) (by decide +kernel)) (zd (i := .if_icmp .gt (151)) (n := 3) (by decide +kernel)) (by decide +kernel) (zj (hj 19) (by decide +kernel)) (zj (hj 5) (by decide +kernel))
noncomputable def b_X1_takeLaw_5 : zBl := fun jp K => oNFC 0 1 4 2147483648 zneN zeqN zn1_ne zn1_eq (jp 19) (jp 6)
theorem s_X1_takeLaw_5 (d : Nat) : zPb l G gh (d + 23) n_X1_takeLaw p_X1_takeLaw 36 b_X1_takeLaw_5 := fun K jp hj =>
    z_nF0_ne (r := 0) (ci := 1) (j := 4) (a1 := 4) (off := 144) (tgt := 184) (zFd_n (n := 0) (r := 0) (ci := 1) (j := 4) (idx := 32) (zd (i := .aload_n 0) (n := 1) (by decide +kernel)) rfl (zd (i := .getfield 32) (n := 3) (by decide +kernel)) (by decide +kernel) (by decide +kernel) rfl g339) (by decide +kernel) rfl (zd (i := .ifCond .ne (144)) (n := 3) (by decide +kernel)) (by decide +kernel) (zj (hj 19) (by decide +kernel)) (zj (hj 6) (by decide +kernel))
noncomputable def b_X1_takeLaw_6 : zBl := fun jp K => oNFC 0 1 3 2147483787 zneN zeqN zn1_ne zn1_eq (jp 19) (jp 7)
theorem s_X1_takeLaw_6 (d : Nat) : zPb l G gh (d + 23) n_X1_takeLaw p_X1_takeLaw 43 b_X1_takeLaw_6 := fun K jp hj =>
    z_nFC_ne (r := 0) (ci := 1) (j := 3) (c0 := 2147483787) (a1 := 4) (a2 := 3) (off := 134) (tgt := 184) (zFd_n (n := 0) (r := 0) (ci := 1) (j := 3) (idx := 29) (zd (i := .aload_n 0) (n := 1) (by decide +kernel)) rfl (zd (i := .getfield 29) (n := 3) (by decide +kernel)) (by decide +kernel) (by decide +kernel) rfl g338) (by decide +kernel) rfl (zCn_s (n := 139) (zd (i := .sipush (139)) (n := 3) (by decide +kernel)) (by decide +kernel)) (zd (i := .if_icmp .ne (134)) (n := 3) (by decide +kernel)) (by decide +kernel) (zj (hj 19) (by decide +kernel)) (zj (hj 7) (by decide +kernel))
noncomputable def b_X1_takeLaw_7 : zBl := fun jp K => oNLC 2 2147483652 zneN zeqN zn1_ne zn1_eq (jp 9) (jp 8)
theorem s_X1_takeLaw_7 (d : Nat) : zPb l G gh (d + 23) n_X1_takeLaw p_X1_takeLaw 53 b_X1_takeLaw_7 := fun K jp hj =>
    z_nLC_ne (i := 2) (c0 := 2147483652) (a1 := 1) (a2 := 1) (off := 8) (tgt := 63) (zLd_n (n := 2) (i := 2) (zd (i := .iload_n 2) (n := 1) (by decide +kernel)) rfl) (zCn_c (n := 4) (zd (i := .iconst (4)) (n := 1) (by decide +kernel)) (by decide +kernel)) (zd (i := .if_icmp .ne (8)) (n := 3) (by decide +kernel)) (by decide +kernel) (zj (hj 9) (by decide +kernel)) (zj (hj 8) (by decide +kernel))
noncomputable def b_X1_takeLaw_8 : zBl := fun jp K => oAld 0 <| oInt 2147483650 <| oCv 1 1 f_X1_fail <| jp 9
theorem s_X1_takeLaw_8 (d : Nat) : zPb l G gh (d + 23) n_X1_takeLaw p_X1_takeLaw 58 b_X1_takeLaw_8 := fun K jp hj =>
    z_aload_n (n := 0) (i := 0) (zd (i := .aload_n 0) (n := 1) (by decide +kernel)) rfl <|
    z_iconst (n := 2) (zd (i := .iconst (2)) (n := 1) (by decide +kernel)) (by decide +kernel) <|
    z_callV (idx := 67) (ci := 1) (N := n_X1_fail) (zd (i := .invokevirtual 67) (n := 3) (by decide +kernel)) to_X1_fail g622 g624 g6 (by decide +kernel) rfl rfl rfl (c_X1_fail (l := l) (G := G) (gh := gh) (d + 21)) <|
    (zj (hj 9) (by decide +kernel))
noncomputable def b_X1_takeLaw_9 : zBl := fun jp K => oAld 0 <| oInt 2147483649 <| oCv 1 1 gs_X1_take <| oAld 0 <| oInt 2147483648 <| oCv 1 1 gs_X1_takeSum <| oAld 0 <| oNFC 0 1 3 2147483708 zneN zeqN zn1_ne zn1_eq (jp 11) (jp 10)
theorem s_X1_takeLaw_9 (d : Nat) : zPb l G gh (d + 23) n_X1_takeLaw p_X1_takeLaw 63 b_X1_takeLaw_9 := fun K jp hj =>
    z_aload_n (n := 0) (i := 0) (zd (i := .aload_n 0) (n := 1) (by decide +kernel)) rfl <|
    z_iconst (n := 1) (zd (i := .iconst (1)) (n := 1) (by decide +kernel)) (by decide +kernel) <|
    z_callV (idx := 71) (ci := 1) (N := n_X1_take) (zd (i := .invokevirtual 71) (n := 3) (by decide +kernel)) to_X1_take g626 g628 g7 (by decide +kernel) rfl rfl rfl (cs_X1_take (l := l) (G := G) (gh := gh) (d + 21)) <|
    z_aload_n (n := 0) (i := 0) (zd (i := .aload_n 0) (n := 1) (by decide +kernel)) rfl <|
    z_iconst (n := 0) (zd (i := .iconst (0)) (n := 1) (by decide +kernel)) (by decide +kernel) <|
    z_callV (idx := 125) (ci := 1) (N := n_X1_takeSum) (zd (i := .invokevirtual 125) (n := 3) (by decide +kernel)) to_X1_takeSum g655 g657 g12 (by decide +kernel) rfl rfl rfl (cs_X1_takeSum (l := l) (G := G) (gh := gh) (d)) <|
    z_aload_n (n := 0) (i := 0) (zd (i := .aload_n 0) (n := 1) (by decide +kernel)) rfl <|
    z_nFC_ne (r := 0) (ci := 1) (j := 3) (c0 := 2147483708) (a1 := 4) (a2 := 2) (off := 7) (tgt := 87) (zFd_n (n := 0) (r := 0) (ci := 1) (j := 3) (idx := 29) (zd (i := .aload_n 0) (n := 1) (by decide +kernel)) rfl (zd (i := .getfield 29) (n := 3) (by decide +kernel)) (by decide +kernel) (by decide +kernel) rfl g338) (by decide +kernel) rfl (zCn_b (n := 60) (zd (i := .bipush (60)) (n := 2) (by decide +kernel)) (by decide +kernel)) (zd (i := .if_icmp .ne (7)) (n := 3) (by decide +kernel)) (by decide +kernel) (zj (hj 11) (by decide +kernel)) (zj (hj 10) (by decide +kernel))
noncomputable def b_X1_takeLaw_10 : zBl := fun jp K => oInt 2147483649 <| jp 12
theorem s_X1_takeLaw_10 (d : Nat) : zPb l G gh (d + 23) n_X1_takeLaw p_X1_takeLaw 83 b_X1_takeLaw_10 := fun K jp hj =>
    z_iconst (n := 1) (zd (i := .iconst (1)) (n := 1) (by decide +kernel)) (by decide +kernel) <|
    z_goto (off := 4) (tgt := 88) (zd (i := .goto (4)) (n := 3) (by decide +kernel)) (by decide +kernel) (zj (hj 12) (by decide +kernel))
noncomputable def b_X1_takeLaw_11 : zBl := fun jp K => oInt 2147483648 <| jp 12
theorem s_X1_takeLaw_11 (d : Nat) : zPb l G gh (d + 23) n_X1_takeLaw p_X1_takeLaw 87 b_X1_takeLaw_11 := fun K jp hj =>
    z_iconst (n := 0) (zd (i := .iconst (0)) (n := 1) (by decide +kernel)) (by decide +kernel) <|
    (zj (hj 12) (by decide +kernel))
noncomputable def b_X1_takeLaw_12 : zBl := fun jp K => oCv 1 1 gs_X1_take <| oAld 0 <| oInt 2147483648 <| oCv 1 1 gs_X1_takeSum <| oAld 0 <| oNFC 0 1 3 2147483788 zneN zeqN zn1_ne zn1_eq (jp 14) (jp 13)
theorem s_X1_takeLaw_12 (d : Nat) : zPb l G gh (d + 23) n_X1_takeLaw p_X1_takeLaw 88 b_X1_takeLaw_12 := fun K jp hj =>
    z_callV (idx := 71) (ci := 1) (N := n_X1_take) (zd (i := .invokevirtual 71) (n := 3) (by decide +kernel)) to_X1_take g626 g628 g7 (by decide +kernel) rfl rfl rfl (cs_X1_take (l := l) (G := G) (gh := gh) (d + 21)) <|
    z_aload_n (n := 0) (i := 0) (zd (i := .aload_n 0) (n := 1) (by decide +kernel)) rfl <|
    z_iconst (n := 0) (zd (i := .iconst (0)) (n := 1) (by decide +kernel)) (by decide +kernel) <|
    z_callV (idx := 125) (ci := 1) (N := n_X1_takeSum) (zd (i := .invokevirtual 125) (n := 3) (by decide +kernel)) to_X1_takeSum g655 g657 g12 (by decide +kernel) rfl rfl rfl (cs_X1_takeSum (l := l) (G := G) (gh := gh) (d)) <|
    z_aload_n (n := 0) (i := 0) (zd (i := .aload_n 0) (n := 1) (by decide +kernel)) rfl <|
    z_nFC_ne (r := 0) (ci := 1) (j := 3) (c0 := 2147483788) (a1 := 4) (a2 := 3) (off := 7) (tgt := 111) (zFd_n (n := 0) (r := 0) (ci := 1) (j := 3) (idx := 29) (zd (i := .aload_n 0) (n := 1) (by decide +kernel)) rfl (zd (i := .getfield 29) (n := 3) (by decide +kernel)) (by decide +kernel) (by decide +kernel) rfl g338) (by decide +kernel) rfl (zCn_s (n := 140) (zd (i := .sipush (140)) (n := 3) (by decide +kernel)) (by decide +kernel)) (zd (i := .if_icmp .ne (7)) (n := 3) (by decide +kernel)) (by decide +kernel) (zj (hj 14) (by decide +kernel)) (zj (hj 13) (by decide +kernel))
noncomputable def b_X1_takeLaw_13 : zBl := fun jp K => oInt 2147483649 <| jp 15
theorem s_X1_takeLaw_13 (d : Nat) : zPb l G gh (d + 23) n_X1_takeLaw p_X1_takeLaw 107 b_X1_takeLaw_13 := fun K jp hj =>
    z_iconst (n := 1) (zd (i := .iconst (1)) (n := 1) (by decide +kernel)) (by decide +kernel) <|
    z_goto (off := 4) (tgt := 112) (zd (i := .goto (4)) (n := 3) (by decide +kernel)) (by decide +kernel) (zj (hj 15) (by decide +kernel))
noncomputable def b_X1_takeLaw_14 : zBl := fun jp K => oInt 2147483648 <| jp 15
theorem s_X1_takeLaw_14 (d : Nat) : zPb l G gh (d + 23) n_X1_takeLaw p_X1_takeLaw 111 b_X1_takeLaw_14 := fun K jp hj =>
    z_iconst (n := 0) (zd (i := .iconst (0)) (n := 1) (by decide +kernel)) (by decide +kernel) <|
    (zj (hj 15) (by decide +kernel))
noncomputable def b_X1_takeLaw_15 : zBl := fun jp K => oCv 1 1 gs_X1_take <| oAld 0 <| oGetR 1 1 <| oGetR 0 12 <| oInt 2147483654 <| oInt 2147483648 <| oCv 2 2 f_X2_emit <| oIst 3 <| oAld 0 <| oInt 2147483648 <| oCv 1 1 gs_X1_takeSum <| oAld 0 <| oNFC 0 1 3 2147483789 zneN zeqN zn1_ne zn1_eq (jp 17) (jp 16)
theorem s_X1_takeLaw_15 (d : Nat) : zPb l G gh (d + 23) n_X1_takeLaw p_X1_takeLaw 112 b_X1_takeLaw_15 := fun K jp hj =>
    z_callV (idx := 71) (ci := 1) (N := n_X1_take) (zd (i := .invokevirtual 71) (n := 3) (by decide +kernel)) to_X1_take g626 g628 g7 (by decide +kernel) rfl rfl rfl (cs_X1_take (l := l) (G := G) (gh := gh) (d + 21)) <|
    z_aload_n (n := 0) (i := 0) (zd (i := .aload_n 0) (n := 1) (by decide +kernel)) rfl <|
    z_getR (ci := 1) (j := 1) (idx := 21) (zd (i := .getfield 21) (n := 3) (by decide +kernel)) (by decide +kernel) (by decide +kernel) rfl g336 <|
    z_getR (ci := 0) (j := 12) (idx := 116) (zd (i := .getfield 116) (n := 3) (by decide +kernel)) (by decide +kernel) (by decide +kernel) rfl g307 <|
    z_bipush (n := 6) (zd (i := .bipush (6)) (n := 2) (by decide +kernel)) (by decide +kernel) <|
    z_iconst (n := 0) (zd (i := .iconst (0)) (n := 1) (by decide +kernel)) (by decide +kernel) <|
    z_callV (idx := 128) (ci := 2) (N := n_X2_emit) (zd (i := .invokevirtual 128) (n := 3) (by decide +kernel)) to_X2_emit g667 g273 g274 (by decide +kernel) rfl rfl rfl (c_X2_emit (l := l) (G := G) (gh := gh) (d + 21)) <|
    z_istore_n (n := 3) (i := 3) (zd (i := .istore_n 3) (n := 1) (by decide +kernel)) rfl (by decide +kernel) <|
    z_aload_n (n := 0) (i := 0) (zd (i := .aload_n 0) (n := 1) (by decide +kernel)) rfl <|
    z_iconst (n := 0) (zd (i := .iconst (0)) (n := 1) (by decide +kernel)) (by decide +kernel) <|
    z_callV (idx := 125) (ci := 1) (N := n_X1_takeSum) (zd (i := .invokevirtual 125) (n := 3) (by decide +kernel)) to_X1_takeSum g655 g657 g12 (by decide +kernel) rfl rfl rfl (cs_X1_takeSum (l := l) (G := G) (gh := gh) (d)) <|
    z_aload_n (n := 0) (i := 0) (zd (i := .aload_n 0) (n := 1) (by decide +kernel)) rfl <|
    z_nFC_ne (r := 0) (ci := 1) (j := 3) (c0 := 2147483789) (a1 := 4) (a2 := 3) (off := 7) (tgt := 149) (zFd_n (n := 0) (r := 0) (ci := 1) (j := 3) (idx := 29) (zd (i := .aload_n 0) (n := 1) (by decide +kernel)) rfl (zd (i := .getfield 29) (n := 3) (by decide +kernel)) (by decide +kernel) (by decide +kernel) rfl g338) (by decide +kernel) rfl (zCn_s (n := 141) (zd (i := .sipush (141)) (n := 3) (by decide +kernel)) (by decide +kernel)) (zd (i := .if_icmp .ne (7)) (n := 3) (by decide +kernel)) (by decide +kernel) (zj (hj 17) (by decide +kernel)) (zj (hj 16) (by decide +kernel))
noncomputable def b_X1_takeLaw_16 : zBl := fun jp K => oInt 2147483649 <| jp 18
theorem s_X1_takeLaw_16 (d : Nat) : zPb l G gh (d + 23) n_X1_takeLaw p_X1_takeLaw 145 b_X1_takeLaw_16 := fun K jp hj =>
    z_iconst (n := 1) (zd (i := .iconst (1)) (n := 1) (by decide +kernel)) (by decide +kernel) <|
    z_goto (off := 4) (tgt := 150) (zd (i := .goto (4)) (n := 3) (by decide +kernel)) (by decide +kernel) (zj (hj 18) (by decide +kernel))
noncomputable def b_X1_takeLaw_17 : zBl := fun jp K => oInt 2147483648 <| jp 18
theorem s_X1_takeLaw_17 (d : Nat) : zPb l G gh (d + 23) n_X1_takeLaw p_X1_takeLaw 149 b_X1_takeLaw_17 := fun K jp hj =>
    z_iconst (n := 0) (zd (i := .iconst (0)) (n := 1) (by decide +kernel)) (by decide +kernel) <|
    (zj (hj 18) (by decide +kernel))
noncomputable def b_X1_takeLaw_18 : zBl := fun jp K => oCv 1 1 gs_X1_take <| oAld 0 <| oGetR 1 1 <| oGetR 0 12 <| oInt 2147483655 <| oInt 2147483648 <| oCv 2 2 f_X2_emit <| oPop <| oAld 0 <| oGetR 1 1 <| oGetR 0 12 <| oIld 3 <| oCv 2 1 f_X2_leadOnFrom <| oInc 2 2147483649 <| jp 4
theorem s_X1_takeLaw_18 (d : Nat) : zPb l G gh (d + 23) n_X1_takeLaw p_X1_takeLaw 150 b_X1_takeLaw_18 := fun K jp hj =>
    z_callV (idx := 71) (ci := 1) (N := n_X1_take) (zd (i := .invokevirtual 71) (n := 3) (by decide +kernel)) to_X1_take g626 g628 g7 (by decide +kernel) rfl rfl rfl (cs_X1_take (l := l) (G := G) (gh := gh) (d + 21)) <|
    z_aload_n (n := 0) (i := 0) (zd (i := .aload_n 0) (n := 1) (by decide +kernel)) rfl <|
    z_getR (ci := 1) (j := 1) (idx := 21) (zd (i := .getfield 21) (n := 3) (by decide +kernel)) (by decide +kernel) (by decide +kernel) rfl g336 <|
    z_getR (ci := 0) (j := 12) (idx := 116) (zd (i := .getfield 116) (n := 3) (by decide +kernel)) (by decide +kernel) (by decide +kernel) rfl g307 <|
    z_bipush (n := 7) (zd (i := .bipush (7)) (n := 2) (by decide +kernel)) (by decide +kernel) <|
    z_iconst (n := 0) (zd (i := .iconst (0)) (n := 1) (by decide +kernel)) (by decide +kernel) <|
    z_callV (idx := 128) (ci := 2) (N := n_X2_emit) (zd (i := .invokevirtual 128) (n := 3) (by decide +kernel)) to_X2_emit g667 g273 g274 (by decide +kernel) rfl rfl rfl (c_X2_emit (l := l) (G := G) (gh := gh) (d + 21)) <|
    z_pop (zd (i := .pop) (n := 1) (by decide +kernel)) <|
    z_aload_n (n := 0) (i := 0) (zd (i := .aload_n 0) (n := 1) (by decide +kernel)) rfl <|
    z_getR (ci := 1) (j := 1) (idx := 21) (zd (i := .getfield 21) (n := 3) (by decide +kernel)) (by decide +kernel) (by decide +kernel) rfl g336 <|
    z_getR (ci := 0) (j := 12) (idx := 116) (zd (i := .getfield 116) (n := 3) (by decide +kernel)) (by decide +kernel) (by decide +kernel) rfl g307 <|
    z_iload_n (n := 3) (i := 3) (zd (i := .iload_n 3) (n := 1) (by decide +kernel)) rfl <|
    z_callV (idx := 131) (ci := 2) (N := n_X2_leadOnFrom) (zd (i := .invokevirtual 131) (n := 3) (by decide +kernel)) to_X2_leadOnFrom g668 g669 g670 (by decide +kernel) rfl rfl rfl (c_X2_leadOnFrom (l := l) (G := G) (gh := gh) (d + 21)) <|
    z_iinc (i := 2) (n := 1) (zd (i := .iinc 2 (1)) (n := 3) (by decide +kernel)) (by decide +kernel) (by decide +kernel) <|
    z_goto (off := -150) (tgt := 31) (zd (i := .goto (-150)) (n := 3) (by decide +kernel)) (by decide +kernel) (zj (hj 4) (by decide +kernel))
noncomputable def b_X1_takeLaw_19 : zBl := fun jp K => oAld 0 <| oInt 2147483648 <| oCv 1 1 gs_X1_takeSum <| oAld 0 <| oGetR 1 1 <| oGetR 0 12 <| oInt 2147483655 <| oInt 2147483648 <| oCv 2 2 f_X2_emit <| oPop <| oVret K
theorem s_X1_takeLaw_19 (d : Nat) : zPb l G gh (d + 23) n_X1_takeLaw p_X1_takeLaw 184 b_X1_takeLaw_19 := fun K jp hj =>
    z_aload_n (n := 0) (i := 0) (zd (i := .aload_n 0) (n := 1) (by decide +kernel)) rfl <|
    z_iconst (n := 0) (zd (i := .iconst (0)) (n := 1) (by decide +kernel)) (by decide +kernel) <|
    z_callV (idx := 125) (ci := 1) (N := n_X1_takeSum) (zd (i := .invokevirtual 125) (n := 3) (by decide +kernel)) to_X1_takeSum g655 g657 g12 (by decide +kernel) rfl rfl rfl (cs_X1_takeSum (l := l) (G := G) (gh := gh) (d)) <|
    z_aload_n (n := 0) (i := 0) (zd (i := .aload_n 0) (n := 1) (by decide +kernel)) rfl <|
    z_getR (ci := 1) (j := 1) (idx := 21) (zd (i := .getfield 21) (n := 3) (by decide +kernel)) (by decide +kernel) (by decide +kernel) rfl g336 <|
    z_getR (ci := 0) (j := 12) (idx := 116) (zd (i := .getfield 116) (n := 3) (by decide +kernel)) (by decide +kernel) (by decide +kernel) rfl g307 <|
    z_bipush (n := 7) (zd (i := .bipush (7)) (n := 2) (by decide +kernel)) (by decide +kernel) <|
    z_iconst (n := 0) (zd (i := .iconst (0)) (n := 1) (by decide +kernel)) (by decide +kernel) <|
    z_callV (idx := 128) (ci := 2) (N := n_X2_emit) (zd (i := .invokevirtual 128) (n := 3) (by decide +kernel)) to_X2_emit g667 g273 g274 (by decide +kernel) rfl rfl rfl (c_X2_emit (l := l) (G := G) (gh := gh) (d + 21)) <|
    z_pop (zd (i := .pop) (n := 1) (by decide +kernel)) <|
    z_vret (zd (i := .return_) (n := 1) (by decide +kernel)) rfl
noncomputable def t_X1_takeLaw : List zBl := [b_X1_takeLaw_0, b_X1_takeLaw_1, b_X1_takeLaw_2, b_X1_takeLaw_3, b_X1_takeLaw_4, b_X1_takeLaw_5, b_X1_takeLaw_6, b_X1_takeLaw_7, b_X1_takeLaw_8, b_X1_takeLaw_9, b_X1_takeLaw_10, b_X1_takeLaw_11, b_X1_takeLaw_12, b_X1_takeLaw_13, b_X1_takeLaw_14, b_X1_takeLaw_15, b_X1_takeLaw_16, b_X1_takeLaw_17, b_X1_takeLaw_18, b_X1_takeLaw_19]
theorem tt_X1_takeLaw (d : Nat) : zT (zPb l G gh (d + 23) n_X1_takeLaw p_X1_takeLaw) t_X1_takeLaw p_X1_takeLaw := ⟨s_X1_takeLaw_0 d, s_X1_takeLaw_1 d, s_X1_takeLaw_2 d, s_X1_takeLaw_3 d, s_X1_takeLaw_4 d, s_X1_takeLaw_5 d, s_X1_takeLaw_6 d, s_X1_takeLaw_7 d, s_X1_takeLaw_8 d, s_X1_takeLaw_9 d, s_X1_takeLaw_10 d, s_X1_takeLaw_11 d, s_X1_takeLaw_12 d, s_X1_takeLaw_13 d, s_X1_takeLaw_14 d, s_X1_takeLaw_15 d, s_X1_takeLaw_16 d, s_X1_takeLaw_17 d, s_X1_takeLaw_18 d, s_X1_takeLaw_19 d, trivial⟩
def q_X1_takeLaw_0 : List (Nat × Nat) := [(3, zk1), (4, zk0), (6, zk2), (7, zk2), (8, 143923), (9, zk6), (15, zk17), (16, zk33), (17, zk33), (18, zk34)]
noncomputable def al_X1_takeLaw_0 : zAq := [(none, [(3, zk3), (4, zk0), (6, zk2), (7, zk2), (8, 143923), (9, zk6), (15, zk114), (16, zk115), (17, zk115), (18, zk117)])]
def mq_X1_takeLaw_0_1 : List (Nat × Nat) := [(3, zk3), (4, zk0), (6, zk2), (7, zk2), (8, 143923), (9, zk6), (15, zk114), (16, zk115), (17, zk115), (18, zk117)]
noncomputable def fm_X1_takeLaw_0 : List zFm := [(0, [], (fun vs => [.inr (.ref 3), .inl 8589934591]), (fun vs => zP q_X1_takeLaw_0), (fun vs => Nat.sub (Nat.add 6 0) 0)),
  (4, [(2, 2147483648, 2147483653)], (fun vs => [.inr (.ref 3), .inl 8589934591, .inl (zn 0 vs 0)]), (fun vs => zP mq_X1_takeLaw_0_1), (fun vs => Nat.sub (Nat.add 2147483653 0) (Nat.add 0 (Nat.mul 1 (zn 0 vs 0)))))]
def bf_X1_takeLaw_0 : List Nat := [0, 0, 0, 0, 2]
theorem r_X1_takeLaw_0_0 : zbox [] (fun vs => zFrun (zpost (zAlq al_X1_takeLaw_0)) 1000 t_X1_takeLaw fm_X1_takeLaw_0 bf_X1_takeLaw_0 (0, vs)) = true := by decide +kernel
theorem r_X1_takeLaw_0_1 : zbox [(2, 2147483648, 2147483653)] (fun vs => zFrun (zpost (zAlq al_X1_takeLaw_0)) 1000 t_X1_takeLaw fm_X1_takeLaw_0 bf_X1_takeLaw_0 (1, vs)) = true := by decide +kernel
set_option maxRecDepth 100000 in
theorem x_X1_takeLaw_0 (d : Nat) : zS l G gh (d + 23) (zpost (zAlq al_X1_takeLaw_0)) n_X1_takeLaw (zn 0 p_X1_takeLaw 0) (zwc (0, [.inr (.ref 3), .inl 8589934591], zP q_X1_takeLaw_0) 0) := zentry (tt_X1_takeLaw d) fm_X1_takeLaw_0 bf_X1_takeLaw_0 1000 (by decide +kernel) rfl ⟨Nat.zero_lt_succ _, trivial⟩ (fun f hf => match f, hf with
  | 0, _ => fun vs hv => (zbox_t r_X1_takeLaw_0_0) vs hv
  | 1, _ => fun vs hv => (zbox_t r_X1_takeLaw_0_1) vs hv
  | f + 2, h => absurd (show f + 2 < 2 from h) (Nat.not_lt.mpr (Nat.le_add_left 2 f)))
noncomputable def gs_X1_takeLaw_0 : zMt := zgq false [] 4 [.inr (.ref 3), .inl 8589934591] q_X1_takeLaw_0 al_X1_takeLaw_0
set_option maxRecDepth 100000 in
theorem cs_X1_takeLaw_0 (d : Nat) : zC l G gh (d + 23) n_X1_takeLaw gs_X1_takeLaw_0 := zgq_ok0 (pcs := p_X1_takeLaw) (by decide) rfl rfl (fun a ha => by simp only [al_X1_takeLaw_0, List.mem_cons, List.not_mem_nil, or_false] at ha; rcases ha with rfl <;> decide +kernel) (fun gh => x_X1_takeLaw_0 d) (by decide +kernel)
def q_X1_takeLaw_1 : List (Nat × Nat) := [(3, zk4), (4, zk0), (6, zk2), (7, zk2), (8, 143923), (259, zk8), (265, zk14), (266, zk33), (267, zk33), (268, zk34)]
noncomputable def al_X1_takeLaw_1 : zAq := [(none, [(3, zk5), (4, zk0), (6, zk2), (7, zk2), (8, 143923), (259, zk8), (265, zk116), (266, zk115), (267, zk115), (268, zk117)])]
def mq_X1_takeLaw_1_1 : List (Nat × Nat) := [(3, zk5), (4, zk0), (6, zk2), (7, zk2), (8, 143923), (259, zk8), (265, zk116), (266, zk115), (267, zk115), (268, zk117)]
noncomputable def fm_X1_takeLaw_1 : List zFm := [(0, [], (fun vs => [.inr (.ref 3), .inl 8589934591]), (fun vs => zP q_X1_takeLaw_1), (fun vs => Nat.sub (Nat.add 6 0) 0)),
  (4, [(2, 2147483648, 2147483653)], (fun vs => [.inr (.ref 3), .inl 8589934591, .inl (zn 0 vs 0)]), (fun vs => zP mq_X1_takeLaw_1_1), (fun vs => Nat.sub (Nat.add 2147483653 0) (Nat.add 0 (Nat.mul 1 (zn 0 vs 0)))))]
def bf_X1_takeLaw_1 : List Nat := [0, 0, 0, 0, 2]
theorem r_X1_takeLaw_1_0 : zbox [] (fun vs => zFrun (zpost (zAlq al_X1_takeLaw_1)) 1000 t_X1_takeLaw fm_X1_takeLaw_1 bf_X1_takeLaw_1 (0, vs)) = true := by decide +kernel
theorem r_X1_takeLaw_1_1 : zbox [(2, 2147483648, 2147483653)] (fun vs => zFrun (zpost (zAlq al_X1_takeLaw_1)) 1000 t_X1_takeLaw fm_X1_takeLaw_1 bf_X1_takeLaw_1 (1, vs)) = true := by decide +kernel
set_option maxRecDepth 100000 in
theorem x_X1_takeLaw_1 (d : Nat) : zS l G gh (d + 23) (zpost (zAlq al_X1_takeLaw_1)) n_X1_takeLaw (zn 0 p_X1_takeLaw 0) (zwc (0, [.inr (.ref 3), .inl 8589934591], zP q_X1_takeLaw_1) 0) := zentry (tt_X1_takeLaw d) fm_X1_takeLaw_1 bf_X1_takeLaw_1 1000 (by decide +kernel) rfl ⟨Nat.zero_lt_succ _, trivial⟩ (fun f hf => match f, hf with
  | 0, _ => fun vs hv => (zbox_t r_X1_takeLaw_1_0) vs hv
  | 1, _ => fun vs hv => (zbox_t r_X1_takeLaw_1_1) vs hv
  | f + 2, h => absurd (show f + 2 < 2 from h) (Nat.not_lt.mpr (Nat.le_add_left 2 f)))
noncomputable def gs_X1_takeLaw_1 : zMt := zgq false [] 4 [.inr (.ref 3), .inl 8589934591] q_X1_takeLaw_1 al_X1_takeLaw_1
set_option maxRecDepth 100000 in
theorem cs_X1_takeLaw_1 (d : Nat) : zC l G gh (d + 23) n_X1_takeLaw gs_X1_takeLaw_1 := zgq_ok0 (pcs := p_X1_takeLaw) (by decide) rfl rfl (fun a ha => by simp only [al_X1_takeLaw_1, List.mem_cons, List.not_mem_nil, or_false] at ha; rcases ha with rfl <;> decide +kernel) (fun gh => x_X1_takeLaw_1 d) (by decide +kernel)
noncomputable def gs_X1_takeLaw : zMt := (zor gs_X1_takeLaw_0 gs_X1_takeLaw_1)
theorem cs_X1_takeLaw (d : Nat) : zC l G gh (d + 23) n_X1_takeLaw gs_X1_takeLaw := (zor_ok (cs_X1_takeLaw_0 d) (cs_X1_takeLaw_1 d))
def n_X1_takeTell : qMn := (yX1_takeTell, cX1_takeTell, 2, none, 0, 0)
theorem to_X1_takeTell : qTo n_X1_takeTell 0 := ⟨g621, g99, ⟨by decide, by decide, by decide +kernel⟩, by decide⟩
def p_X1_takeTell : List Nat := [0, 12, 24, 31, 43, 48, 56, 63, 67, 68, 78, 85, 93, 97, 98, 104, 111, 118, 130, 135, 145, 149, 150]
noncomputable def b_X1_takeTell_0 : zBl := fun jp K => oAld 0 <| oGetI 1 3 <| oIst 1 <| oNLC 1 2147483776 zneN zeqN zn1_ne zn1_eq (jp 2) (jp 1)
theorem s_X1_takeTell_0 (d : Nat) : zPb l G gh (d + 24) n_X1_takeTell p_X1_takeTell 0 b_X1_takeTell_0 := fun K jp hj =>
    z_aload_n (n := 0) (i := 0) (zd (i := .aload_n 0) (n := 1) (by decide +kernel)) rfl <|
    z_getI (ci := 1) (j := 3) (idx := 29) (zd (i := .getfield 29) (n := 3) (by decide +kernel)) (by decide +kernel) (by decide +kernel) rfl g338 <|
    z_istore_n (n := 1) (i := 1) (zd (i := .istore_n 1) (n := 1) (by decide +kernel)) rfl (by decide +kernel) <|
    z_nLC_ne (i := 1) (c0 := 2147483776) (a1 := 1) (a2 := 3) (off := 15) (tgt := 24) (zLd_n (n := 1) (i := 1) (zd (i := .iload_n 1) (n := 1) (by decide +kernel)) rfl) (zCn_s (n := 128) (zd (i := .sipush (128)) (n := 3) (by decide +kernel)) (by decide +kernel)) (zd (i := .if_icmp .ne (15)) (n := 3) (by decide +kernel)) (by decide +kernel) (zj (hj 2) (by decide +kernel)) (zj (hj 1) (by decide +kernel))
noncomputable def b_X1_takeTell_1 : zBl := fun jp K => oAld 0 <| oGetR 1 1 <| oGetI 0 2 <| oInt 2147483654 <| oIc zge zlt (jp 4) (jp 2)
theorem s_X1_takeTell_1 (d : Nat) : zPb l G gh (d + 24) n_X1_takeTell p_X1_takeTell 12 b_X1_takeTell_1 := fun K jp hj =>
    z_aload_n (n := 0) (i := 0) (zd (i := .aload_n 0) (n := 1) (by decide +kernel)) rfl <|
    z_getR (ci := 1) (j := 1) (idx := 21) (zd (i := .getfield 21) (n := 3) (by decide +kernel)) (by decide +kernel) (by decide +kernel) rfl g336 <|
    z_getI (ci := 0) (j := 2) (idx := 61) (zd (i := .getfield 61) (n := 3) (by decide +kernel)) (by decide +kernel) (by decide +kernel) rfl g279 <|
    z_bipush (n := 6) (zd (i := .bipush (6)) (n := 2) (by decide +kernel)) (by decide +kernel) <|
    z_icmp_ge (off := 22) (tgt := 43) (zd (i := .if_icmp .ge (22)) (n := 3) (by decide +kernel)) (by decide +kernel) (zj (hj 4) (by decide +kernel)) (zj (hj 2) (by decide +kernel))
noncomputable def b_X1_takeTell_2 : zBl := fun jp K => oNLC 1 2147483777 zneN zeqN zn1_ne zn1_eq (jp 5) (jp 3)
theorem s_X1_takeTell_2 (d : Nat) : zPb l G gh (d + 24) n_X1_takeTell p_X1_takeTell 24 b_X1_takeTell_2 := fun K jp hj =>
    z_nLC_ne (i := 1) (c0 := 2147483777) (a1 := 1) (a2 := 3) (off := 20) (tgt := 48) (zLd_n (n := 1) (i := 1) (zd (i := .iload_n 1) (n := 1) (by decide +kernel)) rfl) (zCn_s (n := 129) (zd (i := .sipush (129)) (n := 3) (by decide +kernel)) (by decide +kernel)) (zd (i := .if_icmp .ne (20)) (n := 3) (by decide +kernel)) (by decide +kernel) (zj (hj 5) (by decide +kernel)) (zj (hj 3) (by decide +kernel))
noncomputable def b_X1_takeTell_3 : zBl := fun jp K => oAld 0 <| oGetR 1 1 <| oGetI 0 5 <| oInt 2147483654 <| oIc zlt zge (jp 5) (jp 4)
theorem s_X1_takeTell_3 (d : Nat) : zPb l G gh (d + 24) n_X1_takeTell p_X1_takeTell 31 b_X1_takeTell_3 := fun K jp hj =>
    z_aload_n (n := 0) (i := 0) (zd (i := .aload_n 0) (n := 1) (by decide +kernel)) rfl <|
    z_getR (ci := 1) (j := 1) (idx := 21) (zd (i := .getfield 21) (n := 3) (by decide +kernel)) (by decide +kernel) (by decide +kernel) rfl g336 <|
    z_getI (ci := 0) (j := 5) (idx := 64) (zd (i := .getfield 64) (n := 3) (by decide +kernel)) (by decide +kernel) (by decide +kernel) rfl g287 <|
    z_bipush (n := 6) (zd (i := .bipush (6)) (n := 2) (by decide +kernel)) (by decide +kernel) <|
    z_icmp_lt (off := 8) (tgt := 48) (zd (i := .if_icmp .lt (8)) (n := 3) (by decide +kernel)) (by decide +kernel) (zj (hj 5) (by decide +kernel)) (zj (hj 4) (by decide +kernel))
noncomputable def b_X1_takeTell_4 : zBl := fun jp K => oAld 0 <| oInt 2147483650 <| oCv 1 1 f_X1_fail <| jp 5
theorem s_X1_takeTell_4 (d : Nat) : zPb l G gh (d + 24) n_X1_takeTell p_X1_takeTell 43 b_X1_takeTell_4 := fun K jp hj =>
    z_aload_n (n := 0) (i := 0) (zd (i := .aload_n 0) (n := 1) (by decide +kernel)) rfl <|
    z_iconst (n := 2) (zd (i := .iconst (2)) (n := 1) (by decide +kernel)) (by decide +kernel) <|
    z_callV (idx := 67) (ci := 1) (N := n_X1_fail) (zd (i := .invokevirtual 67) (n := 3) (by decide +kernel)) to_X1_fail g622 g624 g6 (by decide +kernel) rfl rfl rfl (c_X1_fail (l := l) (G := G) (gh := gh) (d + 22)) <|
    (zj (hj 5) (by decide +kernel))
noncomputable def b_X1_takeTell_5 : zBl := fun jp K => oAld 0 <| oNLC 1 2147483776 zltN zgeN zn1_lt zn1_ge (jp 8) (jp 6)
theorem s_X1_takeTell_5 (d : Nat) : zPb l G gh (d + 24) n_X1_takeTell p_X1_takeTell 48 b_X1_takeTell_5 := fun K jp hj =>
    z_aload_n (n := 0) (i := 0) (zd (i := .aload_n 0) (n := 1) (by decide +kernel)) rfl <|
    z_nLC_lt (i := 1) (c0 := 2147483776) (a1 := 1) (a2 := 3) (off := 14) (tgt := 67) (zLd_n (n := 1) (i := 1) (zd (i := .iload_n 1) (n := 1) (by decide +kernel)) rfl) (zCn_s (n := 128) (zd (i := .sipush (128)) (n := 3) (by decide +kernel)) (by decide +kernel)) (zd (i := .if_icmp .lt (14)) (n := 3) (by decide +kernel)) (by decide +kernel) (zj (hj 8) (by decide +kernel)) (zj (hj 6) (by decide +kernel))
noncomputable def b_X1_takeTell_6 : zBl := fun jp K => oNLC 1 2147483786 zgtN zleN zn1_gt zn1_le (jp 8) (jp 7)
theorem s_X1_takeTell_6 (d : Nat) : zPb l G gh (d + 24) n_X1_takeTell p_X1_takeTell 56 b_X1_takeTell_6 := fun K jp hj =>
    z_nLC_gt (i := 1) (c0 := 2147483786) (a1 := 1) (a2 := 3) (off := 7) (tgt := 67) (zLd_n (n := 1) (i := 1) (zd (i := .iload_n 1) (n := 1) (by decide +kernel)) rfl) (zCn_s (n := 138) (zd (i := .sipush (138)) (n := 3) (by decide +kernel)) (by decide +kernel)) (zd (i := .if_icmp .gt (7)) (n := 3) (by decide +kernel)) (by decide +kernel) (zj (hj 8) (by decide +kernel)) (zj (hj 7) (by decide +kernel))
noncomputable def b_X1_takeTell_7 : zBl := fun jp K => oInt 2147483649 <| jp 9
theorem s_X1_takeTell_7 (d : Nat) : zPb l G gh (d + 24) n_X1_takeTell p_X1_takeTell 63 b_X1_takeTell_7 := fun K jp hj =>
    z_iconst (n := 1) (zd (i := .iconst (1)) (n := 1) (by decide +kernel)) (by decide +kernel) <|
    z_goto (off := 4) (tgt := 68) (zd (i := .goto (4)) (n := 3) (by decide +kernel)) (by decide +kernel) (zj (hj 9) (by decide +kernel))
noncomputable def b_X1_takeTell_8 : zBl := fun jp K => oInt 2147483648 <| jp 9
theorem s_X1_takeTell_8 (d : Nat) : zPb l G gh (d + 24) n_X1_takeTell p_X1_takeTell 67 b_X1_takeTell_8 := fun K jp hj =>
    z_iconst (n := 0) (zd (i := .iconst (0)) (n := 1) (by decide +kernel)) (by decide +kernel) <|
    (zj (hj 9) (by decide +kernel))
noncomputable def b_X1_takeTell_9 : zBl := fun jp K => oCv 1 1 gs_X1_take <| oNLC 1 2147483776 zeqN zneN zn1_eq zn1_ne (jp 11) (jp 10)
theorem s_X1_takeTell_9 (d : Nat) : zPb l G gh (d + 24) n_X1_takeTell p_X1_takeTell 68 b_X1_takeTell_9 := fun K jp hj =>
    z_callV (idx := 71) (ci := 1) (N := n_X1_take) (zd (i := .invokevirtual 71) (n := 3) (by decide +kernel)) to_X1_take g626 g628 g7 (by decide +kernel) rfl rfl rfl (cs_X1_take (l := l) (G := G) (gh := gh) (d + 22)) <|
    z_nLC_eq (i := 1) (c0 := 2147483776) (a1 := 1) (a2 := 3) (off := 10) (tgt := 85) (zLd_n (n := 1) (i := 1) (zd (i := .iload_n 1) (n := 1) (by decide +kernel)) rfl) (zCn_s (n := 128) (zd (i := .sipush (128)) (n := 3) (by decide +kernel)) (by decide +kernel)) (zd (i := .if_icmp .eq (10)) (n := 3) (by decide +kernel)) (by decide +kernel) (zj (hj 11) (by decide +kernel)) (zj (hj 10) (by decide +kernel))
noncomputable def b_X1_takeTell_10 : zBl := fun jp K => oNLC 1 2147483777 zneN zeqN zn1_ne zn1_eq (jp 15) (jp 11)
theorem s_X1_takeTell_10 (d : Nat) : zPb l G gh (d + 24) n_X1_takeTell p_X1_takeTell 78 b_X1_takeTell_10 := fun K jp hj =>
    z_nLC_ne (i := 1) (c0 := 2147483777) (a1 := 1) (a2 := 3) (off := 22) (tgt := 104) (zLd_n (n := 1) (i := 1) (zd (i := .iload_n 1) (n := 1) (by decide +kernel)) rfl) (zCn_s (n := 129) (zd (i := .sipush (129)) (n := 3) (by decide +kernel)) (by decide +kernel)) (zd (i := .if_icmp .ne (22)) (n := 3) (by decide +kernel)) (by decide +kernel) (zj (hj 15) (by decide +kernel)) (zj (hj 11) (by decide +kernel))
noncomputable def b_X1_takeTell_11 : zBl := fun jp K => oAld 0 <| oNLC 1 2147483776 zneN zeqN zn1_ne zn1_eq (jp 13) (jp 12)
theorem s_X1_takeTell_11 (d : Nat) : zPb l G gh (d + 24) n_X1_takeTell p_X1_takeTell 85 b_X1_takeTell_11 := fun K jp hj =>
    z_aload_n (n := 0) (i := 0) (zd (i := .aload_n 0) (n := 1) (by decide +kernel)) rfl <|
    z_nLC_ne (i := 1) (c0 := 2147483776) (a1 := 1) (a2 := 3) (off := 7) (tgt := 97) (zLd_n (n := 1) (i := 1) (zd (i := .iload_n 1) (n := 1) (by decide +kernel)) rfl) (zCn_s (n := 128) (zd (i := .sipush (128)) (n := 3) (by decide +kernel)) (by decide +kernel)) (zd (i := .if_icmp .ne (7)) (n := 3) (by decide +kernel)) (by decide +kernel) (zj (hj 13) (by decide +kernel)) (zj (hj 12) (by decide +kernel))
noncomputable def b_X1_takeTell_12 : zBl := fun jp K => oInt 2147483649 <| jp 14
theorem s_X1_takeTell_12 (d : Nat) : zPb l G gh (d + 24) n_X1_takeTell p_X1_takeTell 93 b_X1_takeTell_12 := fun K jp hj =>
    z_iconst (n := 1) (zd (i := .iconst (1)) (n := 1) (by decide +kernel)) (by decide +kernel) <|
    z_goto (off := 4) (tgt := 98) (zd (i := .goto (4)) (n := 3) (by decide +kernel)) (by decide +kernel) (zj (hj 14) (by decide +kernel))
noncomputable def b_X1_takeTell_13 : zBl := fun jp K => oInt 2147483648 <| jp 14
theorem s_X1_takeTell_13 (d : Nat) : zPb l G gh (d + 24) n_X1_takeTell p_X1_takeTell 97 b_X1_takeTell_13 := fun K jp hj =>
    z_iconst (n := 0) (zd (i := .iconst (0)) (n := 1) (by decide +kernel)) (by decide +kernel) <|
    (zj (hj 14) (by decide +kernel))
noncomputable def b_X1_takeTell_14 : zBl := fun jp K => oCv 1 1 gs_X1_takeStander <| jp 19
theorem s_X1_takeTell_14 (d : Nat) : zPb l G gh (d + 24) n_X1_takeTell p_X1_takeTell 98 b_X1_takeTell_14 := fun K jp hj =>
    z_callV (idx := 75) (ci := 1) (N := n_X1_takeStander) (zd (i := .invokevirtual 75) (n := 3) (by decide +kernel)) to_X1_takeStander g630 g632 g8 (by decide +kernel) rfl rfl rfl (cs_X1_takeStander (l := l) (G := G) (gh := gh) (d + 20)) <|
    z_goto (off := 34) (tgt := 135) (zd (i := .goto (34)) (n := 3) (by decide +kernel)) (by decide +kernel) (zj (hj 19) (by decide +kernel))
noncomputable def b_X1_takeTell_15 : zBl := fun jp K => oNLC 1 2147483778 zltN zgeN zn1_lt zn1_ge (jp 18) (jp 16)
theorem s_X1_takeTell_15 (d : Nat) : zPb l G gh (d + 24) n_X1_takeTell p_X1_takeTell 104 b_X1_takeTell_15 := fun K jp hj =>
    z_nLC_lt (i := 1) (c0 := 2147483778) (a1 := 1) (a2 := 3) (off := 22) (tgt := 130) (zLd_n (n := 1) (i := 1) (zd (i := .iload_n 1) (n := 1) (by decide +kernel)) rfl) (zCn_s (n := 130) (zd (i := .sipush (130)) (n := 3) (by decide +kernel)) (by decide +kernel)) (zd (i := .if_icmp .lt (22)) (n := 3) (by decide +kernel)) (by decide +kernel) (zj (hj 18) (by decide +kernel)) (zj (hj 16) (by decide +kernel))
noncomputable def b_X1_takeTell_16 : zBl := fun jp K => oNLC 1 2147483783 zgeN zltN zn1_ge zn1_lt (jp 18) (jp 17)
theorem s_X1_takeTell_16 (d : Nat) : zPb l G gh (d + 24) n_X1_takeTell p_X1_takeTell 111 b_X1_takeTell_16 := fun K jp hj =>
    z_nLC_ge (i := 1) (c0 := 2147483783) (a1 := 1) (a2 := 3) (off := 15) (tgt := 130) (zLd_n (n := 1) (i := 1) (zd (i := .iload_n 1) (n := 1) (by decide +kernel)) rfl) (zCn_s (n := 135) (zd (i := .sipush (135)) (n := 3) (by decide +kernel)) (by decide +kernel)) (zd (i := .if_icmp .ge (15)) (n := 3) (by decide +kernel)) (by decide +kernel) (zj (hj 18) (by decide +kernel)) (zj (hj 17) (by decide +kernel))
noncomputable def b_X1_takeTell_17 : zBl := fun jp K => oAld 0 <| oIld 1 <| oInt 2147483778 <| oB2 zsub <| oCv 1 1 gs_X1_takeLaw <| jp 19
theorem s_X1_takeTell_17 (d : Nat) : zPb l G gh (d + 24) n_X1_takeTell p_X1_takeTell 118 b_X1_takeTell_17 := fun K jp hj =>
    z_aload_n (n := 0) (i := 0) (zd (i := .aload_n 0) (n := 1) (by decide +kernel)) rfl <|
    z_iload_n (n := 1) (i := 1) (zd (i := .iload_n 1) (n := 1) (by decide +kernel)) rfl <|
    z_sipush (n := 130) (zd (i := .sipush (130)) (n := 3) (by decide +kernel)) (by decide +kernel) <|
    z_isub (zd (i := .isub) (n := 1) (by decide +kernel)) <|
    z_callV (idx := 78) (ci := 1) (N := n_X1_takeLaw) (zd (i := .invokevirtual 78) (n := 3) (by decide +kernel)) to_X1_takeLaw g650 g652 g11 (by decide +kernel) rfl rfl rfl (cs_X1_takeLaw (l := l) (G := G) (gh := gh) (d)) <|
    z_goto (off := 8) (tgt := 135) (zd (i := .goto (8)) (n := 3) (by decide +kernel)) (by decide +kernel) (zj (hj 19) (by decide +kernel))
noncomputable def b_X1_takeTell_18 : zBl := fun jp K => oAld 0 <| oIld 1 <| oCv 1 1 gs_X1_takeSetting <| jp 19
theorem s_X1_takeTell_18 (d : Nat) : zPb l G gh (d + 24) n_X1_takeTell p_X1_takeTell 130 b_X1_takeTell_18 := fun K jp hj =>
    z_aload_n (n := 0) (i := 0) (zd (i := .aload_n 0) (n := 1) (by decide +kernel)) rfl <|
    z_iload_n (n := 1) (i := 1) (zd (i := .iload_n 1) (n := 1) (by decide +kernel)) rfl <|
    z_callV (idx := 81) (ci := 1) (N := n_X1_takeSetting) (zd (i := .invokevirtual 81) (n := 3) (by decide +kernel)) to_X1_takeSetting g672 g674 g15 (by decide +kernel) rfl rfl rfl (cs_X1_takeSetting (l := l) (G := G) (gh := gh) (d + 20)) <|
    (zj (hj 19) (by decide +kernel))
noncomputable def b_X1_takeTell_19 : zBl := fun jp K => oAld 0 <| oNFC 0 1 3 2147483707 zneN zeqN zn1_ne zn1_eq (jp 21) (jp 20)
theorem s_X1_takeTell_19 (d : Nat) : zPb l G gh (d + 24) n_X1_takeTell p_X1_takeTell 135 b_X1_takeTell_19 := fun K jp hj =>
    z_aload_n (n := 0) (i := 0) (zd (i := .aload_n 0) (n := 1) (by decide +kernel)) rfl <|
    z_nFC_ne (r := 0) (ci := 1) (j := 3) (c0 := 2147483707) (a1 := 4) (a2 := 2) (off := 7) (tgt := 149) (zFd_n (n := 0) (r := 0) (ci := 1) (j := 3) (idx := 29) (zd (i := .aload_n 0) (n := 1) (by decide +kernel)) rfl (zd (i := .getfield 29) (n := 3) (by decide +kernel)) (by decide +kernel) (by decide +kernel) rfl g338) (by decide +kernel) rfl (zCn_b (n := 59) (zd (i := .bipush (59)) (n := 2) (by decide +kernel)) (by decide +kernel)) (zd (i := .if_icmp .ne (7)) (n := 3) (by decide +kernel)) (by decide +kernel) (zj (hj 21) (by decide +kernel)) (zj (hj 20) (by decide +kernel))
noncomputable def b_X1_takeTell_20 : zBl := fun jp K => oInt 2147483649 <| jp 22
theorem s_X1_takeTell_20 (d : Nat) : zPb l G gh (d + 24) n_X1_takeTell p_X1_takeTell 145 b_X1_takeTell_20 := fun K jp hj =>
    z_iconst (n := 1) (zd (i := .iconst (1)) (n := 1) (by decide +kernel)) (by decide +kernel) <|
    z_goto (off := 4) (tgt := 150) (zd (i := .goto (4)) (n := 3) (by decide +kernel)) (by decide +kernel) (zj (hj 22) (by decide +kernel))
noncomputable def b_X1_takeTell_21 : zBl := fun jp K => oInt 2147483648 <| jp 22
theorem s_X1_takeTell_21 (d : Nat) : zPb l G gh (d + 24) n_X1_takeTell p_X1_takeTell 149 b_X1_takeTell_21 := fun K jp hj =>
    z_iconst (n := 0) (zd (i := .iconst (0)) (n := 1) (by decide +kernel)) (by decide +kernel) <|
    (zj (hj 22) (by decide +kernel))
noncomputable def b_X1_takeTell_22 : zBl := fun jp K => oCv 1 1 gs_X1_take <| oVret K
theorem s_X1_takeTell_22 (d : Nat) : zPb l G gh (d + 24) n_X1_takeTell p_X1_takeTell 150 b_X1_takeTell_22 := fun K jp hj =>
    z_callV (idx := 71) (ci := 1) (N := n_X1_take) (zd (i := .invokevirtual 71) (n := 3) (by decide +kernel)) to_X1_take g626 g628 g7 (by decide +kernel) rfl rfl rfl (cs_X1_take (l := l) (G := G) (gh := gh) (d + 22)) <|
    z_vret (zd (i := .return_) (n := 1) (by decide +kernel)) rfl
noncomputable def t_X1_takeTell : List zBl := [b_X1_takeTell_0, b_X1_takeTell_1, b_X1_takeTell_2, b_X1_takeTell_3, b_X1_takeTell_4, b_X1_takeTell_5, b_X1_takeTell_6, b_X1_takeTell_7, b_X1_takeTell_8, b_X1_takeTell_9, b_X1_takeTell_10, b_X1_takeTell_11, b_X1_takeTell_12, b_X1_takeTell_13, b_X1_takeTell_14, b_X1_takeTell_15, b_X1_takeTell_16, b_X1_takeTell_17, b_X1_takeTell_18, b_X1_takeTell_19, b_X1_takeTell_20, b_X1_takeTell_21, b_X1_takeTell_22]
theorem tt_X1_takeTell (d : Nat) : zT (zPb l G gh (d + 24) n_X1_takeTell p_X1_takeTell) t_X1_takeTell p_X1_takeTell := ⟨s_X1_takeTell_0 d, s_X1_takeTell_1 d, s_X1_takeTell_2 d, s_X1_takeTell_3 d, s_X1_takeTell_4 d, s_X1_takeTell_5 d, s_X1_takeTell_6 d, s_X1_takeTell_7 d, s_X1_takeTell_8 d, s_X1_takeTell_9 d, s_X1_takeTell_10 d, s_X1_takeTell_11 d, s_X1_takeTell_12 d, s_X1_takeTell_13 d, s_X1_takeTell_14 d, s_X1_takeTell_15 d, s_X1_takeTell_16 d, s_X1_takeTell_17 d, s_X1_takeTell_18 d, s_X1_takeTell_19 d, s_X1_takeTell_20 d, s_X1_takeTell_21 d, s_X1_takeTell_22 d, trivial⟩
def q_X1_takeTell_0 : List (Nat × Nat) := [(3, zk1), (4, zk0), (6, zk2), (7, zk2), (8, 143923), (9, zk6), (10, 131475), (11, zk10), (12, zk10), (13, zk10), (14, zk10), (15, zk17), (16, zk33), (17, zk33), (18, zk34)]
noncomputable def al_X1_takeTell_0 : zAq := [(none, [(3, zk3), (4, zk0), (6, zk2), (7, zk2), (8, 143923), (9, zk7), (10, 403), (11, zk11), (12, zk11), (13, zk11), (14, zk11), (15, zk114), (16, zk115), (17, zk115), (18, zk117)])]
noncomputable def fm_X1_takeTell_0 : List zFm := [(0, [], (fun vs => [.inr (.ref 3)]), (fun vs => zP q_X1_takeTell_0), (fun vs => Nat.sub (Nat.add 0 0) 0))]
def bf_X1_takeTell_0 : List Nat := []
theorem r_X1_takeTell_0_0 : zbox [] (fun vs => zFrun (zpost (zAlq al_X1_takeTell_0)) 1000 t_X1_takeTell fm_X1_takeTell_0 bf_X1_takeTell_0 (0, vs)) = true := by decide +kernel
set_option maxRecDepth 100000 in
theorem x_X1_takeTell_0 (d : Nat) : zS l G gh (d + 24) (zpost (zAlq al_X1_takeTell_0)) n_X1_takeTell (zn 0 p_X1_takeTell 0) (zwc (0, [.inr (.ref 3)], zP q_X1_takeTell_0) 0) := zentry (tt_X1_takeTell d) fm_X1_takeTell_0 bf_X1_takeTell_0 1000 (by decide +kernel) rfl ⟨Nat.zero_lt_succ _, trivial⟩ (fun f hf => match f, hf with
  | 0, _ => fun vs hv => (zbox_t r_X1_takeTell_0_0) vs hv
  | f + 1, h => absurd (show f + 1 < 1 from h) (Nat.not_lt.mpr (Nat.le_add_left 1 f)))
noncomputable def gs_X1_takeTell_0 : zMt := zgq false [] 2 [.inr (.ref 3)] q_X1_takeTell_0 al_X1_takeTell_0
set_option maxRecDepth 100000 in
theorem cs_X1_takeTell_0 (d : Nat) : zC l G gh (d + 24) n_X1_takeTell gs_X1_takeTell_0 := zgq_ok0 (pcs := p_X1_takeTell) (by decide) rfl rfl (fun a ha => by simp only [al_X1_takeTell_0, List.mem_cons, List.not_mem_nil, or_false] at ha; rcases ha with rfl <;> decide +kernel) (fun gh => x_X1_takeTell_0 d) (by decide +kernel)
def q_X1_takeTell_1 : List (Nat × Nat) := [(3, zk4), (4, zk0), (6, zk2), (7, zk2), (8, 143923), (259, zk8), (260, 131475), (261, zk10), (262, zk10), (263, zk10), (264, zk10), (265, zk14), (266, zk33), (267, zk33), (268, zk34)]
noncomputable def al_X1_takeTell_1 : zAq := [(none, [(3, zk5), (4, zk0), (6, zk2), (7, zk2), (8, 143923), (259, zk9), (260, 403), (261, zk11), (262, zk11), (263, zk11), (264, zk11), (265, zk116), (266, zk115), (267, zk115), (268, zk117)])]
noncomputable def fm_X1_takeTell_1 : List zFm := [(0, [], (fun vs => [.inr (.ref 3)]), (fun vs => zP q_X1_takeTell_1), (fun vs => Nat.sub (Nat.add 0 0) 0))]
def bf_X1_takeTell_1 : List Nat := []
theorem r_X1_takeTell_1_0 : zbox [] (fun vs => zFrun (zpost (zAlq al_X1_takeTell_1)) 1000 t_X1_takeTell fm_X1_takeTell_1 bf_X1_takeTell_1 (0, vs)) = true := by decide +kernel
set_option maxRecDepth 100000 in
theorem x_X1_takeTell_1 (d : Nat) : zS l G gh (d + 24) (zpost (zAlq al_X1_takeTell_1)) n_X1_takeTell (zn 0 p_X1_takeTell 0) (zwc (0, [.inr (.ref 3)], zP q_X1_takeTell_1) 0) := zentry (tt_X1_takeTell d) fm_X1_takeTell_1 bf_X1_takeTell_1 1000 (by decide +kernel) rfl ⟨Nat.zero_lt_succ _, trivial⟩ (fun f hf => match f, hf with
  | 0, _ => fun vs hv => (zbox_t r_X1_takeTell_1_0) vs hv
  | f + 1, h => absurd (show f + 1 < 1 from h) (Nat.not_lt.mpr (Nat.le_add_left 1 f)))
noncomputable def gs_X1_takeTell_1 : zMt := zgq false [] 2 [.inr (.ref 3)] q_X1_takeTell_1 al_X1_takeTell_1
set_option maxRecDepth 100000 in
theorem cs_X1_takeTell_1 (d : Nat) : zC l G gh (d + 24) n_X1_takeTell gs_X1_takeTell_1 := zgq_ok0 (pcs := p_X1_takeTell) (by decide) rfl rfl (fun a ha => by simp only [al_X1_takeTell_1, List.mem_cons, List.not_mem_nil, or_false] at ha; rcases ha with rfl <;> decide +kernel) (fun gh => x_X1_takeTell_1 d) (by decide +kernel)
noncomputable def gs_X1_takeTell : zMt := (zor gs_X1_takeTell_0 gs_X1_takeTell_1)
theorem cs_X1_takeTell (d : Nat) : zC l G gh (d + 24) n_X1_takeTell gs_X1_takeTell := (zor_ok (cs_X1_takeTell_0 d) (cs_X1_takeTell_1 d))
def n_X1_parse : qMn := (yX1_parse, cX1_parse, 3, (some Jvm.ClassFile.FieldType.int), 0, 0)
theorem to_X1_parse : qTo n_X1_parse 1 := ⟨g522, g99, ⟨by decide, by decide, by decide +kernel⟩, by decide⟩
def p_X1_parse : List Nat := [0, 58, 65, 72, 79, 89, 96, 103, 119]
noncomputable def b_X1_parse_0 : zBl := fun jp K => oAld 0 <| oInt 2147483648 <| oPutI 1 4 <| oAld 0 <| oInt 2147483647 <| oPutI 1 5 <| oAld 0 <| oInt 2147483648 <| oPutI 1 6 <| oAld 0 <| oInt 2147483647 <| oPutI 1 7 <| oAld 0 <| oGetR 1 1 <| oCv 0 0 f_X0_clear <| oAld 0 <| oGetR 1 0 <| oAld 1 <| oCv 6 1 gs_X6_scan <| oAld 0 <| oInt 2147483648 <| oPutI 1 2 <| oAld 0 <| oAld 0 <| oGetR 1 0 <| oGetR 6 1 <| oAld 0 <| oGetI 1 2 <| oXald 10 <| oPutI 1 3 <| oInt 2147483648 <| oIst 2 <| jp 1
theorem s_X1_parse_0 (d : Nat) : zPb l G gh (d + 25) n_X1_parse p_X1_parse 0 b_X1_parse_0 := fun K jp hj =>
    z_aload_n (n := 0) (i := 0) (zd (i := .aload_n 0) (n := 1) (by decide +kernel)) rfl <|
    z_iconst (n := 0) (zd (i := .iconst (0)) (n := 1) (by decide +kernel)) (by decide +kernel) <|
    z_putI (ci := 1) (j := 4) (idx := 32) (zd (i := .putfield 32) (n := 3) (by decide +kernel)) (by decide +kernel) (by decide +kernel) rfl g339 (Or.inl rfl) <|
    z_aload_n (n := 0) (i := 0) (zd (i := .aload_n 0) (n := 1) (by decide +kernel)) rfl <|
    z_iconst (n := -1) (zd (i := .iconst (-1)) (n := 1) (by decide +kernel)) (by decide +kernel) <|
    z_putI (ci := 1) (j := 5) (idx := 35) (zd (i := .putfield 35) (n := 3) (by decide +kernel)) (by decide +kernel) (by decide +kernel) rfl g340 (Or.inl rfl) <|
    z_aload_n (n := 0) (i := 0) (zd (i := .aload_n 0) (n := 1) (by decide +kernel)) rfl <|
    z_iconst (n := 0) (zd (i := .iconst (0)) (n := 1) (by decide +kernel)) (by decide +kernel) <|
    z_putI (ci := 1) (j := 6) (idx := 38) (zd (i := .putfield 38) (n := 3) (by decide +kernel)) (by decide +kernel) (by decide +kernel) rfl g342 (Or.inl rfl) <|
    z_aload_n (n := 0) (i := 0) (zd (i := .aload_n 0) (n := 1) (by decide +kernel)) rfl <|
    z_iconst (n := -1) (zd (i := .iconst (-1)) (n := 1) (by decide +kernel)) (by decide +kernel) <|
    z_putI (ci := 1) (j := 7) (idx := 41) (zd (i := .putfield 41) (n := 3) (by decide +kernel)) (by decide +kernel) (by decide +kernel) rfl g343 (Or.inl rfl) <|
    z_aload_n (n := 0) (i := 0) (zd (i := .aload_n 0) (n := 1) (by decide +kernel)) rfl <|
    z_getR (ci := 1) (j := 1) (idx := 21) (zd (i := .getfield 21) (n := 3) (by decide +kernel)) (by decide +kernel) (by decide +kernel) rfl g336 <|
    z_callV (idx := 44) (ci := 0) (N := n_X0_clear) (zd (i := .invokevirtual 44) (n := 3) (by decide +kernel)) to_X0_clear g523 g257 g258 (by decide +kernel) rfl rfl rfl (c_X0_clear (l := l) (G := G) (gh := gh) (d + 20)) <|
    z_aload_n (n := 0) (i := 0) (zd (i := .aload_n 0) (n := 1) (by decide +kernel)) rfl <|
    z_getR (ci := 1) (j := 0) (idx := 12) (zd (i := .getfield 12) (n := 3) (by decide +kernel)) (by decide +kernel) (by decide +kernel) rfl g335 <|
    z_aload_n (n := 1) (i := 1) (zd (i := .aload_n 1) (n := 1) (by decide +kernel)) rfl <|
    z_callV (idx := 47) (ci := 6) (N := n_X6_scan) (zd (i := .invokevirtual 47) (n := 3) (by decide +kernel)) to_X6_scan g524 g525 g526 (by decide +kernel) rfl rfl rfl (cs_X6_scan (l := l) (G := G) (gh := gh) (d + 19)) <|
    z_aload_n (n := 0) (i := 0) (zd (i := .aload_n 0) (n := 1) (by decide +kernel)) rfl <|
    z_iconst (n := 0) (zd (i := .iconst (0)) (n := 1) (by decide +kernel)) (by decide +kernel) <|
    z_putI (ci := 1) (j := 2) (idx := 25) (zd (i := .putfield 25) (n := 3) (by decide +kernel)) (by decide +kernel) (by decide +kernel) rfl g337 (Or.inl rfl) <|
    z_aload_n (n := 0) (i := 0) (zd (i := .aload_n 0) (n := 1) (by decide +kernel)) rfl <|
    z_aload_n (n := 0) (i := 0) (zd (i := .aload_n 0) (n := 1) (by decide +kernel)) rfl <|
    z_getR (ci := 1) (j := 0) (idx := 12) (zd (i := .getfield 12) (n := 3) (by decide +kernel)) (by decide +kernel) (by decide +kernel) rfl g335 <|
    z_getR (ci := 6) (j := 1) (idx := 51) (zd (i := .getfield 51) (n := 3) (by decide +kernel)) (by decide +kernel) (by decide +kernel) rfl g206 <|
    z_aload_n (n := 0) (i := 0) (zd (i := .aload_n 0) (n := 1) (by decide +kernel)) rfl <|
    z_getI (ci := 1) (j := 2) (idx := 25) (zd (i := .getfield 25) (n := 3) (by decide +kernel)) (by decide +kernel) (by decide +kernel) rfl g337 <|
    z_iald (zd (i := .iaload) (n := 1) (by decide +kernel)) <|
    z_putI (ci := 1) (j := 3) (idx := 29) (zd (i := .putfield 29) (n := 3) (by decide +kernel)) (by decide +kernel) (by decide +kernel) rfl g338 (Or.inl rfl) <|
    z_iconst (n := 0) (zd (i := .iconst (0)) (n := 1) (by decide +kernel)) (by decide +kernel) <|
    z_istore_n (n := 2) (i := 2) (zd (i := .istore_n 2) (n := 1) (by decide +kernel)) rfl (by decide +kernel) <|
    (zj (hj 1) (by decide +kernel))
noncomputable def b_X1_parse_1 : zBl := fun jp K => oNLC 2 2147484048 zgtN zleN zn1_gt zn1_le (jp 5) (jp 2)
theorem s_X1_parse_1 (d : Nat) : zPb l G gh (d + 25) n_X1_parse p_X1_parse 58 b_X1_parse_1 := fun K jp hj =>
    z_nLC_gt (i := 2) (c0 := 2147484048) (a1 := 1) (a2 := 3) (off := 27) (tgt := 89) (zLd_n (n := 2) (i := 2) (zd (i := .iload_n 2) (n := 1) (by decide +kernel)) rfl) (zCn_s (n := 400) (zd (i := .sipush (400)) (n := 3) (by decide +kernel)) (by decide +kernel)) (zd (i := .if_icmp .gt (27)) (n := 3) (by decide +kernel)) (by decide +kernel) (zj (hj 5) (by decide +kernel)) (zj (hj 2) (by decide +kernel))
noncomputable def b_X1_parse_2 : zBl := fun jp K => oNFC 0 1 4 2147483648 zneN zeqN zn1_ne zn1_eq (jp 5) (jp 3)
theorem s_X1_parse_2 (d : Nat) : zPb l G gh (d + 25) n_X1_parse p_X1_parse 65 b_X1_parse_2 := fun K jp hj =>
    z_nF0_ne (r := 0) (ci := 1) (j := 4) (a1 := 4) (off := 20) (tgt := 89) (zFd_n (n := 0) (r := 0) (ci := 1) (j := 4) (idx := 32) (zd (i := .aload_n 0) (n := 1) (by decide +kernel)) rfl (zd (i := .getfield 32) (n := 3) (by decide +kernel)) (by decide +kernel) (by decide +kernel) rfl g339) (by decide +kernel) rfl (zd (i := .ifCond .ne (20)) (n := 3) (by decide +kernel)) (by decide +kernel) (zj (hj 5) (by decide +kernel)) (zj (hj 3) (by decide +kernel))
noncomputable def b_X1_parse_3 : zBl := fun jp K => oNFC 0 1 3 2147483648 zeqN zneN zn1_eq zn1_ne (jp 5) (jp 4)
theorem s_X1_parse_3 (d : Nat) : zPb l G gh (d + 25) n_X1_parse p_X1_parse 72 b_X1_parse_3 := fun K jp hj =>
    z_nF0_eq (r := 0) (ci := 1) (j := 3) (a1 := 4) (off := 13) (tgt := 89) (zFd_n (n := 0) (r := 0) (ci := 1) (j := 3) (idx := 29) (zd (i := .aload_n 0) (n := 1) (by decide +kernel)) rfl (zd (i := .getfield 29) (n := 3) (by decide +kernel)) (by decide +kernel) (by decide +kernel) rfl g338) (by decide +kernel) rfl (zd (i := .ifCond .eq (13)) (n := 3) (by decide +kernel)) (by decide +kernel) (zj (hj 5) (by decide +kernel)) (zj (hj 4) (by decide +kernel))
noncomputable def b_X1_parse_4 : zBl := fun jp K => oAld 0 <| oCv 1 0 gs_X1_takeTell <| oInc 2 2147483649 <| jp 1
theorem s_X1_parse_4 (d : Nat) : zPb l G gh (d + 25) n_X1_parse p_X1_parse 79 b_X1_parse_4 := fun K jp hj =>
    z_aload_n (n := 0) (i := 0) (zd (i := .aload_n 0) (n := 1) (by decide +kernel)) rfl <|
    z_callV (idx := 55) (ci := 1) (N := n_X1_takeTell) (zd (i := .invokevirtual 55) (n := 3) (by decide +kernel)) to_X1_takeTell g618 g620 g5 (by decide +kernel) rfl rfl rfl (cs_X1_takeTell (l := l) (G := G) (gh := gh) (d)) <|
    z_iinc (i := 2) (n := 1) (zd (i := .iinc 2 (1)) (n := 3) (by decide +kernel)) (by decide +kernel) (by decide +kernel) <|
    z_goto (off := -28) (tgt := 58) (zd (i := .goto (-28)) (n := 3) (by decide +kernel)) (by decide +kernel) (zj (hj 1) (by decide +kernel))
noncomputable def b_X1_parse_5 : zBl := fun jp K => oNFC 0 1 4 2147483648 zneN zeqN zn1_ne zn1_eq (jp 8) (jp 6)
theorem s_X1_parse_5 (d : Nat) : zPb l G gh (d + 25) n_X1_parse p_X1_parse 89 b_X1_parse_5 := fun K jp hj =>
    z_nF0_ne (r := 0) (ci := 1) (j := 4) (a1 := 4) (off := 26) (tgt := 119) (zFd_n (n := 0) (r := 0) (ci := 1) (j := 4) (idx := 32) (zd (i := .aload_n 0) (n := 1) (by decide +kernel)) rfl (zd (i := .getfield 32) (n := 3) (by decide +kernel)) (by decide +kernel) (by decide +kernel) rfl g339) (by decide +kernel) rfl (zd (i := .ifCond .ne (26)) (n := 3) (by decide +kernel)) (by decide +kernel) (zj (hj 8) (by decide +kernel)) (zj (hj 6) (by decide +kernel))
noncomputable def b_X1_parse_6 : zBl := fun jp K => oNFC 0 1 6 2147483648 zeqN zneN zn1_eq zn1_ne (jp 8) (jp 7)
theorem s_X1_parse_6 (d : Nat) : zPb l G gh (d + 25) n_X1_parse p_X1_parse 96 b_X1_parse_6 := fun K jp hj =>
    z_nF0_eq (r := 0) (ci := 1) (j := 6) (a1 := 4) (off := 19) (tgt := 119) (zFd_n (n := 0) (r := 0) (ci := 1) (j := 6) (idx := 38) (zd (i := .aload_n 0) (n := 1) (by decide +kernel)) rfl (zd (i := .getfield 38) (n := 3) (by decide +kernel)) (by decide +kernel) (by decide +kernel) rfl g342) (by decide +kernel) rfl (zd (i := .ifCond .eq (19)) (n := 3) (by decide +kernel)) (by decide +kernel) (zj (hj 8) (by decide +kernel)) (zj (hj 7) (by decide +kernel))
noncomputable def b_X1_parse_7 : zBl := fun jp K => oAld 0 <| oAld 0 <| oGetI 1 6 <| oPutI 1 4 <| oAld 0 <| oAld 0 <| oGetI 1 7 <| oPutI 1 5 <| jp 8
theorem s_X1_parse_7 (d : Nat) : zPb l G gh (d + 25) n_X1_parse p_X1_parse 103 b_X1_parse_7 := fun K jp hj =>
    z_aload_n (n := 0) (i := 0) (zd (i := .aload_n 0) (n := 1) (by decide +kernel)) rfl <|
    z_aload_n (n := 0) (i := 0) (zd (i := .aload_n 0) (n := 1) (by decide +kernel)) rfl <|
    z_getI (ci := 1) (j := 6) (idx := 38) (zd (i := .getfield 38) (n := 3) (by decide +kernel)) (by decide +kernel) (by decide +kernel) rfl g342 <|
    z_putI (ci := 1) (j := 4) (idx := 32) (zd (i := .putfield 32) (n := 3) (by decide +kernel)) (by decide +kernel) (by decide +kernel) rfl g339 (Or.inl rfl) <|
    z_aload_n (n := 0) (i := 0) (zd (i := .aload_n 0) (n := 1) (by decide +kernel)) rfl <|
    z_aload_n (n := 0) (i := 0) (zd (i := .aload_n 0) (n := 1) (by decide +kernel)) rfl <|
    z_getI (ci := 1) (j := 7) (idx := 41) (zd (i := .getfield 41) (n := 3) (by decide +kernel)) (by decide +kernel) (by decide +kernel) rfl g343 <|
    z_putI (ci := 1) (j := 5) (idx := 35) (zd (i := .putfield 35) (n := 3) (by decide +kernel)) (by decide +kernel) (by decide +kernel) rfl g340 (Or.inl rfl) <|
    (zj (hj 8) (by decide +kernel))
noncomputable def b_X1_parse_8 : zBl := fun jp K => oAld 0 <| oGetI 1 4 <| oIret K
theorem s_X1_parse_8 (d : Nat) : zPb l G gh (d + 25) n_X1_parse p_X1_parse 119 b_X1_parse_8 := fun K jp hj =>
    z_aload_n (n := 0) (i := 0) (zd (i := .aload_n 0) (n := 1) (by decide +kernel)) rfl <|
    z_getI (ci := 1) (j := 4) (idx := 32) (zd (i := .getfield 32) (n := 3) (by decide +kernel)) (by decide +kernel) (by decide +kernel) rfl g339 <|
    z_iret (zd (i := .ireturn) (n := 1) (by decide +kernel)) rfl
noncomputable def t_X1_parse : List zBl := [b_X1_parse_0, b_X1_parse_1, b_X1_parse_2, b_X1_parse_3, b_X1_parse_4, b_X1_parse_5, b_X1_parse_6, b_X1_parse_7, b_X1_parse_8]
theorem tt_X1_parse (d : Nat) : zT (zPb l G gh (d + 25) n_X1_parse p_X1_parse) t_X1_parse p_X1_parse := ⟨s_X1_parse_0 d, s_X1_parse_1 d, s_X1_parse_2 d, s_X1_parse_3 d, s_X1_parse_4 d, s_X1_parse_5 d, s_X1_parse_6 d, s_X1_parse_7 d, s_X1_parse_8 d, trivial⟩
def q_X1_parse_0 : List (Nat × Nat) := [(1, zk25), (2, zk26), (3, zk1), (4, zk0), (5, 131827), (6, zk2), (7, zk2), (8, 143923), (9, zk6), (10, 131475), (11, zk10), (12, zk10), (13, zk10), (14, zk10), (15, zk17), (16, zk33), (17, zk33), (18, zk34)]
noncomputable def al_X1_parse_0 : zAq := [(some (.inl 8589934591), [(1, zk25), (2, zk26), (3, zk3), (4, zk29), (5, 131827), (6, zk30), (7, zk30), (8, 12851), (9, zk7), (10, 403), (11, zk11), (12, zk11), (13, zk11), (14, zk11), (15, zk114), (16, zk115), (17, zk115), (18, zk117)])]
def mq_X1_parse_0_1 : List (Nat × Nat) := [(1, zk25), (2, zk26), (3, zk3), (4, zk29), (5, 131827), (6, zk30), (7, zk30), (8, 12851), (9, zk7), (10, 403), (11, zk11), (12, zk11), (13, zk11), (14, zk11), (15, zk114), (16, zk115), (17, zk115), (18, zk117)]
noncomputable def fm_X1_parse_0 : List zFm := [(0, [], (fun vs => [.inr (.ref 3), .inr (.ref 1)]), (fun vs => zP q_X1_parse_0), (fun vs => Nat.sub (Nat.add 402 0) 0)),
  (1, [(2, 2147483648, 2147484049)], (fun vs => [.inr (.ref 3), .inr (.ref 1), .inl (zn 0 vs 0)]), (fun vs => zP mq_X1_parse_0_1), (fun vs => Nat.sub (Nat.add 2147484049 0) (Nat.add 0 (Nat.mul 1 (zn 0 vs 0)))))]
def bf_X1_parse_0 : List Nat := [0, 2]
theorem r_X1_parse_0_0 : zbox [] (fun vs => zFrun (zpost (zAlq al_X1_parse_0)) 1000 t_X1_parse fm_X1_parse_0 bf_X1_parse_0 (0, vs)) = true := by decide +kernel
theorem r_X1_parse_0_1 : zbox [(2, 2147483648, 2147484049)] (fun vs => zFrun (zpost (zAlq al_X1_parse_0)) 1000 t_X1_parse fm_X1_parse_0 bf_X1_parse_0 (1, vs)) = true := by decide +kernel
set_option maxRecDepth 100000 in
theorem x_X1_parse_0 (d : Nat) : zS l G gh (d + 25) (zpost (zAlq al_X1_parse_0)) n_X1_parse (zn 0 p_X1_parse 0) (zwc (0, [.inr (.ref 3), .inr (.ref 1)], zP q_X1_parse_0) 0) := zentry (tt_X1_parse d) fm_X1_parse_0 bf_X1_parse_0 1000 (by decide +kernel) rfl ⟨Nat.zero_lt_succ _, trivial⟩ (fun f hf => match f, hf with
  | 0, _ => fun vs hv => (zbox_t r_X1_parse_0_0) vs hv
  | 1, _ => fun vs hv => (zbox_t r_X1_parse_0_1) vs hv
  | f + 2, h => absurd (show f + 2 < 2 from h) (Nat.not_lt.mpr (Nat.le_add_left 2 f)))
noncomputable def gs_X1_parse_0 : zMt := zgq false [] 3 [.inr (.ref 3), .inr (.ref 1)] q_X1_parse_0 al_X1_parse_0
set_option maxRecDepth 100000 in
theorem cs_X1_parse_0 (d : Nat) : zC l G gh (d + 25) n_X1_parse gs_X1_parse_0 := zgq_ok0 (pcs := p_X1_parse) (by decide) rfl rfl (fun a ha => by simp only [al_X1_parse_0, List.mem_cons, List.not_mem_nil, or_false] at ha; rcases ha with rfl <;> decide +kernel) (fun gh => x_X1_parse_0 d) (by decide +kernel)
def q_X1_parse_1 : List (Nat × Nat) := [(1, zk25), (2, zk26), (3, zk4), (4, zk0), (5, 131827), (6, zk2), (7, zk2), (8, 143923), (259, zk8), (260, 131475), (261, zk10), (262, zk10), (263, zk10), (264, zk10), (265, zk14), (266, zk33), (267, zk33), (268, zk34)]
noncomputable def al_X1_parse_1 : zAq := [(some (.inl 8589934591), [(1, zk25), (2, zk26), (3, zk5), (4, zk29), (5, 131827), (6, zk30), (7, zk30), (8, 12851), (259, zk9), (260, 403), (261, zk11), (262, zk11), (263, zk11), (264, zk11), (265, zk116), (266, zk115), (267, zk115), (268, zk117)])]
def mq_X1_parse_1_1 : List (Nat × Nat) := [(1, zk25), (2, zk26), (3, zk5), (4, zk29), (5, 131827), (6, zk30), (7, zk30), (8, 12851), (259, zk9), (260, 403), (261, zk11), (262, zk11), (263, zk11), (264, zk11), (265, zk116), (266, zk115), (267, zk115), (268, zk117)]
noncomputable def fm_X1_parse_1 : List zFm := [(0, [], (fun vs => [.inr (.ref 3), .inr (.ref 1)]), (fun vs => zP q_X1_parse_1), (fun vs => Nat.sub (Nat.add 402 0) 0)),
  (1, [(2, 2147483648, 2147484049)], (fun vs => [.inr (.ref 3), .inr (.ref 1), .inl (zn 0 vs 0)]), (fun vs => zP mq_X1_parse_1_1), (fun vs => Nat.sub (Nat.add 2147484049 0) (Nat.add 0 (Nat.mul 1 (zn 0 vs 0)))))]
def bf_X1_parse_1 : List Nat := [0, 2]
theorem r_X1_parse_1_0 : zbox [] (fun vs => zFrun (zpost (zAlq al_X1_parse_1)) 1000 t_X1_parse fm_X1_parse_1 bf_X1_parse_1 (0, vs)) = true := by decide +kernel
theorem r_X1_parse_1_1 : zbox [(2, 2147483648, 2147484049)] (fun vs => zFrun (zpost (zAlq al_X1_parse_1)) 1000 t_X1_parse fm_X1_parse_1 bf_X1_parse_1 (1, vs)) = true := by decide +kernel
set_option maxRecDepth 100000 in
theorem x_X1_parse_1 (d : Nat) : zS l G gh (d + 25) (zpost (zAlq al_X1_parse_1)) n_X1_parse (zn 0 p_X1_parse 0) (zwc (0, [.inr (.ref 3), .inr (.ref 1)], zP q_X1_parse_1) 0) := zentry (tt_X1_parse d) fm_X1_parse_1 bf_X1_parse_1 1000 (by decide +kernel) rfl ⟨Nat.zero_lt_succ _, trivial⟩ (fun f hf => match f, hf with
  | 0, _ => fun vs hv => (zbox_t r_X1_parse_1_0) vs hv
  | 1, _ => fun vs hv => (zbox_t r_X1_parse_1_1) vs hv
  | f + 2, h => absurd (show f + 2 < 2 from h) (Nat.not_lt.mpr (Nat.le_add_left 2 f)))
noncomputable def gs_X1_parse_1 : zMt := zgq false [] 3 [.inr (.ref 3), .inr (.ref 1)] q_X1_parse_1 al_X1_parse_1
set_option maxRecDepth 100000 in
theorem cs_X1_parse_1 (d : Nat) : zC l G gh (d + 25) n_X1_parse gs_X1_parse_1 := zgq_ok0 (pcs := p_X1_parse) (by decide) rfl rfl (fun a ha => by simp only [al_X1_parse_1, List.mem_cons, List.not_mem_nil, or_false] at ha; rcases ha with rfl <;> decide +kernel) (fun gh => x_X1_parse_1 d) (by decide +kernel)
noncomputable def gs_X1_parse : zMt := (zor gs_X1_parse_0 gs_X1_parse_1)
theorem cs_X1_parse (d : Nat) : zC l G gh (d + 25) n_X1_parse gs_X1_parse := (zor_ok (cs_X1_parse_0 d) (cs_X1_parse_1 d))
def n_X8_read : qMn := (yX8_read, cX8_read, 2, (some Jvm.ClassFile.FieldType.int), 0, 0)
theorem to_X8_read : qTo n_X8_read 0 := ⟨g518, g97, ⟨by decide, by decide, by decide +kernel⟩, by decide⟩
def p_X8_read : List Nat := [0, 23, 42, 61]
noncomputable def b_X8_read_0 : zBl := fun jp K => oAld 0 <| oGetR 8 1 <| oAld 0 <| oGetR 8 0 <| oCv 1 1 gs_X1_parse <| oIst 1 <| oAld 0 <| oAld 0 <| oGetR 8 1 <| oGetI 1 5 <| oPutI 8 13 <| jp 1
theorem s_X8_read_0 (d : Nat) : zPb l G gh (d + 26) n_X8_read p_X8_read 0 b_X8_read_0 := fun K jp hj =>
    z_aload_n (n := 0) (i := 0) (zd (i := .aload_n 0) (n := 1) (by decide +kernel)) rfl <|
    z_getR (ci := 8) (j := 1) (idx := 19) (zd (i := .getfield 19) (n := 3) (by decide +kernel)) (by decide +kernel) (by decide +kernel) rfl g453 <|
    z_aload_n (n := 0) (i := 0) (zd (i := .aload_n 0) (n := 1) (by decide +kernel)) rfl <|
    z_getR (ci := 8) (j := 0) (idx := 12) (zd (i := .getfield 12) (n := 3) (by decide +kernel)) (by decide +kernel) (by decide +kernel) rfl g452 <|
    z_callV (idx := 93) (ci := 1) (N := n_X1_parse) (zd (i := .invokevirtual 93) (n := 3) (by decide +kernel)) to_X1_parse g519 g520 g521 (by decide +kernel) rfl rfl rfl (cs_X1_parse (l := l) (G := G) (gh := gh) (d)) <|
    z_istore_n (n := 1) (i := 1) (zd (i := .istore_n 1) (n := 1) (by decide +kernel)) rfl (by decide +kernel) <|
    z_aload_n (n := 0) (i := 0) (zd (i := .aload_n 0) (n := 1) (by decide +kernel)) rfl <|
    z_aload_n (n := 0) (i := 0) (zd (i := .aload_n 0) (n := 1) (by decide +kernel)) rfl <|
    z_getR (ci := 8) (j := 1) (idx := 19) (zd (i := .getfield 19) (n := 3) (by decide +kernel)) (by decide +kernel) (by decide +kernel) rfl g453 <|
    z_getI (ci := 1) (j := 5) (idx := 97) (zd (i := .getfield 97) (n := 3) (by decide +kernel)) (by decide +kernel) (by decide +kernel) rfl g341 <|
    z_putI (ci := 8) (j := 13) (idx := 75) (zd (i := .putfield 75) (n := 3) (by decide +kernel)) (by decide +kernel) (by decide +kernel) rfl g465 (Or.inl rfl) <|
    (zj (hj 1) (by decide +kernel))
section
variable {d : Nat}
theorem w_X5_drop_0 {Q : qQ} {I : qMI} {L : qML} {R : qMR} {a1 : Int32} (kt : a1 < 0 → wkB l G (d + 1) n_X5_drop Q 12 [.ref 1, .int a1] [] I L R) (kf : ¬ a1 < 0 → wkB l G (d + 1) n_X5_drop Q 4 [.ref 1, .int a1] [] I L R) : wkB l G (d + 1) n_X5_drop Q 0 [.ref 1, .int a1] [] I L R :=
  bb_iload_n (n := 1) (i := 1) (zd (i := .iload_n 1) (n := 1) (by decide +kernel)) rfl rfl <|
  (fun lv hl => q_if_lt (off := 11) (tgt := 12) (zd (i := .ifCond .lt (11)) (n := 3) (by decide +kernel)) (by decide) (fun h => (kt h) lv hl) (fun h => (kf h) lv hl))
theorem w_X5_drop_4 {Q : qQ} {I : qMI} {L : qML} {R : qMR} {a1 : Int32} (kt : a1 ≤ (I 1 1) → wkB l G (d + 1) n_X5_drop Q 14 [.ref 1, .int a1] [] I L R) (kf : ¬ a1 ≤ (I 1 1) → wkB l G (d + 1) n_X5_drop Q 12 [.ref 1, .int a1] [] I L R) : wkB l G (d + 1) n_X5_drop Q 4 [.ref 1, .int a1] [] I L R :=
  bb_iload_n (n := 1) (i := 1) (zd (i := .iload_n 1) (n := 1) (by decide +kernel)) rfl rfl <|
  bb_aload_n (n := 0) (i := 0) (zd (i := .aload_n 0) (n := 1) (by decide +kernel)) rfl rfl <|
  bb_geti (k := 1) (ci := 5) (j := 1) (idx := 15) (zd (i := .getfield 15) (n := 3) (by decide +kernel)) (by decide +kernel) (by decide +kernel) (by decide +kernel) (by decide +kernel) rfl g130 <|
  (fun lv hl => q_icmp_le (off := 5) (tgt := 14) (zd (i := .if_icmp .le (5)) (n := 3) (by decide +kernel)) (by decide) (fun h => (kt h) lv hl) (fun h => (kf h) lv hl))
theorem w_X5_drop_12 {Q : qQ} {I : qMI} {L : qML} {R : qMR} {a1 : Int32} (hQ : Q (some (.int 0)) 336 I L R) : wkB l G (d + 1) n_X5_drop Q 12 [.ref 1, .int a1] [] I L R :=
  bb_lift (fun _ => q_iconst (n := 0) (zd (i := .iconst (0)) (n := 1) (by decide +kernel)) rfl) <|
  (fun lv hl => q_iret (zd (i := .ireturn) (n := 1) (by decide +kernel)) rfl rfl (Nat.le_refl _) (Nat.le_refl _) hQ)
theorem w_X5_drop_14 {Q : qQ} {I : qMI} {L : qML} {R : qMR} {a1 : Int32} (hQ : Q (some (.int 1)) 336 (qUp I 1 1 ((I 1 1) - a1)) L R) : wkB l G (d + 1) n_X5_drop Q 14 [.ref 1, .int a1] [] I L R :=
  bb_aload_n (n := 0) (i := 0) (zd (i := .aload_n 0) (n := 1) (by decide +kernel)) rfl rfl <|
  bb_lift (fun _ => q_dup (zd (i := .dup) (n := 1) (by decide +kernel)) rfl) <|
  bb_geti (k := 1) (ci := 5) (j := 1) (idx := 15) (zd (i := .getfield 15) (n := 3) (by decide +kernel)) (by decide +kernel) (by decide +kernel) (by decide +kernel) (by decide +kernel) rfl g130 <|
  bb_iload_n (n := 1) (i := 1) (zd (i := .iload_n 1) (n := 1) (by decide +kernel)) rfl rfl <|
  bb_lift (fun _ => q_isub (zd (i := .isub) (n := 1) (by decide +kernel))) <|
  bb_puti (k := 1) (ci := 5) (j := 1) (idx := 15) (zd (i := .putfield 15) (n := 3) (by decide +kernel)) (by decide +kernel) (by decide +kernel) (by decide +kernel) (by decide +kernel) g130 rfl rfl <|
  bb_lift (fun _ => q_iconst (n := 1) (zd (i := .iconst (1)) (n := 1) (by decide +kernel)) rfl) <|
  (fun lv hl => q_iret (zd (i := .ireturn) (n := 1) (by decide +kernel)) rfl rfl (Nat.le_refl _) (Nat.le_refl _) hQ)
variable {I : qMI} {L : qML} {R : qMR}
theorem cDrop {x : Int32} : wkCi l G (d + 1) n_X5_drop [.ref 1, .int x] I L R (fun y I' L' R' => R' = R ∧ L' = L ∧ ((y = 1 ∧ (0 ≤ x.toInt ∧ x.toInt ≤ (I 1 1).toInt) ∧ I' = qUp I 1 1 (I 1 1 - x)) ∨ (y = 0 ∧ ¬ (0 ≤ x.toInt ∧ x.toInt ≤ (I 1 1).toInt) ∧ I' = I))) := by
  refine wkC_of 0 (by decide) (Nat.le_of_ble_eq_true rfl) (w_X5_drop_0 (fun q => ?_) (fun q => ?_))
  · have q := i_lt.mp q
    rw [show (0 : Int32).toInt = 0 from rfl] at q
    exact w_X5_drop_12 ⟨rfl, _, rfl, rfl, rfl, Or.inr ⟨rfl, by omega, rfl⟩⟩
  · have q : ¬ _ := fun z => q (i_lt.mpr z)
    rw [show (0 : Int32).toInt = 0 from rfl] at q
    refine w_X5_drop_4 (fun q2 => ?_) (fun q2 => ?_)
    · exact w_X5_drop_14 ⟨rfl, _, rfl, rfl, rfl, Or.inl ⟨rfl, ⟨by omega, i_le.mp q2⟩, rfl⟩⟩
    · have q2 : ¬ _ := fun z => q2 (i_le.mpr z)
      exact w_X5_drop_12 ⟨rfl, _, rfl, rfl, rfl, Or.inr ⟨rfl, by omega, rfl⟩⟩
theorem w_X8_read_23 {Q : qQ} {I : qMI} {L : qML} {R : qMR} {a1 : Int32} (h1 : R 0 0 = some 1) (h2 : R 0 0 = some 1) {P : Int32 → qMI → qML → qMR → Prop} (hc : wkCi l G d n_X5_drop [.ref 1, .int (I 1 1)] I L R P) (kk : ∀ y I' L' R', P y I' L' R' → wkB l G (d + 1) n_X8_read Q 37 [.ref 0, .int a1] [.int y] I' L' R') : wkB l G (d + 1) n_X8_read Q 23 [.ref 0, .int a1] [] I L R :=
  bb_aload_n (n := 0) (i := 0) (zd (i := .aload_n 0) (n := 1) (by decide +kernel)) rfl rfl <|
  bb_getr (k := 0) (ci := 8) (j := 0) (idx := 12) (a := 1) (zd (i := .getfield 12) (n := 3) (by decide +kernel)) (by decide +kernel) (by decide +kernel) (by decide +kernel) (by decide +kernel) rfl g452 h1 <|
  bb_aload_n (n := 0) (i := 0) (zd (i := .aload_n 0) (n := 1) (by decide +kernel)) rfl rfl <|
  bb_getr (k := 0) (ci := 8) (j := 0) (idx := 12) (a := 1) (zd (i := .getfield 12) (n := 3) (by decide +kernel)) (by decide +kernel) (by decide +kernel) (by decide +kernel) (by decide +kernel) rfl g452 h2 <|
  bb_geti (k := 1) (ci := 5) (j := 1) (idx := 87) (zd (i := .getfield 87) (n := 3) (by decide +kernel)) (by decide +kernel) (by decide +kernel) (by decide +kernel) (by decide +kernel) rfl g131 <|
  bb_callV (idx := 90) (k := 1) (ci := 5) (N := n_X5_drop) (As := [.int (I 1 1)]) (st := []) (zd (i := .invokevirtual 90) (n := 3) (by decide +kernel)) to_X5_drop g511 g512 g513 (Nat.le_of_ble_eq_true rfl) (by decide +kernel) (by decide +kernel) (by decide +kernel) rfl rfl rfl hc (fun r I' L' R' hq => by obtain ⟨y, rfl, hp⟩ := hq; exact kk y I' L' R' hp)
theorem w_X8_read_37 {Q : qQ} {I : qMI} {L : qML} {R : qMR} {a1 : Int32} {s0 : Int32} (kt : ¬ a1 = 0 → wkB l G (d + 1) n_X8_read Q 61 [.ref 0, .int a1] [] I L R) (kf : a1 = 0 → wkB l G (d + 1) n_X8_read Q 42 [.ref 0, .int a1] [] I L R) : wkB l G (d + 1) n_X8_read Q 37 [.ref 0, .int a1] [.int s0] I L R :=
  bb_lift (fun _ => q_pop (zd (i := .pop) (n := 1) (by decide +kernel)) rfl) <|
  bb_iload_n (n := 1) (i := 1) (zd (i := .iload_n 1) (n := 1) (by decide +kernel)) rfl rfl <|
  (fun lv hl => q_if_ne (off := 22) (tgt := 61) (zd (i := .ifCond .ne (22)) (n := 3) (by decide +kernel)) (by decide) (fun h => (kt h) lv hl) (fun h => (kf h) lv hl))
end
noncomputable def bx_rd : zBl := fun jp _ => fun lv st ce sl t A => zR (zn zdum lv 0) (fun o => zI (zn zdum lv 1) (fun c1 => zE st (bif Nat.beq o 0 then (bif Nat.beq ce 0 then (bif Nat.beq sl 0 then (bif Nat.beq t 336 then (bif Nat.beq (ztag (zcell A 0)) 8 then (bif Nat.beq (zraw (zcell A 0) 0) 2 then (bif Nat.beq (ztag (zcell A 1)) 5 then (bif Nat.ble 2147483648 (zlo (Nat.xor (zraw (zcell A 1) 1) 2147483648)) then (bif jp 3 [.inr (.ref 0), .inl c1] [] 0 0 336 (zput A 1 (zupd (zcf 5 1 (zcell A 1)) 1 0)) then jp 2 [.inr (.ref 0), .inl c1] [] 0 0 336 (zput A 1 (zupd (zcf 5 1 (zcell A 1)) 1 0)) else false) else false) else false) else false) else false) else false) else false) else false) else false)))
theorem sx_rd (d : Nat) : zPb l G gh (d + 26) n_X8_read p_X8_read 23 bx_rd := by
  intro K jp hj lv st ce sl t A h lv' st' I L R hl hs hm
  obtain ⟨v0, k0, z0⟩ := zgl_get hl (zRn h)
  obtain ⟨o, rfl, h⟩ := zR_t h z0
  obtain ⟨v1, k1, z1⟩ := zgl_get hl (zI_nd h)
  obtain ⟨c1, a1, rfl, hx1, h⟩ := zI_t h z1
  obtain ⟨rfl, h⟩ := zE_t h hs
  obtain ⟨b0, h⟩ := zand h
  obtain ⟨b1, h⟩ := zand h
  obtain ⟨b2, h⟩ := zand h
  obtain ⟨b3, hh⟩ := zand h
  have e0 := Nat.eq_of_beq_eq_true b0
  have e1 := Nat.eq_of_beq_eq_true b1
  have e2 := Nat.eq_of_beq_eq_true b2
  have e3 := Nat.eq_of_beq_eq_true b3
  subst e0 e1 e2 e3
  obtain ⟨b4, h⟩ := zand hh
  obtain ⟨b5, h⟩ := zand h
  obtain ⟨b6, h⟩ := zand h
  obtain ⟨b7, h⟩ := zand h
  obtain ⟨h8, h9⟩ := zand h
  obtain ⟨-, -, -, -, f5⟩ := zM_at hm.1 b4 (by omega)
  have r1 := (f5 0).2.2 (zkd_R (by decide) rfl)
  rw [Nat.eq_of_beq_eq_true b5] at r1
  obtain ⟨g1, -, -, -, g5⟩ := zM_at hm.1 b6 (by omega)
  have g4 := (g5 1).1 (zkd_I (by decide) rfl)
  have s0 : 0 ≤ (I 1 1).toInt := by
    have q1 := Nat.le_trans (Nat.le_of_ble_eq_true b7) g4.1
    have q2 := zb_int (I 1 1)
    omega
  have hs0 : I 1 1 - I 1 1 = 0 := Int32.sub_self _
  have hm2 : zM gh 336 (zput A 1 (zupd (zcf 5 1 (zcell A 1)) 1 0)) (qUp I 1 1 0) L R := zM_setF (c := 2147483648) hm.1 g1 (zkd_I (by decide) rfl) (by decide) zin0
  have zl : ∀ lv'', wkHas [.ref 0, .int a1] lv'' → zgl [.inr (.ref 0), .inl c1] lv'' := fun lv'' hl'' i => by
    match i with
    | 0 => exact Or.inr ⟨_, hl'' 0 _ rfl (wkU_r _), ⟨rfl, rfl⟩⟩
    | 1 => exact Or.inr ⟨_, hl'' 1 _ rfl (wkU_i _), ⟨_, rfl, hx1⟩⟩
    | i + 2 => exact Or.inl rfl
  refine w_X8_read_23 (a1 := a1) (d := d + 25) r1 r1 (cDrop (d := d + 24)) (fun y I1 L1 R1 hq => ?_) lv' (fun i v hi hv => ?_)
  · obtain ⟨rfl, rfl, hy⟩ := hq
    rcases hy with ⟨rfl, -, rfl⟩ | ⟨rfl, hn, -⟩
    · rw [hs0]
      exact w_X8_read_37 (fun _ lv'' hl'' => hj 3 _ [] 0 0 336 _ h8 lv'' [] _ _ _ (zl lv'' hl'') trivial ⟨hm2, Nat.zero_le _, Nat.zero_le _⟩) (fun _ lv'' hl'' => hj 2 _ [] 0 0 336 _ h9 lv'' [] _ _ _ (zl lv'' hl'') trivial ⟨hm2, Nat.zero_le _, Nat.zero_le _⟩)
    · exact absurd ⟨s0, Int.le_refl _⟩ hn
  · match i with
    | 0 => cases hi; exact k0
    | 1 => cases hi; exact k1
    | i + 2 => cases hi
noncomputable def b_X8_read_2 : zBl := fun jp K => oAld 0 <| oAld 0 <| oGetR 8 1 <| oAld 0 <| oGetR 8 12 <| oCv 1 1 f_X1_handOver <| oPutR 8 12 <| oAld 0 <| oCv 8 0 gs_X8_beginAnew <| jp 3
theorem s_X8_read_2 (d : Nat) : zPb l G gh (d + 26) n_X8_read p_X8_read 42 b_X8_read_2 := fun K jp hj =>
    z_aload_n (n := 0) (i := 0) (zd (i := .aload_n 0) (n := 1) (by decide +kernel)) rfl <|
    z_aload_n (n := 0) (i := 0) (zd (i := .aload_n 0) (n := 1) (by decide +kernel)) rfl <|
    z_getR (ci := 8) (j := 1) (idx := 19) (zd (i := .getfield 19) (n := 3) (by decide +kernel)) (by decide +kernel) (by decide +kernel) rfl g453 <|
    z_aload_n (n := 0) (i := 0) (zd (i := .aload_n 0) (n := 1) (by decide +kernel)) rfl <|
    z_getR (ci := 8) (j := 12) (idx := 71) (zd (i := .getfield 71) (n := 3) (by decide +kernel)) (by decide +kernel) (by decide +kernel) rfl g464 <|
    z_callV (idx := 100) (ci := 1) (N := n_X1_handOver) (zd (i := .invokevirtual 100) (n := 3) (by decide +kernel)) to_X1_handOver g676 g677 g678 (by decide +kernel) rfl rfl rfl (c_X1_handOver (l := l) (G := G) (gh := gh) (d + 24)) <|
    z_putR (ci := 8) (j := 12) (idx := 71) (zd (i := .putfield 71) (n := 3) (by decide +kernel)) (by decide +kernel) (by decide +kernel) (fun r => by cases r <;> rfl) (fun r => by cases r <;> rfl) rfl g464 (Or.inl rfl) <|
    z_aload_n (n := 0) (i := 0) (zd (i := .aload_n 0) (n := 1) (by decide +kernel)) rfl <|
    z_callV (idx := 104) (ci := 8) (N := n_X8_beginAnew) (zd (i := .invokevirtual 104) (n := 3) (by decide +kernel)) to_X8_beginAnew g680 g682 g16 (by decide +kernel) rfl rfl rfl (cs_X8_beginAnew (l := l) (G := G) (gh := gh) (d + 21)) <|
    (zj (hj 3) (by decide +kernel))
noncomputable def b_X8_read_3 : zBl := fun jp K => oIld 1 <| oIret K
theorem s_X8_read_3 (d : Nat) : zPb l G gh (d + 26) n_X8_read p_X8_read 61 b_X8_read_3 := fun K jp hj =>
    z_iload_n (n := 1) (i := 1) (zd (i := .iload_n 1) (n := 1) (by decide +kernel)) rfl <|
    z_iret (zd (i := .ireturn) (n := 1) (by decide +kernel)) rfl
noncomputable def t_X8_read : List zBl := [b_X8_read_0, bx_rd, b_X8_read_2, b_X8_read_3]
theorem tt_X8_read (d : Nat) : zT (zPb l G gh (d + 26) n_X8_read p_X8_read) t_X8_read p_X8_read := ⟨s_X8_read_0 d, sx_rd d, s_X8_read_2 d, s_X8_read_3 d, trivial⟩
def q_X8_read_0 : List (Nat × Nat) := [(0, zk12), (1, zk25), (2, zk26), (3, zk1), (4, zk0), (5, 131827), (6, zk2), (7, zk2), (8, 143923), (9, zk6), (10, 131475), (11, zk10), (12, zk10), (13, zk10), (14, zk10), (15, zk17), (16, zk33), (17, zk33), (18, zk34), (21, zk22), (22, zk10), (23, zk10), (24, zk10), (25, zk10), (26, zk23), (27, zk23), (35, zk35), (248, zk24), (249, zk18)]
noncomputable def al_X8_read_0 : zAq := [(some (.inl 8589934591), [(0, zk118), (1, 12884901957), (2, zk26), (3, zk5), (4, zk29), (5, 131827), (6, zk30), (7, zk30), (8, 12851), (9, zk7), (10, 403), (11, zk11), (12, zk11), (13, zk11), (14, zk11), (15, zk114), (16, zk115), (17, zk115), (18, zk117), (21, zk98), (22, zk11), (23, zk11), (24, zk11), (25, zk11), (26, zk31), (27, zk31), (35, zk67), (248, zk102), (249, zk20)]), (some (.inl 8589934591), [(0, zk119), (1, 12884901957), (2, zk26), (3, zk3), (4, zk29), (5, 131827), (6, zk30), (7, zk30), (8, 12851), (9, zk7), (10, 403), (11, zk11), (12, zk11), (13, zk11), (14, zk11), (15, zk114), (16, zk115), (17, zk115), (18, zk117), (21, zk22), (22, zk10), (23, zk10), (24, zk10), (25, zk10), (26, zk23), (27, zk23), (35, zk35), (248, zk24), (249, zk18)])]
noncomputable def fm_X8_read_0 : List zFm := [(0, [], (fun vs => [.inr (.ref 0)]), (fun vs => zP q_X8_read_0), (fun vs => Nat.sub (Nat.add 0 0) 0))]
def bf_X8_read_0 : List Nat := []
theorem r_X8_read_0_0 : zbox [] (fun vs => zFrun (zpost (zAlq al_X8_read_0)) 1000 t_X8_read fm_X8_read_0 bf_X8_read_0 (0, vs)) = true := by decide +kernel
set_option maxRecDepth 100000 in
theorem x_X8_read_0 (d : Nat) : zS l G gh (d + 26) (zpost (zAlq al_X8_read_0)) n_X8_read (zn 0 p_X8_read 0) (zwc (0, [.inr (.ref 0)], zP q_X8_read_0) 0) := zentry (tt_X8_read d) fm_X8_read_0 bf_X8_read_0 1000 (by decide +kernel) rfl ⟨Nat.zero_lt_succ _, trivial⟩ (fun f hf => match f, hf with
  | 0, _ => fun vs hv => (zbox_t r_X8_read_0_0) vs hv
  | f + 1, h => absurd (show f + 1 < 1 from h) (Nat.not_lt.mpr (Nat.le_add_left 1 f)))
noncomputable def gs_X8_read_0 : zMt := zgq false [] 2 [.inr (.ref 0)] q_X8_read_0 al_X8_read_0
set_option maxRecDepth 100000 in
theorem cs_X8_read_0 (d : Nat) : zC l G gh (d + 26) n_X8_read gs_X8_read_0 := zgq_ok0 (pcs := p_X8_read) (by decide) rfl rfl (fun a ha => by simp only [al_X8_read_0, List.mem_cons, List.not_mem_nil, or_false] at ha; rcases ha with rfl | rfl <;> decide +kernel) (fun gh => x_X8_read_0 d) (by decide +kernel)
def q_X8_read_1 : List (Nat × Nat) := [(0, zk13), (1, zk25), (2, zk26), (3, zk4), (4, zk0), (5, 131827), (6, zk2), (7, zk2), (8, 143923), (21, zk22), (22, zk10), (23, zk10), (24, zk10), (25, zk10), (26, zk23), (27, zk23), (35, zk35), (248, zk24), (249, zk18), (259, zk8), (260, 131475), (261, zk10), (262, zk10), (263, zk10), (264, zk10), (265, zk14), (266, zk33), (267, zk33), (268, zk34)]
noncomputable def al_X8_read_1 : zAq := [(some (.inl 8589934591), [(0, zk119), (1, 12884901957), (2, zk26), (3, zk3), (4, zk29), (5, 131827), (6, zk30), (7, zk30), (8, 12851), (21, zk98), (22, zk11), (23, zk11), (24, zk11), (25, zk11), (26, zk31), (27, zk31), (35, zk67), (248, zk102), (249, zk20), (259, zk9), (260, 403), (261, zk11), (262, zk11), (263, zk11), (264, zk11), (265, zk116), (266, zk115), (267, zk115), (268, zk117)]), (some (.inl 8589934591), [(0, zk118), (1, 12884901957), (2, zk26), (3, zk5), (4, zk29), (5, 131827), (6, zk30), (7, zk30), (8, 12851), (21, zk22), (22, zk10), (23, zk10), (24, zk10), (25, zk10), (26, zk23), (27, zk23), (35, zk35), (248, zk24), (249, zk18), (259, zk9), (260, 403), (261, zk11), (262, zk11), (263, zk11), (264, zk11), (265, zk116), (266, zk115), (267, zk115), (268, zk117)])]
noncomputable def fm_X8_read_1 : List zFm := [(0, [], (fun vs => [.inr (.ref 0)]), (fun vs => zP q_X8_read_1), (fun vs => Nat.sub (Nat.add 0 0) 0))]
def bf_X8_read_1 : List Nat := []
theorem r_X8_read_1_0 : zbox [] (fun vs => zFrun (zpost (zAlq al_X8_read_1)) 1000 t_X8_read fm_X8_read_1 bf_X8_read_1 (0, vs)) = true := by decide +kernel
set_option maxRecDepth 100000 in
theorem x_X8_read_1 (d : Nat) : zS l G gh (d + 26) (zpost (zAlq al_X8_read_1)) n_X8_read (zn 0 p_X8_read 0) (zwc (0, [.inr (.ref 0)], zP q_X8_read_1) 0) := zentry (tt_X8_read d) fm_X8_read_1 bf_X8_read_1 1000 (by decide +kernel) rfl ⟨Nat.zero_lt_succ _, trivial⟩ (fun f hf => match f, hf with
  | 0, _ => fun vs hv => (zbox_t r_X8_read_1_0) vs hv
  | f + 1, h => absurd (show f + 1 < 1 from h) (Nat.not_lt.mpr (Nat.le_add_left 1 f)))
noncomputable def gs_X8_read_1 : zMt := zgq false [] 2 [.inr (.ref 0)] q_X8_read_1 al_X8_read_1
set_option maxRecDepth 100000 in
theorem cs_X8_read_1 (d : Nat) : zC l G gh (d + 26) n_X8_read gs_X8_read_1 := zgq_ok0 (pcs := p_X8_read) (by decide) rfl rfl (fun a ha => by simp only [al_X8_read_1, List.mem_cons, List.not_mem_nil, or_false] at ha; rcases ha with rfl | rfl <;> decide +kernel) (fun gh => x_X8_read_1 d) (by decide +kernel)
noncomputable def gs_X8_read : zMt := (zor gs_X8_read_0 gs_X8_read_1)
theorem cs_X8_read (d : Nat) : zC l G gh (d + 26) n_X8_read gs_X8_read := (zor_ok (cs_X8_read_0 d) (cs_X8_read_1 d))
end
