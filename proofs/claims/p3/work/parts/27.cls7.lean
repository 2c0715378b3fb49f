section
variable {l : Launch} {G : qG} {gh : zGh}
def n_X1_takeSum : qMn := (yX1_takeSum, cX1_takeSum, 4, none, 0, 0)
theorem to_X1_takeSum : qTo n_X1_takeSum 1 := ⟨g658, g99, ⟨by decide, by decide, by decide +kernel⟩, by decide⟩
def p_X1_takeSum : List Nat := [0, 7, 14, 21, 30, 39, 48, 52, 53, 83]
def n_X1_takeProduct : qMn := (yX1_takeProduct, cX1_takeProduct, 4, none, 0, 0)
theorem to_X1_takeProduct : qTo n_X1_takeProduct 1 := ⟨g662, g99, ⟨by decide, by decide, by decide +kernel⟩, by decide⟩
def p_X1_takeProduct : List Nat := [0, 7, 14, 21, 30, 39, 48, 52, 53, 83]
def n_X1_takeUnit : qMn := (yX1_takeUnit, cX1_takeUnit, 2, none, 0, 0)
theorem to_X1_takeUnit : qTo n_X1_takeUnit 1 := ⟨g666, g99, ⟨by decide, by decide, by decide +kernel⟩, by decide⟩
def p_X1_takeUnit : List Nat := [0, 7, 8, 16, 49, 59, 69, 97, 106, 112, 134, 138, 139, 145, 155, 159, 160, 163]
noncomputable def b_X1_takeSum_0 (g : zMt) : zBl := fun jp K => oAld 0 <| oIld 1 <| oCv 1 1 g <| oInt 2147483648 <| oIst 2 <| jp 1
theorem s_X1_takeSum_0 (d : Nat) (g : zMt) (hg : zC l G gh (d + 1) n_X1_takeProduct g) : zPb l G gh (d + 2) n_X1_takeSum p_X1_takeSum 0 (b_X1_takeSum_0 g) := fun K jp hj =>
    z_aload_n (n := 0) (i := 0) (zd (i := .aload_n 0) (n := 1) (by decide +kernel)) rfl <|
    z_iload_n (n := 1) (i := 1) (zd (i := .iload_n 1) (n := 1) (by decide +kernel)) rfl <|
    z_callV (idx := 134) (ci := 1) (N := n_X1_takeProduct) (zd (i := .invokevirtual 134) (n := 3) (by decide +kernel)) to_X1_takeProduct g659 g661 g13 (by decide +kernel) rfl rfl rfl hg <|
    z_iconst (n := 0) (zd (i := .iconst (0)) (n := 1) (by decide +kernel)) (by decide +kernel) <|
    z_istore_n (n := 2) (i := 2) (zd (i := .istore_n 2) (n := 1) (by decide +kernel)) rfl (by decide +kernel) <|
    (zj (hj 1) (by decide +kernel))
noncomputable def b_X1_takeSum_1 (g : zMt) : zBl := fun jp K => oNLC 2 2147484048 zgtN zleN zn1_gt zn1_le (jp 9) (jp 2)
theorem s_X1_takeSum_1 (d : Nat) (g : zMt) (hg : zC l G gh (d + 1) n_X1_takeProduct g) : zPb l G gh (d + 2) n_X1_takeSum p_X1_takeSum 7 (b_X1_takeSum_1 g) := fun K jp hj =>
    z_nLC_gt (i := 2) (c0 := 2147484048) (a1 := 1) (a2 := 3) (off := 72) (tgt := 83) (zLd_n (n := 2) (i := 2) (zd (i := .iload_n 2) (n := 1) (by decide +kernel)) rfl) (zCn_s (n := 400) (zd (i := .sipush (400)) (n := 3) (by decide +kernel)) (by decide +kernel)) (zd (i := .if_icmp .gt (72)) (n := 3) (by decide +kernel)) (by decide +kernel) (zj (hj 9) (by decide +kernel)) (zj (hj 2) (by decide +kernel))
noncomputable def b_X1_takeSum_2 (g : zMt) : zBl := fun jp K => oNFC 0 1 4 2147483648 zneN zeqN zn1_ne zn1_eq (jp 9) (jp 3)
theorem s_X1_takeSum_2 (d : Nat) (g : zMt) (hg : zC l G gh (d + 1) n_X1_takeProduct g) : zPb l G gh (d + 2) n_X1_takeSum p_X1_takeSum 14 (b_X1_takeSum_2 g) := fun K jp hj =>
    z_nF0_ne (r := 0) (ci := 1) (j := 4) (a1 := 4) (off := 65) (tgt := 83) (zFd_n (n := 0) (r := 0) (ci := 1) (j := 4) (idx := 32) (zd (i := .aload_n 0) (n := 1) (by decide +kernel)) rfl (zd (i := .getfield 32) (n := 3) (by decide +kernel)) (by decide +kernel) (by decide +kernel) rfl g339) (by decide +kernel) rfl (zd (i := .ifCond .ne (65)) (n := 3) (by decide +kernel)) (by decide +kernel) (zj (hj 9) (by decide +kernel)) (zj (hj 3) (by decide +kernel))
noncomputable def b_X1_takeSum_3 (g : zMt) : zBl := fun jp K => oNFC 0 1 3 2147483691 zeqN zneN zn1_eq zn1_ne (jp 5) (jp 4)
theorem s_X1_takeSum_3 (d : Nat) (g : zMt) (hg : zC l G gh (d + 1) n_X1_takeProduct g) : zPb l G gh (d + 2) n_X1_takeSum p_X1_takeSum 21 (b_X1_takeSum_3 g) := fun K jp hj =>
    z_nFC_eq (r := 0) (ci := 1) (j := 3) (c0 := 2147483691) (a1 := 4) (a2 := 2) (off := 12) (tgt := 39) (zFd_n (n := 0) (r := 0) (ci := 1) (j := 3) (idx := 29) (zd (i := .aload_n 0) (n := 1) (by decide +kernel)) rfl (zd (i := .getfield 29) (n := 3) (by decide +kernel)) (by decide +kernel) (by decide +kernel) rfl g338) (by decide +kernel) rfl (zCn_b (n := 43) (zd (i := .bipush (43)) (n := 2) (by decide +kernel)) (by decide +kernel)) (zd (i := .if_icmp .eq (12)) (n := 3) (by decide +kernel)) (by decide +kernel) (zj (hj 5) (by decide +kernel)) (zj (hj 4) (by decide +kernel))
noncomputable def b_X1_takeSum_4 (g : zMt) : zBl := fun jp K => oNFC 0 1 3 2147483693 zneN zeqN zn1_ne zn1_eq (jp 9) (jp 5)
theorem s_X1_takeSum_4 (d : Nat) (g : zMt) (hg : zC l G gh (d + 1) n_X1_takeProduct g) : zPb l G gh (d + 2) n_X1_takeSum p_X1_takeSum 30 (b_X1_takeSum_4 g) := fun K jp hj =>
    z_nFC_ne (r := 0) (ci := 1) (j := 3) (c0 := 2147483693) (a1 := 4) (a2 := 2) (off := 47) (tgt := 83) (zFd_n (n := 0) (r := 0) (ci := 1) (j := 3) (idx := 29) (zd (i := .aload_n 0) (n := 1) (by decide +kernel)) rfl (zd (i := .getfield 29) (n := 3) (by decide +kernel)) (by decide +kernel) (by decide +kernel) rfl g338) (by decide +kernel) rfl (zCn_b (n := 45) (zd (i := .bipush (45)) (n := 2) (by decide +kernel)) (by decide +kernel)) (zd (i := .if_icmp .ne (47)) (n := 3) (by decide +kernel)) (by decide +kernel) (zj (hj 9) (by decide +kernel)) (zj (hj 5) (by decide +kernel))
noncomputable def b_X1_takeSum_5 (g : zMt) : zBl := fun jp K => oNFC 0 1 3 2147483691 zneN zeqN zn1_ne zn1_eq (jp 7) (jp 6)
theorem s_X1_takeSum_5 (d : Nat) (g : zMt) (hg : zC l G gh (d + 1) n_X1_takeProduct g) : zPb l G gh (d + 2) n_X1_takeSum p_X1_takeSum 39 (b_X1_takeSum_5 g) := fun K jp hj =>
    z_nFC_ne (r := 0) (ci := 1) (j := 3) (c0 := 2147483691) (a1 := 4) (a2 := 2) (off := 7) (tgt := 52) (zFd_n (n := 0) (r := 0) (ci := 1) (j := 3) (idx := 29) (zd (i := .aload_n 0) (n := 1) (by decide +kernel)) rfl (zd (i := .getfield 29) (n := 3) (by decide +kernel)) (by decide +kernel) (by decide +kernel) rfl g338) (by decide +kernel) rfl (zCn_b (n := 43) (zd (i := .bipush (43)) (n := 2) (by decide +kernel)) (by decide +kernel)) (zd (i := .if_icmp .ne (7)) (n := 3) (by decide +kernel)) (by decide +kernel) (zj (hj 7) (by decide +kernel)) (zj (hj 6) (by decide +kernel))
noncomputable def b_X1_takeSum_6 (g : zMt) : zBl := fun jp K => oInt 2147483650 <| jp 8
theorem s_X1_takeSum_6 (d : Nat) (g : zMt) (hg : zC l G gh (d + 1) n_X1_takeProduct g) : zPb l G gh (d + 2) n_X1_takeSum p_X1_takeSum 48 (b_X1_takeSum_6 g) := fun K jp hj =>
    z_iconst (n := 2) (zd (i := .iconst (2)) (n := 1) (by decide +kernel)) (by decide +kernel) <|
    z_goto (off := 4) (tgt := 53) (zd (i := .goto (4)) (n := 3) (by decide +kernel)) (by decide +kernel) (zj (hj 8) (by decide +kernel))
noncomputable def b_X1_takeSum_7 (g : zMt) : zBl := fun jp K => oInt 2147483651 <| jp 8
theorem s_X1_takeSum_7 (d : Nat) (g : zMt) (hg : zC l G gh (d + 1) n_X1_takeProduct g) : zPb l G gh (d + 2) n_X1_takeSum p_X1_takeSum 52 (b_X1_takeSum_7 g) := fun K jp hj =>
    z_iconst (n := 3) (zd (i := .iconst (3)) (n := 1) (by decide +kernel)) (by decide +kernel) <|
    (zj (hj 8) (by decide +kernel))
noncomputable def b_X1_takeSum_8 (g : zMt) : zBl := fun jp K => oIst 3 <| oAld 0 <| oInt 2147483649 <| oCv 1 1 gs_X1_take <| oAld 0 <| oIld 1 <| oCv 1 1 g <| oAld 0 <| oGetR 1 1 <| oGetR 0 12 <| oIld 3 <| oInt 2147483648 <| oCv 2 2 f_X2_emit <| oPop <| oInc 2 2147483649 <| jp 1
theorem s_X1_takeSum_8 (d : Nat) (g : zMt) (hg : zC l G gh (d + 1) n_X1_takeProduct g) : zPb l G gh (d + 2) n_X1_takeSum p_X1_takeSum 53 (b_X1_takeSum_8 g) := fun K jp hj =>
    z_istore_n (n := 3) (i := 3) (zd (i := .istore_n 3) (n := 1) (by decide +kernel)) rfl (by decide +kernel) <|
    z_aload_n (n := 0) (i := 0) (zd (i := .aload_n 0) (n := 1) (by decide +kernel)) rfl <|
    z_iconst (n := 1) (zd (i := .iconst (1)) (n := 1) (by decide +kernel)) (by decide +kernel) <|
    z_callV (idx := 71) (ci := 1) (N := n_X1_take) (zd (i := .invokevirtual 71) (n := 3) (by decide +kernel)) to_X1_take g626 g628 g7 (by decide +kernel) rfl rfl rfl (cs_X1_take (l := l) (G := G) (gh := gh) (d)) <|
    z_aload_n (n := 0) (i := 0) (zd (i := .aload_n 0) (n := 1) (by decide +kernel)) rfl <|
    z_iload_n (n := 1) (i := 1) (zd (i := .iload_n 1) (n := 1) (by decide +kernel)) rfl <|
    z_callV (idx := 134) (ci := 1) (N := n_X1_takeProduct) (zd (i := .invokevirtual 134) (n := 3) (by decide +kernel)) to_X1_takeProduct g659 g661 g13 (by decide +kernel) rfl rfl rfl hg <|
    z_aload_n (n := 0) (i := 0) (zd (i := .aload_n 0) (n := 1) (by decide +kernel)) rfl <|
    z_getR (ci := 1) (j := 1) (idx := 21) (zd (i := .getfield 21) (n := 3) (by decide +kernel)) (by decide +kernel) (by decide +kernel) rfl g336 <|
    z_getR (ci := 0) (j := 12) (idx := 116) (zd (i := .getfield 116) (n := 3) (by decide +kernel)) (by decide +kernel) (by decide +kernel) rfl g307 <|
    z_iload_n (n := 3) (i := 3) (zd (i := .iload_n 3) (n := 1) (by decide +kernel)) rfl <|
    z_iconst (n := 0) (zd (i := .iconst (0)) (n := 1) (by decide +kernel)) (by decide +kernel) <|
    z_callV (idx := 128) (ci := 2) (N := n_X2_emit) (zd (i := .invokevirtual 128) (n := 3) (by decide +kernel)) to_X2_emit g667 g273 g274 (by decide +kernel) rfl rfl rfl (c_X2_emit (l := l) (G := G) (gh := gh) (d)) <|
    z_pop (zd (i := .pop) (n := 1) (by decide +kernel)) <|
    z_iinc (i := 2) (n := 1) (zd (i := .iinc 2 (1)) (n := 3) (by decide +kernel)) (by decide +kernel) (by decide +kernel) <|
    z_goto (off := -73) (tgt := 7) (zd (i := .goto (-73)) (n := 3) (by decide +kernel)) (by decide +kernel) (zj (hj 1) (by decide +kernel))
noncomputable def b_X1_takeSum_9 (g : zMt) : zBl := fun jp K => oVret K
theorem s_X1_takeSum_9 (d : Nat) (g : zMt) (hg : zC l G gh (d + 1) n_X1_takeProduct g) : zPb l G gh (d + 2) n_X1_takeSum p_X1_takeSum 83 (b_X1_takeSum_9 g) := fun K jp hj =>
    z_vret (zd (i := .return_) (n := 1) (by decide +kernel)) rfl
noncomputable def t_X1_takeSum (g : zMt) : List zBl := [b_X1_takeSum_0 g, b_X1_takeSum_1 g, b_X1_takeSum_2 g, b_X1_takeSum_3 g, b_X1_takeSum_4 g, b_X1_takeSum_5 g, b_X1_takeSum_6 g, b_X1_takeSum_7 g, b_X1_takeSum_8 g, b_X1_takeSum_9 g]
theorem tt_X1_takeSum (d : Nat) (g : zMt) (hg : zC l G gh (d + 1) n_X1_takeProduct g) : zT (zPb l G gh (d + 2) n_X1_takeSum p_X1_takeSum) (t_X1_takeSum g) p_X1_takeSum := ⟨s_X1_takeSum_0 d g hg, s_X1_takeSum_1 d g hg, s_X1_takeSum_2 d g hg, s_X1_takeSum_3 d g hg, s_X1_takeSum_4 d g hg, s_X1_takeSum_5 d g hg, s_X1_takeSum_6 d g hg, s_X1_takeSum_7 d g hg, s_X1_takeSum_8 d g hg, s_X1_takeSum_9 d g hg, trivial⟩
noncomputable def b_X1_takeProduct_0 (g : zMt) : zBl := fun jp K => oAld 0 <| oIld 1 <| oCv 1 1 g <| oInt 2147483648 <| oIst 2 <| jp 1
theorem s_X1_takeProduct_0 (d : Nat) (g : zMt) (hg : zC l G gh (d + 1) n_X1_takeUnit g) : zPb l G gh (d + 2) n_X1_takeProduct p_X1_takeProduct 0 (b_X1_takeProduct_0 g) := fun K jp hj =>
    z_aload_n (n := 0) (i := 0) (zd (i := .aload_n 0) (n := 1) (by decide +kernel)) rfl <|
    z_iload_n (n := 1) (i := 1) (zd (i := .iload_n 1) (n := 1) (by decide +kernel)) rfl <|
    z_callV (idx := 137) (ci := 1) (N := n_X1_takeUnit) (zd (i := .invokevirtual 137) (n := 3) (by decide +kernel)) to_X1_takeUnit g663 g665 g14 (by decide +kernel) rfl rfl rfl hg <|
    z_iconst (n := 0) (zd (i := .iconst (0)) (n := 1) (by decide +kernel)) (by decide +kernel) <|
    z_istore_n (n := 2) (i := 2) (zd (i := .istore_n 2) (n := 1) (by decide +kernel)) rfl (by decide +kernel) <|
    (zj (hj 1) (by decide +kernel))
noncomputable def b_X1_takeProduct_1 (g : zMt) : zBl := fun jp K => oNLC 2 2147484048 zgtN zleN zn1_gt zn1_le (jp 9) (jp 2)
theorem s_X1_takeProduct_1 (d : Nat) (g : zMt) (hg : zC l G gh (d + 1) n_X1_takeUnit g) : zPb l G gh (d + 2) n_X1_takeProduct p_X1_takeProduct 7 (b_X1_takeProduct_1 g) := fun K jp hj =>
    z_nLC_gt (i := 2) (c0 := 2147484048) (a1 := 1) (a2 := 3) (off := 72) (tgt := 83) (zLd_n (n := 2) (i := 2) (zd (i := .iload_n 2) (n := 1) (by decide +kernel)) rfl) (zCn_s (n := 400) (zd (i := .sipush (400)) (n := 3) (by decide +kernel)) (by decide +kernel)) (zd (i := .if_icmp .gt (72)) (n := 3) (by decide +kernel)) (by decide +kernel) (zj (hj 9) (by decide +kernel)) (zj (hj 2) (by decide +kernel))
noncomputable def b_X1_takeProduct_2 (g : zMt) : zBl := fun jp K => oNFC 0 1 4 2147483648 zneN zeqN zn1_ne zn1_eq (jp 9) (jp 3)
theorem s_X1_takeProduct_2 (d : Nat) (g : zMt) (hg : zC l G gh (d + 1) n_X1_takeUnit g) : zPb l G gh (d + 2) n_X1_takeProduct p_X1_takeProduct 14 (b_X1_takeProduct_2 g) := fun K jp hj =>
    z_nF0_ne (r := 0) (ci := 1) (j := 4) (a1 := 4) (off := 65) (tgt := 83) (zFd_n (n := 0) (r := 0) (ci := 1) (j := 4) (idx := 32) (zd (i := .aload_n 0) (n := 1) (by decide +kernel)) rfl (zd (i := .getfield 32) (n := 3) (by decide +kernel)) (by decide +kernel) (by decide +kernel) rfl g339) (by decide +kernel) rfl (zd (i := .ifCond .ne (65)) (n := 3) (by decide +kernel)) (by decide +kernel) (zj (hj 9) (by decide +kernel)) (zj (hj 3) (by decide +kernel))
noncomputable def b_X1_takeProduct_3 (g : zMt) : zBl := fun jp K => oNFC 0 1 3 2147483690 zeqN zneN zn1_eq zn1_ne (jp 5) (jp 4)
theorem s_X1_takeProduct_3 (d : Nat) (g : zMt) (hg : zC l G gh (d + 1) n_X1_takeUnit g) : zPb l G gh (d + 2) n_X1_takeProduct p_X1_takeProduct 21 (b_X1_takeProduct_3 g) := fun K jp hj =>
    z_nFC_eq (r := 0) (ci := 1) (j := 3) (c0 := 2147483690) (a1 := 4) (a2 := 2) (off := 12) (tgt := 39) (zFd_n (n := 0) (r := 0) (ci := 1) (j := 3) (idx := 29) (zd (i := .aload_n 0) (n := 1) (by decide +kernel)) rfl (zd (i := .getfield 29) (n := 3) (by decide +kernel)) (by decide +kernel) (by decide +kernel) rfl g338) (by decide +kernel) rfl (zCn_b (n := 42) (zd (i := .bipush (42)) (n := 2) (by decide +kernel)) (by decide +kernel)) (zd (i := .if_icmp .eq (12)) (n := 3) (by decide +kernel)) (by decide +kernel) (zj (hj 5) (by decide +kernel)) (zj (hj 4) (by decide +kernel))
noncomputable def b_X1_takeProduct_4 (g : zMt) : zBl := fun jp K => oNFC 0 1 3 2147483695 zneN zeqN zn1_ne zn1_eq (jp 9) (jp 5)
theorem s_X1_takeProduct_4 (d : Nat) (g : zMt) (hg : zC l G gh (d + 1) n_X1_takeUnit g) : zPb l G gh (d + 2) n_X1_takeProduct p_X1_takeProduct 30 (b_X1_takeProduct_4 g) := fun K jp hj =>
    z_nFC_ne (r := 0) (ci := 1) (j := 3) (c0 := 2147483695) (a1 := 4) (a2 := 2) (off := 47) (tgt := 83) (zFd_n (n := 0) (r := 0) (ci := 1) (j := 3) (idx := 29) (zd (i := .aload_n 0) (n := 1) (by decide +kernel)) rfl (zd (i := .getfield 29) (n := 3) (by decide +kernel)) (by decide +kernel) (by decide +kernel) rfl g338) (by decide +kernel) rfl (zCn_b (n := 47) (zd (i := .bipush (47)) (n := 2) (by decide +kernel)) (by decide +kernel)) (zd (i := .if_icmp .ne (47)) (n := 3) (by decide +kernel)) (by decide +kernel) (zj (hj 9) (by decide +kernel)) (zj (hj 5) (by decide +kernel))
noncomputable def b_X1_takeProduct_5 (g : zMt) : zBl := fun jp K => oNFC 0 1 3 2147483690 zneN zeqN zn1_ne zn1_eq (jp 7) (jp 6)
theorem s_X1_takeProduct_5 (d : Nat) (g : zMt) (hg : zC l G gh (d + 1) n_X1_takeUnit g) : zPb l G gh (d + 2) n_X1_takeProduct p_X1_takeProduct 39 (b_X1_takeProduct_5 g) := fun K jp hj =>
    z_nFC_ne (r := 0) (ci := 1) (j := 3) (c0 := 2147483690) (a1 := 4) (a2 := 2) (off := 7) (tgt := 52) (zFd_n (n := 0) (r := 0) (ci := 1) (j := 3) (idx := 29) (zd (i := .aload_n 0) (n := 1) (by decide +kernel)) rfl (zd (i := .getfield 29) (n := 3) (by decide +kernel)) (by decide +kernel) (by decide +kernel) rfl g338) (by decide +kernel) rfl (zCn_b (n := 42) (zd (i := .bipush (42)) (n := 2) (by decide +kernel)) (by decide +kernel)) (zd (i := .if_icmp .ne (7)) (n := 3) (by decide +kernel)) (by decide +kernel) (zj (hj 7) (by decide +kernel)) (zj (hj 6) (by decide +kernel))
noncomputable def b_X1_takeProduct_6 (g : zMt) : zBl := fun jp K => oInt 2147483652 <| jp 8
theorem s_X1_takeProduct_6 (d : Nat) (g : zMt) (hg : zC l G gh (d + 1) n_X1_takeUnit g) : zPb l G gh (d + 2) n_X1_takeProduct p_X1_takeProduct 48 (b_X1_takeProduct_6 g) := fun K jp hj =>
    z_iconst (n := 4) (zd (i := .iconst (4)) (n := 1) (by decide +kernel)) (by decide +kernel) <|
    z_goto (off := 4) (tgt := 53) (zd (i := .goto (4)) (n := 3) (by decide +kernel)) (by decide +kernel) (zj (hj 8) (by decide +kernel))
noncomputable def b_X1_takeProduct_7 (g : zMt) : zBl := fun jp K => oInt 2147483653 <| jp 8
theorem s_X1_takeProduct_7 (d : Nat) (g : zMt) (hg : zC l G gh (d + 1) n_X1_takeUnit g) : zPb l G gh (d + 2) n_X1_takeProduct p_X1_takeProduct 52 (b_X1_takeProduct_7 g) := fun K jp hj =>
    z_iconst (n := 5) (zd (i := .iconst (5)) (n := 1) (by decide +kernel)) (by decide +kernel) <|
    (zj (hj 8) (by decide +kernel))
noncomputable def b_X1_takeProduct_8 (g : zMt) : zBl := fun jp K => oIst 3 <| oAld 0 <| oInt 2147483649 <| oCv 1 1 gs_X1_take <| oAld 0 <| oIld 1 <| oCv 1 1 g <| oAld 0 <| oGetR 1 1 <| oGetR 0 12 <| oIld 3 <| oInt 2147483648 <| oCv 2 2 f_X2_emit <| oPop <| oInc 2 2147483649 <| jp 1
theorem s_X1_takeProduct_8 (d : Nat) (g : zMt) (hg : zC l G gh (d + 1) n_X1_takeUnit g) : zPb l G gh (d + 2) n_X1_takeProduct p_X1_takeProduct 53 (b_X1_takeProduct_8 g) := fun K jp hj =>
    z_istore_n (n := 3) (i := 3) (zd (i := .istore_n 3) (n := 1) (by decide +kernel)) rfl (by decide +kernel) <|
    z_aload_n (n := 0) (i := 0) (zd (i := .aload_n 0) (n := 1) (by decide +kernel)) rfl <|
    z_iconst (n := 1) (zd (i := .iconst (1)) (n := 1) (by decide +kernel)) (by decide +kernel) <|
    z_callV (idx := 71) (ci := 1) (N := n_X1_take) (zd (i := .invokevirtual 71) (n := 3) (by decide +kernel)) to_X1_take g626 g628 g7 (by decide +kernel) rfl rfl rfl (cs_X1_take (l := l) (G := G) (gh := gh) (d)) <|
    z_aload_n (n := 0) (i := 0) (zd (i := .aload_n 0) (n := 1) (by decide +kernel)) rfl <|
    z_iload_n (n := 1) (i := 1) (zd (i := .iload_n 1) (n := 1) (by decide +kernel)) rfl <|
    z_callV (idx := 137) (ci := 1) (N := n_X1_takeUnit) (zd (i := .invokevirtual 137) (n := 3) (by decide +kernel)) to_X1_takeUnit g663 g665 g14 (by decide +kernel) rfl rfl rfl hg <|
    z_aload_n (n := 0) (i := 0) (zd (i := .aload_n 0) (n := 1) (by decide +kernel)) rfl <|
    z_getR (ci := 1) (j := 1) (idx := 21) (zd (i := .getfield 21) (n := 3) (by decide +kernel)) (by decide +kernel) (by decide +kernel) rfl g336 <|
    z_getR (ci := 0) (j := 12) (idx := 116) (zd (i := .getfield 116) (n := 3) (by decide +kernel)) (by decide +kernel) (by decide +kernel) rfl g307 <|
    z_iload_n (n := 3) (i := 3) (zd (i := .iload_n 3) (n := 1) (by decide +kernel)) rfl <|
    z_iconst (n := 0) (zd (i := .iconst (0)) (n := 1) (by decide +kernel)) (by decide +kernel) <|
    z_callV (idx := 128) (ci := 2) (N := n_X2_emit) (zd (i := .invokevirtual 128) (n := 3) (by decide +kernel)) to_X2_emit g667 g273 g274 (by decide +kernel) rfl rfl rfl (c_X2_emit (l := l) (G := G) (gh := gh) (d)) <|
    z_pop (zd (i := .pop) (n := 1) (by decide +kernel)) <|
    z_iinc (i := 2) (n := 1) (zd (i := .iinc 2 (1)) (n := 3) (by decide +kernel)) (by decide +kernel) (by decide +kernel) <|
    z_goto (off := -73) (tgt := 7) (zd (i := .goto (-73)) (n := 3) (by decide +kernel)) (by decide +kernel) (zj (hj 1) (by decide +kernel))
noncomputable def b_X1_takeProduct_9 (g : zMt) : zBl := fun jp K => oVret K
theorem s_X1_takeProduct_9 (d : Nat) (g : zMt) (hg : zC l G gh (d + 1) n_X1_takeUnit g) : zPb l G gh (d + 2) n_X1_takeProduct p_X1_takeProduct 83 (b_X1_takeProduct_9 g) := fun K jp hj =>
    z_vret (zd (i := .return_) (n := 1) (by decide +kernel)) rfl
noncomputable def t_X1_takeProduct (g : zMt) : List zBl := [b_X1_takeProduct_0 g, b_X1_takeProduct_1 g, b_X1_takeProduct_2 g, b_X1_takeProduct_3 g, b_X1_takeProduct_4 g, b_X1_takeProduct_5 g, b_X1_takeProduct_6 g, b_X1_takeProduct_7 g, b_X1_takeProduct_8 g, b_X1_takeProduct_9 g]
theorem tt_X1_takeProduct (d : Nat) (g : zMt) (hg : zC l G gh (d + 1) n_X1_takeUnit g) : zT (zPb l G gh (d + 2) n_X1_takeProduct p_X1_takeProduct) (t_X1_takeProduct g) p_X1_takeProduct := ⟨s_X1_takeProduct_0 d g hg, s_X1_takeProduct_1 d g hg, s_X1_takeProduct_2 d g hg, s_X1_takeProduct_3 d g hg, s_X1_takeProduct_4 d g hg, s_X1_takeProduct_5 d g hg, s_X1_takeProduct_6 d g hg, s_X1_takeProduct_7 d g hg, s_X1_takeProduct_8 d g hg, s_X1_takeProduct_9 d g hg, trivial⟩
noncomputable def b_X1_takeUnit_0 (g : zMt) : zBl := fun jp K => oNFC 0 1 4 2147483648 zeqN zneN zn1_eq zn1_ne (jp 2) (jp 1)
theorem s_X1_takeUnit_0 (d : Nat) (g : zMt) (hg : zC l G gh (d + 1) n_X1_takeSum g) : zPb l G gh (d + 2) n_X1_takeUnit p_X1_takeUnit 0 (b_X1_takeUnit_0 g) := fun K jp hj =>
    z_nF0_eq (r := 0) (ci := 1) (j := 4) (a1 := 4) (off := 4) (tgt := 8) (zFd_n (n := 0) (r := 0) (ci := 1) (j := 4) (idx := 32) (zd (i := .aload_n 0) (n := 1) (by decide +kernel)) rfl (zd (i := .getfield 32) (n := 3) (by decide +kernel)) (by decide +kernel) (by decide +kernel) rfl g339) (by decide +kernel) rfl (zd (i := .ifCond .eq (4)) (n := 3) (by decide +kernel)) (by decide +kernel) (zj (hj 2) (by decide +kernel)) (zj (hj 1) (by decide +kernel))
noncomputable def b_X1_takeUnit_1 (g : zMt) : zBl := fun jp K => oVret K
theorem s_X1_takeUnit_1 (d : Nat) (g : zMt) (hg : zC l G gh (d + 1) n_X1_takeSum g) : zPb l G gh (d + 2) n_X1_takeUnit p_X1_takeUnit 7 (b_X1_takeUnit_1 g) := fun K jp hj =>
    z_vret (zd (i := .return_) (n := 1) (by decide +kernel)) rfl
noncomputable def b_X1_takeUnit_2 (g : zMt) : zBl := fun jp K => oNFC 0 1 3 2147483651 zneN zeqN zn1_ne zn1_eq (jp 4) (jp 3)
theorem s_X1_takeUnit_2 (d : Nat) (g : zMt) (hg : zC l G gh (d + 1) n_X1_takeSum g) : zPb l G gh (d + 2) n_X1_takeUnit p_X1_takeUnit 8 (b_X1_takeUnit_2 g) := fun K jp hj =>
    z_nFC_ne (r := 0) (ci := 1) (j := 3) (c0 := 2147483651) (a1 := 4) (a2 := 1) (off := 36) (tgt := 49) (zFd_n (n := 0) (r := 0) (ci := 1) (j := 3) (idx := 29) (zd (i := .aload_n 0) (n := 1) (by decide +kernel)) rfl (zd (i := .getfield 29) (n := 3) (by decide +kernel)) (by decide +kernel) (by decide +kernel) rfl g338) (by decide +kernel) rfl (zCn_c (n := 3) (zd (i := .iconst (3)) (n := 1) (by decide +kernel)) (by decide +kernel)) (zd (i := .if_icmp .ne (36)) (n := 3) (by decide +kernel)) (by decide +kernel) (zj (hj 4) (by decide +kernel)) (zj (hj 3) (by decide +kernel))
noncomputable def b_X1_takeUnit_3 (g : zMt) : zBl := fun jp K => oAld 0 <| oGetR 1 1 <| oGetR 0 12 <| oInt 2147483648 <| oAld 0 <| oGetR 1 0 <| oGetR 6 3 <| oAld 0 <| oGetI 1 2 <| oLald <| oL2i <| oCv 2 2 f_X2_emit <| oPop <| oAld 0 <| oInt 2147483649 <| oCv 1 1 gs_X1_take <| jp 17
theorem s_X1_takeUnit_3 (d : Nat) (g : zMt) (hg : zC l G gh (d + 1) n_X1_takeSum g) : zPb l G gh (d + 2) n_X1_takeUnit p_X1_takeUnit 16 (b_X1_takeUnit_3 g) := fun K jp hj =>
    z_aload_n (n := 0) (i := 0) (zd (i := .aload_n 0) (n := 1) (by decide +kernel)) rfl <|
    z_getR (ci := 1) (j := 1) (idx := 21) (zd (i := .getfield 21) (n := 3) (by decide +kernel)) (by decide +kernel) (by decide +kernel) rfl g336 <|
    z_getR (ci := 0) (j := 12) (idx := 116) (zd (i := .getfield 116) (n := 3) (by decide +kernel)) (by decide +kernel) (by decide +kernel) rfl g307 <|
    z_iconst (n := 0) (zd (i := .iconst (0)) (n := 1) (by decide +kernel)) (by decide +kernel) <|
    z_aload_n (n := 0) (i := 0) (zd (i := .aload_n 0) (n := 1) (by decide +kernel)) rfl <|
    z_getR (ci := 1) (j := 0) (idx := 12) (zd (i := .getfield 12) (n := 3) (by decide +kernel)) (by decide +kernel) (by decide +kernel) rfl g335 <|
    z_getR (ci := 6) (j := 3) (idx := 84) (zd (i := .getfield 84) (n := 3) (by decide +kernel)) (by decide +kernel) (by decide +kernel) rfl g210 <|
    z_aload_n (n := 0) (i := 0) (zd (i := .aload_n 0) (n := 1) (by decide +kernel)) rfl <|
    z_getI (ci := 1) (j := 2) (idx := 25) (zd (i := .getfield 25) (n := 3) (by decide +kernel)) (by decide +kernel) (by decide +kernel) rfl g337 <|
    z_lald (zd (i := .laload) (n := 1) (by decide +kernel)) <|
    z_l2i (zd (i := .l2i) (n := 1) (by decide +kernel)) <|
    z_callV (idx := 128) (ci := 2) (N := n_X2_emit) (zd (i := .invokevirtual 128) (n := 3) (by decide +kernel)) to_X2_emit g667 g273 g274 (by decide +kernel) rfl rfl rfl (c_X2_emit (l := l) (G := G) (gh := gh) (d)) <|
    z_pop (zd (i := .pop) (n := 1) (by decide +kernel)) <|
    z_aload_n (n := 0) (i := 0) (zd (i := .aload_n 0) (n := 1) (by decide +kernel)) rfl <|
    z_iconst (n := 1) (zd (i := .iconst (1)) (n := 1) (by decide +kernel)) (by decide +kernel) <|
    z_callV (idx := 71) (ci := 1) (N := n_X1_take) (zd (i := .invokevirtual 71) (n := 3) (by decide +kernel)) to_X1_take g626 g628 g7 (by decide +kernel) rfl rfl rfl (cs_X1_take (l := l) (G := G) (gh := gh) (d)) <|
    z_goto (off := 117) (tgt := 163) (zd (i := .goto (117)) (n := 3) (by decide +kernel)) (by decide +kernel) (zj (hj 17) (by decide +kernel))
noncomputable def b_X1_takeUnit_4 (g : zMt) : zBl := fun jp K => oNFC 0 1 3 2147483790 zltN zgeN zn1_lt zn1_ge (jp 7) (jp 5)
theorem s_X1_takeUnit_4 (d : Nat) (g : zMt) (hg : zC l G gh (d + 1) n_X1_takeSum g) : zPb l G gh (d + 2) n_X1_takeUnit p_X1_takeUnit 49 (b_X1_takeUnit_4 g) := fun K jp hj =>
    z_nFC_lt (r := 0) (ci := 1) (j := 3) (c0 := 2147483790) (a1 := 4) (a2 := 3) (off := 41) (tgt := 97) (zFd_n (n := 0) (r := 0) (ci := 1) (j := 3) (idx := 29) (zd (i := .aload_n 0) (n := 1) (by decide +kernel)) rfl (zd (i := .getfield 29) (n := 3) (by decide +kernel)) (by decide +kernel) (by decide +kernel) rfl g338) (by decide +kernel) rfl (zCn_s (n := 142) (zd (i := .sipush (142)) (n := 3) (by decide +kernel)) (by decide +kernel)) (zd (i := .if_icmp .lt (41)) (n := 3) (by decide +kernel)) (by decide +kernel) (zj (hj 7) (by decide +kernel)) (zj (hj 5) (by decide +kernel))
noncomputable def b_X1_takeUnit_5 (g : zMt) : zBl := fun jp K => oNFC 0 1 3 2147483799 zgeN zltN zn1_ge zn1_lt (jp 7) (jp 6)
theorem s_X1_takeUnit_5 (d : Nat) (g : zMt) (hg : zC l G gh (d + 1) n_X1_takeSum g) : zPb l G gh (d + 2) n_X1_takeUnit p_X1_takeUnit 59 (b_X1_takeUnit_5 g) := fun K jp hj =>
    z_nFC_ge (r := 0) (ci := 1) (j := 3) (c0 := 2147483799) (a1 := 4) (a2 := 3) (off := 31) (tgt := 97) (zFd_n (n := 0) (r := 0) (ci := 1) (j := 3) (idx := 29) (zd (i := .aload_n 0) (n := 1) (by decide +kernel)) rfl (zd (i := .getfield 29) (n := 3) (by decide +kernel)) (by decide +kernel) (by decide +kernel) rfl g338) (by decide +kernel) rfl (zCn_s (n := 151) (zd (i := .sipush (151)) (n := 3) (by decide +kernel)) (by decide +kernel)) (zd (i := .if_icmp .ge (31)) (n := 3) (by decide +kernel)) (by decide +kernel) (zj (hj 7) (by decide +kernel)) (zj (hj 6) (by decide +kernel))
noncomputable def b_X1_takeUnit_6 (g : zMt) : zBl := fun jp K => oAld 0 <| oGetR 1 1 <| oGetR 0 12 <| oInt 2147483649 <| oAld 0 <| oGetI 1 3 <| oInt 2147483790 <| oB2 zsub <| oCv 2 2 f_X2_emit <| oPop <| oAld 0 <| oInt 2147483649 <| oCv 1 1 gs_X1_take <| jp 17
theorem s_X1_takeUnit_6 (d : Nat) (g : zMt) (hg : zC l G gh (d + 1) n_X1_takeSum g) : zPb l G gh (d + 2) n_X1_takeUnit p_X1_takeUnit 69 (b_X1_takeUnit_6 g) := fun K jp hj =>
    z_aload_n (n := 0) (i := 0) (zd (i := .aload_n 0) (n := 1) (by decide +kernel)) rfl <|
    z_getR (ci := 1) (j := 1) (idx := 21) (zd (i := .getfield 21) (n := 3) (by decide +kernel)) (by decide +kernel) (by decide +kernel) rfl g336 <|
    z_getR (ci := 0) (j := 12) (idx := 116) (zd (i := .getfield 116) (n := 3) (by decide +kernel)) (by decide +kernel) (by decide +kernel) rfl g307 <|
    z_iconst (n := 1) (zd (i := .iconst (1)) (n := 1) (by decide +kernel)) (by decide +kernel) <|
    z_aload_n (n := 0) (i := 0) (zd (i := .aload_n 0) (n := 1) (by decide +kernel)) rfl <|
    z_getI (ci := 1) (j := 3) (idx := 29) (zd (i := .getfield 29) (n := 3) (by decide +kernel)) (by decide +kernel) (by decide +kernel) rfl g338 <|
    z_sipush (n := 142) (zd (i := .sipush (142)) (n := 3) (by decide +kernel)) (by decide +kernel) <|
    z_isub (zd (i := .isub) (n := 1) (by decide +kernel)) <|
    z_callV (idx := 128) (ci := 2) (N := n_X2_emit) (zd (i := .invokevirtual 128) (n := 3) (by decide +kernel)) to_X2_emit g667 g273 g274 (by decide +kernel) rfl rfl rfl (c_X2_emit (l := l) (G := G) (gh := gh) (d)) <|
    z_pop (zd (i := .pop) (n := 1) (by decide +kernel)) <|
    z_aload_n (n := 0) (i := 0) (zd (i := .aload_n 0) (n := 1) (by decide +kernel)) rfl <|
    z_iconst (n := 1) (zd (i := .iconst (1)) (n := 1) (by decide +kernel)) (by decide +kernel) <|
    z_callV (idx := 71) (ci := 1) (N := n_X1_take) (zd (i := .invokevirtual 71) (n := 3) (by decide +kernel)) to_X1_take g626 g628 g7 (by decide +kernel) rfl rfl rfl (cs_X1_take (l := l) (G := G) (gh := gh) (d)) <|
    z_goto (off := 69) (tgt := 163) (zd (i := .goto (69)) (n := 3) (by decide +kernel)) (by decide +kernel) (zj (hj 17) (by decide +kernel))
noncomputable def b_X1_takeUnit_7 (g : zMt) : zBl := fun jp K => oNFC 0 1 3 2147483688 zneN zeqN zn1_ne zn1_eq (jp 13) (jp 8)
theorem s_X1_takeUnit_7 (d : Nat) (g : zMt) (hg : zC l G gh (d + 1) n_X1_takeSum g) : zPb l G gh (d + 2) n_X1_takeUnit p_X1_takeUnit 97 (b_X1_takeUnit_7 g) := fun K jp hj =>
    z_nFC_ne (r := 0) (ci := 1) (j := 3) (c0 := 2147483688) (a1 := 4) (a2 := 2) (off := 42) (tgt := 145) (zFd_n (n := 0) (r := 0) (ci := 1) (j := 3) (idx := 29) (zd (i := .aload_n 0) (n := 1) (by decide +kernel)) rfl (zd (i := .getfield 29) (n := 3) (by decide +kernel)) (by decide +kernel) (by decide +kernel) rfl g338) (by decide +kernel) rfl (zCn_b (n := 40) (zd (i := .bipush (40)) (n := 2) (by decide +kernel)) (by decide +kernel)) (zd (i := .if_icmp .ne (42)) (n := 3) (by decide +kernel)) (by decide +kernel) (zj (hj 13) (by decide +kernel)) (zj (hj 8) (by decide +kernel))
noncomputable def b_X1_takeUnit_8 (g : zMt) : zBl := fun jp K => oNLC 1 2147483654 zgeN zltN zn1_ge zn1_lt (jp 13) (jp 9)
theorem s_X1_takeUnit_8 (d : Nat) (g : zMt) (hg : zC l G gh (d + 1) n_X1_takeSum g) : zPb l G gh (d + 2) n_X1_takeUnit p_X1_takeUnit 106 (b_X1_takeUnit_8 g) := fun K jp hj =>
    z_nLC_ge (i := 1) (c0 := 2147483654) (a1 := 1) (a2 := 2) (off := 36) (tgt := 145) (zLd_n (n := 1) (i := 1) (zd (i := .iload_n 1) (n := 1) (by decide +kernel)) rfl) (zCn_b (n := 6) (zd (i := .bipush (6)) (n := 2) (by decide +kernel)) (by decide +kernel)) (zd (i := .if_icmp .ge (36)) (n := 3) (by decide +kernel)) (by decide +kernel) (zj (hj 13) (by decide +kernel)) (zj (hj 9) (by decide +kernel))
noncomputable def b_X1_takeUnit_9 (g : zMt) : zBl := fun jp K => oAld 0 <| oInt 2147483649 <| oCv 1 1 gs_X1_take <| oAld 0 <| oIld 1 <| oInt 2147483649 <| oB2 zadd <| oCv 1 1 g <| oAld 0 <| oNFC 0 1 3 2147483689 zneN zeqN zn1_ne zn1_eq (jp 11) (jp 10)
theorem s_X1_takeUnit_9 (d : Nat) (g : zMt) (hg : zC l G gh (d + 1) n_X1_takeSum g) : zPb l G gh (d + 2) n_X1_takeUnit p_X1_takeUnit 112 (b_X1_takeUnit_9 g) := fun K jp hj =>
    z_aload_n (n := 0) (i := 0) (zd (i := .aload_n 0) (n := 1) (by decide +kernel)) rfl <|
    z_iconst (n := 1) (zd (i := .iconst (1)) (n := 1) (by decide +kernel)) (by decide +kernel) <|
    z_callV (idx := 71) (ci := 1) (N := n_X1_take) (zd (i := .invokevirtual 71) (n := 3) (by decide +kernel)) to_X1_take g626 g628 g7 (by decide +kernel) rfl rfl rfl (cs_X1_take (l := l) (G := G) (gh := gh) (d)) <|
    z_aload_n (n := 0) (i := 0) (zd (i := .aload_n 0) (n := 1) (by decide +kernel)) rfl <|
    z_iload_n (n := 1) (i := 1) (zd (i := .iload_n 1) (n := 1) (by decide +kernel)) rfl <|
    z_iconst (n := 1) (zd (i := .iconst (1)) (n := 1) (by decide +kernel)) (by decide +kernel) <|
    z_iadd (zd (i := .iadd) (n := 1) (by decide +kernel)) <|
    z_callV (idx := 125) (ci := 1) (N := n_X1_takeSum) (zd (i := .invokevirtual 125) (n := 3) (by decide +kernel)) to_X1_takeSum g655 g657 g12 (by decide +kernel) rfl rfl rfl hg <|
    z_aload_n (n := 0) (i := 0) (zd (i := .aload_n 0) (n := 1) (by decide +kernel)) rfl <|
    z_nFC_ne (r := 0) (ci := 1) (j := 3) (c0 := 2147483689) (a1 := 4) (a2 := 2) (off := 7) (tgt := 138) (zFd_n (n := 0) (r := 0) (ci := 1) (j := 3) (idx := 29) (zd (i := .aload_n 0) (n := 1) (by decide +kernel)) rfl (zd (i := .getfield 29) (n := 3) (by decide +kernel)) (by decide +kernel) (by decide +kernel) rfl g338) (by decide +kernel) rfl (zCn_b (n := 41) (zd (i := .bipush (41)) (n := 2) (by decide +kernel)) (by decide +kernel)) (zd (i := .if_icmp .ne (7)) (n := 3) (by decide +kernel)) (by decide +kernel) (zj (hj 11) (by decide +kernel)) (zj (hj 10) (by decide +kernel))
noncomputable def b_X1_takeUnit_10 (g : zMt) : zBl := fun jp K => oInt 2147483649 <| jp 12
theorem s_X1_takeUnit_10 (d : Nat) (g : zMt) (hg : zC l G gh (d + 1) n_X1_takeSum g) : zPb l G gh (d + 2) n_X1_takeUnit p_X1_takeUnit 134 (b_X1_takeUnit_10 g) := fun K jp hj =>
    z_iconst (n := 1) (zd (i := .iconst (1)) (n := 1) (by decide +kernel)) (by decide +kernel) <|
    z_goto (off := 4) (tgt := 139) (zd (i := .goto (4)) (n := 3) (by decide +kernel)) (by decide +kernel) (zj (hj 12) (by decide +kernel))
noncomputable def b_X1_takeUnit_11 (g : zMt) : zBl := fun jp K => oInt 2147483648 <| jp 12
theorem s_X1_takeUnit_11 (d : Nat) (g : zMt) (hg : zC l G gh (d + 1) n_X1_takeSum g) : zPb l G gh (d + 2) n_X1_takeUnit p_X1_takeUnit 138 (b_X1_takeUnit_11 g) := fun K jp hj =>
    z_iconst (n := 0) (zd (i := .iconst (0)) (n := 1) (by decide +kernel)) (by decide +kernel) <|
    (zj (hj 12) (by decide +kernel))
noncomputable def b_X1_takeUnit_12 (g : zMt) : zBl := fun jp K => oCv 1 1 gs_X1_take <| jp 17
theorem s_X1_takeUnit_12 (d : Nat) (g : zMt) (hg : zC l G gh (d + 1) n_X1_takeSum g) : zPb l G gh (d + 2) n_X1_takeUnit p_X1_takeUnit 139 (b_X1_takeUnit_12 g) := fun K jp hj =>
    z_callV (idx := 71) (ci := 1) (N := n_X1_take) (zd (i := .invokevirtual 71) (n := 3) (by decide +kernel)) to_X1_take g626 g628 g7 (by decide +kernel) rfl rfl rfl (cs_X1_take (l := l) (G := G) (gh := gh) (d)) <|
    z_goto (off := 21) (tgt := 163) (zd (i := .goto (21)) (n := 3) (by decide +kernel)) (by decide +kernel) (zj (hj 17) (by decide +kernel))
noncomputable def b_X1_takeUnit_13 (g : zMt) : zBl := fun jp K => oAld 0 <| oNFC 0 1 3 2147483688 zneN zeqN zn1_ne zn1_eq (jp 15) (jp 14)
theorem s_X1_takeUnit_13 (d : Nat) (g : zMt) (hg : zC l G gh (d + 1) n_X1_takeSum g) : zPb l G gh (d + 2) n_X1_takeUnit p_X1_takeUnit 145 (b_X1_takeUnit_13 g) := fun K jp hj =>
    z_aload_n (n := 0) (i := 0) (zd (i := .aload_n 0) (n := 1) (by decide +kernel)) rfl <|
    z_nFC_ne (r := 0) (ci := 1) (j := 3) (c0 := 2147483688) (a1 := 4) (a2 := 2) (off := 7) (tgt := 159) (zFd_n (n := 0) (r := 0) (ci := 1) (j := 3) (idx := 29) (zd (i := .aload_n 0) (n := 1) (by decide +kernel)) rfl (zd (i := .getfield 29) (n := 3) (by decide +kernel)) (by decide +kernel) (by decide +kernel) rfl g338) (by decide +kernel) rfl (zCn_b (n := 40) (zd (i := .bipush (40)) (n := 2) (by decide +kernel)) (by decide +kernel)) (zd (i := .if_icmp .ne (7)) (n := 3) (by decide +kernel)) (by decide +kernel) (zj (hj 15) (by decide +kernel)) (zj (hj 14) (by decide +kernel))
noncomputable def b_X1_takeUnit_14 (g : zMt) : zBl := fun jp K => oInt 2147483650 <| jp 16
theorem s_X1_takeUnit_14 (d : Nat) (g : zMt) (hg : zC l G gh (d + 1) n_X1_takeSum g) : zPb l G gh (d + 2) n_X1_takeUnit p_X1_takeUnit 155 (b_X1_takeUnit_14 g) := fun K jp hj =>
    z_iconst (n := 2) (zd (i := .iconst (2)) (n := 1) (by decide +kernel)) (by decide +kernel) <|
    z_goto (off := 4) (tgt := 160) (zd (i := .goto (4)) (n := 3) (by decide +kernel)) (by decide +kernel) (zj (hj 16) (by decide +kernel))
noncomputable def b_X1_takeUnit_15 (g : zMt) : zBl := fun jp K => oInt 2147483649 <| jp 16
theorem s_X1_takeUnit_15 (d : Nat) (g : zMt) (hg : zC l G gh (d + 1) n_X1_takeSum g) : zPb l G gh (d + 2) n_X1_takeUnit p_X1_takeUnit 159 (b_X1_takeUnit_15 g) := fun K jp hj =>
    z_iconst (n := 1) (zd (i := .iconst (1)) (n := 1) (by decide +kernel)) (by decide +kernel) <|
    (zj (hj 16) (by decide +kernel))
noncomputable def b_X1_takeUnit_16 (g : zMt) : zBl := fun jp K => oCv 1 1 f_X1_fail <| jp 17
theorem s_X1_takeUnit_16 (d : Nat) (g : zMt) (hg : zC l G gh (d + 1) n_X1_takeSum g) : zPb l G gh (d + 2) n_X1_takeUnit p_X1_takeUnit 160 (b_X1_takeUnit_16 g) := fun K jp hj =>
    z_callV (idx := 67) (ci := 1) (N := n_X1_fail) (zd (i := .invokevirtual 67) (n := 3) (by decide +kernel)) to_X1_fail g622 g624 g6 (by decide +kernel) rfl rfl rfl (c_X1_fail (l := l) (G := G) (gh := gh) (d)) <|
    (zj (hj 17) (by decide +kernel))
noncomputable def b_X1_takeUnit_17 (g : zMt) : zBl := fun jp K => oVret K
theorem s_X1_takeUnit_17 (d : Nat) (g : zMt) (hg : zC l G gh (d + 1) n_X1_takeSum g) : zPb l G gh (d + 2) n_X1_takeUnit p_X1_takeUnit 163 (b_X1_takeUnit_17 g) := fun K jp hj =>
    z_vret (zd (i := .return_) (n := 1) (by decide +kernel)) rfl
noncomputable def t_X1_takeUnit (g : zMt) : List zBl := [b_X1_takeUnit_0 g, b_X1_takeUnit_1 g, b_X1_takeUnit_2 g, b_X1_takeUnit_3 g, b_X1_takeUnit_4 g, b_X1_takeUnit_5 g, b_X1_takeUnit_6 g, b_X1_takeUnit_7 g, b_X1_takeUnit_8 g, b_X1_takeUnit_9 g, b_X1_takeUnit_10 g, b_X1_takeUnit_11 g, b_X1_takeUnit_12 g, b_X1_takeUnit_13 g, b_X1_takeUnit_14 g, b_X1_takeUnit_15 g, b_X1_takeUnit_16 g, b_X1_takeUnit_17 g]
theorem tt_X1_takeUnit (d : Nat) (g : zMt) (hg : zC l G gh (d + 1) n_X1_takeSum g) : zT (zPb l G gh (d + 2) n_X1_takeUnit p_X1_takeUnit) (t_X1_takeUnit g) p_X1_takeUnit := ⟨s_X1_takeUnit_0 d g hg, s_X1_takeUnit_1 d g hg, s_X1_takeUnit_2 d g hg, s_X1_takeUnit_3 d g hg, s_X1_takeUnit_4 d g hg, s_X1_takeUnit_5 d g hg, s_X1_takeUnit_6 d g hg, s_X1_takeUnit_7 d g hg, s_X1_takeUnit_8 d g hg, s_X1_takeUnit_9 d g hg, s_X1_takeUnit_10 d g hg, s_X1_takeUnit_11 d g hg, s_X1_takeUnit_12 d g hg, s_X1_takeUnit_13 d g hg, s_X1_takeUnit_14 d g hg, s_X1_takeUnit_15 d g hg, s_X1_takeUnit_16 d g hg, s_X1_takeUnit_17 d g hg, trivial⟩
def zgno : zMt := fun _ _ _ _ => false
theorem zgno_ok (d : Nat) (N : qMn) : zC l G gh d N zgno := fun _ _ _ _ h => by cases h
def q_X1_takeUnit_0 : List (Nat × Nat) := [(3, zk1), (4, zk0), (6, zk2), (7, zk2), (8, 143923), (9, zk6), (15, zk17), (16, zk33), (17, zk33)]
noncomputable def al_X1_takeUnit_0 : zAq := [(none, [(3, zk3), (4, zk0), (6, zk2), (7, zk2), (8, 143923), (9, zk6), (15, zk114), (16, zk115), (17, zk115)])]
noncomputable def fm_X1_takeUnit_0 : List zFm := [(0, [], (fun vs => [.inr (.ref 3), .inl 2147483654]), (fun vs => zP q_X1_takeUnit_0), (fun vs => Nat.sub (Nat.add 0 0) 0))]
def bf_X1_takeUnit_0 : List Nat := []
theorem r_X1_takeUnit_0_0 : zbox [] (fun vs => zFrun (zpost (zAlq al_X1_takeUnit_0)) 1000 (t_X1_takeUnit zgno) fm_X1_takeUnit_0 bf_X1_takeUnit_0 (0, vs)) = true := by decide +kernel
set_option maxRecDepth 100000 in
theorem x_X1_takeUnit_0 (d : Nat) : zS l G gh (d + 2) (zpost (zAlq al_X1_takeUnit_0)) n_X1_takeUnit (zn 0 p_X1_takeUnit 0) (zwc (0, [.inr (.ref 3), .inl 2147483654], zP q_X1_takeUnit_0) 0) := zentry (tt_X1_takeUnit d zgno (zgno_ok (l := l) (G := G) (gh := gh) (d + 1) _)) fm_X1_takeUnit_0 bf_X1_takeUnit_0 1000 (by decide +kernel) rfl ⟨Nat.zero_lt_succ _, trivial⟩ (fun f hf => match f, hf with
  | 0, _ => fun vs hv => (zbox_t r_X1_takeUnit_0_0) vs hv
  | f + 1, h => absurd (show f + 1 < 1 from h) (Nat.not_lt.mpr (Nat.le_add_left 1 f)))
noncomputable def gs_X1_takeUnit_0 : zMt := zgq false [] 2 [.inr (.ref 3), .inl 2147483654] q_X1_takeUnit_0 al_X1_takeUnit_0
set_option maxRecDepth 100000 in
theorem cs_X1_takeUnit_0 (d : Nat) : zC l G gh (d + 2) n_X1_takeUnit gs_X1_takeUnit_0 := zgq_ok0 (pcs := p_X1_takeUnit) (by decide) rfl rfl (fun a ha => by simp only [al_X1_takeUnit_0, List.mem_cons, List.not_mem_nil, or_false] at ha; rcases ha with rfl <;> decide +kernel) (fun gh => x_X1_takeUnit_0 d) (by decide +kernel)
def q_X1_takeProduct_0 : List (Nat × Nat) := [(3, zk1), (4, zk0), (6, zk2), (7, zk2), (8, 143923), (9, zk6), (15, zk17), (16, zk33), (17, zk33)]
noncomputable def al_X1_takeProduct_0 : zAq := [(none, [(3, zk3), (4, zk0), (6, zk2), (7, zk2), (8, 143923), (9, zk6), (15, zk114), (16, zk115), (17, zk115)])]
def mq_X1_takeProduct_0_1 : List (Nat × Nat) := [(3, zk3), (4, zk0), (6, zk2), (7, zk2), (8, 143923), (9, zk6), (15, zk114), (16, zk115), (17, zk115)]
noncomputable def fm_X1_takeProduct_0 : List zFm := [(0, [], (fun vs => [.inr (.ref 3), .inl 2147483654]), (fun vs => zP q_X1_takeProduct_0), (fun vs => Nat.sub (Nat.add 402 0) 0)),
  (1, [(2, 2147483648, 2147484049)], (fun vs => [.inr (.ref 3), .inl 2147483654, .inl (zn 0 vs 0)]), (fun vs => zP mq_X1_takeProduct_0_1), (fun vs => Nat.sub (Nat.add 2147484049 0) (Nat.add 0 (Nat.mul 1 (zn 0 vs 0)))))]
def bf_X1_takeProduct_0 : List Nat := [0, 2]
theorem r_X1_takeProduct_0_0 : zbox [] (fun vs => zFrun (zpost (zAlq al_X1_takeProduct_0)) 1000 (t_X1_takeProduct gs_X1_takeUnit_0) fm_X1_takeProduct_0 bf_X1_takeProduct_0 (0, vs)) = true := by decide +kernel
theorem r_X1_takeProduct_0_1 : zbox [(2, 2147483648, 2147484049)] (fun vs => zFrun (zpost (zAlq al_X1_takeProduct_0)) 1000 (t_X1_takeProduct gs_X1_takeUnit_0) fm_X1_takeProduct_0 bf_X1_takeProduct_0 (1, vs)) = true := by decide +kernel
set_option maxRecDepth 100000 in
theorem x_X1_takeProduct_0 (d : Nat) : zS l G gh (d + 3) (zpost (zAlq al_X1_takeProduct_0)) n_X1_takeProduct (zn 0 p_X1_takeProduct 0) (zwc (0, [.inr (.ref 3), .inl 2147483654], zP q_X1_takeProduct_0) 0) := zentry (tt_X1_takeProduct (d + 1) gs_X1_takeUnit_0 (cs_X1_takeUnit_0 (l := l) (G := G) (gh := gh) d)) fm_X1_takeProduct_0 bf_X1_takeProduct_0 1000 (by decide +kernel) rfl ⟨Nat.zero_lt_succ _, trivial⟩ (fun f hf => match f, hf with
  | 0, _ => fun vs hv => (zbox_t r_X1_takeProduct_0_0) vs hv
  | 1, _ => fun vs hv => (zbox_t r_X1_takeProduct_0_1) vs hv
  | f + 2, h => absurd (show f + 2 < 2 from h) (Nat.not_lt.mpr (Nat.le_add_left 2 f)))
noncomputable def gs_X1_takeProduct_0 : zMt := zgq false [] 4 [.inr (.ref 3), .inl 2147483654] q_X1_takeProduct_0 al_X1_takeProduct_0
set_option maxRecDepth 100000 in
theorem cs_X1_takeProduct_0 (d : Nat) : zC l G gh (d + 3) n_X1_takeProduct gs_X1_takeProduct_0 := zgq_ok0 (pcs := p_X1_takeProduct) (by decide) rfl rfl (fun a ha => by simp only [al_X1_takeProduct_0, List.mem_cons, List.not_mem_nil, or_false] at ha; rcases ha with rfl <;> decide +kernel) (fun gh => x_X1_takeProduct_0 d) (by decide +kernel)
def q_X1_takeSum_0 : List (Nat × Nat) := [(3, zk1), (4, zk0), (6, zk2), (7, zk2), (8, 143923), (9, zk6), (15, zk17), (16, zk33), (17, zk33)]
noncomputable def al_X1_takeSum_0 : zAq := [(none, [(3, zk3), (4, zk0), (6, zk2), (7, zk2), (8, 143923), (9, zk6), (15, zk114), (16, zk115), (17, zk115)])]
def mq_X1_takeSum_0_1 : List (Nat × Nat) := [(3, zk3), (4, zk0), (6, zk2), (7, zk2), (8, 143923), (9, zk6), (15, zk114), (16, zk115), (17, zk115)]
noncomputable def fm_X1_takeSum_0 : List zFm := [(0, [], (fun vs => [.inr (.ref 3), .inl 2147483654]), (fun vs => zP q_X1_takeSum_0), (fun vs => Nat.sub (Nat.add 402 0) 0)),
  (1, [(2, 2147483648, 2147484049)], (fun vs => [.inr (.ref 3), .inl 2147483654, .inl (zn 0 vs 0)]), (fun vs => zP mq_X1_takeSum_0_1), (fun vs => Nat.sub (Nat.add 2147484049 0) (Nat.add 0 (Nat.mul 1 (zn 0 vs 0)))))]
def bf_X1_takeSum_0 : List Nat := [0, 2]
theorem r_X1_takeSum_0_0 : zbox [] (fun vs => zFrun (zpost (zAlq al_X1_takeSum_0)) 1000 (t_X1_takeSum gs_X1_takeProduct_0) fm_X1_takeSum_0 bf_X1_takeSum_0 (0, vs)) = true := by decide +kernel
theorem r_X1_takeSum_0_1 : zbox [(2, 2147483648, 2147484049)] (fun vs => zFrun (zpost (zAlq al_X1_takeSum_0)) 1000 (t_X1_takeSum gs_X1_takeProduct_0) fm_X1_takeSum_0 bf_X1_takeSum_0 (1, vs)) = true := by decide +kernel
set_option maxRecDepth 100000 in
theorem x_X1_takeSum_0 (d : Nat) : zS l G gh (d + 4) (zpost (zAlq al_X1_takeSum_0)) n_X1_takeSum (zn 0 p_X1_takeSum 0) (zwc (0, [.inr (.ref 3), .inl 2147483654], zP q_X1_takeSum_0) 0) := zentry (tt_X1_takeSum (d + 2) gs_X1_takeProduct_0 (cs_X1_takeProduct_0 (l := l) (G := G) (gh := gh) d)) fm_X1_takeSum_0 bf_X1_takeSum_0 1000 (by decide +kernel) rfl ⟨Nat.zero_lt_succ _, trivial⟩ (fun f hf => match f, hf with
  | 0, _ => fun vs hv => (zbox_t r_X1_takeSum_0_0) vs hv
  | 1, _ => fun vs hv => (zbox_t r_X1_takeSum_0_1) vs hv
  | f + 2, h => absurd (show f + 2 < 2 from h) (Nat.not_lt.mpr (Nat.le_add_left 2 f)))
noncomputable def gs_X1_takeSum_0 : zMt := zgq false [] 4 [.inr (.ref 3), .inl 2147483654] q_X1_takeSum_0 al_X1_takeSum_0
set_option maxRecDepth 100000 in
theorem cs_X1_takeSum_0 (d : Nat) : zC l G gh (d + 4) n_X1_takeSum gs_X1_takeSum_0 := zgq_ok0 (pcs := p_X1_takeSum) (by decide) rfl rfl (fun a ha => by simp only [al_X1_takeSum_0, List.mem_cons, List.not_mem_nil, or_false] at ha; rcases ha with rfl <;> decide +kernel) (fun gh => x_X1_takeSum_0 d) (by decide +kernel)
def q_X1_takeUnit_7 : List (Nat × Nat) := [(3, zk4), (4, zk0), (6, zk2), (7, zk2), (8, 143923), (259, zk8), (265, zk14), (266, zk33), (267, zk33)]
noncomputable def al_X1_takeUnit_7 : zAq := [(none, [(3, zk5), (4, zk0), (6, zk2), (7, zk2), (8, 143923), (259, zk8), (265, zk116), (266, zk115), (267, zk115)])]
noncomputable def fm_X1_takeUnit_7 : List zFm := [(0, [], (fun vs => [.inr (.ref 3), .inl 2147483654]), (fun vs => zP q_X1_takeUnit_7), (fun vs => Nat.sub (Nat.add 0 0) 0))]
def bf_X1_takeUnit_7 : List Nat := []
theorem r_X1_takeUnit_7_0 : zbox [] (fun vs => zFrun (zpost (zAlq al_X1_takeUnit_7)) 1000 (t_X1_takeUnit zgno) fm_X1_takeUnit_7 bf_X1_takeUnit_7 (0, vs)) = true := by decide +kernel
set_option maxRecDepth 100000 in
theorem x_X1_takeUnit_7 (d : Nat) : zS l G gh (d + 2) (zpost (zAlq al_X1_takeUnit_7)) n_X1_takeUnit (zn 0 p_X1_takeUnit 0) (zwc (0, [.inr (.ref 3), .inl 2147483654], zP q_X1_takeUnit_7) 0) := zentry (tt_X1_takeUnit d zgno (zgno_ok (l := l) (G := G) (gh := gh) (d + 1) _)) fm_X1_takeUnit_7 bf_X1_takeUnit_7 1000 (by decide +kernel) rfl ⟨Nat.zero_lt_succ _, trivial⟩ (fun f hf => match f, hf with
  | 0, _ => fun vs hv => (zbox_t r_X1_takeUnit_7_0) vs hv
  | f + 1, h => absurd (show f + 1 < 1 from h) (Nat.not_lt.mpr (Nat.le_add_left 1 f)))
noncomputable def gs_X1_takeUnit_7 : zMt := zgq false [] 2 [.inr (.ref 3), .inl 2147483654] q_X1_takeUnit_7 al_X1_takeUnit_7
set_option maxRecDepth 100000 in
theorem cs_X1_takeUnit_7 (d : Nat) : zC l G gh (d + 2) n_X1_takeUnit gs_X1_takeUnit_7 := zgq_ok0 (pcs := p_X1_takeUnit) (by decide) rfl rfl (fun a ha => by simp only [al_X1_takeUnit_7, List.mem_cons, List.not_mem_nil, or_false] at ha; rcases ha with rfl <;> decide +kernel) (fun gh => x_X1_takeUnit_7 d) (by decide +kernel)
def q_X1_takeProduct_7 : List (Nat × Nat) := [(3, zk4), (4, zk0), (6, zk2), (7, zk2), (8, 143923), (259, zk8), (265, zk14), (266, zk33), (267, zk33)]
noncomputable def al_X1_takeProduct_7 : zAq := [(none, [(3, zk5), (4, zk0), (6, zk2), (7, zk2), (8, 143923), (259, zk8), (265, zk116), (266, zk115), (267, zk115)])]
def mq_X1_takeProduct_7_1 : List (Nat × Nat) := [(3, zk5), (4, zk0), (6, zk2), (7, zk2), (8, 143923), (259, zk8), (265, zk116), (266, zk115), (267, zk115)]
noncomputable def fm_X1_takeProduct_7 : List zFm := [(0, [], (fun vs => [.inr (.ref 3), .inl 2147483654]), (fun vs => zP q_X1_takeProduct_7), (fun vs => Nat.sub (Nat.add 402 0) 0)),
  (1, [(2, 2147483648, 2147484049)], (fun vs => [.inr (.ref 3), .inl 2147483654, .inl (zn 0 vs 0)]), (fun vs => zP mq_X1_takeProduct_7_1), (fun vs => Nat.sub (Nat.add 2147484049 0) (Nat.add 0 (Nat.mul 1 (zn 0 vs 0)))))]
def bf_X1_takeProduct_7 : List Nat := [0, 2]
theorem r_X1_takeProduct_7_0 : zbox [] (fun vs => zFrun (zpost (zAlq al_X1_takeProduct_7)) 1000 (t_X1_takeProduct gs_X1_takeUnit_7) fm_X1_takeProduct_7 bf_X1_takeProduct_7 (0, vs)) = true := by decide +kernel
theorem r_X1_takeProduct_7_1 : zbox [(2, 2147483648, 2147484049)] (fun vs => zFrun (zpost (zAlq al_X1_takeProduct_7)) 1000 (t_X1_takeProduct gs_X1_takeUnit_7) fm_X1_takeProduct_7 bf_X1_takeProduct_7 (1, vs)) = true := by decide +kernel
set_option maxRecDepth 100000 in
theorem x_X1_takeProduct_7 (d : Nat) : zS l G gh (d + 3) (zpost (zAlq al_X1_takeProduct_7)) n_X1_takeProduct (zn 0 p_X1_takeProduct 0) (zwc (0, [.inr (.ref 3), .inl 2147483654], zP q_X1_takeProduct_7) 0) := zentry (tt_X1_takeProduct (d + 1) gs_X1_takeUnit_7 (cs_X1_takeUnit_7 (l := l) (G := G) (gh := gh) d)) fm_X1_takeProduct_7 bf_X1_takeProduct_7 1000 (by decide +kernel) rfl ⟨Nat.zero_lt_succ _, trivial⟩ (fun f hf => match f, hf with
  | 0, _ => fun vs hv => (zbox_t r_X1_takeProduct_7_0) vs hv
  | 1, _ => fun vs hv => (zbox_t r_X1_takeProduct_7_1) vs hv
  | f + 2, h => absurd (show f + 2 < 2 from h) (Nat.not_lt.mpr (Nat.le_add_left 2 f)))
noncomputable def gs_X1_takeProduct_7 : zMt := zgq false [] 4 [.inr (.ref 3), .inl 2147483654] q_X1_takeProduct_7 al_X1_takeProduct_7
set_option maxRecDepth 100000 in
theorem cs_X1_takeProduct_7 (d : Nat) : zC l G gh (d + 3) n_X1_takeProduct gs_X1_takeProduct_7 := zgq_ok0 (pcs := p_X1_takeProduct) (by decide) rfl rfl (fun a ha => by simp only [al_X1_takeProduct_7, List.mem_cons, List.not_mem_nil, or_false] at ha; rcases ha with rfl <;> decide +kernel) (fun gh => x_X1_takeProduct_7 d) (by decide +kernel)
def q_X1_takeSum_7 : List (Nat × Nat) := [(3, zk4), (4, zk0), (6, zk2), (7, zk2), (8, 143923), (259, zk8), (265, zk14), (266, zk33), (267, zk33)]
noncomputable def al_X1_takeSum_7 : zAq := [(none, [(3, zk5), (4, zk0), (6, zk2), (7, zk2), (8, 143923), (259, zk8), (265, zk116), (266, zk115), (267, zk115)])]
def mq_X1_takeSum_7_1 : List (Nat × Nat) := [(3, zk5), (4, zk0), (6, zk2), (7, zk2), (8, 143923), (259, zk8), (265, zk116), (266, zk115), (267, zk115)]
noncomputable def fm_X1_takeSum_7 : List zFm := [(0, [], (fun vs => [.inr (.ref 3), .inl 2147483654]), (fun vs => zP q_X1_takeSum_7), (fun vs => Nat.sub (Nat.add 402 0) 0)),
  (1, [(2, 2147483648, 2147484049)], (fun vs => [.inr (.ref 3), .inl 2147483654, .inl (zn 0 vs 0)]), (fun vs => zP mq_X1_takeSum_7_1), (fun vs => Nat.sub (Nat.add 2147484049 0) (Nat.add 0 (Nat.mul 1 (zn 0 vs 0)))))]
def bf_X1_takeSum_7 : List Nat := [0, 2]
theorem r_X1_takeSum_7_0 : zbox [] (fun vs => zFrun (zpost (zAlq al_X1_takeSum_7)) 1000 (t_X1_takeSum gs_X1_takeProduct_7) fm_X1_takeSum_7 bf_X1_takeSum_7 (0, vs)) = true := by decide +kernel
theorem r_X1_takeSum_7_1 : zbox [(2, 2147483648, 2147484049)] (fun vs => zFrun (zpost (zAlq al_X1_takeSum_7)) 1000 (t_X1_takeSum gs_X1_takeProduct_7) fm_X1_takeSum_7 bf_X1_takeSum_7 (1, vs)) = true := by decide +kernel
set_option maxRecDepth 100000 in
theorem x_X1_takeSum_7 (d : Nat) : zS l G gh (d + 4) (zpost (zAlq al_X1_takeSum_7)) n_X1_takeSum (zn 0 p_X1_takeSum 0) (zwc (0, [.inr (.ref 3), .inl 2147483654], zP q_X1_takeSum_7) 0) := zentry (tt_X1_takeSum (d + 2) gs_X1_takeProduct_7 (cs_X1_takeProduct_7 (l := l) (G := G) (gh := gh) d)) fm_X1_takeSum_7 bf_X1_takeSum_7 1000 (by decide +kernel) rfl ⟨Nat.zero_lt_succ _, trivial⟩ (fun f hf => match f, hf with
  | 0, _ => fun vs hv => (zbox_t r_X1_takeSum_7_0) vs hv
  | 1, _ => fun vs hv => (zbox_t r_X1_takeSum_7_1) vs hv
  | f + 2, h => absurd (show f + 2 < 2 from h) (Nat.not_lt.mpr (Nat.le_add_left 2 f)))
noncomputable def gs_X1_takeSum_7 : zMt := zgq false [] 4 [.inr (.ref 3), .inl 2147483654] q_X1_takeSum_7 al_X1_takeSum_7
set_option maxRecDepth 100000 in
theorem cs_X1_takeSum_7 (d : Nat) : zC l G gh (d + 4) n_X1_takeSum gs_X1_takeSum_7 := zgq_ok0 (pcs := p_X1_takeSum) (by decide) rfl rfl (fun a ha => by simp only [al_X1_takeSum_7, List.mem_cons, List.not_mem_nil, or_false] at ha; rcases ha with rfl <;> decide +kernel) (fun gh => x_X1_takeSum_7 d) (by decide +kernel)
def q_X1_takeUnit_1 : List (Nat × Nat) := [(3, zk1), (4, zk0), (6, zk2), (7, zk2), (8, 143923), (9, zk6), (15, zk17), (16, zk33), (17, zk33)]
noncomputable def al_X1_takeUnit_1 : zAq := [(none, [(3, zk3), (4, zk0), (6, zk2), (7, zk2), (8, 143923), (9, zk6), (15, zk114), (16, zk115), (17, zk115)])]
noncomputable def fm_X1_takeUnit_1 : List zFm := [(0, [], (fun vs => [.inr (.ref 3), .inl 2147483653]), (fun vs => zP q_X1_takeUnit_1), (fun vs => Nat.sub (Nat.add 0 0) 0))]
def bf_X1_takeUnit_1 : List Nat := []
theorem r_X1_takeUnit_1_0 : zbox [] (fun vs => zFrun (zpost (zAlq al_X1_takeUnit_1)) 1000 (t_X1_takeUnit gs_X1_takeSum_0) fm_X1_takeUnit_1 bf_X1_takeUnit_1 (0, vs)) = true := by decide +kernel
set_option maxRecDepth 100000 in
theorem x_X1_takeUnit_1 (d : Nat) : zS l G gh (d + 5) (zpost (zAlq al_X1_takeUnit_1)) n_X1_takeUnit (zn 0 p_X1_takeUnit 0) (zwc (0, [.inr (.ref 3), .inl 2147483653], zP q_X1_takeUnit_1) 0) := zentry (tt_X1_takeUnit (d + 3) gs_X1_takeSum_0 (cs_X1_takeSum_0 (l := l) (G := G) (gh := gh) d)) fm_X1_takeUnit_1 bf_X1_takeUnit_1 1000 (by decide +kernel) rfl ⟨Nat.zero_lt_succ _, trivial⟩ (fun f hf => match f, hf with
  | 0, _ => fun vs hv => (zbox_t r_X1_takeUnit_1_0) vs hv
  | f + 1, h => absurd (show f + 1 < 1 from h) (Nat.not_lt.mpr (Nat.le_add_left 1 f)))
noncomputable def gs_X1_takeUnit_1 : zMt := zgq false [] 2 [.inr (.ref 3), .inl 2147483653] q_X1_takeUnit_1 al_X1_takeUnit_1
set_option maxRecDepth 100000 in
theorem cs_X1_takeUnit_1 (d : Nat) : zC l G gh (d + 5) n_X1_takeUnit gs_X1_takeUnit_1 := zgq_ok0 (pcs := p_X1_takeUnit) (by decide) rfl rfl (fun a ha => by simp only [al_X1_takeUnit_1, List.mem_cons, List.not_mem_nil, or_false] at ha; rcases ha with rfl <;> decide +kernel) (fun gh => x_X1_takeUnit_1 d) (by decide +kernel)
def q_X1_takeProduct_1 : List (Nat × Nat) := [(3, zk1), (4, zk0), (6, zk2), (7, zk2), (8, 143923), (9, zk6), (15, zk17), (16, zk33), (17, zk33)]
noncomputable def al_X1_takeProduct_1 : zAq := [(none, [(3, zk3), (4, zk0), (6, zk2), (7, zk2), (8, 143923), (9, zk6), (15, zk114), (16, zk115), (17, zk115)])]
def mq_X1_takeProduct_1_1 : List (Nat × Nat) := [(3, zk3), (4, zk0), (6, zk2), (7, zk2), (8, 143923), (9, zk6), (15, zk114), (16, zk115), (17, zk115)]
noncomputable def fm_X1_takeProduct_1 : List zFm := [(0, [], (fun vs => [.inr (.ref 3), .inl 2147483653]), (fun vs => zP q_X1_takeProduct_1), (fun vs => Nat.sub (Nat.add 402 0) 0)),
  (1, [(2, 2147483648, 2147484049)], (fun vs => [.inr (.ref 3), .inl 2147483653, .inl (zn 0 vs 0)]), (fun vs => zP mq_X1_takeProduct_1_1), (fun vs => Nat.sub (Nat.add 2147484049 0) (Nat.add 0 (Nat.mul 1 (zn 0 vs 0)))))]
def bf_X1_takeProduct_1 : List Nat := [0, 2]
theorem r_X1_takeProduct_1_0 : zbox [] (fun vs => zFrun (zpost (zAlq al_X1_takeProduct_1)) 1000 (t_X1_takeProduct gs_X1_takeUnit_1) fm_X1_takeProduct_1 bf_X1_takeProduct_1 (0, vs)) = true := by decide +kernel
theorem r_X1_takeProduct_1_1 : zbox [(2, 2147483648, 2147484049)] (fun vs => zFrun (zpost (zAlq al_X1_takeProduct_1)) 1000 (t_X1_takeProduct gs_X1_takeUnit_1) fm_X1_takeProduct_1 bf_X1_takeProduct_1 (1, vs)) = true := by decide +kernel
set_option maxRecDepth 100000 in
theorem x_X1_takeProduct_1 (d : Nat) : zS l G gh (d + 6) (zpost (zAlq al_X1_takeProduct_1)) n_X1_takeProduct (zn 0 p_X1_takeProduct 0) (zwc (0, [.inr (.ref 3), .inl 2147483653], zP q_X1_takeProduct_1) 0) := zentry (tt_X1_takeProduct (d + 4) gs_X1_takeUnit_1 (cs_X1_takeUnit_1 (l := l) (G := G) (gh := gh) d)) fm_X1_takeProduct_1 bf_X1_takeProduct_1 1000 (by decide +kernel) rfl ⟨Nat.zero_lt_succ _, trivial⟩ (fun f hf => match f, hf with
  | 0, _ => fun vs hv => (zbox_t r_X1_takeProduct_1_0) vs hv
  | 1, _ => fun vs hv => (zbox_t r_X1_takeProduct_1_1) vs hv
  | f + 2, h => absurd (show f + 2 < 2 from h) (Nat.not_lt.mpr (Nat.le_add_left 2 f)))
noncomputable def gs_X1_takeProduct_1 : zMt := zgq false [] 4 [.inr (.ref 3), .inl 2147483653] q_X1_takeProduct_1 al_X1_takeProduct_1
set_option maxRecDepth 100000 in
theorem cs_X1_takeProduct_1 (d : Nat) : zC l G gh (d + 6) n_X1_takeProduct gs_X1_takeProduct_1 := zgq_ok0 (pcs := p_X1_takeProduct) (by decide) rfl rfl (fun a ha => by simp only [al_X1_takeProduct_1, List.mem_cons, List.not_mem_nil, or_false] at ha; rcases ha with rfl <;> decide +kernel) (fun gh => x_X1_takeProduct_1 d) (by decide +kernel)
def q_X1_takeSum_1 : List (Nat × Nat) := [(3, zk1), (4, zk0), (6, zk2), (7, zk2), (8, 143923), (9, zk6), (15, zk17), (16, zk33), (17, zk33)]
noncomputable def al_X1_takeSum_1 : zAq := [(none, [(3, zk3), (4, zk0), (6, zk2), (7, zk2), (8, 143923), (9, zk6), (15, zk114), (16, zk115), (17, zk115)])]
def mq_X1_takeSum_1_1 : List (Nat × Nat) := [(3, zk3), (4, zk0), (6, zk2), (7, zk2), (8, 143923), (9, zk6), (15, zk114), (16, zk115), (17, zk115)]
noncomputable def fm_X1_takeSum_1 : List zFm := [(0, [], (fun vs => [.inr (.ref 3), .inl 2147483653]), (fun vs => zP q_X1_takeSum_1), (fun vs => Nat.sub (Nat.add 402 0) 0)),
  (1, [(2, 2147483648, 2147484049)], (fun vs => [.inr (.ref 3), .inl 2147483653, .inl (zn 0 vs 0)]), (fun vs => zP mq_X1_takeSum_1_1), (fun vs => Nat.sub (Nat.add 2147484049 0) (Nat.add 0 (Nat.mul 1 (zn 0 vs 0)))))]
def bf_X1_takeSum_1 : List Nat := [0, 2]
theorem r_X1_takeSum_1_0 : zbox [] (fun vs => zFrun (zpost (zAlq al_X1_takeSum_1)) 1000 (t_X1_takeSum gs_X1_takeProduct_1) fm_X1_takeSum_1 bf_X1_takeSum_1 (0, vs)) = true := by decide +kernel
theorem r_X1_takeSum_1_1 : zbox [(2, 2147483648, 2147484049)] (fun vs => zFrun (zpost (zAlq al_X1_takeSum_1)) 1000 (t_X1_takeSum gs_X1_takeProduct_1) fm_X1_takeSum_1 bf_X1_takeSum_1 (1, vs)) = true := by decide +kernel
set_option maxRecDepth 100000 in
theorem x_X1_takeSum_1 (d : Nat) : zS l G gh (d + 7) (zpost (zAlq al_X1_takeSum_1)) n_X1_takeSum (zn 0 p_X1_takeSum 0) (zwc (0, [.inr (.ref 3), .inl 2147483653], zP q_X1_takeSum_1) 0) := zentry (tt_X1_takeSum (d + 5) gs_X1_takeProduct_1 (cs_X1_takeProduct_1 (l := l) (G := G) (gh := gh) d)) fm_X1_takeSum_1 bf_X1_takeSum_1 1000 (by decide +kernel) rfl ⟨Nat.zero_lt_succ _, trivial⟩ (fun f hf => match f, hf with
  | 0, _ => fun vs hv => (zbox_t r_X1_takeSum_1_0) vs hv
  | 1, _ => fun vs hv => (zbox_t r_X1_takeSum_1_1) vs hv
  | f + 2, h => absurd (show f + 2 < 2 from h) (Nat.not_lt.mpr (Nat.le_add_left 2 f)))
noncomputable def gs_X1_takeSum_1 : zMt := zgq false [] 4 [.inr (.ref 3), .inl 2147483653] q_X1_takeSum_1 al_X1_takeSum_1
set_option maxRecDepth 100000 in
theorem cs_X1_takeSum_1 (d : Nat) : zC l G gh (d + 7) n_X1_takeSum gs_X1_takeSum_1 := zgq_ok0 (pcs := p_X1_takeSum) (by decide) rfl rfl (fun a ha => by simp only [al_X1_takeSum_1, List.mem_cons, List.not_mem_nil, or_false] at ha; rcases ha with rfl <;> decide +kernel) (fun gh => x_X1_takeSum_1 d) (by decide +kernel)
def q_X1_takeUnit_8 : List (Nat × Nat) := [(3, zk4), (4, zk0), (6, zk2), (7, zk2), (8, 143923), (259, zk8), (265, zk14), (266, zk33), (267, zk33)]
noncomputable def al_X1_takeUnit_8 : zAq := [(none, [(3, zk5), (4, zk0), (6, zk2), (7, zk2), (8, 143923), (259, zk8), (265, zk116), (266, zk115), (267, zk115)])]
noncomputable def fm_X1_takeUnit_8 : List zFm := [(0, [], (fun vs => [.inr (.ref 3), .inl 2147483653]), (fun vs => zP q_X1_takeUnit_8), (fun vs => Nat.sub (Nat.add 0 0) 0))]
def bf_X1_takeUnit_8 : List Nat := []
theorem r_X1_takeUnit_8_0 : zbox [] (fun vs => zFrun (zpost (zAlq al_X1_takeUnit_8)) 1000 (t_X1_takeUnit gs_X1_takeSum_7) fm_X1_takeUnit_8 bf_X1_takeUnit_8 (0, vs)) = true := by decide +kernel
set_option maxRecDepth 100000 in
theorem x_X1_takeUnit_8 (d : Nat) : zS l G gh (d + 5) (zpost (zAlq al_X1_takeUnit_8)) n_X1_takeUnit (zn 0 p_X1_takeUnit 0) (zwc (0, [.inr (.ref 3), .inl 2147483653], zP q_X1_takeUnit_8) 0) := zentry (tt_X1_takeUnit (d + 3) gs_X1_takeSum_7 (cs_X1_takeSum_7 (l := l) (G := G) (gh := gh) d)) fm_X1_takeUnit_8 bf_X1_takeUnit_8 1000 (by decide +kernel) rfl ⟨Nat.zero_lt_succ _, trivial⟩ (fun f hf => match f, hf with
  | 0, _ => fun vs hv => (zbox_t r_X1_takeUnit_8_0) vs hv
  | f + 1, h => absurd (show f + 1 < 1 from h) (Nat.not_lt.mpr (Nat.le_add_left 1 f)))
noncomputable def gs_X1_takeUnit_8 : zMt := zgq false [] 2 [.inr (.ref 3), .inl 2147483653] q_X1_takeUnit_8 al_X1_takeUnit_8
set_option maxRecDepth 100000 in
theorem cs_X1_takeUnit_8 (d : Nat) : zC l G gh (d + 5) n_X1_takeUnit gs_X1_takeUnit_8 := zgq_ok0 (pcs := p_X1_takeUnit) (by decide) rfl rfl (fun a ha => by simp only [al_X1_takeUnit_8, List.mem_cons, List.not_mem_nil, or_false] at ha; rcases ha with rfl <;> decide +kernel) (fun gh => x_X1_takeUnit_8 d) (by decide +kernel)
def q_X1_takeProduct_8 : List (Nat × Nat) := [(3, zk4), (4, zk0), (6, zk2), (7, zk2), (8, 143923), (259, zk8), (265, zk14), (266, zk33), (267, zk33)]
noncomputable def al_X1_takeProduct_8 : zAq := [(none, [(3, zk5), (4, zk0), (6, zk2), (7, zk2), (8, 143923), (259, zk8), (265, zk116), (266, zk115), (267, zk115)])]
def mq_X1_takeProduct_8_1 : List (Nat × Nat) := [(3, zk5), (4, zk0), (6, zk2), (7, zk2), (8, 143923), (259, zk8), (265, zk116), (266, zk115), (267, zk115)]
noncomputable def fm_X1_takeProduct_8 : List zFm := [(0, [], (fun vs => [.inr (.ref 3), .inl 2147483653]), (fun vs => zP q_X1_takeProduct_8), (fun vs => Nat.sub (Nat.add 402 0) 0)),
  (1, [(2, 2147483648, 2147484049)], (fun vs => [.inr (.ref 3), .inl 2147483653, .inl (zn 0 vs 0)]), (fun vs => zP mq_X1_takeProduct_8_1), (fun vs => Nat.sub (Nat.add 2147484049 0) (Nat.add 0 (Nat.mul 1 (zn 0 vs 0)))))]
def bf_X1_takeProduct_8 : List Nat := [0, 2]
theorem r_X1_takeProduct_8_0 : zbox [] (fun vs => zFrun (zpost (zAlq al_X1_takeProduct_8)) 1000 (t_X1_takeProduct gs_X1_takeUnit_8) fm_X1_takeProduct_8 bf_X1_takeProduct_8 (0, vs)) = true := by decide +kernel
theorem r_X1_takeProduct_8_1 : zbox [(2, 2147483648, 2147484049)] (fun vs => zFrun (zpost (zAlq al_X1_takeProduct_8)) 1000 (t_X1_takeProduct gs_X1_takeUnit_8) fm_X1_takeProduct_8 bf_X1_takeProduct_8 (1, vs)) = true := by decide +kernel
set_option maxRecDepth 100000 in
theorem x_X1_takeProduct_8 (d : Nat) : zS l G gh (d + 6) (zpost (zAlq al_X1_takeProduct_8)) n_X1_takeProduct (zn 0 p_X1_takeProduct 0) (zwc (0, [.inr (.ref 3), .inl 2147483653], zP q_X1_takeProduct_8) 0) := zentry (tt_X1_takeProduct (d + 4) gs_X1_takeUnit_8 (cs_X1_takeUnit_8 (l := l) (G := G) (gh := gh) d)) fm_X1_takeProduct_8 bf_X1_takeProduct_8 1000 (by decide +kernel) rfl ⟨Nat.zero_lt_succ _, trivial⟩ (fun f hf => match f, hf with
  | 0, _ => fun vs hv => (zbox_t r_X1_takeProduct_8_0) vs hv
  | 1, _ => fun vs hv => (zbox_t r_X1_takeProduct_8_1) vs hv
  | f + 2, h => absurd (show f + 2 < 2 from h) (Nat.not_lt.mpr (Nat.le_add_left 2 f)))
noncomputable def gs_X1_takeProduct_8 : zMt := zgq false [] 4 [.inr (.ref 3), .inl 2147483653] q_X1_takeProduct_8 al_X1_takeProduct_8
set_option maxRecDepth 100000 in
theorem cs_X1_takeProduct_8 (d : Nat) : zC l G gh (d + 6) n_X1_takeProduct gs_X1_takeProduct_8 := zgq_ok0 (pcs := p_X1_takeProduct) (by decide) rfl rfl (fun a ha => by simp only [al_X1_takeProduct_8, List.mem_cons, List.not_mem_nil, or_false] at ha; rcases ha with rfl <;> decide +kernel) (fun gh => x_X1_takeProduct_8 d) (by decide +kernel)
def q_X1_takeSum_8 : List (Nat × Nat) := [(3, zk4), (4, zk0), (6, zk2), (7, zk2), (8, 143923), (259, zk8), (265, zk14), (266, zk33), (267, zk33)]
noncomputable def al_X1_takeSum_8 : zAq := [(none, [(3, zk5), (4, zk0), (6, zk2), (7, zk2), (8, 143923), (259, zk8), (265, zk116), (266, zk115), (267, zk115)])]
def mq_X1_takeSum_8_1 : List (Nat × Nat) := [(3, zk5), (4, zk0), (6, zk2), (7, zk2), (8, 143923), (259, zk8), (265, zk116), (266, zk115), (267, zk115)]
noncomputable def fm_X1_takeSum_8 : List zFm := [(0, [], (fun vs => [.inr (.ref 3), .inl 2147483653]), (fun vs => zP q_X1_takeSum_8), (fun vs => Nat.sub (Nat.add 402 0) 0)),
  (1, [(2, 2147483648, 2147484049)], (fun vs => [.inr (.ref 3), .inl 2147483653, .inl (zn 0 vs 0)]), (fun vs => zP mq_X1_takeSum_8_1), (fun vs => Nat.sub (Nat.add 2147484049 0) (Nat.add 0 (Nat.mul 1 (zn 0 vs 0)))))]
def bf_X1_takeSum_8 : List Nat := [0, 2]
theorem r_X1_takeSum_8_0 : zbox [] (fun vs => zFrun (zpost (zAlq al_X1_takeSum_8)) 1000 (t_X1_takeSum gs_X1_takeProduct_8) fm_X1_takeSum_8 bf_X1_takeSum_8 (0, vs)) = true := by decide +kernel
theorem r_X1_takeSum_8_1 : zbox [(2, 2147483648, 2147484049)] (fun vs => zFrun (zpost (zAlq al_X1_takeSum_8)) 1000 (t_X1_takeSum gs_X1_takeProduct_8) fm_X1_takeSum_8 bf_X1_takeSum_8 (1, vs)) = true := by decide +kernel
set_option maxRecDepth 100000 in
theorem x_X1_takeSum_8 (d : Nat) : zS l G gh (d + 7) (zpost (zAlq al_X1_takeSum_8)) n_X1_takeSum (zn 0 p_X1_takeSum 0) (zwc (0, [.inr (.ref 3), .inl 2147483653], zP q_X1_takeSum_8) 0) := zentry (tt_X1_takeSum (d + 5) gs_X1_takeProduct_8 (cs_X1_takeProduct_8 (l := l) (G := G) (gh := gh) d)) fm_X1_takeSum_8 bf_X1_takeSum_8 1000 (by decide +kernel) rfl ⟨Nat.zero_lt_succ _, trivial⟩ (fun f hf => match f, hf with
  | 0, _ => fun vs hv => (zbox_t r_X1_takeSum_8_0) vs hv
  | 1, _ => fun vs hv => (zbox_t r_X1_takeSum_8_1) vs hv
  | f + 2, h => absurd (show f + 2 < 2 from h) (Nat.not_lt.mpr (Nat.le_add_left 2 f)))
noncomputable def gs_X1_takeSum_8 : zMt := zgq false [] 4 [.inr (.ref 3), .inl 2147483653] q_X1_takeSum_8 al_X1_takeSum_8
set_option maxRecDepth 100000 in
theorem cs_X1_takeSum_8 (d : Nat) : zC l G gh (d + 7) n_X1_takeSum gs_X1_takeSum_8 := zgq_ok0 (pcs := p_X1_takeSum) (by decide) rfl rfl (fun a ha => by simp only [al_X1_takeSum_8, List.mem_cons, List.not_mem_nil, or_false] at ha; rcases ha with rfl <;> decide +kernel) (fun gh => x_X1_takeSum_8 d) (by decide +kernel)
def q_X1_takeUnit_2 : List (Nat × Nat) := [(3, zk1), (4, zk0), (6, zk2), (7, zk2), (8, 143923), (9, zk6), (15, zk17), (16, zk33), (17, zk33)]
noncomputable def al_X1_takeUnit_2 : zAq := [(none, [(3, zk3), (4, zk0), (6, zk2), (7, zk2), (8, 143923), (9, zk6), (15, zk114), (16, zk115), (17, zk115)])]
noncomputable def fm_X1_takeUnit_2 : List zFm := [(0, [], (fun vs => [.inr (.ref 3), .inl 2147483652]), (fun vs => zP q_X1_takeUnit_2), (fun vs => Nat.sub (Nat.add 0 0) 0))]
def bf_X1_takeUnit_2 : List Nat := []
theorem r_X1_takeUnit_2_0 : zbox [] (fun vs => zFrun (zpost (zAlq al_X1_takeUnit_2)) 1000 (t_X1_takeUnit gs_X1_takeSum_1) fm_X1_takeUnit_2 bf_X1_takeUnit_2 (0, vs)) = true := by decide +kernel
set_option maxRecDepth 100000 in
theorem x_X1_takeUnit_2 (d : Nat) : zS l G gh (d + 8) (zpost (zAlq al_X1_takeUnit_2)) n_X1_takeUnit (zn 0 p_X1_takeUnit 0) (zwc (0, [.inr (.ref 3), .inl 2147483652], zP q_X1_takeUnit_2) 0) := zentry (tt_X1_takeUnit (d + 6) gs_X1_takeSum_1 (cs_X1_takeSum_1 (l := l) (G := G) (gh := gh) d)) fm_X1_takeUnit_2 bf_X1_takeUnit_2 1000 (by decide +kernel) rfl ⟨Nat.zero_lt_succ _, trivial⟩ (fun f hf => match f, hf with
  | 0, _ => fun vs hv => (zbox_t r_X1_takeUnit_2_0) vs hv
  | f + 1, h => absurd (show f + 1 < 1 from h) (Nat.not_lt.mpr (Nat.le_add_left 1 f)))
noncomputable def gs_X1_takeUnit_2 : zMt := zgq false [] 2 [.inr (.ref 3), .inl 2147483652] q_X1_takeUnit_2 al_X1_takeUnit_2
set_option maxRecDepth 100000 in
theorem cs_X1_takeUnit_2 (d : Nat) : zC l G gh (d + 8) n_X1_takeUnit gs_X1_takeUnit_2 := zgq_ok0 (pcs := p_X1_takeUnit) (by decide) rfl rfl (fun a ha => by simp only [al_X1_takeUnit_2, List.mem_cons, List.not_mem_nil, or_false] at ha; rcases ha with rfl <;> decide +kernel) (fun gh => x_X1_takeUnit_2 d) (by decide +kernel)
def q_X1_takeProduct_2 : List (Nat × Nat) := [(3, zk1), (4, zk0), (6, zk2), (7, zk2), (8, 143923), (9, zk6), (15, zk17), (16, zk33), (17, zk33)]
noncomputable def al_X1_takeProduct_2 : zAq := [(none, [(3, zk3), (4, zk0), (6, zk2), (7, zk2), (8, 143923), (9, zk6), (15, zk114), (16, zk115), (17, zk115)])]
def mq_X1_takeProduct_2_1 : List (Nat × Nat) := [(3, zk3), (4, zk0), (6, zk2), (7, zk2), (8, 143923), (9, zk6), (15, zk114), (16, zk115), (17, zk115)]
noncomputable def fm_X1_takeProduct_2 : List zFm := [(0, [], (fun vs => [.inr (.ref 3), .inl 2147483652]), (fun vs => zP q_X1_takeProduct_2), (fun vs => Nat.sub (Nat.add 402 0) 0)),
  (1, [(2, 2147483648, 2147484049)], (fun vs => [.inr (.ref 3), .inl 2147483652, .inl (zn 0 vs 0)]), (fun vs => zP mq_X1_takeProduct_2_1), (fun vs => Nat.sub (Nat.add 2147484049 0) (Nat.add 0 (Nat.mul 1 (zn 0 vs 0)))))]
def bf_X1_takeProduct_2 : List Nat := [0, 2]
theorem r_X1_takeProduct_2_0 : zbox [] (fun vs => zFrun (zpost (zAlq al_X1_takeProduct_2)) 1000 (t_X1_takeProduct gs_X1_takeUnit_2) fm_X1_takeProduct_2 bf_X1_takeProduct_2 (0, vs)) = true := by decide +kernel
theorem r_X1_takeProduct_2_1 : zbox [(2, 2147483648, 2147484049)] (fun vs => zFrun (zpost (zAlq al_X1_takeProduct_2)) 1000 (t_X1_takeProduct gs_X1_takeUnit_2) fm_X1_takeProduct_2 bf_X1_takeProduct_2 (1, vs)) = true := by decide +kernel
set_option maxRecDepth 100000 in
theorem x_X1_takeProduct_2 (d : Nat) : zS l G gh (d + 9) (zpost (zAlq al_X1_takeProduct_2)) n_X1_takeProduct (zn 0 p_X1_takeProduct 0) (zwc (0, [.inr (.ref 3), .inl 2147483652], zP q_X1_takeProduct_2) 0) := zentry (tt_X1_takeProduct (d + 7) gs_X1_takeUnit_2 (cs_X1_takeUnit_2 (l := l) (G := G) (gh := gh) d)) fm_X1_takeProduct_2 bf_X1_takeProduct_2 1000 (by decide +kernel) rfl ⟨Nat.zero_lt_succ _, trivial⟩ (fun f hf => match f, hf with
  | 0, _ => fun vs hv => (zbox_t r_X1_takeProduct_2_0) vs hv
  | 1, _ => fun vs hv => (zbox_t r_X1_takeProduct_2_1) vs hv
  | f + 2, h => absurd (show f + 2 < 2 from h) (Nat.not_lt.mpr (Nat.le_add_left 2 f)))
noncomputable def gs_X1_takeProduct_2 : zMt := zgq false [] 4 [.inr (.ref 3), .inl 2147483652] q_X1_takeProduct_2 al_X1_takeProduct_2
set_option maxRecDepth 100000 in
theorem cs_X1_takeProduct_2 (d : Nat) : zC l G gh (d + 9) n_X1_takeProduct gs_X1_takeProduct_2 := zgq_ok0 (pcs := p_X1_takeProduct) (by decide) rfl rfl (fun a ha => by simp only [al_X1_takeProduct_2, List.mem_cons, List.not_mem_nil, or_false] at ha; rcases ha with rfl <;> decide +kernel) (fun gh => x_X1_takeProduct_2 d) (by decide +kernel)
def q_X1_takeSum_2 : List (Nat × Nat) := [(3, zk1), (4, zk0), (6, zk2), (7, zk2), (8, 143923), (9, zk6), (15, zk17), (16, zk33), (17, zk33)]
noncomputable def al_X1_takeSum_2 : zAq := [(none, [(3, zk3), (4, zk0), (6, zk2), (7, zk2), (8, 143923), (9, zk6), (15, zk114), (16, zk115), (17, zk115)])]
def mq_X1_takeSum_2_1 : List (Nat × Nat) := [(3, zk3), (4, zk0), (6, zk2), (7, zk2), (8, 143923), (9, zk6), (15, zk114), (16, zk115), (17, zk115)]
noncomputable def fm_X1_takeSum_2 : List zFm := [(0, [], (fun vs => [.inr (.ref 3), .inl 2147483652]), (fun vs => zP q_X1_takeSum_2), (fun vs => Nat.sub (Nat.add 402 0) 0)),
  (1, [(2, 2147483648, 2147484049)], (fun vs => [.inr (.ref 3), .inl 2147483652, .inl (zn 0 vs 0)]), (fun vs => zP mq_X1_takeSum_2_1), (fun vs => Nat.sub (Nat.add 2147484049 0) (Nat.add 0 (Nat.mul 1 (zn 0 vs 0)))))]
def bf_X1_takeSum_2 : List Nat := [0, 2]
theorem r_X1_takeSum_2_0 : zbox [] (fun vs => zFrun (zpost (zAlq al_X1_takeSum_2)) 1000 (t_X1_takeSum gs_X1_takeProduct_2) fm_X1_takeSum_2 bf_X1_takeSum_2 (0, vs)) = true := by decide +kernel
theorem r_X1_takeSum_2_1 : zbox [(2, 2147483648, 2147484049)] (fun vs => zFrun (zpost (zAlq al_X1_takeSum_2)) 1000 (t_X1_takeSum gs_X1_takeProduct_2) fm_X1_takeSum_2 bf_X1_takeSum_2 (1, vs)) = true := by decide +kernel
set_option maxRecDepth 100000 in
theorem x_X1_takeSum_2 (d : Nat) : zS l G gh (d + 10) (zpost (zAlq al_X1_takeSum_2)) n_X1_takeSum (zn 0 p_X1_takeSum 0) (zwc (0, [.inr (.ref 3), .inl 2147483652], zP q_X1_takeSum_2) 0) := zentry (tt_X1_takeSum (d + 8) gs_X1_takeProduct_2 (cs_X1_takeProduct_2 (l := l) (G := G) (gh := gh) d)) fm_X1_takeSum_2 bf_X1_takeSum_2 1000 (by decide +kernel) rfl ⟨Nat.zero_lt_succ _, trivial⟩ (fun f hf => match f, hf with
  | 0, _ => fun vs hv => (zbox_t r_X1_takeSum_2_0) vs hv
  | 1, _ => fun vs hv => (zbox_t r_X1_takeSum_2_1) vs hv
  | f + 2, h => absurd (show f + 2 < 2 from h) (Nat.not_lt.mpr (Nat.le_add_left 2 f)))
noncomputable def gs_X1_takeSum_2 : zMt := zgq false [] 4 [.inr (.ref 3), .inl 2147483652] q_X1_takeSum_2 al_X1_takeSum_2
set_option maxRecDepth 100000 in
theorem cs_X1_takeSum_2 (d : Nat) : zC l G gh (d + 10) n_X1_takeSum gs_X1_takeSum_2 := zgq_ok0 (pcs := p_X1_takeSum) (by decide) rfl rfl (fun a ha => by simp only [al_X1_takeSum_2, List.mem_cons, List.not_mem_nil, or_false] at ha; rcases ha with rfl <;> decide +kernel) (fun gh => x_X1_takeSum_2 d) (by decide +kernel)
def q_X1_takeUnit_9 : List (Nat × Nat) := [(3, zk4), (4, zk0), (6, zk2), (7, zk2), (8, 143923), (259, zk8), (265, zk14), (266, zk33), (267, zk33)]
noncomputable def al_X1_takeUnit_9 : zAq := [(none, [(3, zk5), (4, zk0), (6, zk2), (7, zk2), (8, 143923), (259, zk8), (265, zk116), (266, zk115), (267, zk115)])]
noncomputable def fm_X1_takeUnit_9 : List zFm := [(0, [], (fun vs => [.inr (.ref 3), .inl 2147483652]), (fun vs => zP q_X1_takeUnit_9), (fun vs => Nat.sub (Nat.add 0 0) 0))]
def bf_X1_takeUnit_9 : List Nat := []
theorem r_X1_takeUnit_9_0 : zbox [] (fun vs => zFrun (zpost (zAlq al_X1_takeUnit_9)) 1000 (t_X1_takeUnit gs_X1_takeSum_8) fm_X1_takeUnit_9 bf_X1_takeUnit_9 (0, vs)) = true := by decide +kernel
set_option maxRecDepth 100000 in
theorem x_X1_takeUnit_9 (d : Nat) : zS l G gh (d + 8) (zpost (zAlq al_X1_takeUnit_9)) n_X1_takeUnit (zn 0 p_X1_takeUnit 0) (zwc (0, [.inr (.ref 3), .inl 2147483652], zP q_X1_takeUnit_9) 0) := zentry (tt_X1_takeUnit (d + 6) gs_X1_takeSum_8 (cs_X1_takeSum_8 (l := l) (G := G) (gh := gh) d)) fm_X1_takeUnit_9 bf_X1_takeUnit_9 1000 (by decide +kernel) rfl ⟨Nat.zero_lt_succ _, trivial⟩ (fun f hf => match f, hf with
  | 0, _ => fun vs hv => (zbox_t r_X1_takeUnit_9_0) vs hv
  | f + 1, h => absurd (show f + 1 < 1 from h) (Nat.not_lt.mpr (Nat.le_add_left 1 f)))
noncomputable def gs_X1_takeUnit_9 : zMt := zgq false [] 2 [.inr (.ref 3), .inl 2147483652] q_X1_takeUnit_9 al_X1_takeUnit_9
set_option maxRecDepth 100000 in
theorem cs_X1_takeUnit_9 (d : Nat) : zC l G gh (d + 8) n_X1_takeUnit gs_X1_takeUnit_9 := zgq_ok0 (pcs := p_X1_takeUnit) (by decide) rfl rfl (fun a ha => by simp only [al_X1_takeUnit_9, List.mem_cons, List.not_mem_nil, or_false] at ha; rcases ha with rfl <;> decide +kernel) (fun gh => x_X1_takeUnit_9 d) (by decide +kernel)
def q_X1_takeProduct_9 : List (Nat × Nat) := [(3, zk4), (4, zk0), (6, zk2), (7, zk2), (8, 143923), (259, zk8), (265, zk14), (266, zk33), (267, zk33)]
noncomputable def al_X1_takeProduct_9 : zAq := [(none, [(3, zk5), (4, zk0), (6, zk2), (7, zk2), (8, 143923), (259, zk8), (265, zk116), (266, zk115), (267, zk115)])]
def mq_X1_takeProduct_9_1 : List (Nat × Nat) := [(3, zk5), (4, zk0), (6, zk2), (7, zk2), (8, 143923), (259, zk8), (265, zk116), (266, zk115), (267, zk115)]
noncomputable def fm_X1_takeProduct_9 : List zFm := [(0, [], (fun vs => [.inr (.ref 3), .inl 2147483652]), (fun vs => zP q_X1_takeProduct_9), (fun vs => Nat.sub (Nat.add 402 0) 0)),
  (1, [(2, 2147483648, 2147484049)], (fun vs => [.inr (.ref 3), .inl 2147483652, .inl (zn 0 vs 0)]), (fun vs => zP mq_X1_takeProduct_9_1), (fun vs => Nat.sub (Nat.add 2147484049 0) (Nat.add 0 (Nat.mul 1 (zn 0 vs 0)))))]
def bf_X1_takeProduct_9 : List Nat := [0, 2]
theorem r_X1_takeProduct_9_0 : zbox [] (fun vs => zFrun (zpost (zAlq al_X1_takeProduct_9)) 1000 (t_X1_takeProduct gs_X1_takeUnit_9) fm_X1_takeProduct_9 bf_X1_takeProduct_9 (0, vs)) = true := by decide +kernel
theorem r_X1_takeProduct_9_1 : zbox [(2, 2147483648, 2147484049)] (fun vs => zFrun (zpost (zAlq al_X1_takeProduct_9)) 1000 (t_X1_takeProduct gs_X1_takeUnit_9) fm_X1_takeProduct_9 bf_X1_takeProduct_9 (1, vs)) = true := by decide +kernel
set_option maxRecDepth 100000 in
theorem x_X1_takeProduct_9 (d : Nat) : zS l G gh (d + 9) (zpost (zAlq al_X1_takeProduct_9)) n_X1_takeProduct (zn 0 p_X1_takeProduct 0) (zwc (0, [.inr (.ref 3), .inl 2147483652], zP q_X1_takeProduct_9) 0) := zentry (tt_X1_takeProduct (d + 7) gs_X1_takeUnit_9 (cs_X1_takeUnit_9 (l := l) (G := G) (gh := gh) d)) fm_X1_takeProduct_9 bf_X1_takeProduct_9 1000 (by decide +kernel) rfl ⟨Nat.zero_lt_succ _, trivial⟩ (fun f hf => match f, hf with
  | 0, _ => fun vs hv => (zbox_t r_X1_takeProduct_9_0) vs hv
  | 1, _ => fun vs hv => (zbox_t r_X1_takeProduct_9_1) vs hv
  | f + 2, h => absurd (show f + 2 < 2 from h) (Nat.not_lt.mpr (Nat.le_add_left 2 f)))
noncomputable def gs_X1_takeProduct_9 : zMt := zgq false [] 4 [.inr (.ref 3), .inl 2147483652] q_X1_takeProduct_9 al_X1_takeProduct_9
set_option maxRecDepth 100000 in
theorem cs_X1_takeProduct_9 (d : Nat) : zC l G gh (d + 9) n_X1_takeProduct gs_X1_takeProduct_9 := zgq_ok0 (pcs := p_X1_takeProduct) (by decide) rfl rfl (fun a ha => by simp only [al_X1_takeProduct_9, List.mem_cons, List.not_mem_nil, or_false] at ha; rcases ha with rfl <;> decide +kernel) (fun gh => x_X1_takeProduct_9 d) (by decide +kernel)
def q_X1_takeSum_9 : List (Nat × Nat) := [(3, zk4), (4, zk0), (6, zk2), (7, zk2), (8, 143923), (259, zk8), (265, zk14), (266, zk33), (267, zk33)]
noncomputable def al_X1_takeSum_9 : zAq := [(none, [(3, zk5), (4, zk0), (6, zk2), (7, zk2), (8, 143923), (259, zk8), (265, zk116), (266, zk115), (267, zk115)])]
def mq_X1_takeSum_9_1 : List (Nat × Nat) := [(3, zk5), (4, zk0), (6, zk2), (7, zk2), (8, 143923), (259, zk8), (265, zk116), (266, zk115), (267, zk115)]
noncomputable def fm_X1_takeSum_9 : List zFm := [(0, [], (fun vs => [.inr (.ref 3), .inl 2147483652]), (fun vs => zP q_X1_takeSum_9), (fun vs => Nat.sub (Nat.add 402 0) 0)),
  (1, [(2, 2147483648, 2147484049)], (fun vs => [.inr (.ref 3), .inl 2147483652, .inl (zn 0 vs 0)]), (fun vs => zP mq_X1_takeSum_9_1), (fun vs => Nat.sub (Nat.add 2147484049 0) (Nat.add 0 (Nat.mul 1 (zn 0 vs 0)))))]
def bf_X1_takeSum_9 : List Nat := [0, 2]
theorem r_X1_takeSum_9_0 : zbox [] (fun vs => zFrun (zpost (zAlq al_X1_takeSum_9)) 1000 (t_X1_takeSum gs_X1_takeProduct_9) fm_X1_takeSum_9 bf_X1_takeSum_9 (0, vs)) = true := by decide +kernel
theorem r_X1_takeSum_9_1 : zbox [(2, 2147483648, 2147484049)] (fun vs => zFrun (zpost (zAlq al_X1_takeSum_9)) 1000 (t_X1_takeSum gs_X1_takeProduct_9) fm_X1_takeSum_9 bf_X1_takeSum_9 (1, vs)) = true := by decide +kernel
set_option maxRecDepth 100000 in
theorem x_X1_takeSum_9 (d : Nat) : zS l G gh (d + 10) (zpost (zAlq al_X1_takeSum_9)) n_X1_takeSum (zn 0 p_X1_takeSum 0) (zwc (0, [.inr (.ref 3), .inl 2147483652], zP q_X1_takeSum_9) 0) := zentry (tt_X1_takeSum (d + 8) gs_X1_takeProduct_9 (cs_X1_takeProduct_9 (l := l) (G := G) (gh := gh) d)) fm_X1_takeSum_9 bf_X1_takeSum_9 1000 (by decide +kernel) rfl ⟨Nat.zero_lt_succ _, trivial⟩ (fun f hf => match f, hf with
  | 0, _ => fun vs hv => (zbox_t r_X1_takeSum_9_0) vs hv
  | 1, _ => fun vs hv => (zbox_t r_X1_takeSum_9_1) vs hv
  | f + 2, h => absurd (show f + 2 < 2 from h) (Nat.not_lt.mpr (Nat.le_add_left 2 f)))
noncomputable def gs_X1_takeSum_9 : zMt := zgq false [] 4 [.inr (.ref 3), .inl 2147483652] q_X1_takeSum_9 al_X1_takeSum_9
set_option maxRecDepth 100000 in
theorem cs_X1_takeSum_9 (d : Nat) : zC l G gh (d + 10) n_X1_takeSum gs_X1_takeSum_9 := zgq_ok0 (pcs := p_X1_takeSum) (by decide) rfl rfl (fun a ha => by simp only [al_X1_takeSum_9, List.mem_cons, List.not_mem_nil, or_false] at ha; rcases ha with rfl <;> decide +kernel) (fun gh => x_X1_takeSum_9 d) (by decide +kernel)
def q_X1_takeUnit_3 : List (Nat × Nat) := [(3, zk1), (4, zk0), (6, zk2), (7, zk2), (8, 143923), (9, zk6), (15, zk17), (16, zk33), (17, zk33)]
noncomputable def al_X1_takeUnit_3 : zAq := [(none, [(3, zk3), (4, zk0), (6, zk2), (7, zk2), (8, 143923), (9, zk6), (15, zk114), (16, zk115), (17, zk115)])]
noncomputable def fm_X1_takeUnit_3 : List zFm := [(0, [], (fun vs => [.inr (.ref 3), .inl 2147483651]), (fun vs => zP q_X1_takeUnit_3), (fun vs => Nat.sub (Nat.add 0 0) 0))]
def bf_X1_takeUnit_3 : List Nat := []
theorem r_X1_takeUnit_3_0 : zbox [] (fun vs => zFrun (zpost (zAlq al_X1_takeUnit_3)) 1000 (t_X1_takeUnit gs_X1_takeSum_2) fm_X1_takeUnit_3 bf_X1_takeUnit_3 (0, vs)) = true := by decide +kernel
set_option maxRecDepth 100000 in
theorem x_X1_takeUnit_3 (d : Nat) : zS l G gh (d + 11) (zpost (zAlq al_X1_takeUnit_3)) n_X1_takeUnit (zn 0 p_X1_takeUnit 0) (zwc (0, [.inr (.ref 3), .inl 2147483651], zP q_X1_takeUnit_3) 0) := zentry (tt_X1_takeUnit (d + 9) gs_X1_takeSum_2 (cs_X1_takeSum_2 (l := l) (G := G) (gh := gh) d)) fm_X1_takeUnit_3 bf_X1_takeUnit_3 1000 (by decide +kernel) rfl ⟨Nat.zero_lt_succ _, trivial⟩ (fun f hf => match f, hf with
  | 0, _ => fun vs hv => (zbox_t r_X1_takeUnit_3_0) vs hv
  | f + 1, h => absurd (show f + 1 < 1 from h) (Nat.not_lt.mpr (Nat.le_add_left 1 f)))
noncomputable def gs_X1_takeUnit_3 : zMt := zgq false [] 2 [.inr (.ref 3), .inl 2147483651] q_X1_takeUnit_3 al_X1_takeUnit_3
set_option maxRecDepth 100000 in
theorem cs_X1_takeUnit_3 (d : Nat) : zC l G gh (d + 11) n_X1_takeUnit gs_X1_takeUnit_3 := zgq_ok0 (pcs := p_X1_takeUnit) (by decide) rfl rfl (fun a ha => by simp only [al_X1_takeUnit_3, List.mem_cons, List.not_mem_nil, or_false] at ha; rcases ha with rfl <;> decide +kernel) (fun gh => x_X1_takeUnit_3 d) (by decide +kernel)
def q_X1_takeProduct_3 : List (Nat × Nat) := [(3, zk1), (4, zk0), (6, zk2), (7, zk2), (8, 143923), (9, zk6), (15, zk17), (16, zk33), (17, zk33)]
noncomputable def al_X1_takeProduct_3 : zAq := [(none, [(3, zk3), (4, zk0), (6, zk2), (7, zk2), (8, 143923), (9, zk6), (15, zk114), (16, zk115), (17, zk115)])]
def mq_X1_takeProduct_3_1 : List (Nat × Nat) := [(3, zk3), (4, zk0), (6, zk2), (7, zk2), (8, 143923), (9, zk6), (15, zk114), (16, zk115), (17, zk115)]
noncomputable def fm_X1_takeProduct_3 : List zFm := [(0, [], (fun vs => [.inr (.ref 3), .inl 2147483651]), (fun vs => zP q_X1_takeProduct_3), (fun vs => Nat.sub (Nat.add 402 0) 0)),
  (1, [(2, 2147483648, 2147484049)], (fun vs => [.inr (.ref 3), .inl 2147483651, .inl (zn 0 vs 0)]), (fun vs => zP mq_X1_takeProduct_3_1), (fun vs => Nat.sub (Nat.add 2147484049 0) (Nat.add 0 (Nat.mul 1 (zn 0 vs 0)))))]
def bf_X1_takeProduct_3 : List Nat := [0, 2]
theorem r_X1_takeProduct_3_0 : zbox [] (fun vs => zFrun (zpost (zAlq al_X1_takeProduct_3)) 1000 (t_X1_takeProduct gs_X1_takeUnit_3) fm_X1_takeProduct_3 bf_X1_takeProduct_3 (0, vs)) = true := by decide +kernel
theorem r_X1_takeProduct_3_1 : zbox [(2, 2147483648, 2147484049)] (fun vs => zFrun (zpost (zAlq al_X1_takeProduct_3)) 1000 (t_X1_takeProduct gs_X1_takeUnit_3) fm_X1_takeProduct_3 bf_X1_takeProduct_3 (1, vs)) = true := by decide +kernel
set_option maxRecDepth 100000 in
theorem x_X1_takeProduct_3 (d : Nat) : zS l G gh (d + 12) (zpost (zAlq al_X1_takeProduct_3)) n_X1_takeProduct (zn 0 p_X1_takeProduct 0) (zwc (0, [.inr (.ref 3), .inl 2147483651], zP q_X1_takeProduct_3) 0) := zentry (tt_X1_takeProduct (d + 10) gs_X1_takeUnit_3 (cs_X1_takeUnit_3 (l := l) (G := G) (gh := gh) d)) fm_X1_takeProduct_3 bf_X1_takeProduct_3 1000 (by decide +kernel) rfl ⟨Nat.zero_lt_succ _, trivial⟩ (fun f hf => match f, hf with
  | 0, _ => fun vs hv => (zbox_t r_X1_takeProduct_3_0) vs hv
  | 1, _ => fun vs hv => (zbox_t r_X1_takeProduct_3_1) vs hv
  | f + 2, h => absurd (show f + 2 < 2 from h) (Nat.not_lt.mpr (Nat.le_add_left 2 f)))
noncomputable def gs_X1_takeProduct_3 : zMt := zgq false [] 4 [.inr (.ref 3), .inl 2147483651] q_X1_takeProduct_3 al_X1_takeProduct_3
set_option maxRecDepth 100000 in
theorem cs_X1_takeProduct_3 (d : Nat) : zC l G gh (d + 12) n_X1_takeProduct gs_X1_takeProduct_3 := zgq_ok0 (pcs := p_X1_takeProduct) (by decide) rfl rfl (fun a ha => by simp only [al_X1_takeProduct_3, List.mem_cons, List.not_mem_nil, or_false] at ha; rcases ha with rfl <;> decide +kernel) (fun gh => x_X1_takeProduct_3 d) (by decide +kernel)
def q_X1_takeSum_3 : List (Nat × Nat) := [(3, zk1), (4, zk0), (6, zk2), (7, zk2), (8, 143923), (9, zk6), (15, zk17), (16, zk33), (17, zk33)]
noncomputable def al_X1_takeSum_3 : zAq := [(none, [(3, zk3), (4, zk0), (6, zk2), (7, zk2), (8, 143923), (9, zk6), (15, zk114), (16, zk115), (17, zk115)])]
def mq_X1_takeSum_3_1 : List (Nat × Nat) := [(3, zk3), (4, zk0), (6, zk2), (7, zk2), (8, 143923), (9, zk6), (15, zk114), (16, zk115), (17, zk115)]
noncomputable def fm_X1_takeSum_3 : List zFm := [(0, [], (fun vs => [.inr (.ref 3), .inl 2147483651]), (fun vs => zP q_X1_takeSum_3), (fun vs => Nat.sub (Nat.add 402 0) 0)),
  (1, [(2, 2147483648, 2147484049)], (fun vs => [.inr (.ref 3), .inl 2147483651, .inl (zn 0 vs 0)]), (fun vs => zP mq_X1_takeSum_3_1), (fun vs => Nat.sub (Nat.add 2147484049 0) (Nat.add 0 (Nat.mul 1 (zn 0 vs 0)))))]
def bf_X1_takeSum_3 : List Nat := [0, 2]
theorem r_X1_takeSum_3_0 : zbox [] (fun vs => zFrun (zpost (zAlq al_X1_takeSum_3)) 1000 (t_X1_takeSum gs_X1_takeProduct_3) fm_X1_takeSum_3 bf_X1_takeSum_3 (0, vs)) = true := by decide +kernel
theorem r_X1_takeSum_3_1 : zbox [(2, 2147483648, 2147484049)] (fun vs => zFrun (zpost (zAlq al_X1_takeSum_3)) 1000 (t_X1_takeSum gs_X1_takeProduct_3) fm_X1_takeSum_3 bf_X1_takeSum_3 (1, vs)) = true := by decide +kernel
set_option maxRecDepth 100000 in
theorem x_X1_takeSum_3 (d : Nat) : zS l G gh (d + 13) (zpost (zAlq al_X1_takeSum_3)) n_X1_takeSum (zn 0 p_X1_takeSum 0) (zwc (0, [.inr (.ref 3), .inl 2147483651], zP q_X1_takeSum_3) 0) := zentry (tt_X1_takeSum (d + 11) gs_X1_takeProduct_3 (cs_X1_takeProduct_3 (l := l) (G := G) (gh := gh) d)) fm_X1_takeSum_3 bf_X1_takeSum_3 1000 (by decide +kernel) rfl ⟨Nat.zero_lt_succ _, trivial⟩ (fun f hf => match f, hf with
  | 0, _ => fun vs hv => (zbox_t r_X1_takeSum_3_0) vs hv
  | 1, _ => fun vs hv => (zbox_t r_X1_takeSum_3_1) vs hv
  | f + 2, h => absurd (show f + 2 < 2 from h) (Nat.not_lt.mpr (Nat.le_add_left 2 f)))
noncomputable def gs_X1_takeSum_3 : zMt := zgq false [] 4 [.inr (.ref 3), .inl 2147483651] q_X1_takeSum_3 al_X1_takeSum_3
set_option maxRecDepth 100000 in
theorem cs_X1_takeSum_3 (d : Nat) : zC l G gh (d + 13) n_X1_takeSum gs_X1_takeSum_3 := zgq_ok0 (pcs := p_X1_takeSum) (by decide) rfl rfl (fun a ha => by simp only [al_X1_takeSum_3, List.mem_cons, List.not_mem_nil, or_false] at ha; rcases ha with rfl <;> decide +kernel) (fun gh => x_X1_takeSum_3 d) (by decide +kernel)
def q_X1_takeUnit_10 : List (Nat × Nat) := [(3, zk4), (4, zk0), (6, zk2), (7, zk2), (8, 143923), (259, zk8), (265, zk14), (266, zk33), (267, zk33)]
noncomputable def al_X1_takeUnit_10 : zAq := [(none, [(3, zk5), (4, zk0), (6, zk2), (7, zk2), (8, 143923), (259, zk8), (265, zk116), (266, zk115), (267, zk115)])]
noncomputable def fm_X1_takeUnit_10 : List zFm := [(0, [], (fun vs => [.inr (.ref 3), .inl 2147483651]), (fun vs => zP q_X1_takeUnit_10), (fun vs => Nat.sub (Nat.add 0 0) 0))]
def bf_X1_takeUnit_10 : List Nat := []
theorem r_X1_takeUnit_10_0 : zbox [] (fun vs => zFrun (zpost (zAlq al_X1_takeUnit_10)) 1000 (t_X1_takeUnit gs_X1_takeSum_9) fm_X1_takeUnit_10 bf_X1_takeUnit_10 (0, vs)) = true := by decide +kernel
set_option maxRecDepth 100000 in
theorem x_X1_takeUnit_10 (d : Nat) : zS l G gh (d + 11) (zpost (zAlq al_X1_takeUnit_10)) n_X1_takeUnit (zn 0 p_X1_takeUnit 0) (zwc (0, [.inr (.ref 3), .inl 2147483651], zP q_X1_takeUnit_10) 0) := zentry (tt_X1_takeUnit (d + 9) gs_X1_takeSum_9 (cs_X1_takeSum_9 (l := l) (G := G) (gh := gh) d)) fm_X1_takeUnit_10 bf_X1_takeUnit_10 1000 (by decide +kernel) rfl ⟨Nat.zero_lt_succ _, trivial⟩ (fun f hf => match f, hf with
  | 0, _ => fun vs hv => (zbox_t r_X1_takeUnit_10_0) vs hv
  | f + 1, h => absurd (show f + 1 < 1 from h) (Nat.not_lt.mpr (Nat.le_add_left 1 f)))
noncomputable def gs_X1_takeUnit_10 : zMt := zgq false [] 2 [.inr (.ref 3), .inl 2147483651] q_X1_takeUnit_10 al_X1_takeUnit_10
set_option maxRecDepth 100000 in
theorem cs_X1_takeUnit_10 (d : Nat) : zC l G gh (d + 11) n_X1_takeUnit gs_X1_takeUnit_10 := zgq_ok0 (pcs := p_X1_takeUnit) (by decide) rfl rfl (fun a ha => by simp only [al_X1_takeUnit_10, List.mem_cons, List.not_mem_nil, or_false] at ha; rcases ha with rfl <;> decide +kernel) (fun gh => x_X1_takeUnit_10 d) (by decide +kernel)
def q_X1_takeProduct_10 : List (Nat × Nat) := [(3, zk4), (4, zk0), (6, zk2), (7, zk2), (8, 143923), (259, zk8), (265, zk14), (266, zk33), (267, zk33)]
noncomputable def al_X1_takeProduct_10 : zAq := [(none, [(3, zk5), (4, zk0), (6, zk2), (7, zk2), (8, 143923), (259, zk8), (265, zk116), (266, zk115), (267, zk115)])]
def mq_X1_takeProduct_10_1 : List (Nat × Nat) := [(3, zk5), (4, zk0), (6, zk2), (7, zk2), (8, 143923), (259, zk8), (265, zk116), (266, zk115), (267, zk115)]
noncomputable def fm_X1_takeProduct_10 : List zFm := [(0, [], (fun vs => [.inr (.ref 3), .inl 2147483651]), (fun vs => zP q_X1_takeProduct_10), (fun vs => Nat.sub (Nat.add 402 0) 0)),
  (1, [(2, 2147483648, 2147484049)], (fun vs => [.inr (.ref 3), .inl 2147483651, .inl (zn 0 vs 0)]), (fun vs => zP mq_X1_takeProduct_10_1), (fun vs => Nat.sub (Nat.add 2147484049 0) (Nat.add 0 (Nat.mul 1 (zn 0 vs 0)))))]
def bf_X1_takeProduct_10 : List Nat := [0, 2]
theorem r_X1_takeProduct_10_0 : zbox [] (fun vs => zFrun (zpost (zAlq al_X1_takeProduct_10)) 1000 (t_X1_takeProduct gs_X1_takeUnit_10) fm_X1_takeProduct_10 bf_X1_takeProduct_10 (0, vs)) = true := by decide +kernel
theorem r_X1_takeProduct_10_1 : zbox [(2, 2147483648, 2147484049)] (fun vs => zFrun (zpost (zAlq al_X1_takeProduct_10)) 1000 (t_X1_takeProduct gs_X1_takeUnit_10) fm_X1_takeProduct_10 bf_X1_takeProduct_10 (1, vs)) = true := by decide +kernel
set_option maxRecDepth 100000 in
theorem x_X1_takeProduct_10 (d : Nat) : zS l G gh (d + 12) (zpost (zAlq al_X1_takeProduct_10)) n_X1_takeProduct (zn 0 p_X1_takeProduct 0) (zwc (0, [.inr (.ref 3), .inl 2147483651], zP q_X1_takeProduct_10) 0) := zentry (tt_X1_takeProduct (d + 10) gs_X1_takeUnit_10 (cs_X1_takeUnit_10 (l := l) (G := G) (gh := gh) d)) fm_X1_takeProduct_10 bf_X1_takeProduct_10 1000 (by decide +kernel) rfl ⟨Nat.zero_lt_succ _, trivial⟩ (fun f hf => match f, hf with
  | 0, _ => fun vs hv => (zbox_t r_X1_takeProduct_10_0) vs hv
  | 1, _ => fun vs hv => (zbox_t r_X1_takeProduct_10_1) vs hv
  | f + 2, h => absurd (show f + 2 < 2 from h) (Nat.not_lt.mpr (Nat.le_add_left 2 f)))
noncomputable def gs_X1_takeProduct_10 : zMt := zgq false [] 4 [.inr (.ref 3), .inl 2147483651] q_X1_takeProduct_10 al_X1_takeProduct_10
set_option maxRecDepth 100000 in
theorem cs_X1_takeProduct_10 (d : Nat) : zC l G gh (d + 12) n_X1_takeProduct gs_X1_takeProduct_10 := zgq_ok0 (pcs := p_X1_takeProduct) (by decide) rfl rfl (fun a ha => by simp only [al_X1_takeProduct_10, List.mem_cons, List.not_mem_nil, or_false] at ha; rcases ha with rfl <;> decide +kernel) (fun gh => x_X1_takeProduct_10 d) (by decide +kernel)
def q_X1_takeSum_10 : List (Nat × Nat) := [(3, zk4), (4, zk0), (6, zk2), (7, zk2), (8, 143923), (259, zk8), (265, zk14), (266, zk33), (267, zk33)]
noncomputable def al_X1_takeSum_10 : zAq := [(none, [(3, zk5), (4, zk0), (6, zk2), (7, zk2), (8, 143923), (259, zk8), (265, zk116), (266, zk115), (267, zk115)])]
def mq_X1_takeSum_10_1 : List (Nat × Nat) := [(3, zk5), (4, zk0), (6, zk2), (7, zk2), (8, 143923), (259, zk8), (265, zk116), (266, zk115), (267, zk115)]
noncomputable def fm_X1_takeSum_10 : List zFm := [(0, [], (fun vs => [.inr (.ref 3), .inl 2147483651]), (fun vs => zP q_X1_takeSum_10), (fun vs => Nat.sub (Nat.add 402 0) 0)),
  (1, [(2, 2147483648, 2147484049)], (fun vs => [.inr (.ref 3), .inl 2147483651, .inl (zn 0 vs 0)]), (fun vs => zP mq_X1_takeSum_10_1), (fun vs => Nat.sub (Nat.add 2147484049 0) (Nat.add 0 (Nat.mul 1 (zn 0 vs 0)))))]
def bf_X1_takeSum_10 : List Nat := [0, 2]
theorem r_X1_takeSum_10_0 : zbox [] (fun vs => zFrun (zpost (zAlq al_X1_takeSum_10)) 1000 (t_X1_takeSum gs_X1_takeProduct_10) fm_X1_takeSum_10 bf_X1_takeSum_10 (0, vs)) = true := by decide +kernel
theorem r_X1_takeSum_10_1 : zbox [(2, 2147483648, 2147484049)] (fun vs => zFrun (zpost (zAlq al_X1_takeSum_10)) 1000 (t_X1_takeSum gs_X1_takeProduct_10) fm_X1_takeSum_10 bf_X1_takeSum_10 (1, vs)) = true := by decide +kernel
set_option maxRecDepth 100000 in
theorem x_X1_takeSum_10 (d : Nat) : zS l G gh (d + 13) (zpost (zAlq al_X1_takeSum_10)) n_X1_takeSum (zn 0 p_X1_takeSum 0) (zwc (0, [.inr (.ref 3), .inl 2147483651], zP q_X1_takeSum_10) 0) := zentry (tt_X1_takeSum (d + 11) gs_X1_takeProduct_10 (cs_X1_takeProduct_10 (l := l) (G := G) (gh := gh) d)) fm_X1_takeSum_10 bf_X1_takeSum_10 1000 (by decide +kernel) rfl ⟨Nat.zero_lt_succ _, trivial⟩ (fun f hf => match f, hf with
  | 0, _ => fun vs hv => (zbox_t r_X1_takeSum_10_0) vs hv
  | 1, _ => fun vs hv => (zbox_t r_X1_takeSum_10_1) vs hv
  | f + 2, h => absurd (show f + 2 < 2 from h) (Nat.not_lt.mpr (Nat.le_add_left 2 f)))
noncomputable def gs_X1_takeSum_10 : zMt := zgq false [] 4 [.inr (.ref 3), .inl 2147483651] q_X1_takeSum_10 al_X1_takeSum_10
set_option maxRecDepth 100000 in
theorem cs_X1_takeSum_10 (d : Nat) : zC l G gh (d + 13) n_X1_takeSum gs_X1_takeSum_10 := zgq_ok0 (pcs := p_X1_takeSum) (by decide) rfl rfl (fun a ha => by simp only [al_X1_takeSum_10, List.mem_cons, List.not_mem_nil, or_false] at ha; rcases ha with rfl <;> decide +kernel) (fun gh => x_X1_takeSum_10 d) (by decide +kernel)
def q_X1_takeUnit_4 : List (Nat × Nat) := [(3, zk1), (4, zk0), (6, zk2), (7, zk2), (8, 143923), (9, zk6), (15, zk17), (16, zk33), (17, zk33)]
noncomputable def al_X1_takeUnit_4 : zAq := [(none, [(3, zk3), (4, zk0), (6, zk2), (7, zk2), (8, 143923), (9, zk6), (15, zk114), (16, zk115), (17, zk115)])]
noncomputable def fm_X1_takeUnit_4 : List zFm := [(0, [], (fun vs => [.inr (.ref 3), .inl 2147483650]), (fun vs => zP q_X1_takeUnit_4), (fun vs => Nat.sub (Nat.add 0 0) 0))]
def bf_X1_takeUnit_4 : List Nat := []
theorem r_X1_takeUnit_4_0 : zbox [] (fun vs => zFrun (zpost (zAlq al_X1_takeUnit_4)) 1000 (t_X1_takeUnit gs_X1_takeSum_3) fm_X1_takeUnit_4 bf_X1_takeUnit_4 (0, vs)) = true := by decide +kernel
set_option maxRecDepth 100000 in
theorem x_X1_takeUnit_4 (d : Nat) : zS l G gh (d + 14) (zpost (zAlq al_X1_takeUnit_4)) n_X1_takeUnit (zn 0 p_X1_takeUnit 0) (zwc (0, [.inr (.ref 3), .inl 2147483650], zP q_X1_takeUnit_4) 0) := zentry (tt_X1_takeUnit (d + 12) gs_X1_takeSum_3 (cs_X1_takeSum_3 (l := l) (G := G) (gh := gh) d)) fm_X1_takeUnit_4 bf_X1_takeUnit_4 1000 (by decide +kernel) rfl ⟨Nat.zero_lt_succ _, trivial⟩ (fun f hf => match f, hf with
  | 0, _ => fun vs hv => (zbox_t r_X1_takeUnit_4_0) vs hv
  | f + 1, h => absurd (show f + 1 < 1 from h) (Nat.not_lt.mpr (Nat.le_add_left 1 f)))
noncomputable def gs_X1_takeUnit_4 : zMt := zgq false [] 2 [.inr (.ref 3), .inl 2147483650] q_X1_takeUnit_4 al_X1_takeUnit_4
set_option maxRecDepth 100000 in
theorem cs_X1_takeUnit_4 (d : Nat) : zC l G gh (d + 14) n_X1_takeUnit gs_X1_takeUnit_4 := zgq_ok0 (pcs := p_X1_takeUnit) (by decide) rfl rfl (fun a ha => by simp only [al_X1_takeUnit_4, List.mem_cons, List.not_mem_nil, or_false] at ha; rcases ha with rfl <;> decide +kernel) (fun gh => x_X1_takeUnit_4 d) (by decide +kernel)
def q_X1_takeProduct_4 : List (Nat × Nat) := [(3, zk1), (4, zk0), (6, zk2), (7, zk2), (8, 143923), (9, zk6), (15, zk17), (16, zk33), (17, zk33)]
noncomputable def al_X1_takeProduct_4 : zAq := [(none, [(3, zk3), (4, zk0), (6, zk2), (7, zk2), (8, 143923), (9, zk6), (15, zk114), (16, zk115), (17, zk115)])]
def mq_X1_takeProduct_4_1 : List (Nat × Nat) := [(3, zk3), (4, zk0), (6, zk2), (7, zk2), (8, 143923), (9, zk6), (15, zk114), (16, zk115), (17, zk115)]
noncomputable def fm_X1_takeProduct_4 : List zFm := [(0, [], (fun vs => [.inr (.ref 3), .inl 2147483650]), (fun vs => zP q_X1_takeProduct_4), (fun vs => Nat.sub (Nat.add 402 0) 0)),
  (1, [(2, 2147483648, 2147484049)], (fun vs => [.inr (.ref 3), .inl 2147483650, .inl (zn 0 vs 0)]), (fun vs => zP mq_X1_takeProduct_4_1), (fun vs => Nat.sub (Nat.add 2147484049 0) (Nat.add 0 (Nat.mul 1 (zn 0 vs 0)))))]
def bf_X1_takeProduct_4 : List Nat := [0, 2]
theorem r_X1_takeProduct_4_0 : zbox [] (fun vs => zFrun (zpost (zAlq al_X1_takeProduct_4)) 1000 (t_X1_takeProduct gs_X1_takeUnit_4) fm_X1_takeProduct_4 bf_X1_takeProduct_4 (0, vs)) = true := by decide +kernel
theorem r_X1_takeProduct_4_1 : zbox [(2, 2147483648, 2147484049)] (fun vs => zFrun (zpost (zAlq al_X1_takeProduct_4)) 1000 (t_X1_takeProduct gs_X1_takeUnit_4) fm_X1_takeProduct_4 bf_X1_takeProduct_4 (1, vs)) = true := by decide +kernel
set_option maxRecDepth 100000 in
theorem x_X1_takeProduct_4 (d : Nat) : zS l G gh (d + 15) (zpost (zAlq al_X1_takeProduct_4)) n_X1_takeProduct (zn 0 p_X1_takeProduct 0) (zwc (0, [.inr (.ref 3), .inl 2147483650], zP q_X1_takeProduct_4) 0) := zentry (tt_X1_takeProduct (d + 13) gs_X1_takeUnit_4 (cs_X1_takeUnit_4 (l := l) (G := G) (gh := gh) d)) fm_X1_takeProduct_4 bf_X1_takeProduct_4 1000 (by decide +kernel) rfl ⟨Nat.zero_lt_succ _, trivial⟩ (fun f hf => match f, hf with
  | 0, _ => fun vs hv => (zbox_t r_X1_takeProduct_4_0) vs hv
  | 1, _ => fun vs hv => (zbox_t r_X1_takeProduct_4_1) vs hv
  | f + 2, h => absurd (show f + 2 < 2 from h) (Nat.not_lt.mpr (Nat.le_add_left 2 f)))
noncomputable def gs_X1_takeProduct_4 : zMt := zgq false [] 4 [.inr (.ref 3), .inl 2147483650] q_X1_takeProduct_4 al_X1_takeProduct_4
set_option maxRecDepth 100000 in
theorem cs_X1_takeProduct_4 (d : Nat) : zC l G gh (d + 15) n_X1_takeProduct gs_X1_takeProduct_4 := zgq_ok0 (pcs := p_X1_takeProduct) (by decide) rfl rfl (fun a ha => by simp only [al_X1_takeProduct_4, List.mem_cons, List.not_mem_nil, or_false] at ha; rcases ha with rfl <;> decide +kernel) (fun gh => x_X1_takeProduct_4 d) (by decide +kernel)
def q_X1_takeSum_4 : List (Nat × Nat) := [(3, zk1), (4, zk0), (6, zk2), (7, zk2), (8, 143923), (9, zk6), (15, zk17), (16, zk33), (17, zk33)]
noncomputable def al_X1_takeSum_4 : zAq := [(none, [(3, zk3), (4, zk0), (6, zk2), (7, zk2), (8, 143923), (9, zk6), (15, zk114), (16, zk115), (17, zk115)])]
def mq_X1_takeSum_4_1 : List (Nat × Nat) := [(3, zk3), (4, zk0), (6, zk2), (7, zk2), (8, 143923), (9, zk6), (15, zk114), (16, zk115), (17, zk115)]
noncomputable def fm_X1_takeSum_4 : List zFm := [(0, [], (fun vs => [.inr (.ref 3), .inl 2147483650]), (fun vs => zP q_X1_takeSum_4), (fun vs => Nat.sub (Nat.add 402 0) 0)),
  (1, [(2, 2147483648, 2147484049)], (fun vs => [.inr (.ref 3), .inl 2147483650, .inl (zn 0 vs 0)]), (fun vs => zP mq_X1_takeSum_4_1), (fun vs => Nat.sub (Nat.add 2147484049 0) (Nat.add 0 (Nat.mul 1 (zn 0 vs 0)))))]
def bf_X1_takeSum_4 : List Nat := [0, 2]
theorem r_X1_takeSum_4_0 : zbox [] (fun vs => zFrun (zpost (zAlq al_X1_takeSum_4)) 1000 (t_X1_takeSum gs_X1_takeProduct_4) fm_X1_takeSum_4 bf_X1_takeSum_4 (0, vs)) = true := by decide +kernel
theorem r_X1_takeSum_4_1 : zbox [(2, 2147483648, 2147484049)] (fun vs => zFrun (zpost (zAlq al_X1_takeSum_4)) 1000 (t_X1_takeSum gs_X1_takeProduct_4) fm_X1_takeSum_4 bf_X1_takeSum_4 (1, vs)) = true := by decide +kernel
set_option maxRecDepth 100000 in
theorem x_X1_takeSum_4 (d : Nat) : zS l G gh (d + 16) (zpost (zAlq al_X1_takeSum_4)) n_X1_takeSum (zn 0 p_X1_takeSum 0) (zwc (0, [.inr (.ref 3), .inl 2147483650], zP q_X1_takeSum_4) 0) := zentry (tt_X1_takeSum (d + 14) gs_X1_takeProduct_4 (cs_X1_takeProduct_4 (l := l) (G := G) (gh := gh) d)) fm_X1_takeSum_4 bf_X1_takeSum_4 1000 (by decide +kernel) rfl ⟨Nat.zero_lt_succ _, trivial⟩ (fun f hf => match f, hf with
  | 0, _ => fun vs hv => (zbox_t r_X1_takeSum_4_0) vs hv
  | 1, _ => fun vs hv => (zbox_t r_X1_takeSum_4_1) vs hv
  | f + 2, h => absurd (show f + 2 < 2 from h) (Nat.not_lt.mpr (Nat.le_add_left 2 f)))
noncomputable def gs_X1_takeSum_4 : zMt := zgq false [] 4 [.inr (.ref 3), .inl 2147483650] q_X1_takeSum_4 al_X1_takeSum_4
set_option maxRecDepth 100000 in
theorem cs_X1_takeSum_4 (d : Nat) : zC l G gh (d + 16) n_X1_takeSum gs_X1_takeSum_4 := zgq_ok0 (pcs := p_X1_takeSum) (by decide) rfl rfl (fun a ha => by simp only [al_X1_takeSum_4, List.mem_cons, List.not_mem_nil, or_false] at ha; rcases ha with rfl <;> decide +kernel) (fun gh => x_X1_takeSum_4 d) (by decide +kernel)
def q_X1_takeUnit_11 : List (Nat × Nat) := [(3, zk4), (4, zk0), (6, zk2), (7, zk2), (8, 143923), (259, zk8), (265, zk14), (266, zk33), (267, zk33)]
noncomputable def al_X1_takeUnit_11 : zAq := [(none, [(3, zk5), (4, zk0), (6, zk2), (7, zk2), (8, 143923), (259, zk8), (265, zk116), (266, zk115), (267, zk115)])]
noncomputable def fm_X1_takeUnit_11 : List zFm := [(0, [], (fun vs => [.inr (.ref 3), .inl 2147483650]), (fun vs => zP q_X1_takeUnit_11), (fun vs => Nat.sub (Nat.add 0 0) 0))]
def bf_X1_takeUnit_11 : List Nat := []
theorem r_X1_takeUnit_11_0 : zbox [] (fun vs => zFrun (zpost (zAlq al_X1_takeUnit_11)) 1000 (t_X1_takeUnit gs_X1_takeSum_10) fm_X1_takeUnit_11 bf_X1_takeUnit_11 (0, vs)) = true := by decide +kernel
set_option maxRecDepth 100000 in
theorem x_X1_takeUnit_11 (d : Nat) : zS l G gh (d + 14) (zpost (zAlq al_X1_takeUnit_11)) n_X1_takeUnit (zn 0 p_X1_takeUnit 0) (zwc (0, [.inr (.ref 3), .inl 2147483650], zP q_X1_takeUnit_11) 0) := zentry (tt_X1_takeUnit (d + 12) gs_X1_takeSum_10 (cs_X1_takeSum_10 (l := l) (G := G) (gh := gh) d)) fm_X1_takeUnit_11 bf_X1_takeUnit_11 1000 (by decide +kernel) rfl ⟨Nat.zero_lt_succ _, trivial⟩ (fun f hf => match f, hf with
  | 0, _ => fun vs hv => (zbox_t r_X1_takeUnit_11_0) vs hv
  | f + 1, h => absurd (show f + 1 < 1 from h) (Nat.not_lt.mpr (Nat.le_add_left 1 f)))
noncomputable def gs_X1_takeUnit_11 : zMt := zgq false [] 2 [.inr (.ref 3), .inl 2147483650] q_X1_takeUnit_11 al_X1_takeUnit_11
set_option maxRecDepth 100000 in
theorem cs_X1_takeUnit_11 (d : Nat) : zC l G gh (d + 14) n_X1_takeUnit gs_X1_takeUnit_11 := zgq_ok0 (pcs := p_X1_takeUnit) (by decide) rfl rfl (fun a ha => by simp only [al_X1_takeUnit_11, List.mem_cons, List.not_mem_nil, or_false] at ha; rcases ha with rfl <;> decide +kernel) (fun gh => x_X1_takeUnit_11 d) (by decide +kernel)
def q_X1_takeProduct_11 : List (Nat × Nat) := [(3, zk4), (4, zk0), (6, zk2), (7, zk2), (8, 143923), (259, zk8), (265, zk14), (266, zk33), (267, zk33)]
noncomputable def al_X1_takeProduct_11 : zAq := [(none, [(3, zk5), (4, zk0), (6, zk2), (7, zk2), (8, 143923), (259, zk8), (265, zk116), (266, zk115), (267, zk115)])]
def mq_X1_takeProduct_11_1 : List (Nat × Nat) := [(3, zk5), (4, zk0), (6, zk2), (7, zk2), (8, 143923), (259, zk8), (265, zk116), (266, zk115), (267, zk115)]
noncomputable def fm_X1_takeProduct_11 : List zFm := [(0, [], (fun vs => [.inr (.ref 3), .inl 2147483650]), (fun vs => zP q_X1_takeProduct_11), (fun vs => Nat.sub (Nat.add 402 0) 0)),
  (1, [(2, 2147483648, 2147484049)], (fun vs => [.inr (.ref 3), .inl 2147483650, .inl (zn 0 vs 0)]), (fun vs => zP mq_X1_takeProduct_11_1), (fun vs => Nat.sub (Nat.add 2147484049 0) (Nat.add 0 (Nat.mul 1 (zn 0 vs 0)))))]
def bf_X1_takeProduct_11 : List Nat := [0, 2]
theorem r_X1_takeProduct_11_0 : zbox [] (fun vs => zFrun (zpost (zAlq al_X1_takeProduct_11)) 1000 (t_X1_takeProduct gs_X1_takeUnit_11) fm_X1_takeProduct_11 bf_X1_takeProduct_11 (0, vs)) = true := by decide +kernel
theorem r_X1_takeProduct_11_1 : zbox [(2, 2147483648, 2147484049)] (fun vs => zFrun (zpost (zAlq al_X1_takeProduct_11)) 1000 (t_X1_takeProduct gs_X1_takeUnit_11) fm_X1_takeProduct_11 bf_X1_takeProduct_11 (1, vs)) = true := by decide +kernel
set_option maxRecDepth 100000 in
theorem x_X1_takeProduct_11 (d : Nat) : zS l G gh (d + 15) (zpost (zAlq al_X1_takeProduct_11)) n_X1_takeProduct (zn 0 p_X1_takeProduct 0) (zwc (0, [.inr (.ref 3), .inl 2147483650], zP q_X1_takeProduct_11) 0) := zentry (tt_X1_takeProduct (d + 13) gs_X1_takeUnit_11 (cs_X1_takeUnit_11 (l := l) (G := G) (gh := gh) d)) fm_X1_takeProduct_11 bf_X1_takeProduct_11 1000 (by decide +kernel) rfl ⟨Nat.zero_lt_succ _, trivial⟩ (fun f hf => match f, hf with
  | 0, _ => fun vs hv => (zbox_t r_X1_takeProduct_11_0) vs hv
  | 1, _ => fun vs hv => (zbox_t r_X1_takeProduct_11_1) vs hv
  | f + 2, h => absurd (show f + 2 < 2 from h) (Nat.not_lt.mpr (Nat.le_add_left 2 f)))
noncomputable def gs_X1_takeProduct_11 : zMt := zgq false [] 4 [.inr (.ref 3), .inl 2147483650] q_X1_takeProduct_11 al_X1_takeProduct_11
set_option maxRecDepth 100000 in
theorem cs_X1_takeProduct_11 (d : Nat) : zC l G gh (d + 15) n_X1_takeProduct gs_X1_takeProduct_11 := zgq_ok0 (pcs := p_X1_takeProduct) (by decide) rfl rfl (fun a ha => by simp only [al_X1_takeProduct_11, List.mem_cons, List.not_mem_nil, or_false] at ha; rcases ha with rfl <;> decide +kernel) (fun gh => x_X1_takeProduct_11 d) (by decide +kernel)
def q_X1_takeSum_11 : List (Nat × Nat) := [(3, zk4), (4, zk0), (6, zk2), (7, zk2), (8, 143923), (259, zk8), (265, zk14), (266, zk33), (267, zk33)]
noncomputable def al_X1_takeSum_11 : zAq := [(none, [(3, zk5), (4, zk0), (6, zk2), (7, zk2), (8, 143923), (259, zk8), (265, zk116), (266, zk115), (267, zk115)])]
def mq_X1_takeSum_11_1 : List (Nat × Nat) := [(3, zk5), (4, zk0), (6, zk2), (7, zk2), (8, 143923), (259, zk8), (265, zk116), (266, zk115), (267, zk115)]
noncomputable def fm_X1_takeSum_11 : List zFm := [(0, [], (fun vs => [.inr (.ref 3), .inl 2147483650]), (fun vs => zP q_X1_takeSum_11), (fun vs => Nat.sub (Nat.add 402 0) 0)),
  (1, [(2, 2147483648, 2147484049)], (fun vs => [.inr (.ref 3), .inl 2147483650, .inl (zn 0 vs 0)]), (fun vs => zP mq_X1_takeSum_11_1), (fun vs => Nat.sub (Nat.add 2147484049 0) (Nat.add 0 (Nat.mul 1 (zn 0 vs 0)))))]
def bf_X1_takeSum_11 : List Nat := [0, 2]
theorem r_X1_takeSum_11_0 : zbox [] (fun vs => zFrun (zpost (zAlq al_X1_takeSum_11)) 1000 (t_X1_takeSum gs_X1_takeProduct_11) fm_X1_takeSum_11 bf_X1_takeSum_11 (0, vs)) = true := by decide +kernel
theorem r_X1_takeSum_11_1 : zbox [(2, 2147483648, 2147484049)] (fun vs => zFrun (zpost (zAlq al_X1_takeSum_11)) 1000 (t_X1_takeSum gs_X1_takeProduct_11) fm_X1_takeSum_11 bf_X1_takeSum_11 (1, vs)) = true := by decide +kernel
set_option maxRecDepth 100000 in
theorem x_X1_takeSum_11 (d : Nat) : zS l G gh (d + 16) (zpost (zAlq al_X1_takeSum_11)) n_X1_takeSum (zn 0 p_X1_takeSum 0) (zwc (0, [.inr (.ref 3), .inl 2147483650], zP q_X1_takeSum_11) 0) := zentry (tt_X1_takeSum (d + 14) gs_X1_takeProduct_11 (cs_X1_takeProduct_11 (l := l) (G := G) (gh := gh) d)) fm_X1_takeSum_11 bf_X1_takeSum_11 1000 (by decide +kernel) rfl ⟨Nat.zero_lt_succ _, trivial⟩ (fun f hf => match f, hf with
  | 0, _ => fun vs hv => (zbox_t r_X1_takeSum_11_0) vs hv
  | 1, _ => fun vs hv => (zbox_t r_X1_takeSum_11_1) vs hv
  | f + 2, h => absurd (show f + 2 < 2 from h) (Nat.not_lt.mpr (Nat.le_add_left 2 f)))
noncomputable def gs_X1_takeSum_11 : zMt := zgq false [] 4 [.inr (.ref 3), .inl 2147483650] q_X1_takeSum_11 al_X1_takeSum_11
set_option maxRecDepth 100000 in
theorem cs_X1_takeSum_11 (d : Nat) : zC l G gh (d + 16) n_X1_takeSum gs_X1_takeSum_11 := zgq_ok0 (pcs := p_X1_takeSum) (by decide) rfl rfl (fun a ha => by simp only [al_X1_takeSum_11, List.mem_cons, List.not_mem_nil, or_false] at ha; rcases ha with rfl <;> decide +kernel) (fun gh => x_X1_takeSum_11 d) (by decide +kernel)
def q_X1_takeUnit_5 : List (Nat × Nat) := [(3, zk1), (4, zk0), (6, zk2), (7, zk2), (8, 143923), (9, zk6), (15, zk17), (16, zk33), (17, zk33)]
noncomputable def al_X1_takeUnit_5 : zAq := [(none, [(3, zk3), (4, zk0), (6, zk2), (7, zk2), (8, 143923), (9, zk6), (15, zk114), (16, zk115), (17, zk115)])]
noncomputable def fm_X1_takeUnit_5 : List zFm := [(0, [], (fun vs => [.inr (.ref 3), .inl 2147483649]), (fun vs => zP q_X1_takeUnit_5), (fun vs => Nat.sub (Nat.add 0 0) 0))]
def bf_X1_takeUnit_5 : List Nat := []
theorem r_X1_takeUnit_5_0 : zbox [] (fun vs => zFrun (zpost (zAlq al_X1_takeUnit_5)) 1000 (t_X1_takeUnit gs_X1_takeSum_4) fm_X1_takeUnit_5 bf_X1_takeUnit_5 (0, vs)) = true := by decide +kernel
set_option maxRecDepth 100000 in
theorem x_X1_takeUnit_5 (d : Nat) : zS l G gh (d + 17) (zpost (zAlq al_X1_takeUnit_5)) n_X1_takeUnit (zn 0 p_X1_takeUnit 0) (zwc (0, [.inr (.ref 3), .inl 2147483649], zP q_X1_takeUnit_5) 0) := zentry (tt_X1_takeUnit (d + 15) gs_X1_takeSum_4 (cs_X1_takeSum_4 (l := l) (G := G) (gh := gh) d)) fm_X1_takeUnit_5 bf_X1_takeUnit_5 1000 (by decide +kernel) rfl ⟨Nat.zero_lt_succ _, trivial⟩ (fun f hf => match f, hf with
  | 0, _ => fun vs hv => (zbox_t r_X1_takeUnit_5_0) vs hv
  | f + 1, h => absurd (show f + 1 < 1 from h) (Nat.not_lt.mpr (Nat.le_add_left 1 f)))
noncomputable def gs_X1_takeUnit_5 : zMt := zgq false [] 2 [.inr (.ref 3), .inl 2147483649] q_X1_takeUnit_5 al_X1_takeUnit_5
set_option maxRecDepth 100000 in
theorem cs_X1_takeUnit_5 (d : Nat) : zC l G gh (d + 17) n_X1_takeUnit gs_X1_takeUnit_5 := zgq_ok0 (pcs := p_X1_takeUnit) (by decide) rfl rfl (fun a ha => by simp only [al_X1_takeUnit_5, List.mem_cons, List.not_mem_nil, or_false] at ha; rcases ha with rfl <;> decide +kernel) (fun gh => x_X1_takeUnit_5 d) (by decide +kernel)
def q_X1_takeProduct_5 : List (Nat × Nat) := [(3, zk1), (4, zk0), (6, zk2), (7, zk2), (8, 143923), (9, zk6), (15, zk17), (16, zk33), (17, zk33)]
noncomputable def al_X1_takeProduct_5 : zAq := [(none, [(3, zk3), (4, zk0), (6, zk2), (7, zk2), (8, 143923), (9, zk6), (15, zk114), (16, zk115), (17, zk115)])]
def mq_X1_takeProduct_5_1 : List (Nat × Nat) := [(3, zk3), (4, zk0), (6, zk2), (7, zk2), (8, 143923), (9, zk6), (15, zk114), (16, zk115), (17, zk115)]
noncomputable def fm_X1_takeProduct_5 : List zFm := [(0, [], (fun vs => [.inr (.ref 3), .inl 2147483649]), (fun vs => zP q_X1_takeProduct_5), (fun vs => Nat.sub (Nat.add 402 0) 0)),
  (1, [(2, 2147483648, 2147484049)], (fun vs => [.inr (.ref 3), .inl 2147483649, .inl (zn 0 vs 0)]), (fun vs => zP mq_X1_takeProduct_5_1), (fun vs => Nat.sub (Nat.add 2147484049 0) (Nat.add 0 (Nat.mul 1 (zn 0 vs 0)))))]
def bf_X1_takeProduct_5 : List Nat := [0, 2]
theorem r_X1_takeProduct_5_0 : zbox [] (fun vs => zFrun (zpost (zAlq al_X1_takeProduct_5)) 1000 (t_X1_takeProduct gs_X1_takeUnit_5) fm_X1_takeProduct_5 bf_X1_takeProduct_5 (0, vs)) = true := by decide +kernel
theorem r_X1_takeProduct_5_1 : zbox [(2, 2147483648, 2147484049)] (fun vs => zFrun (zpost (zAlq al_X1_takeProduct_5)) 1000 (t_X1_takeProduct gs_X1_takeUnit_5) fm_X1_takeProduct_5 bf_X1_takeProduct_5 (1, vs)) = true := by decide +kernel
set_option maxRecDepth 100000 in
theorem x_X1_takeProduct_5 (d : Nat) : zS l G gh (d + 18) (zpost (zAlq al_X1_takeProduct_5)) n_X1_takeProduct (zn 0 p_X1_takeProduct 0) (zwc (0, [.inr (.ref 3), .inl 2147483649], zP q_X1_takeProduct_5) 0) := zentry (tt_X1_takeProduct (d + 16) gs_X1_takeUnit_5 (cs_X1_takeUnit_5 (l := l) (G := G) (gh := gh) d)) fm_X1_takeProduct_5 bf_X1_takeProduct_5 1000 (by decide +kernel) rfl ⟨Nat.zero_lt_succ _, trivial⟩ (fun f hf => match f, hf with
  | 0, _ => fun vs hv => (zbox_t r_X1_takeProduct_5_0) vs hv
  | 1, _ => fun vs hv => (zbox_t r_X1_takeProduct_5_1) vs hv
  | f + 2, h => absurd (show f + 2 < 2 from h) (Nat.not_lt.mpr (Nat.le_add_left 2 f)))
noncomputable def gs_X1_takeProduct_5 : zMt := zgq false [] 4 [.inr (.ref 3), .inl 2147483649] q_X1_takeProduct_5 al_X1_takeProduct_5
set_option maxRecDepth 100000 in
theorem cs_X1_takeProduct_5 (d : Nat) : zC l G gh (d + 18) n_X1_takeProduct gs_X1_takeProduct_5 := zgq_ok0 (pcs := p_X1_takeProduct) (by decide) rfl rfl (fun a ha => by simp only [al_X1_takeProduct_5, List.mem_cons, List.not_mem_nil, or_false] at ha; rcases ha with rfl <;> decide +kernel) (fun gh => x_X1_takeProduct_5 d) (by decide +kernel)
def q_X1_takeSum_5 : List (Nat × Nat) := [(3, zk1), (4, zk0), (6, zk2), (7, zk2), (8, 143923), (9, zk6), (15, zk17), (16, zk33), (17, zk33)]
noncomputable def al_X1_takeSum_5 : zAq := [(none, [(3, zk3), (4, zk0), (6, zk2), (7, zk2), (8, 143923), (9, zk6), (15, zk114), (16, zk115), (17, zk115)])]
def mq_X1_takeSum_5_1 : List (Nat × Nat) := [(3, zk3), (4, zk0), (6, zk2), (7, zk2), (8, 143923), (9, zk6), (15, zk114), (16, zk115), (17, zk115)]
noncomputable def fm_X1_takeSum_5 : List zFm := [(0, [], (fun vs => [.inr (.ref 3), .inl 2147483649]), (fun vs => zP q_X1_takeSum_5), (fun vs => Nat.sub (Nat.add 402 0) 0)),
  (1, [(2, 2147483648, 2147484049)], (fun vs => [.inr (.ref 3), .inl 2147483649, .inl (zn 0 vs 0)]), (fun vs => zP mq_X1_takeSum_5_1), (fun vs => Nat.sub (Nat.add 2147484049 0) (Nat.add 0 (Nat.mul 1 (zn 0 vs 0)))))]
def bf_X1_takeSum_5 : List Nat := [0, 2]
theorem r_X1_takeSum_5_0 : zbox [] (fun vs => zFrun (zpost (zAlq al_X1_takeSum_5)) 1000 (t_X1_takeSum gs_X1_takeProduct_5) fm_X1_takeSum_5 bf_X1_takeSum_5 (0, vs)) = true := by decide +kernel
theorem r_X1_takeSum_5_1 : zbox [(2, 2147483648, 2147484049)] (fun vs => zFrun (zpost (zAlq al_X1_takeSum_5)) 1000 (t_X1_takeSum gs_X1_takeProduct_5) fm_X1_takeSum_5 bf_X1_takeSum_5 (1, vs)) = true := by decide +kernel
set_option maxRecDepth 100000 in
theorem x_X1_takeSum_5 (d : Nat) : zS l G gh (d + 19) (zpost (zAlq al_X1_takeSum_5)) n_X1_takeSum (zn 0 p_X1_takeSum 0) (zwc (0, [.inr (.ref 3), .inl 2147483649], zP q_X1_takeSum_5) 0) := zentry (tt_X1_takeSum (d + 17) gs_X1_takeProduct_5 (cs_X1_takeProduct_5 (l := l) (G := G) (gh := gh) d)) fm_X1_takeSum_5 bf_X1_takeSum_5 1000 (by decide +kernel) rfl ⟨Nat.zero_lt_succ _, trivial⟩ (fun f hf => match f, hf with
  | 0, _ => fun vs hv => (zbox_t r_X1_takeSum_5_0) vs hv
  | 1, _ => fun vs hv => (zbox_t r_X1_takeSum_5_1) vs hv
  | f + 2, h => absurd (show f + 2 < 2 from h) (Nat.not_lt.mpr (Nat.le_add_left 2 f)))
noncomputable def gs_X1_takeSum_5 : zMt := zgq false [] 4 [.inr (.ref 3), .inl 2147483649] q_X1_takeSum_5 al_X1_takeSum_5
set_option maxRecDepth 100000 in
theorem cs_X1_takeSum_5 (d : Nat) : zC l G gh (d + 19) n_X1_takeSum gs_X1_takeSum_5 := zgq_ok0 (pcs := p_X1_takeSum) (by decide) rfl rfl (fun a ha => by simp only [al_X1_takeSum_5, List.mem_cons, List.not_mem_nil, or_false] at ha; rcases ha with rfl <;> decide +kernel) (fun gh => x_X1_takeSum_5 d) (by decide +kernel)
def q_X1_takeUnit_12 : List (Nat × Nat) := [(3, zk4), (4, zk0), (6, zk2), (7, zk2), (8, 143923), (259, zk8), (265, zk14), (266, zk33), (267, zk33)]
noncomputable def al_X1_takeUnit_12 : zAq := [(none, [(3, zk5), (4, zk0), (6, zk2), (7, zk2), (8, 143923), (259, zk8), (265, zk116), (266, zk115), (267, zk115)])]
noncomputable def fm_X1_takeUnit_12 : List zFm := [(0, [], (fun vs => [.inr (.ref 3), .inl 2147483649]), (fun vs => zP q_X1_takeUnit_12), (fun vs => Nat.sub (Nat.add 0 0) 0))]
def bf_X1_takeUnit_12 : List Nat := []
theorem r_X1_takeUnit_12_0 : zbox [] (fun vs => zFrun (zpost (zAlq al_X1_takeUnit_12)) 1000 (t_X1_takeUnit gs_X1_takeSum_11) fm_X1_takeUnit_12 bf_X1_takeUnit_12 (0, vs)) = true := by decide +kernel
set_option maxRecDepth 100000 in
theorem x_X1_takeUnit_12 (d : Nat) : zS l G gh (d + 17) (zpost (zAlq al_X1_takeUnit_12)) n_X1_takeUnit (zn 0 p_X1_takeUnit 0) (zwc (0, [.inr (.ref 3), .inl 2147483649], zP q_X1_takeUnit_12) 0) := zentry (tt_X1_takeUnit (d + 15) gs_X1_takeSum_11 (cs_X1_takeSum_11 (l := l) (G := G) (gh := gh) d)) fm_X1_takeUnit_12 bf_X1_takeUnit_12 1000 (by decide +kernel) rfl ⟨Nat.zero_lt_succ _, trivial⟩ (fun f hf => match f, hf with
  | 0, _ => fun vs hv => (zbox_t r_X1_takeUnit_12_0) vs hv
  | f + 1, h => absurd (show f + 1 < 1 from h) (Nat.not_lt.mpr (Nat.le_add_left 1 f)))
noncomputable def gs_X1_takeUnit_12 : zMt := zgq false [] 2 [.inr (.ref 3), .inl 2147483649] q_X1_takeUnit_12 al_X1_takeUnit_12
set_option maxRecDepth 100000 in
theorem cs_X1_takeUnit_12 (d : Nat) : zC l G gh (d + 17) n_X1_takeUnit gs_X1_takeUnit_12 := zgq_ok0 (pcs := p_X1_takeUnit) (by decide) rfl rfl (fun a ha => by simp only [al_X1_takeUnit_12, List.mem_cons, List.not_mem_nil, or_false] at ha; rcases ha with rfl <;> decide +kernel) (fun gh => x_X1_takeUnit_12 d) (by decide +kernel)
def q_X1_takeProduct_12 : List (Nat × Nat) := [(3, zk4), (4, zk0), (6, zk2), (7, zk2), (8, 143923), (259, zk8), (265, zk14), (266, zk33), (267, zk33)]
noncomputable def al_X1_takeProduct_12 : zAq := [(none, [(3, zk5), (4, zk0), (6, zk2), (7, zk2), (8, 143923), (259, zk8), (265, zk116), (266, zk115), (267, zk115)])]
def mq_X1_takeProduct_12_1 : List (Nat × Nat) := [(3, zk5), (4, zk0), (6, zk2), (7, zk2), (8, 143923), (259, zk8), (265, zk116), (266, zk115), (267, zk115)]
noncomputable def fm_X1_takeProduct_12 : List zFm := [(0, [], (fun vs => [.inr (.ref 3), .inl 2147483649]), (fun vs => zP q_X1_takeProduct_12), (fun vs => Nat.sub (Nat.add 402 0) 0)),
  (1, [(2, 2147483648, 2147484049)], (fun vs => [.inr (.ref 3), .inl 2147483649, .inl (zn 0 vs 0)]), (fun vs => zP mq_X1_takeProduct_12_1), (fun vs => Nat.sub (Nat.add 2147484049 0) (Nat.add 0 (Nat.mul 1 (zn 0 vs 0)))))]
def bf_X1_takeProduct_12 : List Nat := [0, 2]
theorem r_X1_takeProduct_12_0 : zbox [] (fun vs => zFrun (zpost (zAlq al_X1_takeProduct_12)) 1000 (t_X1_takeProduct gs_X1_takeUnit_12) fm_X1_takeProduct_12 bf_X1_takeProduct_12 (0, vs)) = true := by decide +kernel
theorem r_X1_takeProduct_12_1 : zbox [(2, 2147483648, 2147484049)] (fun vs => zFrun (zpost (zAlq al_X1_takeProduct_12)) 1000 (t_X1_takeProduct gs_X1_takeUnit_12) fm_X1_takeProduct_12 bf_X1_takeProduct_12 (1, vs)) = true := by decide +kernel
set_option maxRecDepth 100000 in
theorem x_X1_takeProduct_12 (d : Nat) : zS l G gh (d + 18) (zpost (zAlq al_X1_takeProduct_12)) n_X1_takeProduct (zn 0 p_X1_takeProduct 0) (zwc (0, [.inr (.ref 3), .inl 2147483649], zP q_X1_takeProduct_12) 0) := zentry (tt_X1_takeProduct (d + 16) gs_X1_takeUnit_12 (cs_X1_takeUnit_12 (l := l) (G := G) (gh := gh) d)) fm_X1_takeProduct_12 bf_X1_takeProduct_12 1000 (by decide +kernel) rfl ⟨Nat.zero_lt_succ _, trivial⟩ (fun f hf => match f, hf with
  | 0, _ => fun vs hv => (zbox_t r_X1_takeProduct_12_0) vs hv
  | 1, _ => fun vs hv => (zbox_t r_X1_takeProduct_12_1) vs hv
  | f + 2, h => absurd (show f + 2 < 2 from h) (Nat.not_lt.mpr (Nat.le_add_left 2 f)))
noncomputable def gs_X1_takeProduct_12 : zMt := zgq false [] 4 [.inr (.ref 3), .inl 2147483649] q_X1_takeProduct_12 al_X1_takeProduct_12
set_option maxRecDepth 100000 in
theorem cs_X1_takeProduct_12 (d : Nat) : zC l G gh (d + 18) n_X1_takeProduct gs_X1_takeProduct_12 := zgq_ok0 (pcs := p_X1_takeProduct) (by decide) rfl rfl (fun a ha => by simp only [al_X1_takeProduct_12, List.mem_cons, List.not_mem_nil, or_false] at ha; rcases ha with rfl <;> decide +kernel) (fun gh => x_X1_takeProduct_12 d) (by decide +kernel)
def q_X1_takeSum_12 : List (Nat × Nat) := [(3, zk4), (4, zk0), (6, zk2), (7, zk2), (8, 143923), (259, zk8), (265, zk14), (266, zk33), (267, zk33)]
noncomputable def al_X1_takeSum_12 : zAq := [(none, [(3, zk5), (4, zk0), (6, zk2), (7, zk2), (8, 143923), (259, zk8), (265, zk116), (266, zk115), (267, zk115)])]
def mq_X1_takeSum_12_1 : List (Nat × Nat) := [(3, zk5), (4, zk0), (6, zk2), (7, zk2), (8, 143923), (259, zk8), (265, zk116), (266, zk115), (267, zk115)]
noncomputable def fm_X1_takeSum_12 : List zFm := [(0, [], (fun vs => [.inr (.ref 3), .inl 2147483649]), (fun vs => zP q_X1_takeSum_12), (fun vs => Nat.sub (Nat.add 402 0) 0)),
  (1, [(2, 2147483648, 2147484049)], (fun vs => [.inr (.ref 3), .inl 2147483649, .inl (zn 0 vs 0)]), (fun vs => zP mq_X1_takeSum_12_1), (fun vs => Nat.sub (Nat.add 2147484049 0) (Nat.add 0 (Nat.mul 1 (zn 0 vs 0)))))]
def bf_X1_takeSum_12 : List Nat := [0, 2]
theorem r_X1_takeSum_12_0 : zbox [] (fun vs => zFrun (zpost (zAlq al_X1_takeSum_12)) 1000 (t_X1_takeSum gs_X1_takeProduct_12) fm_X1_takeSum_12 bf_X1_takeSum_12 (0, vs)) = true := by decide +kernel
theorem r_X1_takeSum_12_1 : zbox [(2, 2147483648, 2147484049)] (fun vs => zFrun (zpost (zAlq al_X1_takeSum_12)) 1000 (t_X1_takeSum gs_X1_takeProduct_12) fm_X1_takeSum_12 bf_X1_takeSum_12 (1, vs)) = true := by decide +kernel
set_option maxRecDepth 100000 in
theorem x_X1_takeSum_12 (d : Nat) : zS l G gh (d + 19) (zpost (zAlq al_X1_takeSum_12)) n_X1_takeSum (zn 0 p_X1_takeSum 0) (zwc (0, [.inr (.ref 3), .inl 2147483649], zP q_X1_takeSum_12) 0) := zentry (tt_X1_takeSum (d + 17) gs_X1_takeProduct_12 (cs_X1_takeProduct_12 (l := l) (G := G) (gh := gh) d)) fm_X1_takeSum_12 bf_X1_takeSum_12 1000 (by decide +kernel) rfl ⟨Nat.zero_lt_succ _, trivial⟩ (fun f hf => match f, hf with
  | 0, _ => fun vs hv => (zbox_t r_X1_takeSum_12_0) vs hv
  | 1, _ => fun vs hv => (zbox_t r_X1_takeSum_12_1) vs hv
  | f + 2, h => absurd (show f + 2 < 2 from h) (Nat.not_lt.mpr (Nat.le_add_left 2 f)))
noncomputable def gs_X1_takeSum_12 : zMt := zgq false [] 4 [.inr (.ref 3), .inl 2147483649] q_X1_takeSum_12 al_X1_takeSum_12
set_option maxRecDepth 100000 in
theorem cs_X1_takeSum_12 (d : Nat) : zC l G gh (d + 19) n_X1_takeSum gs_X1_takeSum_12 := zgq_ok0 (pcs := p_X1_takeSum) (by decide) rfl rfl (fun a ha => by simp only [al_X1_takeSum_12, List.mem_cons, List.not_mem_nil, or_false] at ha; rcases ha with rfl <;> decide +kernel) (fun gh => x_X1_takeSum_12 d) (by decide +kernel)
def q_X1_takeUnit_6 : List (Nat × Nat) := [(3, zk1), (4, zk0), (6, zk2), (7, zk2), (8, 143923), (9, zk6), (15, zk17), (16, zk33), (17, zk33)]
noncomputable def al_X1_takeUnit_6 : zAq := [(none, [(3, zk3), (4, zk0), (6, zk2), (7, zk2), (8, 143923), (9, zk6), (15, zk114), (16, zk115), (17, zk115)])]
noncomputable def fm_X1_takeUnit_6 : List zFm := [(0, [], (fun vs => [.inr (.ref 3), .inl 2147483648]), (fun vs => zP q_X1_takeUnit_6), (fun vs => Nat.sub (Nat.add 0 0) 0))]
def bf_X1_takeUnit_6 : List Nat := []
theorem r_X1_takeUnit_6_0 : zbox [] (fun vs => zFrun (zpost (zAlq al_X1_takeUnit_6)) 1000 (t_X1_takeUnit gs_X1_takeSum_5) fm_X1_takeUnit_6 bf_X1_takeUnit_6 (0, vs)) = true := by decide +kernel
set_option maxRecDepth 100000 in
theorem x_X1_takeUnit_6 (d : Nat) : zS l G gh (d + 20) (zpost (zAlq al_X1_takeUnit_6)) n_X1_takeUnit (zn 0 p_X1_takeUnit 0) (zwc (0, [.inr (.ref 3), .inl 2147483648], zP q_X1_takeUnit_6) 0) := zentry (tt_X1_takeUnit (d + 18) gs_X1_takeSum_5 (cs_X1_takeSum_5 (l := l) (G := G) (gh := gh) d)) fm_X1_takeUnit_6 bf_X1_takeUnit_6 1000 (by decide +kernel) rfl ⟨Nat.zero_lt_succ _, trivial⟩ (fun f hf => match f, hf with
  | 0, _ => fun vs hv => (zbox_t r_X1_takeUnit_6_0) vs hv
  | f + 1, h => absurd (show f + 1 < 1 from h) (Nat.not_lt.mpr (Nat.le_add_left 1 f)))
noncomputable def gs_X1_takeUnit_6 : zMt := zgq false [] 2 [.inr (.ref 3), .inl 2147483648] q_X1_takeUnit_6 al_X1_takeUnit_6
set_option maxRecDepth 100000 in
theorem cs_X1_takeUnit_6 (d : Nat) : zC l G gh (d + 20) n_X1_takeUnit gs_X1_takeUnit_6 := zgq_ok0 (pcs := p_X1_takeUnit) (by decide) rfl rfl (fun a ha => by simp only [al_X1_takeUnit_6, List.mem_cons, List.not_mem_nil, or_false] at ha; rcases ha with rfl <;> decide +kernel) (fun gh => x_X1_takeUnit_6 d) (by decide +kernel)
def q_X1_takeProduct_6 : List (Nat × Nat) := [(3, zk1), (4, zk0), (6, zk2), (7, zk2), (8, 143923), (9, zk6), (15, zk17), (16, zk33), (17, zk33)]
noncomputable def al_X1_takeProduct_6 : zAq := [(none, [(3, zk3), (4, zk0), (6, zk2), (7, zk2), (8, 143923), (9, zk6), (15, zk114), (16, zk115), (17, zk115)])]
def mq_X1_takeProduct_6_1 : List (Nat × Nat) := [(3, zk3), (4, zk0), (6, zk2), (7, zk2), (8, 143923), (9, zk6), (15, zk114), (16, zk115), (17, zk115)]
noncomputable def fm_X1_takeProduct_6 : List zFm := [(0, [], (fun vs => [.inr (.ref 3), .inl 2147483648]), (fun vs => zP q_X1_takeProduct_6), (fun vs => Nat.sub (Nat.add 402 0) 0)),
  (1, [(2, 2147483648, 2147484049)], (fun vs => [.inr (.ref 3), .inl 2147483648, .inl (zn 0 vs 0)]), (fun vs => zP mq_X1_takeProduct_6_1), (fun vs => Nat.sub (Nat.add 2147484049 0) (Nat.add 0 (Nat.mul 1 (zn 0 vs 0)))))]
def bf_X1_takeProduct_6 : List Nat := [0, 2]
theorem r_X1_takeProduct_6_0 : zbox [] (fun vs => zFrun (zpost (zAlq al_X1_takeProduct_6)) 1000 (t_X1_takeProduct gs_X1_takeUnit_6) fm_X1_takeProduct_6 bf_X1_takeProduct_6 (0, vs)) = true := by decide +kernel
theorem r_X1_takeProduct_6_1 : zbox [(2, 2147483648, 2147484049)] (fun vs => zFrun (zpost (zAlq al_X1_takeProduct_6)) 1000 (t_X1_takeProduct gs_X1_takeUnit_6) fm_X1_takeProduct_6 bf_X1_takeProduct_6 (1, vs)) = true := by decide +kernel
set_option maxRecDepth 100000 in
theorem x_X1_takeProduct_6 (d : Nat) : zS l G gh (d + 21) (zpost (zAlq al_X1_takeProduct_6)) n_X1_takeProduct (zn 0 p_X1_takeProduct 0) (zwc (0, [.inr (.ref 3), .inl 2147483648], zP q_X1_takeProduct_6) 0) := zentry (tt_X1_takeProduct (d + 19) gs_X1_takeUnit_6 (cs_X1_takeUnit_6 (l := l) (G := G) (gh := gh) d)) fm_X1_takeProduct_6 bf_X1_takeProduct_6 1000 (by decide +kernel) rfl ⟨Nat.zero_lt_succ _, trivial⟩ (fun f hf => match f, hf with
  | 0, _ => fun vs hv => (zbox_t r_X1_takeProduct_6_0) vs hv
  | 1, _ => fun vs hv => (zbox_t r_X1_takeProduct_6_1) vs hv
  | f + 2, h => absurd (show f + 2 < 2 from h) (Nat.not_lt.mpr (Nat.le_add_left 2 f)))
noncomputable def gs_X1_takeProduct_6 : zMt := zgq false [] 4 [.inr (.ref 3), .inl 2147483648] q_X1_takeProduct_6 al_X1_takeProduct_6
set_option maxRecDepth 100000 in
theorem cs_X1_takeProduct_6 (d : Nat) : zC l G gh (d + 21) n_X1_takeProduct gs_X1_takeProduct_6 := zgq_ok0 (pcs := p_X1_takeProduct) (by decide) rfl rfl (fun a ha => by simp only [al_X1_takeProduct_6, List.mem_cons, List.not_mem_nil, or_false] at ha; rcases ha with rfl <;> decide +kernel) (fun gh => x_X1_takeProduct_6 d) (by decide +kernel)
def q_X1_takeSum_6 : List (Nat × Nat) := [(3, zk1), (4, zk0), (6, zk2), (7, zk2), (8, 143923), (9, zk6), (15, zk17), (16, zk33), (17, zk33)]
noncomputable def al_X1_takeSum_6 : zAq := [(none, [(3, zk3), (4, zk0), (6, zk2), (7, zk2), (8, 143923), (9, zk6), (15, zk114), (16, zk115), (17, zk115)])]
def mq_X1_takeSum_6_1 : List (Nat × Nat) := [(3, zk3), (4, zk0), (6, zk2), (7, zk2), (8, 143923), (9, zk6), (15, zk114), (16, zk115), (17, zk115)]
noncomputable def fm_X1_takeSum_6 : List zFm := [(0, [], (fun vs => [.inr (.ref 3), .inl 2147483648]), (fun vs => zP q_X1_takeSum_6), (fun vs => Nat.sub (Nat.add 402 0) 0)),
  (1, [(2, 2147483648, 2147484049)], (fun vs => [.inr (.ref 3), .inl 2147483648, .inl (zn 0 vs 0)]), (fun vs => zP mq_X1_takeSum_6_1), (fun vs => Nat.sub (Nat.add 2147484049 0) (Nat.add 0 (Nat.mul 1 (zn 0 vs 0)))))]
def bf_X1_takeSum_6 : List Nat := [0, 2]
theorem r_X1_takeSum_6_0 : zbox [] (fun vs => zFrun (zpost (zAlq al_X1_takeSum_6)) 1000 (t_X1_takeSum gs_X1_takeProduct_6) fm_X1_takeSum_6 bf_X1_takeSum_6 (0, vs)) = true := by decide +kernel
theorem r_X1_takeSum_6_1 : zbox [(2, 2147483648, 2147484049)] (fun vs => zFrun (zpost (zAlq al_X1_takeSum_6)) 1000 (t_X1_takeSum gs_X1_takeProduct_6) fm_X1_takeSum_6 bf_X1_takeSum_6 (1, vs)) = true := by decide +kernel
set_option maxRecDepth 100000 in
theorem x_X1_takeSum_6 (d : Nat) : zS l G gh (d + 22) (zpost (zAlq al_X1_takeSum_6)) n_X1_takeSum (zn 0 p_X1_takeSum 0) (zwc (0, [.inr (.ref 3), .inl 2147483648], zP q_X1_takeSum_6) 0) := zentry (tt_X1_takeSum (d + 20) gs_X1_takeProduct_6 (cs_X1_takeProduct_6 (l := l) (G := G) (gh := gh) d)) fm_X1_takeSum_6 bf_X1_takeSum_6 1000 (by decide +kernel) rfl ⟨Nat.zero_lt_succ _, trivial⟩ (fun f hf => match f, hf with
  | 0, _ => fun vs hv => (zbox_t r_X1_takeSum_6_0) vs hv
  | 1, _ => fun vs hv => (zbox_t r_X1_takeSum_6_1) vs hv
  | f + 2, h => absurd (show f + 2 < 2 from h) (Nat.not_lt.mpr (Nat.le_add_left 2 f)))
noncomputable def gs_X1_takeSum_6 : zMt := zgq false [] 4 [.inr (.ref 3), .inl 2147483648] q_X1_takeSum_6 al_X1_takeSum_6
set_option maxRecDepth 100000 in
theorem cs_X1_takeSum_6 (d : Nat) : zC l G gh (d + 22) n_X1_takeSum gs_X1_takeSum_6 := zgq_ok0 (pcs := p_X1_takeSum) (by decide) rfl rfl (fun a ha => by simp only [al_X1_takeSum_6, List.mem_cons, List.not_mem_nil, or_false] at ha; rcases ha with rfl <;> decide +kernel) (fun gh => x_X1_takeSum_6 d) (by decide +kernel)
def q_X1_takeUnit_13 : List (Nat × Nat) := [(3, zk4), (4, zk0), (6, zk2), (7, zk2), (8, 143923), (259, zk8), (265, zk14), (266, zk33), (267, zk33)]
noncomputable def al_X1_takeUnit_13 : zAq := [(none, [(3, zk5), (4, zk0), (6, zk2), (7, zk2), (8, 143923), (259, zk8), (265, zk116), (266, zk115), (267, zk115)])]
noncomputable def fm_X1_takeUnit_13 : List zFm := [(0, [], (fun vs => [.inr (.ref 3), .inl 2147483648]), (fun vs => zP q_X1_takeUnit_13), (fun vs => Nat.sub (Nat.add 0 0) 0))]
def bf_X1_takeUnit_13 : List Nat := []
theorem r_X1_takeUnit_13_0 : zbox [] (fun vs => zFrun (zpost (zAlq al_X1_takeUnit_13)) 1000 (t_X1_takeUnit gs_X1_takeSum_12) fm_X1_takeUnit_13 bf_X1_takeUnit_13 (0, vs)) = true := by decide +kernel
set_option maxRecDepth 100000 in
theorem x_X1_takeUnit_13 (d : Nat) : zS l G gh (d + 20) (zpost (zAlq al_X1_takeUnit_13)) n_X1_takeUnit (zn 0 p_X1_takeUnit 0) (zwc (0, [.inr (.ref 3), .inl 2147483648], zP q_X1_takeUnit_13) 0) := zentry (tt_X1_takeUnit (d + 18) gs_X1_takeSum_12 (cs_X1_takeSum_12 (l := l) (G := G) (gh := gh) d)) fm_X1_takeUnit_13 bf_X1_takeUnit_13 1000 (by decide +kernel) rfl ⟨Nat.zero_lt_succ _, trivial⟩ (fun f hf => match f, hf with
  | 0, _ => fun vs hv => (zbox_t r_X1_takeUnit_13_0) vs hv
  | f + 1, h => absurd (show f + 1 < 1 from h) (Nat.not_lt.mpr (Nat.le_add_left 1 f)))
noncomputable def gs_X1_takeUnit_13 : zMt := zgq false [] 2 [.inr (.ref 3), .inl 2147483648] q_X1_takeUnit_13 al_X1_takeUnit_13
set_option maxRecDepth 100000 in
theorem cs_X1_takeUnit_13 (d : Nat) : zC l G gh (d + 20) n_X1_takeUnit gs_X1_takeUnit_13 := zgq_ok0 (pcs := p_X1_takeUnit) (by decide) rfl rfl (fun a ha => by simp only [al_X1_takeUnit_13, List.mem_cons, List.not_mem_nil, or_false] at ha; rcases ha with rfl <;> decide +kernel) (fun gh => x_X1_takeUnit_13 d) (by decide +kernel)
def q_X1_takeProduct_13 : List (Nat × Nat) := [(3, zk4), (4, zk0), (6, zk2), (7, zk2), (8, 143923), (259, zk8), (265, zk14), (266, zk33), (267, zk33)]
noncomputable def al_X1_takeProduct_13 : zAq := [(none, [(3, zk5), (4, zk0), (6, zk2), (7, zk2), (8, 143923), (259, zk8), (265, zk116), (266, zk115), (267, zk115)])]
def mq_X1_takeProduct_13_1 : List (Nat × Nat) := [(3, zk5), (4, zk0), (6, zk2), (7, zk2), (8, 143923), (259, zk8), (265, zk116), (266, zk115), (267, zk115)]
noncomputable def fm_X1_takeProduct_13 : List zFm := [(0, [], (fun vs => [.inr (.ref 3), .inl 2147483648]), (fun vs => zP q_X1_takeProduct_13), (fun vs => Nat.sub (Nat.add 402 0) 0)),
  (1, [(2, 2147483648, 2147484049)], (fun vs => [.inr (.ref 3), .inl 2147483648, .inl (zn 0 vs 0)]), (fun vs => zP mq_X1_takeProduct_13_1), (fun vs => Nat.sub (Nat.add 2147484049 0) (Nat.add 0 (Nat.mul 1 (zn 0 vs 0)))))]
def bf_X1_takeProduct_13 : List Nat := [0, 2]
theorem r_X1_takeProduct_13_0 : zbox [] (fun vs => zFrun (zpost (zAlq al_X1_takeProduct_13)) 1000 (t_X1_takeProduct gs_X1_takeUnit_13) fm_X1_takeProduct_13 bf_X1_takeProduct_13 (0, vs)) = true := by decide +kernel
theorem r_X1_takeProduct_13_1 : zbox [(2, 2147483648, 2147484049)] (fun vs => zFrun (zpost (zAlq al_X1_takeProduct_13)) 1000 (t_X1_takeProduct gs_X1_takeUnit_13) fm_X1_takeProduct_13 bf_X1_takeProduct_13 (1, vs)) = true := by decide +kernel
set_option maxRecDepth 100000 in
theorem x_X1_takeProduct_13 (d : Nat) : zS l G gh (d + 21) (zpost (zAlq al_X1_takeProduct_13)) n_X1_takeProduct (zn 0 p_X1_takeProduct 0) (zwc (0, [.inr (.ref 3), .inl 2147483648], zP q_X1_takeProduct_13) 0) := zentry (tt_X1_takeProduct (d + 19) gs_X1_takeUnit_13 (cs_X1_takeUnit_13 (l := l) (G := G) (gh := gh) d)) fm_X1_takeProduct_13 bf_X1_takeProduct_13 1000 (by decide +kernel) rfl ⟨Nat.zero_lt_succ _, trivial⟩ (fun f hf => match f, hf with
  | 0, _ => fun vs hv => (zbox_t r_X1_takeProduct_13_0) vs hv
  | 1, _ => fun vs hv => (zbox_t r_X1_takeProduct_13_1) vs hv
  | f + 2, h => absurd (show f + 2 < 2 from h) (Nat.not_lt.mpr (Nat.le_add_left 2 f)))
noncomputable def gs_X1_takeProduct_13 : zMt := zgq false [] 4 [.inr (.ref 3), .inl 2147483648] q_X1_takeProduct_13 al_X1_takeProduct_13
set_option maxRecDepth 100000 in
theorem cs_X1_takeProduct_13 (d : Nat) : zC l G gh (d + 21) n_X1_takeProduct gs_X1_takeProduct_13 := zgq_ok0 (pcs := p_X1_takeProduct) (by decide) rfl rfl (fun a ha => by simp only [al_X1_takeProduct_13, List.mem_cons, List.not_mem_nil, or_false] at ha; rcases ha with rfl <;> decide +kernel) (fun gh => x_X1_takeProduct_13 d) (by decide +kernel)
def q_X1_takeSum_13 : List (Nat × Nat) := [(3, zk4), (4, zk0), (6, zk2), (7, zk2), (8, 143923), (259, zk8), (265, zk14), (266, zk33), (267, zk33)]
noncomputable def al_X1_takeSum_13 : zAq := [(none, [(3, zk5), (4, zk0), (6, zk2), (7, zk2), (8, 143923), (259, zk8), (265, zk116), (266, zk115), (267, zk115)])]
def mq_X1_takeSum_13_1 : List (Nat × Nat) := [(3, zk5), (4, zk0), (6, zk2), (7, zk2), (8, 143923), (259, zk8), (265, zk116), (266, zk115), (267, zk115)]
noncomputable def fm_X1_takeSum_13 : List zFm := [(0, [], (fun vs => [.inr (.ref 3), .inl 2147483648]), (fun vs => zP q_X1_takeSum_13), (fun vs => Nat.sub (Nat.add 402 0) 0)),
  (1, [(2, 2147483648, 2147484049)], (fun vs => [.inr (.ref 3), .inl 2147483648, .inl (zn 0 vs 0)]), (fun vs => zP mq_X1_takeSum_13_1), (fun vs => Nat.sub (Nat.add 2147484049 0) (Nat.add 0 (Nat.mul 1 (zn 0 vs 0)))))]
def bf_X1_takeSum_13 : List Nat := [0, 2]
theorem r_X1_takeSum_13_0 : zbox [] (fun vs => zFrun (zpost (zAlq al_X1_takeSum_13)) 1000 (t_X1_takeSum gs_X1_takeProduct_13) fm_X1_takeSum_13 bf_X1_takeSum_13 (0, vs)) = true := by decide +kernel
theorem r_X1_takeSum_13_1 : zbox [(2, 2147483648, 2147484049)] (fun vs => zFrun (zpost (zAlq al_X1_takeSum_13)) 1000 (t_X1_takeSum gs_X1_takeProduct_13) fm_X1_takeSum_13 bf_X1_takeSum_13 (1, vs)) = true := by decide +kernel
set_option maxRecDepth 100000 in
theorem x_X1_takeSum_13 (d : Nat) : zS l G gh (d + 22) (zpost (zAlq al_X1_takeSum_13)) n_X1_takeSum (zn 0 p_X1_takeSum 0) (zwc (0, [.inr (.ref 3), .inl 2147483648], zP q_X1_takeSum_13) 0) := zentry (tt_X1_takeSum (d + 20) gs_X1_takeProduct_13 (cs_X1_takeProduct_13 (l := l) (G := G) (gh := gh) d)) fm_X1_takeSum_13 bf_X1_takeSum_13 1000 (by decide +kernel) rfl ⟨Nat.zero_lt_succ _, trivial⟩ (fun f hf => match f, hf with
  | 0, _ => fun vs hv => (zbox_t r_X1_takeSum_13_0) vs hv
  | 1, _ => fun vs hv => (zbox_t r_X1_takeSum_13_1) vs hv
  | f + 2, h => absurd (show f + 2 < 2 from h) (Nat.not_lt.mpr (Nat.le_add_left 2 f)))
noncomputable def gs_X1_takeSum_13 : zMt := zgq false [] 4 [.inr (.ref 3), .inl 2147483648] q_X1_takeSum_13 al_X1_takeSum_13
set_option maxRecDepth 100000 in
theorem cs_X1_takeSum_13 (d : Nat) : zC l G gh (d + 22) n_X1_takeSum gs_X1_takeSum_13 := zgq_ok0 (pcs := p_X1_takeSum) (by decide) rfl rfl (fun a ha => by simp only [al_X1_takeSum_13, List.mem_cons, List.not_mem_nil, or_false] at ha; rcases ha with rfl <;> decide +kernel) (fun gh => x_X1_takeSum_13 d) (by decide +kernel)
noncomputable def gs_X1_takeSum : zMt := zor gs_X1_takeSum_6 gs_X1_takeSum_13
theorem cs_X1_takeSum (d : Nat) : zC l G gh (d + 22) n_X1_takeSum gs_X1_takeSum := zor_ok (cs_X1_takeSum_6 d) (cs_X1_takeSum_13 d)
end
