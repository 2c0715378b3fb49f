section
variable {l : Launch} {G : qG} {gh : zGh}
def p_X8_beginAnew : List Nat := [0, 28, 33, 46]
noncomputable def b_X8_beginAnew_0 : zBl := fun jp K => oAld 0 <| oGetR 8 2 <| oAld 0 <| oGetR 8 12 <| oCv 4 1 gs_X4_begin <| oAld 0 <| oGetR 8 4 <| oCv 3 0 f_X3_clear <| oAld 0 <| oGetR 8 7 <| oInt 2147483648 <| oPutI 7 0 <| oInt 2147483648 <| oIst 1 <| jp 1
theorem s_X8_beginAnew_0 (d : Nat) : zPb l G gh (d + 4) n_X8_beginAnew p_X8_beginAnew 0 b_X8_beginAnew_0 := fun K jp hj =>
    z_aload_n (n := 0) (i := 0) (zd (i := .aload_n 0) (n := 1) (by decide +kernel)) rfl <|
    z_getR (ci := 8) (j := 2) (idx := 26) (zd (i := .getfield 26) (n := 3) (by decide +kernel)) (by decide +kernel) (by decide +kernel) rfl g454 <|
    z_aload_n (n := 0) (i := 0) (zd (i := .aload_n 0) (n := 1) (by decide +kernel)) rfl <|
    z_getR (ci := 8) (j := 12) (idx := 71) (zd (i := .getfield 71) (n := 3) (by decide +kernel)) (by decide +kernel) (by decide +kernel) rfl g464 <|
    z_callV (idx := 107) (ci := 4) (N := n_X4_begin) (zd (i := .invokevirtual 107) (n := 3) (by decide +kernel)) to_X4_begin g684 g685 g686 (by decide +kernel) rfl rfl rfl (cs_X4_begin (l := l) (G := G) (gh := gh) (d)) <|
    z_aload_n (n := 0) (i := 0) (zd (i := .aload_n 0) (n := 1) (by decide +kernel)) rfl <|
    z_getR (ci := 8) (j := 4) (idx := 36) (zd (i := .getfield 36) (n := 3) (by decide +kernel)) (by decide +kernel) (by decide +kernel) rfl g456 <|
    z_callV (idx := 111) (ci := 3) (N := n_X3_clear) (zd (i := .invokevirtual 111) (n := 3) (by decide +kernel)) to_X3_clear g696 g697 g698 (by decide +kernel) rfl rfl rfl (c_X3_clear (l := l) (G := G) (gh := gh) (d + 2)) <|
    z_aload_n (n := 0) (i := 0) (zd (i := .aload_n 0) (n := 1) (by decide +kernel)) rfl <|
    z_getR (ci := 8) (j := 7) (idx := 51) (zd (i := .getfield 51) (n := 3) (by decide +kernel)) (by decide +kernel) (by decide +kernel) rfl g459 <|
    z_iconst (n := 0) (zd (i := .iconst (0)) (n := 1) (by decide +kernel)) (by decide +kernel) <|
    z_putI (ci := 7) (j := 0) (idx := 114) (zd (i := .putfield 114) (n := 3) (by decide +kernel)) (by decide +kernel) (by decide +kernel) rfl g430 (Or.inl rfl) <|
    z_iconst (n := 0) (zd (i := .iconst (0)) (n := 1) (by decide +kernel)) (by decide +kernel) <|
    z_istore_n (n := 1) (i := 1) (zd (i := .istore_n 1) (n := 1) (by decide +kernel)) rfl (by decide +kernel) <|
    (zj (hj 1) (by decide +kernel))
noncomputable def b_X8_beginAnew_1 : zBl := fun jp K => oNLC 1 2147483651 zgeN zltN zn1_ge zn1_lt (jp 3) (jp 2)
theorem s_X8_beginAnew_1 (d : Nat) : zPb l G gh (d + 4) n_X8_beginAnew p_X8_beginAnew 28 b_X8_beginAnew_1 := fun K jp hj =>
    z_nLC_ge (i := 1) (c0 := 2147483651) (a1 := 1) (a2 := 1) (off := 16) (tgt := 46) (zLd_n (n := 1) (i := 1) (zd (i := .iload_n 1) (n := 1) (by decide +kernel)) rfl) (zCn_c (n := 3) (zd (i := .iconst (3)) (n := 1) (by decide +kernel)) (by decide +kernel)) (zd (i := .if_icmp .ge (16)) (n := 3) (by decide +kernel)) (by decide +kernel) (zj (hj 3) (by decide +kernel)) (zj (hj 2) (by decide +kernel))
noncomputable def b_X8_beginAnew_2 : zBl := fun jp K => oAld 0 <| oGetR 8 6 <| oIld 1 <| oInt 2147483648 <| oXast 12 znz1 <| oInc 1 2147483649 <| jp 1
theorem s_X8_beginAnew_2 (d : Nat) : zPb l G gh (d + 4) n_X8_beginAnew p_X8_beginAnew 33 b_X8_beginAnew_2 := fun K jp hj =>
    z_aload_n (n := 0) (i := 0) (zd (i := .aload_n 0) (n := 1) (by decide +kernel)) rfl <|
    z_getR (ci := 8) (j := 6) (idx := 44) (zd (i := .getfield 44) (n := 3) (by decide +kernel)) (by decide +kernel) (by decide +kernel) rfl g458 <|
    z_iload_n (n := 1) (i := 1) (zd (i := .iload_n 1) (n := 1) (by decide +kernel)) rfl <|
    z_iconst (n := 0) (zd (i := .iconst (0)) (n := 1) (by decide +kernel)) (by decide +kernel) <|
    z_zast (zd (i := .bastore) (n := 1) (by decide +kernel)) <|
    z_iinc (i := 1) (n := 1) (zd (i := .iinc 1 (1)) (n := 3) (by decide +kernel)) (by decide +kernel) (by decide +kernel) <|
    z_goto (off := -15) (tgt := 28) (zd (i := .goto (-15)) (n := 3) (by decide +kernel)) (by decide +kernel) (zj (hj 1) (by decide +kernel))
noncomputable def b_X8_beginAnew_3 : zBl := fun jp K => oVret K
theorem s_X8_beginAnew_3 (d : Nat) : zPb l G gh (d + 4) n_X8_beginAnew p_X8_beginAnew 46 b_X8_beginAnew_3 := fun K jp hj =>
    z_vret (zd (i := .return_) (n := 1) (by decide +kernel)) rfl
noncomputable def t_X8_beginAnew : List zBl := [b_X8_beginAnew_0, b_X8_beginAnew_1, b_X8_beginAnew_2, b_X8_beginAnew_3]
theorem tt_X8_beginAnew (d : Nat) : zT (zPb l G gh (d + 4) n_X8_beginAnew p_X8_beginAnew) t_X8_beginAnew p_X8_beginAnew := ⟨s_X8_beginAnew_0 d, s_X8_beginAnew_1 d, s_X8_beginAnew_2 d, s_X8_beginAnew_3 d, trivial⟩
noncomputable def f_X8_beginAnew : zMt := zmet 2 t_X8_beginAnew
theorem c_X8_beginAnew (d : Nat) : zC l G gh (d + 4) n_X8_beginAnew f_X8_beginAnew := zmet_ok (pcs := p_X8_beginAnew) (by decide) rfl rfl (tt_X8_beginAnew d)
end
