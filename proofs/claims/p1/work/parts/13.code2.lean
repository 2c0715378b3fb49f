section
variable {l : Launch} {G : qG} {gh : zGh}
def n_X9_copies : qMn := (yX9_copies, cX9_copies, 2, none, 0, 0)
theorem to_X9_copies : qTo n_X9_copies 0 := ⟨g1448, g110, ⟨by decide, by decide, by decide +kernel⟩, by decide⟩
def p_X9_copies : List Nat := [0, 2, 8, 26]
noncomputable def b_X9_copies_0 : zBl := fun jp K => oInt 2147483648 <| oIst 1 <| jp 1
theorem s_X9_copies_0 (d : Nat) : zPb l G gh (d + 1) n_X9_copies p_X9_copies 0 b_X9_copies_0 := fun K jp hj =>
    z_iconst (n := 0) (zd (i := .iconst (0)) (n := 1) (by decide +kernel)) (by decide +kernel) <|
    z_istore_n (n := 1) (i := 1) (zd (i := .istore_n 1) (n := 1) (by decide +kernel)) rfl (by decide +kernel) <|
    (zj (hj 1) (by decide +kernel))
noncomputable def b_X9_copies_1 : zBl := fun jp K => oIld 1 <| oInt 2147483745 <| oIc zge zlt (jp 3) (jp 2)
theorem s_X9_copies_1 (d : Nat) : zPb l G gh (d + 1) n_X9_copies p_X9_copies 2 b_X9_copies_1 := fun K jp hj =>
    z_iload_n (n := 1) (i := 1) (zd (i := .iload_n 1) (n := 1) (by decide +kernel)) rfl <|
    z_bipush (n := 97) (zd (i := .bipush (97)) (n := 2) (by decide +kernel)) (by decide +kernel) <|
    z_icmp_ge (off := 21) (tgt := 26) (zd (i := .if_icmp .ge (21)) (n := 3) (by decide +kernel)) (by decide +kernel) (zj (hj 3) (by decide +kernel)) (zj (hj 2) (by decide +kernel))
noncomputable def b_X9_copies_2 : zBl := fun jp K => oAld 0 <| oGetR 9 49 <| oIld 1 <| oAld 0 <| oGetR 9 48 <| oIld 1 <| oXald 10 <| oXast 10 zid <| oInc 1 2147483649 <| jp 1
theorem s_X9_copies_2 (d : Nat) : zPb l G gh (d + 1) n_X9_copies p_X9_copies 8 b_X9_copies_2 := fun K jp hj =>
    z_aload_n (n := 0) (i := 0) (zd (i := .aload_n 0) (n := 1) (by decide +kernel)) rfl <|
    z_getR (ci := 9) (j := 49) (idx := 113) (zd (i := .getfield 113) (n := 3) (by decide +kernel)) (by decide +kernel) (by decide +kernel) rfl g1177 <|
    z_iload_n (n := 1) (i := 1) (zd (i := .iload_n 1) (n := 1) (by decide +kernel)) rfl <|
    z_aload_n (n := 0) (i := 0) (zd (i := .aload_n 0) (n := 1) (by decide +kernel)) rfl <|
    z_getR (ci := 9) (j := 48) (idx := 110) (zd (i := .getfield 110) (n := 3) (by decide +kernel)) (by decide +kernel) (by decide +kernel) rfl g1176 <|
    z_iload_n (n := 1) (i := 1) (zd (i := .iload_n 1) (n := 1) (by decide +kernel)) rfl <|
    z_iald (zd (i := .iaload) (n := 1) (by decide +kernel)) <|
    z_iast (zd (i := .iastore) (n := 1) (by decide +kernel)) <|
    z_iinc (i := 1) (n := 1) (zd (i := .iinc 1 (1)) (n := 3) (by decide +kernel)) (by decide +kernel) (by decide +kernel) <|
    z_goto (off := -21) (tgt := 2) (zd (i := .goto (-21)) (n := 3) (by decide +kernel)) (by decide +kernel) (zj (hj 1) (by decide +kernel))
noncomputable def b_X9_copies_3 : zBl := fun jp K => oAld 0 <| oAld 0 <| oGetR 9 31 <| oAld 0 <| oGetI 9 18 <| oXald 10 <| oPutI 9 50 <| oVret K
theorem s_X9_copies_3 (d : Nat) : zPb l G gh (d + 1) n_X9_copies p_X9_copies 26 b_X9_copies_3 := fun K jp hj =>
    z_aload_n (n := 0) (i := 0) (zd (i := .aload_n 0) (n := 1) (by decide +kernel)) rfl <|
    z_aload_n (n := 0) (i := 0) (zd (i := .aload_n 0) (n := 1) (by decide +kernel)) rfl <|
    z_getR (ci := 9) (j := 31) (idx := 70) (zd (i := .getfield 70) (n := 3) (by decide +kernel)) (by decide +kernel) (by decide +kernel) rfl g1159 <|
    z_aload_n (n := 0) (i := 0) (zd (i := .aload_n 0) (n := 1) (by decide +kernel)) rfl <|
    z_getI (ci := 9) (j := 18) (idx := 230) (zd (i := .getfield 230) (n := 3) (by decide +kernel)) (by decide +kernel) (by decide +kernel) rfl g1146 <|
    z_iald (zd (i := .iaload) (n := 1) (by decide +kernel)) <|
    z_putI (ci := 9) (j := 50) (idx := 308) (zd (i := .putfield 308) (n := 3) (by decide +kernel)) (by decide +kernel) (by decide +kernel) rfl g1178 (Or.inl rfl) <|
    z_vret (zd (i := .return_) (n := 1) (by decide +kernel)) rfl
noncomputable def f_X9_copies : zMt := zmet 2 [b_X9_copies_0, b_X9_copies_1, b_X9_copies_2, b_X9_copies_3]
theorem c_X9_copies (d : Nat) : zC l G gh (d + 1) n_X9_copies f_X9_copies := zmet_ok (pcs := p_X9_copies) (by decide) rfl rfl ⟨s_X9_copies_0 d, s_X9_copies_1 d, s_X9_copies_2 d, s_X9_copies_3 d, trivial⟩
def n_X9_isX : qMn := (yX9_isX, cX9_isX, 1, (some Jvm.ClassFile.FieldType.boolean), 0, 0)
theorem to_X9_isX : qTo n_X9_isX 1 := ⟨g1509, g110, ⟨by decide, by decide, by decide +kernel⟩, by decide⟩
def p_X9_isX : List Nat := [0]
noncomputable def b_X9_isX_0 : zBl := fun jp K => oIld 0 <| oInt 2147483648 <| oInt 2147483667 <| oCs 3 f_X9_in <| oZret K
theorem s_X9_isX_0 (d : Nat) : zPb l G gh (d + 2) n_X9_isX p_X9_isX 0 b_X9_isX_0 := fun K jp hj =>
    z_iload_n (n := 0) (i := 0) (zd (i := .iload_n 0) (n := 1) (by decide +kernel)) rfl <|
    z_iconst (n := 0) (zd (i := .iconst (0)) (n := 1) (by decide +kernel)) (by decide +kernel) <|
    z_bipush (n := 19) (zd (i := .bipush (19)) (n := 2) (by decide +kernel)) (by decide +kernel) <|
    z_callS (idx := 304) (N := n_X9_in) (zd (i := .invokestatic 304) (n := 3) (by decide +kernel)) to_X9_in g1442 g1443 rfl rfl (c_X9_in (l := l) (G := G) (gh := gh) d) <|
    z_zret (zd (i := .ireturn) (n := 1) (by decide +kernel)) rfl
noncomputable def f_X9_isX : zMt := zmet 1 [b_X9_isX_0]
theorem c_X9_isX (d : Nat) : zC l G gh (d + 2) n_X9_isX f_X9_isX := zmet_ok (pcs := p_X9_isX) (by decide) rfl rfl ⟨s_X9_isX_0 d, trivial⟩
def n_X9_looks : qMn := (yX9_looks, cX9_looks, 3, none, 0, 0)
theorem to_X9_looks : qTo n_X9_looks 1 := ⟨g1468, g110, ⟨by decide, by decide, by decide +kernel⟩, by decide⟩
def p_X9_looks : List Nat := [0, 2, 8, 21]
noncomputable def b_X9_looks_0 : zBl := fun jp K => oInt 2147483648 <| oIst 2 <| jp 1
theorem s_X9_looks_0 (d : Nat) : zPb l G gh (d + 1) n_X9_looks p_X9_looks 0 b_X9_looks_0 := fun K jp hj =>
    z_iconst (n := 0) (zd (i := .iconst (0)) (n := 1) (by decide +kernel)) (by decide +kernel) <|
    z_istore_n (n := 2) (i := 2) (zd (i := .istore_n 2) (n := 1) (by decide +kernel)) rfl (by decide +kernel) <|
    (zj (hj 1) (by decide +kernel))
noncomputable def b_X9_looks_1 : zBl := fun jp K => oIld 2 <| oInt 2147483657 <| oIc zge zlt (jp 3) (jp 2)
theorem s_X9_looks_1 (d : Nat) : zPb l G gh (d + 1) n_X9_looks p_X9_looks 2 b_X9_looks_1 := fun K jp hj =>
    z_iload_n (n := 2) (i := 2) (zd (i := .iload_n 2) (n := 1) (by decide +kernel)) rfl <|
    z_bipush (n := 9) (zd (i := .bipush (9)) (n := 2) (by decide +kernel)) (by decide +kernel) <|
    z_icmp_ge (off := 16) (tgt := 21) (zd (i := .if_icmp .ge (16)) (n := 3) (by decide +kernel)) (by decide +kernel) (zj (hj 3) (by decide +kernel)) (zj (hj 2) (by decide +kernel))
noncomputable def b_X9_looks_2 : zBl := fun jp K => oAld 0 <| oGetR 9 45 <| oIld 2 <| oInt 2147483648 <| oXast 10 zid <| oInc 2 2147483649 <| jp 1
theorem s_X9_looks_2 (d : Nat) : zPb l G gh (d + 1) n_X9_looks p_X9_looks 8 b_X9_looks_2 := fun K jp hj =>
    z_aload_n (n := 0) (i := 0) (zd (i := .aload_n 0) (n := 1) (by decide +kernel)) rfl <|
    z_getR (ci := 9) (j := 45) (idx := 104) (zd (i := .getfield 104) (n := 3) (by decide +kernel)) (by decide +kernel) (by decide +kernel) rfl g1173 <|
    z_iload_n (n := 2) (i := 2) (zd (i := .iload_n 2) (n := 1) (by decide +kernel)) rfl <|
    z_iconst (n := 0) (zd (i := .iconst (0)) (n := 1) (by decide +kernel)) (by decide +kernel) <|
    z_iast (zd (i := .iastore) (n := 1) (by decide +kernel)) <|
    z_iinc (i := 2) (n := 1) (zd (i := .iinc 2 (1)) (n := 3) (by decide +kernel)) (by decide +kernel) (by decide +kernel) <|
    z_goto (off := -16) (tgt := 2) (zd (i := .goto (-16)) (n := 3) (by decide +kernel)) (by decide +kernel) (zj (hj 1) (by decide +kernel))
noncomputable def b_X9_looks_3 : zBl := fun jp K => oAld 0 <| oGetR 9 45 <| oInt 2147483648 <| oIld 1 <| oInt 2147483672 <| oB2z zirem <| oXast 10 zid <| oAld 0 <| oGetR 9 45 <| oInt 2147483649 <| oIld 1 <| oInt 2147483672 <| oB2z zidiv <| oXast 10 zid <| oVret K
theorem s_X9_looks_3 (d : Nat) : zPb l G gh (d + 1) n_X9_looks p_X9_looks 21 b_X9_looks_3 := fun K jp hj =>
    z_aload_n (n := 0) (i := 0) (zd (i := .aload_n 0) (n := 1) (by decide +kernel)) rfl <|
    z_getR (ci := 9) (j := 45) (idx := 104) (zd (i := .getfield 104) (n := 3) (by decide +kernel)) (by decide +kernel) (by decide +kernel) rfl g1173 <|
    z_iconst (n := 0) (zd (i := .iconst (0)) (n := 1) (by decide +kernel)) (by decide +kernel) <|
    z_iload_n (n := 1) (i := 1) (zd (i := .iload_n 1) (n := 1) (by decide +kernel)) rfl <|
    z_bipush (n := 24) (zd (i := .bipush (24)) (n := 2) (by decide +kernel)) (by decide +kernel) <|
    z_irem (zd (i := .irem) (n := 1) (by decide +kernel)) <|
    z_iast (zd (i := .iastore) (n := 1) (by decide +kernel)) <|
    z_aload_n (n := 0) (i := 0) (zd (i := .aload_n 0) (n := 1) (by decide +kernel)) rfl <|
    z_getR (ci := 9) (j := 45) (idx := 104) (zd (i := .getfield 104) (n := 3) (by decide +kernel)) (by decide +kernel) (by decide +kernel) rfl g1173 <|
    z_iconst (n := 1) (zd (i := .iconst (1)) (n := 1) (by decide +kernel)) (by decide +kernel) <|
    z_iload_n (n := 1) (i := 1) (zd (i := .iload_n 1) (n := 1) (by decide +kernel)) rfl <|
    z_bipush (n := 24) (zd (i := .bipush (24)) (n := 2) (by decide +kernel)) (by decide +kernel) <|
    z_idiv (zd (i := .idiv) (n := 1) (by decide +kernel)) <|
    z_iast (zd (i := .iastore) (n := 1) (by decide +kernel)) <|
    z_vret (zd (i := .return_) (n := 1) (by decide +kernel)) rfl
noncomputable def f_X9_looks : zMt := zmet 3 [b_X9_looks_0, b_X9_looks_1, b_X9_looks_2, b_X9_looks_3]
theorem c_X9_looks (d : Nat) : zC l G gh (d + 1) n_X9_looks f_X9_looks := zmet_ok (pcs := p_X9_looks) (by decide) rfl rfl ⟨s_X9_looks_0 d, s_X9_looks_1 d, s_X9_looks_2 d, s_X9_looks_3 d, trivial⟩
def n_X9_lawTells : qMn := (yX9_lawTells, cX9_lawTells, 7, (some Jvm.ClassFile.FieldType.int), 0, 0)
theorem to_X9_lawTells : qTo n_X9_lawTells 2 := ⟨g1472, g110, ⟨by decide, by decide, by decide +kernel⟩, by decide⟩
def p_X9_lawTells : List Nat := [0, 24]
noncomputable def b_X9_lawTells_0 : zBl := fun jp K => oInt 2147483653 <| oAld 0 <| oGetI 9 18 <| oB2 zimul <| oIld 1 <| oB2 zadd <| oIst 3 <| oAld 0 <| oGetR 9 32 <| oIld 3 <| oXald 10 <| oAld 0 <| oGetR 9 33 <| oIld 3 <| oXald 10 <| oIc zne zeq (oFail) (jp 1)
theorem s_X9_lawTells_0 (d : Nat) : zPb l G gh (d + 1) n_X9_lawTells p_X9_lawTells 0 b_X9_lawTells_0 := fun K jp hj =>
    z_iconst (n := 5) (zd (i := .iconst (5)) (n := 1) (by decide +kernel)) (by decide +kernel) <|
    z_aload_n (n := 0) (i := 0) (zd (i := .aload_n 0) (n := 1) (by decide +kernel)) rfl <|
    z_getI (ci := 9) (j := 18) (idx := 230) (zd (i := .getfield 230) (n := 3) (by decide +kernel)) (by decide +kernel) (by decide +kernel) rfl g1146 <|
    z_imul (zd (i := .imul) (n := 1) (by decide +kernel)) <|
    z_iload_n (n := 1) (i := 1) (zd (i := .iload_n 1) (n := 1) (by decide +kernel)) rfl <|
    z_iadd (zd (i := .iadd) (n := 1) (by decide +kernel)) <|
    z_istore_n (n := 3) (i := 3) (zd (i := .istore_n 3) (n := 1) (by decide +kernel)) rfl (by decide +kernel) <|
    z_aload_n (n := 0) (i := 0) (zd (i := .aload_n 0) (n := 1) (by decide +kernel)) rfl <|
    z_getR (ci := 9) (j := 32) (idx := 73) (zd (i := .getfield 73) (n := 3) (by decide +kernel)) (by decide +kernel) (by decide +kernel) rfl g1160 <|
    z_iload_n (n := 3) (i := 3) (zd (i := .iload_n 3) (n := 1) (by decide +kernel)) rfl <|
    z_iald (zd (i := .iaload) (n := 1) (by decide +kernel)) <|
    z_aload_n (n := 0) (i := 0) (zd (i := .aload_n 0) (n := 1) (by decide +kernel)) rfl <|
    z_getR (ci := 9) (j := 33) (idx := 76) (zd (i := .getfield 76) (n := 3) (by decide +kernel)) (by decide +kernel) (by decide +kernel) rfl g1161 <|
    z_iload_n (n := 3) (i := 3) (zd (i := .iload_n 3) (n := 1) (by decide +kernel)) rfl <|
    z_iald (zd (i := .iaload) (n := 1) (by decide +kernel)) <|
    z_icmp_ne (off := 5) (tgt := 26) (zd (i := .if_icmp .ne (5)) (n := 3) (by decide +kernel)) (by decide +kernel) z_fail (zj (hj 1) (by decide +kernel))
noncomputable def b_X9_lawTells_1 : zBl := fun jp K => oIld 2 <| oIret K
theorem s_X9_lawTells_1 (d : Nat) : zPb l G gh (d + 1) n_X9_lawTells p_X9_lawTells 24 b_X9_lawTells_1 := fun K jp hj =>
    z_iload_n (n := 2) (i := 2) (zd (i := .iload_n 2) (n := 1) (by decide +kernel)) rfl <|
    z_iret (zd (i := .ireturn) (n := 1) (by decide +kernel)) rfl
noncomputable def f_X9_lawTells : zMt := zmet 7 [b_X9_lawTells_0, b_X9_lawTells_1]
theorem c_X9_lawTells (d : Nat) : zC l G gh (d + 1) n_X9_lawTells f_X9_lawTells := zmet_ok (pcs := p_X9_lawTells) (by decide) rfl rfl ⟨s_X9_lawTells_0 d, s_X9_lawTells_1 d, trivial⟩
def n_X9_held : qMn := (yX9_held, cX9_held, 3, (some Jvm.ClassFile.FieldType.int), 0, 0)
theorem to_X9_held : qTo n_X9_held 3 := ⟨g1479, g110, ⟨by decide, by decide, by decide +kernel⟩, by decide⟩
def p_X9_held : List Nat := [0, 9, 18, 19]
noncomputable def b_X9_held_0 : zBl := fun jp K => oIld 0 <| oIld 1 <| oIc zge zlt (jp 1) (oFail)
theorem s_X9_held_0 (d : Nat) : zPb l G gh (d + 1) n_X9_held p_X9_held 0 b_X9_held_0 := fun K jp hj =>
    z_iload_n (n := 0) (i := 0) (zd (i := .iload_n 0) (n := 1) (by decide +kernel)) rfl <|
    z_iload_n (n := 1) (i := 1) (zd (i := .iload_n 1) (n := 1) (by decide +kernel)) rfl <|
    z_icmp_ge (off := 7) (tgt := 9) (zd (i := .if_icmp .ge (7)) (n := 3) (by decide +kernel)) (by decide +kernel) (zj (hj 1) (by decide +kernel)) z_fail
noncomputable def b_X9_held_1 : zBl := fun jp K => oIld 0 <| oIld 2 <| oIc zle zgt (jp 2) (oFail)
theorem s_X9_held_1 (d : Nat) : zPb l G gh (d + 1) n_X9_held p_X9_held 9 b_X9_held_1 := fun K jp hj =>
    z_iload_n (n := 0) (i := 0) (zd (i := .iload_n 0) (n := 1) (by decide +kernel)) rfl <|
    z_iload_n (n := 2) (i := 2) (zd (i := .iload_n 2) (n := 1) (by decide +kernel)) rfl <|
    z_icmp_le (off := 7) (tgt := 18) (zd (i := .if_icmp .le (7)) (n := 3) (by decide +kernel)) (by decide +kernel) (zj (hj 2) (by decide +kernel)) z_fail
noncomputable def b_X9_held_2 : zBl := fun jp K => oIld 0 <| jp 3
theorem s_X9_held_2 (d : Nat) : zPb l G gh (d + 1) n_X9_held p_X9_held 18 b_X9_held_2 := fun K jp hj =>
    z_iload_n (n := 0) (i := 0) (zd (i := .iload_n 0) (n := 1) (by decide +kernel)) rfl <|
    (zj (hj 3) (by decide +kernel))
noncomputable def b_X9_held_3 : zBl := fun jp K => oIret K
theorem s_X9_held_3 (d : Nat) : zPb l G gh (d + 1) n_X9_held p_X9_held 19 b_X9_held_3 := fun K jp hj =>
    z_iret (zd (i := .ireturn) (n := 1) (by decide +kernel)) rfl
noncomputable def f_X9_held : zMt := zmet 3 [b_X9_held_0, b_X9_held_1, b_X9_held_2, b_X9_held_3]
theorem c_X9_held (d : Nat) : zC l G gh (d + 1) n_X9_held f_X9_held := zmet_ok (pcs := p_X9_held) (by decide) rfl rfl ⟨s_X9_held_0 d, s_X9_held_1 d, s_X9_held_2 d, s_X9_held_3 d, trivial⟩
def n_X9_heatAt : qMn := (yX9_heatAt, cX9_heatAt, 2, (some Jvm.ClassFile.FieldType.int), 0, 0)
theorem to_X9_heatAt : qTo n_X9_heatAt 1 := ⟨g1464, g110, ⟨by decide, by decide, by decide +kernel⟩, by decide⟩
def p_X9_heatAt : List Nat := [0]
noncomputable def b_X9_heatAt_0 : zBl := fun jp K => oAld 0 <| oIld 1 <| oCv 9 1 f_X9_looks <| oAld 0 <| oInt 2147483648 <| oAld 0 <| oGetR 9 45 <| oInt 2147483648 <| oXald 10 <| oCv 9 2 f_X9_lawTells <| oInt 2147483648 <| oInt 2147483747 <| oCs 3 f_X9_held <| oIret K
theorem s_X9_heatAt_0 (d : Nat) : zPb l G gh (d + 2) n_X9_heatAt p_X9_heatAt 0 b_X9_heatAt_0 := fun K jp hj =>
    z_aload_n (n := 0) (i := 0) (zd (i := .aload_n 0) (n := 1) (by decide +kernel)) rfl <|
    z_iload_n (n := 1) (i := 1) (zd (i := .iload_n 1) (n := 1) (by decide +kernel)) rfl <|
    z_callV (idx := 318) (ci := 9) (N := n_X9_looks) (zd (i := .invokevirtual 318) (n := 3) (by decide +kernel)) to_X9_looks g1465 g1467 g72 (by decide +kernel) rfl rfl rfl (c_X9_looks (l := l) (G := G) (gh := gh) d) <|
    z_aload_n (n := 0) (i := 0) (zd (i := .aload_n 0) (n := 1) (by decide +kernel)) rfl <|
    z_iconst (n := 0) (zd (i := .iconst (0)) (n := 1) (by decide +kernel)) (by decide +kernel) <|
    z_aload_n (n := 0) (i := 0) (zd (i := .aload_n 0) (n := 1) (by decide +kernel)) rfl <|
    z_getR (ci := 9) (j := 45) (idx := 104) (zd (i := .getfield 104) (n := 3) (by decide +kernel)) (by decide +kernel) (by decide +kernel) rfl g1173 <|
    z_iconst (n := 0) (zd (i := .iconst (0)) (n := 1) (by decide +kernel)) (by decide +kernel) <|
    z_iald (zd (i := .iaload) (n := 1) (by decide +kernel)) <|
    z_callV (idx := 321) (ci := 9) (N := n_X9_lawTells) (zd (i := .invokevirtual 321) (n := 3) (by decide +kernel)) to_X9_lawTells g1469 g1471 g73 (by decide +kernel) rfl rfl rfl (c_X9_lawTells (l := l) (G := G) (gh := gh) d) <|
    z_iconst (n := 0) (zd (i := .iconst (0)) (n := 1) (by decide +kernel)) (by decide +kernel) <|
    z_bipush (n := 99) (zd (i := .bipush (99)) (n := 2) (by decide +kernel)) (by decide +kernel) <|
    z_callS (idx := 324) (N := n_X9_held) (zd (i := .invokestatic 324) (n := 3) (by decide +kernel)) to_X9_held g1477 g1478 rfl rfl (c_X9_held (l := l) (G := G) (gh := gh) d) <|
    z_iret (zd (i := .ireturn) (n := 1) (by decide +kernel)) rfl
noncomputable def f_X9_heatAt : zMt := zmet 2 [b_X9_heatAt_0]
theorem c_X9_heatAt (d : Nat) : zC l G gh (d + 2) n_X9_heatAt f_X9_heatAt := zmet_ok (pcs := p_X9_heatAt) (by decide) rfl rfl ⟨s_X9_heatAt_0 d, trivial⟩
def n_X9_interestOf : qMn := (yX9_interestOf, cX9_interestOf, 4, (some Jvm.ClassFile.FieldType.int), 0, 0)
theorem to_X9_interestOf : qTo n_X9_interestOf 2 := ⟨g1521, g110, ⟨by decide, by decide, by decide +kernel⟩, by decide⟩
def p_X9_interestOf : List Nat := [0]
noncomputable def b_X9_interestOf_0 : zBl := fun jp K => oAld 0 <| oIld 2 <| oCv 9 1 f_X9_heatAt <| oIst 3 <| oAld 0 <| oIld 2 <| oCv 9 1 f_X9_looks <| oAld 0 <| oGetR 9 45 <| oInt 2147483650 <| oIld 3 <| oXast 10 zid <| oAld 0 <| oGetR 9 45 <| oInt 2147483654 <| oIld 1 <| oXast 10 zid <| oAld 0 <| oInt 2147483652 <| oInt 2147483648 <| oCv 9 2 f_X9_lawTells <| oInt 2147483648 <| oInt 2147483747 <| oCs 3 f_X9_held <| oIret K
theorem s_X9_interestOf_0 (d : Nat) : zPb l G gh (d + 3) n_X9_interestOf p_X9_interestOf 0 b_X9_interestOf_0 := fun K jp hj =>
    z_aload_n (n := 0) (i := 0) (zd (i := .aload_n 0) (n := 1) (by decide +kernel)) rfl <|
    z_iload_n (n := 2) (i := 2) (zd (i := .iload_n 2) (n := 1) (by decide +kernel)) rfl <|
    z_callV (idx := 327) (ci := 9) (N := n_X9_heatAt) (zd (i := .invokevirtual 327) (n := 3) (by decide +kernel)) to_X9_heatAt g1461 g1463 g71 (by decide +kernel) rfl rfl rfl (c_X9_heatAt (l := l) (G := G) (gh := gh) d) <|
    z_istore_n (n := 3) (i := 3) (zd (i := .istore_n 3) (n := 1) (by decide +kernel)) rfl (by decide +kernel) <|
    z_aload_n (n := 0) (i := 0) (zd (i := .aload_n 0) (n := 1) (by decide +kernel)) rfl <|
    z_iload_n (n := 2) (i := 2) (zd (i := .iload_n 2) (n := 1) (by decide +kernel)) rfl <|
    z_callV (idx := 318) (ci := 9) (N := n_X9_looks) (zd (i := .invokevirtual 318) (n := 3) (by decide +kernel)) to_X9_looks g1465 g1467 g72 (by decide +kernel) rfl rfl rfl (c_X9_looks (l := l) (G := G) (gh := gh) (d + 1)) <|
    z_aload_n (n := 0) (i := 0) (zd (i := .aload_n 0) (n := 1) (by decide +kernel)) rfl <|
    z_getR (ci := 9) (j := 45) (idx := 104) (zd (i := .getfield 104) (n := 3) (by decide +kernel)) (by decide +kernel) (by decide +kernel) rfl g1173 <|
    z_iconst (n := 2) (zd (i := .iconst (2)) (n := 1) (by decide +kernel)) (by decide +kernel) <|
    z_iload_n (n := 3) (i := 3) (zd (i := .iload_n 3) (n := 1) (by decide +kernel)) rfl <|
    z_iast (zd (i := .iastore) (n := 1) (by decide +kernel)) <|
    z_aload_n (n := 0) (i := 0) (zd (i := .aload_n 0) (n := 1) (by decide +kernel)) rfl <|
    z_getR (ci := 9) (j := 45) (idx := 104) (zd (i := .getfield 104) (n := 3) (by decide +kernel)) (by decide +kernel) (by decide +kernel) rfl g1173 <|
    z_bipush (n := 6) (zd (i := .bipush (6)) (n := 2) (by decide +kernel)) (by decide +kernel) <|
    z_iload_n (n := 1) (i := 1) (zd (i := .iload_n 1) (n := 1) (by decide +kernel)) rfl <|
    z_iast (zd (i := .iastore) (n := 1) (by decide +kernel)) <|
    z_aload_n (n := 0) (i := 0) (zd (i := .aload_n 0) (n := 1) (by decide +kernel)) rfl <|
    z_iconst (n := 4) (zd (i := .iconst (4)) (n := 1) (by decide +kernel)) (by decide +kernel) <|
    z_iconst (n := 0) (zd (i := .iconst (0)) (n := 1) (by decide +kernel)) (by decide +kernel) <|
    z_callV (idx := 321) (ci := 9) (N := n_X9_lawTells) (zd (i := .invokevirtual 321) (n := 3) (by decide +kernel)) to_X9_lawTells g1469 g1471 g73 (by decide +kernel) rfl rfl rfl (c_X9_lawTells (l := l) (G := G) (gh := gh) (d + 1)) <|
    z_iconst (n := 0) (zd (i := .iconst (0)) (n := 1) (by decide +kernel)) (by decide +kernel) <|
    z_bipush (n := 99) (zd (i := .bipush (99)) (n := 2) (by decide +kernel)) (by decide +kernel) <|
    z_callS (idx := 324) (N := n_X9_held) (zd (i := .invokestatic 324) (n := 3) (by decide +kernel)) to_X9_held g1477 g1478 rfl rfl (c_X9_held (l := l) (G := G) (gh := gh) (d + 1)) <|
    z_iret (zd (i := .ireturn) (n := 1) (by decide +kernel)) rfl
noncomputable def f_X9_interestOf : zMt := zmet 4 [b_X9_interestOf_0]
theorem c_X9_interestOf (d : Nat) : zC l G gh (d + 3) n_X9_interestOf f_X9_interestOf := zmet_ok (pcs := p_X9_interestOf) (by decide) rfl rfl ⟨s_X9_interestOf_0 d, trivial⟩
def n_X9_tells : qMn := (yX9_tells, cX9_tells, 7, (some Jvm.ClassFile.FieldType.int), 0, 0)
theorem to_X9_tells : qTo n_X9_tells 4 := ⟨g1506, g110, ⟨by decide, by decide, by decide +kernel⟩, by decide⟩
def p_X9_tells : List Nat := [0, 11, 23, 24, 68, 75, 118, 120, 121, 151, 153, 154, 166, 177, 179, 180]
noncomputable def b_X9_tells_0 : zBl := fun jp K => oAld 0 <| oCv 9 0 f_X9_copies <| oIld 2 <| oCs 1 f_X9_isX <| oIf zeq zne (jp 2) (jp 1)
theorem s_X9_tells_0 (d : Nat) : zPb l G gh (d + 4) n_X9_tells p_X9_tells 0 b_X9_tells_0 := fun K jp hj =>
    z_aload_n (n := 0) (i := 0) (zd (i := .aload_n 0) (n := 1) (by decide +kernel)) rfl <|
    z_callV (idx := 375) (ci := 9) (N := n_X9_copies) (zd (i := .invokevirtual 375) (n := 3) (by decide +kernel)) to_X9_copies g1445 g1447 g67 (by decide +kernel) rfl rfl rfl (c_X9_copies (l := l) (G := G) (gh := gh) (d + 2)) <|
    z_iload_n (n := 2) (i := 2) (zd (i := .iload_n 2) (n := 1) (by decide +kernel)) rfl <|
    z_callS (idx := 387) (N := n_X9_isX) (zd (i := .invokestatic 387) (n := 3) (by decide +kernel)) to_X9_isX g1507 g1508 rfl rfl (c_X9_isX (l := l) (G := G) (gh := gh) (d + 1)) <|
    z_if_eq (off := 15) (tgt := 23) (zd (i := .ifCond .eq (15)) (n := 3) (by decide +kernel)) (by decide +kernel) (zj (hj 2) (by decide +kernel)) (zj (hj 1) (by decide +kernel))
noncomputable def b_X9_tells_1 : zBl := fun jp K => oAld 0 <| oIld 3 <| oCv 9 1 f_X9_isThing <| oIf zeq zne (jp 2) (oFail)
theorem s_X9_tells_1 (d : Nat) : zPb l G gh (d + 4) n_X9_tells p_X9_tells 11 b_X9_tells_1 := fun K jp hj =>
    z_aload_n (n := 0) (i := 0) (zd (i := .aload_n 0) (n := 1) (by decide +kernel)) rfl <|
    z_iload_n (n := 3) (i := 3) (zd (i := .iload_n 3) (n := 1) (by decide +kernel)) rfl <|
    z_callV (idx := 372) (ci := 9) (N := n_X9_isThing) (zd (i := .invokevirtual 372) (n := 3) (by decide +kernel)) to_X9_isThing g1438 g1440 g66 (by decide +kernel) rfl rfl rfl (c_X9_isThing (l := l) (G := G) (gh := gh) (d + 1)) <|
    z_if_eq (off := 7) (tgt := 23) (zd (i := .ifCond .eq (7)) (n := 3) (by decide +kernel)) (by decide +kernel) (zj (hj 2) (by decide +kernel)) z_fail
noncomputable def b_X9_tells_2 : zBl := fun jp K => oInt 2147483648 <| jp 3
theorem s_X9_tells_2 (d : Nat) : zPb l G gh (d + 4) n_X9_tells p_X9_tells 23 b_X9_tells_2 := fun K jp hj =>
    z_iconst (n := 0) (zd (i := .iconst (0)) (n := 1) (by decide +kernel)) (by decide +kernel) <|
    (zj (hj 3) (by decide +kernel))
noncomputable def b_X9_tells_3 : zBl := fun jp K => oIst 5 <| oAld 0 <| oGetR 9 49 <| oInt 2147483744 <| oXald 10 <| oIst 6 <| oIld 1 <| oTab 2147483648 [jp 4, jp 5, jp 8, jp 11] (jp 15)
theorem s_X9_tells_3 (d : Nat) : zPb l G gh (d + 4) n_X9_tells p_X9_tells 24 b_X9_tells_3 := fun K jp hj =>
    z_istore (i := 5) (zd (i := .istore 5) (n := 2) (by decide +kernel)) (by decide +kernel) <|
    z_aload_n (n := 0) (i := 0) (zd (i := .aload_n 0) (n := 1) (by decide +kernel)) rfl <|
    z_getR (ci := 9) (j := 49) (idx := 113) (zd (i := .getfield 113) (n := 3) (by decide +kernel)) (by decide +kernel) (by decide +kernel) rfl g1177 <|
    z_bipush (n := 96) (zd (i := .bipush (96)) (n := 2) (by decide +kernel)) (by decide +kernel) <|
    z_iald (zd (i := .iaload) (n := 1) (by decide +kernel)) <|
    z_istore (i := 6) (zd (i := .istore 6) (n := 2) (by decide +kernel)) (by decide +kernel) <|
    z_iload_n (n := 1) (i := 1) (zd (i := .iload_n 1) (n := 1) (by decide +kernel)) rfl <|
    z_table (v := 2147483648) (df := 180) (len := 32) (x := 0) (dflt := 144) (lo := 0) (hi := 3) (offs := #[32, 39, 85, 118]) (tgts := [68, 75, 121, 154]) (zd (i := .tableswitch (144) (0) (3) #[32, 39, 85, 118]) (n := 32) (by decide +kernel)) (by decide +kernel) rfl rfl (by decide +kernel) (by decide +kernel) (by decide +kernel) ⟨(zj (hj 4) (by decide +kernel)), (zj (hj 5) (by decide +kernel)), (zj (hj 8) (by decide +kernel)), (zj (hj 11) (by decide +kernel)), trivial⟩ (zj (hj 15) (by decide +kernel))
noncomputable def b_X9_tells_4 : zBl := fun jp K => oAld 0 <| oIld 6 <| oCv 9 1 f_X9_heatAt <| oIret K
theorem s_X9_tells_4 (d : Nat) : zPb l G gh (d + 4) n_X9_tells p_X9_tells 68 b_X9_tells_4 := fun K jp hj =>
    z_aload_n (n := 0) (i := 0) (zd (i := .aload_n 0) (n := 1) (by decide +kernel)) rfl <|
    z_iload (i := 6) (zd (i := .iload 6) (n := 2) (by decide +kernel)) <|
    z_callV (idx := 327) (ci := 9) (N := n_X9_heatAt) (zd (i := .invokevirtual 327) (n := 3) (by decide +kernel)) to_X9_heatAt g1461 g1463 g71 (by decide +kernel) rfl rfl rfl (c_X9_heatAt (l := l) (G := G) (gh := gh) (d + 1)) <|
    z_iret (zd (i := .ireturn) (n := 1) (by decide +kernel)) rfl
noncomputable def b_X9_tells_5 : zBl := fun jp K => oIld 5 <| oIf zeq zne (jp 6) (oFail)
theorem s_X9_tells_5 (d : Nat) : zPb l G gh (d + 4) n_X9_tells p_X9_tells 75 b_X9_tells_5 := fun K jp hj =>
    z_iload (i := 5) (zd (i := .iload 5) (n := 2) (by decide +kernel)) <|
    z_if_eq (off := 41) (tgt := 118) (zd (i := .ifCond .eq (41)) (n := 3) (by decide +kernel)) (by decide +kernel) (zj (hj 6) (by decide +kernel)) z_fail
noncomputable def b_X9_tells_6 : zBl := fun jp K => oInt 2147483548 <| jp 7
theorem s_X9_tells_6 (d : Nat) : zPb l G gh (d + 4) n_X9_tells p_X9_tells 118 b_X9_tells_6 := fun K jp hj =>
    z_bipush (n := -100) (zd (i := .bipush (-100)) (n := 2) (by decide +kernel)) (by decide +kernel) <|
    (zj (hj 7) (by decide +kernel))
noncomputable def b_X9_tells_7 : zBl := fun jp K => oIret K
theorem s_X9_tells_7 (d : Nat) : zPb l G gh (d + 4) n_X9_tells p_X9_tells 120 b_X9_tells_7 := fun K jp hj =>
    z_iret (zd (i := .ireturn) (n := 1) (by decide +kernel)) rfl
noncomputable def b_X9_tells_8 : zBl := fun jp K => oIld 5 <| oIf zeq zne (jp 9) (oFail)
theorem s_X9_tells_8 (d : Nat) : zPb l G gh (d + 4) n_X9_tells p_X9_tells 121 b_X9_tells_8 := fun K jp hj =>
    z_iload (i := 5) (zd (i := .iload 5) (n := 2) (by decide +kernel)) <|
    z_if_eq (off := 28) (tgt := 151) (zd (i := .ifCond .eq (28)) (n := 3) (by decide +kernel)) (by decide +kernel) (zj (hj 9) (by decide +kernel)) z_fail
noncomputable def b_X9_tells_9 : zBl := fun jp K => oInt 2147483548 <| jp 10
theorem s_X9_tells_9 (d : Nat) : zPb l G gh (d + 4) n_X9_tells p_X9_tells 151 b_X9_tells_9 := fun K jp hj =>
    z_bipush (n := -100) (zd (i := .bipush (-100)) (n := 2) (by decide +kernel)) (by decide +kernel) <|
    (zj (hj 10) (by decide +kernel))
noncomputable def b_X9_tells_10 : zBl := fun jp K => oIret K
theorem s_X9_tells_10 (d : Nat) : zPb l G gh (d + 4) n_X9_tells p_X9_tells 153 b_X9_tells_10 := fun K jp hj =>
    z_iret (zd (i := .ireturn) (n := 1) (by decide +kernel)) rfl
noncomputable def b_X9_tells_11 : zBl := fun jp K => oIld 4 <| oInt 2147483648 <| oInt 2147484647 <| oCs 3 f_X9_in <| oIf zeq zne (jp 13) (jp 12)
theorem s_X9_tells_11 (d : Nat) : zPb l G gh (d + 4) n_X9_tells p_X9_tells 154 b_X9_tells_11 := fun K jp hj =>
    z_iload (i := 4) (zd (i := .iload 4) (n := 2) (by decide +kernel)) <|
    z_iconst (n := 0) (zd (i := .iconst (0)) (n := 1) (by decide +kernel)) (by decide +kernel) <|
    z_sipush (n := 999) (zd (i := .sipush (999)) (n := 3) (by decide +kernel)) (by decide +kernel) <|
    z_callS (idx := 304) (N := n_X9_in) (zd (i := .invokestatic 304) (n := 3) (by decide +kernel)) to_X9_in g1442 g1443 rfl rfl (c_X9_in (l := l) (G := G) (gh := gh) (d + 2)) <|
    z_if_eq (off := 14) (tgt := 177) (zd (i := .ifCond .eq (14)) (n := 3) (by decide +kernel)) (by decide +kernel) (zj (hj 13) (by decide +kernel)) (zj (hj 12) (by decide +kernel))
noncomputable def b_X9_tells_12 : zBl := fun jp K => oAld 0 <| oIld 4 <| oIld 6 <| oCv 9 2 f_X9_interestOf <| jp 14
theorem s_X9_tells_12 (d : Nat) : zPb l G gh (d + 4) n_X9_tells p_X9_tells 166 b_X9_tells_12 := fun K jp hj =>
    z_aload_n (n := 0) (i := 0) (zd (i := .aload_n 0) (n := 1) (by decide +kernel)) rfl <|
    z_iload (i := 4) (zd (i := .iload 4) (n := 2) (by decide +kernel)) <|
    z_iload (i := 6) (zd (i := .iload 6) (n := 2) (by decide +kernel)) <|
    z_callV (idx := 348) (ci := 9) (N := n_X9_interestOf) (zd (i := .invokevirtual 348) (n := 3) (by decide +kernel)) to_X9_interestOf g1518 g1520 g80 (by decide +kernel) rfl rfl rfl (c_X9_interestOf (l := l) (G := G) (gh := gh) d) <|
    z_goto (off := 5) (tgt := 179) (zd (i := .goto (5)) (n := 3) (by decide +kernel)) (by decide +kernel) (zj (hj 14) (by decide +kernel))
noncomputable def b_X9_tells_13 : zBl := fun jp K => oInt 2147483548 <| jp 14
theorem s_X9_tells_13 (d : Nat) : zPb l G gh (d + 4) n_X9_tells p_X9_tells 177 b_X9_tells_13 := fun K jp hj =>
    z_bipush (n := -100) (zd (i := .bipush (-100)) (n := 2) (by decide +kernel)) (by decide +kernel) <|
    (zj (hj 14) (by decide +kernel))
noncomputable def b_X9_tells_14 : zBl := fun jp K => oIret K
theorem s_X9_tells_14 (d : Nat) : zPb l G gh (d + 4) n_X9_tells p_X9_tells 179 b_X9_tells_14 := fun K jp hj =>
    z_iret (zd (i := .ireturn) (n := 1) (by decide +kernel)) rfl
noncomputable def b_X9_tells_15 : zBl := fun jp K => oInt 2147483548 <| oIret K
theorem s_X9_tells_15 (d : Nat) : zPb l G gh (d + 4) n_X9_tells p_X9_tells 180 b_X9_tells_15 := fun K jp hj =>
    z_bipush (n := -100) (zd (i := .bipush (-100)) (n := 2) (by decide +kernel)) (by decide +kernel) <|
    z_iret (zd (i := .ireturn) (n := 1) (by decide +kernel)) rfl
noncomputable def f_X9_tells : zMt := zmet 7 [b_X9_tells_0, b_X9_tells_1, b_X9_tells_2, b_X9_tells_3, b_X9_tells_4, b_X9_tells_5, b_X9_tells_6, b_X9_tells_7, b_X9_tells_8, b_X9_tells_9, b_X9_tells_10, b_X9_tells_11, b_X9_tells_12, b_X9_tells_13, b_X9_tells_14, b_X9_tells_15]
theorem c_X9_tells (d : Nat) : zC l G gh (d + 4) n_X9_tells f_X9_tells := zmet_ok (pcs := p_X9_tells) (by decide) rfl rfl ⟨s_X9_tells_0 d, s_X9_tells_1 d, s_X9_tells_2 d, s_X9_tells_3 d, s_X9_tells_4 d, s_X9_tells_5 d, s_X9_tells_6 d, s_X9_tells_7 d, s_X9_tells_8 d, s_X9_tells_9 d, s_X9_tells_10 d, s_X9_tells_11 d, s_X9_tells_12 d, s_X9_tells_13 d, s_X9_tells_14 d, s_X9_tells_15 d, trivial⟩
def n_X8_lend : qMn := (yX8_lend, cX8_lend, 5, (some Jvm.ClassFile.FieldType.int), 0, 0)
theorem to_X8_lend : qTo n_X8_lend 3 := ⟨g831, g97, ⟨by decide, by decide, by decide +kernel⟩, by decide⟩
def p_X8_lend : List Nat := [0, 21]
noncomputable def b_X8_lend_0 : zBl := fun jp K => oAld 0 <| oIld 1 <| oIld 2 <| oCv 8 2 f_X8_isPair <| oIf zeq zne (jp 1) (oFail)
theorem s_X8_lend_0 (d : Nat) : zPb l G gh (d + 3) n_X8_lend p_X8_lend 0 b_X8_lend_0 := fun K jp hj =>
    z_aload_n (n := 0) (i := 0) (zd (i := .aload_n 0) (n := 1) (by decide +kernel)) rfl <|
    z_iload_n (n := 1) (i := 1) (zd (i := .iload_n 1) (n := 1) (by decide +kernel)) rfl <|
    z_iload_n (n := 2) (i := 2) (zd (i := .iload_n 2) (n := 1) (by decide +kernel)) rfl <|
    z_callV (idx := 162) (ci := 8) (N := n_X8_isPair) (zd (i := .invokevirtual 162) (n := 3) (by decide +kernel)) to_X8_isPair g797 g799 g26 (by decide +kernel) rfl rfl rfl (c_X8_isPair (l := l) (G := G) (gh := gh) d) <|
    z_if_eq (off := 15) (tgt := 21) (zd (i := .ifCond .eq (15)) (n := 3) (by decide +kernel)) (by decide +kernel) (zj (hj 1) (by decide +kernel)) z_fail
noncomputable def b_X8_lend_1 : zBl := fun jp K => oInt 2147483647 <| oIret K
theorem s_X8_lend_1 (d : Nat) : zPb l G gh (d + 3) n_X8_lend p_X8_lend 21 b_X8_lend_1 := fun K jp hj =>
    z_iconst (n := -1) (zd (i := .iconst (-1)) (n := 1) (by decide +kernel)) (by decide +kernel) <|
    z_iret (zd (i := .ireturn) (n := 1) (by decide +kernel)) rfl
noncomputable def f_X8_lend : zMt := zmet 5 [b_X8_lend_0, b_X8_lend_1]
theorem c_X8_lend (d : Nat) : zC l G gh (d + 3) n_X8_lend f_X8_lend := zmet_ok (pcs := p_X8_lend) (by decide) rfl rfl ⟨s_X8_lend_0 d, s_X8_lend_1 d, trivial⟩
def n_X9_lend : qMn := (yX9_lend, cX9_lend, 5, (some Jvm.ClassFile.FieldType.int), 0, 0)
theorem to_X9_lend : qTo n_X9_lend 3 := ⟨g1525, g110, ⟨by decide, by decide, by decide +kernel⟩, by decide⟩
def p_X9_lend : List Nat := [0, 27]
noncomputable def b_X9_lend_0 : zBl := fun jp K => oAld 0 <| oIld 1 <| oCv 9 1 f_X9_isSeat <| oIf zeq zne (jp 1) (oFail)
theorem s_X9_lend_0 (d : Nat) : zPb l G gh (d + 3) n_X9_lend p_X9_lend 0 b_X9_lend_0 := fun K jp hj =>
    z_aload_n (n := 0) (i := 0) (zd (i := .aload_n 0) (n := 1) (by decide +kernel)) rfl <|
    z_iload_n (n := 1) (i := 1) (zd (i := .iload_n 1) (n := 1) (by decide +kernel)) rfl <|
    z_callV (idx := 378) (ci := 9) (N := n_X9_isSeat) (zd (i := .invokevirtual 378) (n := 3) (by decide +kernel)) to_X9_isSeat g1487 g1489 g75 (by decide +kernel) rfl rfl rfl (c_X9_isSeat (l := l) (G := G) (gh := gh) d) <|
    z_if_eq (off := 22) (tgt := 27) (zd (i := .ifCond .eq (22)) (n := 3) (by decide +kernel)) (by decide +kernel) (zj (hj 1) (by decide +kernel)) z_fail
noncomputable def b_X9_lend_1 : zBl := fun jp K => oInt 2147483647 <| oIret K
theorem s_X9_lend_1 (d : Nat) : zPb l G gh (d + 3) n_X9_lend p_X9_lend 27 b_X9_lend_1 := fun K jp hj =>
    z_iconst (n := -1) (zd (i := .iconst (-1)) (n := 1) (by decide +kernel)) (by decide +kernel) <|
    z_iret (zd (i := .ireturn) (n := 1) (by decide +kernel)) rfl
noncomputable def f_X9_lend : zMt := zmet 5 [b_X9_lend_0, b_X9_lend_1]
theorem c_X9_lend (d : Nat) : zC l G gh (d + 3) n_X9_lend f_X9_lend := zmet_ok (pcs := p_X9_lend) (by decide) rfl rfl ⟨s_X9_lend_0 d, s_X9_lend_1 d, trivial⟩
def n_X8_call : qMn := (yX8_call, cX8_call, 5, (some Jvm.ClassFile.FieldType.int), 0, 0)
theorem to_X8_call : qTo n_X8_call 2 := ⟨g851, g97, ⟨by decide, by decide, by decide +kernel⟩, by decide⟩
def p_X8_call : List Nat := [0, 9]
noncomputable def b_X8_call_0 : zBl := fun jp K => oAld 0 <| oIld 1 <| oIld 2 <| oCv 8 2 f_X8_isPair <| oIf zne zeq (oFail) (jp 1)
theorem s_X8_call_0 (d : Nat) : zPb l G gh (d + 3) n_X8_call p_X8_call 0 b_X8_call_0 := fun K jp hj =>
    z_aload_n (n := 0) (i := 0) (zd (i := .aload_n 0) (n := 1) (by decide +kernel)) rfl <|
    z_iload_n (n := 1) (i := 1) (zd (i := .iload_n 1) (n := 1) (by decide +kernel)) rfl <|
    z_iload_n (n := 2) (i := 2) (zd (i := .iload_n 2) (n := 1) (by decide +kernel)) rfl <|
    z_callV (idx := 162) (ci := 8) (N := n_X8_isPair) (zd (i := .invokevirtual 162) (n := 3) (by decide +kernel)) to_X8_isPair g797 g799 g26 (by decide +kernel) rfl rfl rfl (c_X8_isPair (l := l) (G := G) (gh := gh) d) <|
    z_if_ne (off := 5) (tgt := 11) (zd (i := .ifCond .ne (5)) (n := 3) (by decide +kernel)) (by decide +kernel) z_fail (zj (hj 1) (by decide +kernel))
noncomputable def b_X8_call_1 : zBl := fun jp K => oInt 2147483647 <| oIret K
theorem s_X8_call_1 (d : Nat) : zPb l G gh (d + 3) n_X8_call p_X8_call 9 b_X8_call_1 := fun K jp hj =>
    z_iconst (n := -1) (zd (i := .iconst (-1)) (n := 1) (by decide +kernel)) (by decide +kernel) <|
    z_iret (zd (i := .ireturn) (n := 1) (by decide +kernel)) rfl
noncomputable def f_X8_call : zMt := zmet 5 [b_X8_call_0, b_X8_call_1]
theorem c_X8_call (d : Nat) : zC l G gh (d + 3) n_X8_call f_X8_call := zmet_ok (pcs := p_X8_call) (by decide) rfl rfl ⟨s_X8_call_0 d, s_X8_call_1 d, trivial⟩
def n_X9_call : qMn := (yX9_call, cX9_call, 5, (some Jvm.ClassFile.FieldType.int), 0, 0)
theorem to_X9_call : qTo n_X9_call 2 := ⟨g1533, g110, ⟨by decide, by decide, by decide +kernel⟩, by decide⟩
def p_X9_call : List Nat := [0, 16]
noncomputable def b_X9_call_0 : zBl := fun jp K => oAld 0 <| oIld 1 <| oCv 9 1 f_X9_isSeat <| oIf zeq zne (jp 1) (oFail)
theorem s_X9_call_0 (d : Nat) : zPb l G gh (d + 3) n_X9_call p_X9_call 0 b_X9_call_0 := fun K jp hj =>
    z_aload_n (n := 0) (i := 0) (zd (i := .aload_n 0) (n := 1) (by decide +kernel)) rfl <|
    z_iload_n (n := 1) (i := 1) (zd (i := .iload_n 1) (n := 1) (by decide +kernel)) rfl <|
    z_callV (idx := 378) (ci := 9) (N := n_X9_isSeat) (zd (i := .invokevirtual 378) (n := 3) (by decide +kernel)) to_X9_isSeat g1487 g1489 g75 (by decide +kernel) rfl rfl rfl (c_X9_isSeat (l := l) (G := G) (gh := gh) d) <|
    z_if_eq (off := 11) (tgt := 16) (zd (i := .ifCond .eq (11)) (n := 3) (by decide +kernel)) (by decide +kernel) (zj (hj 1) (by decide +kernel)) z_fail
noncomputable def b_X9_call_1 : zBl := fun jp K => oInt 2147483647 <| oIret K
theorem s_X9_call_1 (d : Nat) : zPb l G gh (d + 3) n_X9_call p_X9_call 16 b_X9_call_1 := fun K jp hj =>
    z_iconst (n := -1) (zd (i := .iconst (-1)) (n := 1) (by decide +kernel)) (by decide +kernel) <|
    z_iret (zd (i := .ireturn) (n := 1) (by decide +kernel)) rfl
noncomputable def f_X9_call : zMt := zmet 5 [b_X9_call_0, b_X9_call_1]
theorem c_X9_call (d : Nat) : zC l G gh (d + 3) n_X9_call f_X9_call := zmet_ok (pcs := p_X9_call) (by decide) rfl rfl ⟨s_X9_call_0 d, s_X9_call_1 d, trivial⟩
def n_X8_move : qMn := (yX8_move, cX8_move, 3, (some Jvm.ClassFile.FieldType.boolean), 0, 0)
theorem to_X8_move : qTo n_X8_move 2 := ⟨g857, g97, ⟨by decide, by decide, by decide +kernel⟩, by decide⟩
def p_X8_move : List Nat := [0, 28]
noncomputable def b_X8_move_0 : zBl := fun jp K => oAld 0 <| oIld 1 <| oCv 8 1 f_X8_isSeat <| oIf zeq zne (jp 1) (oFail)
theorem s_X8_move_0 (d : Nat) : zPb l G gh (d + 2) n_X8_move p_X8_move 0 b_X8_move_0 := fun K jp hj =>
    z_aload_n (n := 0) (i := 0) (zd (i := .aload_n 0) (n := 1) (by decide +kernel)) rfl <|
    z_iload_n (n := 1) (i := 1) (zd (i := .iload_n 1) (n := 1) (by decide +kernel)) rfl <|
    z_callV (idx := 131) (ci := 8) (N := n_X8_isSeat) (zd (i := .invokevirtual 131) (n := 3) (by decide +kernel)) to_X8_isSeat g771 g773 g23 (by decide +kernel) rfl rfl rfl (c_X8_isSeat (l := l) (G := G) (gh := gh) d) <|
    z_if_eq (off := 23) (tgt := 28) (zd (i := .ifCond .eq (23)) (n := 3) (by decide +kernel)) (by decide +kernel) (zj (hj 1) (by decide +kernel)) z_fail
noncomputable def b_X8_move_1 : zBl := fun jp K => oInt 2147483648 <| oZret K
theorem s_X8_move_1 (d : Nat) : zPb l G gh (d + 2) n_X8_move p_X8_move 28 b_X8_move_1 := fun K jp hj =>
    z_iconst (n := 0) (zd (i := .iconst (0)) (n := 1) (by decide +kernel)) (by decide +kernel) <|
    z_zret (zd (i := .ireturn) (n := 1) (by decide +kernel)) rfl
noncomputable def f_X8_move : zMt := zmet 3 [b_X8_move_0, b_X8_move_1]
theorem c_X8_move (d : Nat) : zC l G gh (d + 2) n_X8_move f_X8_move := zmet_ok (pcs := p_X8_move) (by decide) rfl rfl ⟨s_X8_move_0 d, s_X8_move_1 d, trivial⟩
def n_X9_move : qMn := (yX9_move, cX9_move, 3, (some Jvm.ClassFile.FieldType.boolean), 0, 0)
theorem to_X9_move : qTo n_X9_move 2 := ⟨g1538, g110, ⟨by decide, by decide, by decide +kernel⟩, by decide⟩
def p_X9_move : List Nat := [0, 25]
noncomputable def b_X9_move_0 : zBl := fun jp K => oAld 0 <| oIld 1 <| oCv 9 1 f_X9_isSeat <| oIf zeq zne (jp 1) (oFail)
theorem s_X9_move_0 (d : Nat) : zPb l G gh (d + 3) n_X9_move p_X9_move 0 b_X9_move_0 := fun K jp hj =>
    z_aload_n (n := 0) (i := 0) (zd (i := .aload_n 0) (n := 1) (by decide +kernel)) rfl <|
    z_iload_n (n := 1) (i := 1) (zd (i := .iload_n 1) (n := 1) (by decide +kernel)) rfl <|
    z_callV (idx := 378) (ci := 9) (N := n_X9_isSeat) (zd (i := .invokevirtual 378) (n := 3) (by decide +kernel)) to_X9_isSeat g1487 g1489 g75 (by decide +kernel) rfl rfl rfl (c_X9_isSeat (l := l) (G := G) (gh := gh) d) <|
    z_if_eq (off := 20) (tgt := 25) (zd (i := .ifCond .eq (20)) (n := 3) (by decide +kernel)) (by decide +kernel) (zj (hj 1) (by decide +kernel)) z_fail
noncomputable def b_X9_move_1 : zBl := fun jp K => oInt 2147483648 <| oZret K
theorem s_X9_move_1 (d : Nat) : zPb l G gh (d + 3) n_X9_move p_X9_move 25 b_X9_move_1 := fun K jp hj =>
    z_iconst (n := 0) (zd (i := .iconst (0)) (n := 1) (by decide +kernel)) (by decide +kernel) <|
    z_zret (zd (i := .ireturn) (n := 1) (by decide +kernel)) rfl
noncomputable def f_X9_move : zMt := zmet 3 [b_X9_move_0, b_X9_move_1]
theorem c_X9_move (d : Nat) : zC l G gh (d + 3) n_X9_move f_X9_move := zmet_ok (pcs := p_X9_move) (by decide) rfl rfl ⟨s_X9_move_0 d, s_X9_move_1 d, trivial⟩
def n_X8_isAhead : qMn := (yX8_isAhead, cX8_isAhead, 1, (some Jvm.ClassFile.FieldType.boolean), 0, 0)
theorem to_X8_isAhead : qTo n_X8_isAhead 1 := ⟨g864, g97, ⟨by decide, by decide, by decide +kernel⟩, by decide⟩
def p_X8_isAhead : List Nat := [0, 4, 10, 14, 15]
noncomputable def b_X8_isAhead_0 : zBl := fun jp K => oIld 0 <| oIf zlt zge (jp 3) (jp 1)
theorem s_X8_isAhead_0 (d : Nat) : zPb l G gh (d + 1) n_X8_isAhead p_X8_isAhead 0 b_X8_isAhead_0 := fun K jp hj =>
    z_iload_n (n := 0) (i := 0) (zd (i := .iload_n 0) (n := 1) (by decide +kernel)) rfl <|
    z_if_lt (off := 13) (tgt := 14) (zd (i := .ifCond .lt (13)) (n := 3) (by decide +kernel)) (by decide +kernel) (zj (hj 3) (by decide +kernel)) (zj (hj 1) (by decide +kernel))
noncomputable def b_X8_isAhead_1 : zBl := fun jp K => oIld 0 <| oInt 2147483696 <| oIc zgt zle (jp 3) (jp 2)
theorem s_X8_isAhead_1 (d : Nat) : zPb l G gh (d + 1) n_X8_isAhead p_X8_isAhead 4 b_X8_isAhead_1 := fun K jp hj =>
    z_iload_n (n := 0) (i := 0) (zd (i := .iload_n 0) (n := 1) (by decide +kernel)) rfl <|
    z_bipush (n := 48) (zd (i := .bipush (48)) (n := 2) (by decide +kernel)) (by decide +kernel) <|
    z_icmp_gt (off := 7) (tgt := 14) (zd (i := .if_icmp .gt (7)) (n := 3) (by decide +kernel)) (by decide +kernel) (zj (hj 3) (by decide +kernel)) (zj (hj 2) (by decide +kernel))
noncomputable def b_X8_isAhead_2 : zBl := fun jp K => oInt 2147483649 <| jp 4
theorem s_X8_isAhead_2 (d : Nat) : zPb l G gh (d + 1) n_X8_isAhead p_X8_isAhead 10 b_X8_isAhead_2 := fun K jp hj =>
    z_iconst (n := 1) (zd (i := .iconst (1)) (n := 1) (by decide +kernel)) (by decide +kernel) <|
    z_goto (off := 4) (tgt := 15) (zd (i := .goto (4)) (n := 3) (by decide +kernel)) (by decide +kernel) (zj (hj 4) (by decide +kernel))
noncomputable def b_X8_isAhead_3 : zBl := fun jp K => oInt 2147483648 <| jp 4
theorem s_X8_isAhead_3 (d : Nat) : zPb l G gh (d + 1) n_X8_isAhead p_X8_isAhead 14 b_X8_isAhead_3 := fun K jp hj =>
    z_iconst (n := 0) (zd (i := .iconst (0)) (n := 1) (by decide +kernel)) (by decide +kernel) <|
    (zj (hj 4) (by decide +kernel))
noncomputable def b_X8_isAhead_4 : zBl := fun jp K => oZret K
theorem s_X8_isAhead_4 (d : Nat) : zPb l G gh (d + 1) n_X8_isAhead p_X8_isAhead 15 b_X8_isAhead_4 := fun K jp hj =>
    z_zret (zd (i := .ireturn) (n := 1) (by decide +kernel)) rfl
noncomputable def f_X8_isAhead : zMt := zmet 1 [b_X8_isAhead_0, b_X8_isAhead_1, b_X8_isAhead_2, b_X8_isAhead_3, b_X8_isAhead_4]
theorem c_X8_isAhead (d : Nat) : zC l G gh (d + 1) n_X8_isAhead f_X8_isAhead := zmet_ok (pcs := p_X8_isAhead) (by decide) rfl rfl ⟨s_X8_isAhead_0 d, s_X8_isAhead_1 d, s_X8_isAhead_2 d, s_X8_isAhead_3 d, s_X8_isAhead_4 d, trivial⟩
def n_X4_copy : qMn := (yX4_copy, cX4_copy, 2, none, 0, 0)
theorem to_X4_copy : qTo n_X4_copy 1 := ⟨g843, g107, ⟨by decide, by decide, by decide +kernel⟩, by decide⟩
def p_X4_copy : List Nat := [0, 68]
noncomputable def b_X4_copy_0 : zBl := fun jp K => oAld 0 <| oAld 1 <| oGetI 4 0 <| oPutI 4 0 <| oAld 1 <| oGetR 4 1 <| oInt 2147483648 <| oAld 0 <| oGetR 4 1 <| oInt 2147483648 <| oInt 2147483654 <| oCopy <| oAld 1 <| oGetR 4 2 <| oInt 2147483648 <| oAld 0 <| oGetR 4 2 <| oInt 2147483648 <| oInt 2147483654 <| oCopy <| oAld 1 <| oGetR 4 3 <| oInt 2147483648 <| oAld 0 <| oGetR 4 3 <| oInt 2147483648 <| oInt 2147483654 <| oCopy <| oAld 1 <| oGetR 4 4 <| oInt 2147483648 <| oAld 0 <| oGetR 4 4 <| oInt 2147483648 <| oInt 2147483654 <| oCopy <| jp 1
theorem s_X4_copy_0 (d : Nat) : zPb l G gh (d + 1) n_X4_copy p_X4_copy 0 b_X4_copy_0 := fun K jp hj =>
    z_aload_n (n := 0) (i := 0) (zd (i := .aload_n 0) (n := 1) (by decide +kernel)) rfl <|
    z_aload_n (n := 1) (i := 1) (zd (i := .aload_n 1) (n := 1) (by decide +kernel)) rfl <|
    z_getI (ci := 4) (j := 0) (idx := 9) (zd (i := .getfield 9) (n := 3) (by decide +kernel)) (by decide +kernel) (by decide +kernel) rfl g367 <|
    z_putI (ci := 4) (j := 0) (idx := 9) (zd (i := .putfield 9) (n := 3) (by decide +kernel)) (by decide +kernel) (by decide +kernel) rfl g367 (Or.inl rfl) <|
    z_aload_n (n := 1) (i := 1) (zd (i := .aload_n 1) (n := 1) (by decide +kernel)) rfl <|
    z_getR (ci := 4) (j := 1) (idx := 15) (zd (i := .getfield 15) (n := 3) (by decide +kernel)) (by decide +kernel) (by decide +kernel) rfl g370 <|
    z_iconst (n := 0) (zd (i := .iconst (0)) (n := 1) (by decide +kernel)) (by decide +kernel) <|
    z_aload_n (n := 0) (i := 0) (zd (i := .aload_n 0) (n := 1) (by decide +kernel)) rfl <|
    z_getR (ci := 4) (j := 1) (idx := 15) (zd (i := .getfield 15) (n := 3) (by decide +kernel)) (by decide +kernel) (by decide +kernel) rfl g370 <|
    z_iconst (n := 0) (zd (i := .iconst (0)) (n := 1) (by decide +kernel)) (by decide +kernel) <|
    z_bipush (n := 6) (zd (i := .bipush (6)) (n := 2) (by decide +kernel)) (by decide +kernel) <|
    z_copy (idx := 50) (zd (i := .invokestatic 50) (n := 3) (by decide +kernel)) g844 g846 g845 g113 <|
    z_aload_n (n := 1) (i := 1) (zd (i := .aload_n 1) (n := 1) (by decide +kernel)) rfl <|
    z_getR (ci := 4) (j := 2) (idx := 19) (zd (i := .getfield 19) (n := 3) (by decide +kernel)) (by decide +kernel) (by decide +kernel) rfl g373 <|
    z_iconst (n := 0) (zd (i := .iconst (0)) (n := 1) (by decide +kernel)) (by decide +kernel) <|
    z_aload_n (n := 0) (i := 0) (zd (i := .aload_n 0) (n := 1) (by decide +kernel)) rfl <|
    z_getR (ci := 4) (j := 2) (idx := 19) (zd (i := .getfield 19) (n := 3) (by decide +kernel)) (by decide +kernel) (by decide +kernel) rfl g373 <|
    z_iconst (n := 0) (zd (i := .iconst (0)) (n := 1) (by decide +kernel)) (by decide +kernel) <|
    z_bipush (n := 6) (zd (i := .bipush (6)) (n := 2) (by decide +kernel)) (by decide +kernel) <|
    z_copy (idx := 50) (zd (i := .invokestatic 50) (n := 3) (by decide +kernel)) g844 g846 g845 g113 <|
    z_aload_n (n := 1) (i := 1) (zd (i := .aload_n 1) (n := 1) (by decide +kernel)) rfl <|
    z_getR (ci := 4) (j := 3) (idx := 22) (zd (i := .getfield 22) (n := 3) (by decide +kernel)) (by decide +kernel) (by decide +kernel) rfl g376 <|
    z_iconst (n := 0) (zd (i := .iconst (0)) (n := 1) (by decide +kernel)) (by decide +kernel) <|
    z_aload_n (n := 0) (i := 0) (zd (i := .aload_n 0) (n := 1) (by decide +kernel)) rfl <|
    z_getR (ci := 4) (j := 3) (idx := 22) (zd (i := .getfield 22) (n := 3) (by decide +kernel)) (by decide +kernel) (by decide +kernel) rfl g376 <|
    z_iconst (n := 0) (zd (i := .iconst (0)) (n := 1) (by decide +kernel)) (by decide +kernel) <|
    z_bipush (n := 6) (zd (i := .bipush (6)) (n := 2) (by decide +kernel)) (by decide +kernel) <|
    z_copy (idx := 50) (zd (i := .invokestatic 50) (n := 3) (by decide +kernel)) g844 g846 g845 g113 <|
    z_aload_n (n := 1) (i := 1) (zd (i := .aload_n 1) (n := 1) (by decide +kernel)) rfl <|
    z_getR (ci := 4) (j := 4) (idx := 25) (zd (i := .getfield 25) (n := 3) (by decide +kernel)) (by decide +kernel) (by decide +kernel) rfl g379 <|
    z_iconst (n := 0) (zd (i := .iconst (0)) (n := 1) (by decide +kernel)) (by decide +kernel) <|
    z_aload_n (n := 0) (i := 0) (zd (i := .aload_n 0) (n := 1) (by decide +kernel)) rfl <|
    z_getR (ci := 4) (j := 4) (idx := 25) (zd (i := .getfield 25) (n := 3) (by decide +kernel)) (by decide +kernel) (by decide +kernel) rfl g379 <|
    z_iconst (n := 0) (zd (i := .iconst (0)) (n := 1) (by decide +kernel)) (by decide +kernel) <|
    z_bipush (n := 6) (zd (i := .bipush (6)) (n := 2) (by decide +kernel)) (by decide +kernel) <|
    z_copy (idx := 50) (zd (i := .invokestatic 50) (n := 3) (by decide +kernel)) g844 g846 g845 g113 <|
    (zj (hj 1) (by decide +kernel))
noncomputable def b_X4_copy_1 : zBl := fun jp K => oAld 1 <| oGetR 4 5 <| oInt 2147483648 <| oAld 0 <| oGetR 4 5 <| oInt 2147483648 <| oAld 0 <| oGetR 4 5 <| oAlen <| oCopy <| oAld 1 <| oGetR 4 6 <| oInt 2147483648 <| oAld 0 <| oGetR 4 6 <| oInt 2147483648 <| oAld 0 <| oGetR 4 6 <| oAlen <| oCopy <| oVret K
theorem s_X4_copy_1 (d : Nat) : zPb l G gh (d + 1) n_X4_copy p_X4_copy 68 b_X4_copy_1 := fun K jp hj =>
    z_aload_n (n := 1) (i := 1) (zd (i := .aload_n 1) (n := 1) (by decide +kernel)) rfl <|
    z_getR (ci := 4) (j := 5) (idx := 28) (zd (i := .getfield 28) (n := 3) (by decide +kernel)) (by decide +kernel) (by decide +kernel) rfl g382 <|
    z_iconst (n := 0) (zd (i := .iconst (0)) (n := 1) (by decide +kernel)) (by decide +kernel) <|
    z_aload_n (n := 0) (i := 0) (zd (i := .aload_n 0) (n := 1) (by decide +kernel)) rfl <|
    z_getR (ci := 4) (j := 5) (idx := 28) (zd (i := .getfield 28) (n := 3) (by decide +kernel)) (by decide +kernel) (by decide +kernel) rfl g382 <|
    z_iconst (n := 0) (zd (i := .iconst (0)) (n := 1) (by decide +kernel)) (by decide +kernel) <|
    z_aload_n (n := 0) (i := 0) (zd (i := .aload_n 0) (n := 1) (by decide +kernel)) rfl <|
    z_getR (ci := 4) (j := 5) (idx := 28) (zd (i := .getfield 28) (n := 3) (by decide +kernel)) (by decide +kernel) (by decide +kernel) rfl g382 <|
    z_alen (zd (i := .arraylength) (n := 1) (by decide +kernel)) <|
    z_copy (idx := 50) (zd (i := .invokestatic 50) (n := 3) (by decide +kernel)) g844 g846 g845 g113 <|
    z_aload_n (n := 1) (i := 1) (zd (i := .aload_n 1) (n := 1) (by decide +kernel)) rfl <|
    z_getR (ci := 4) (j := 6) (idx := 31) (zd (i := .getfield 31) (n := 3) (by decide +kernel)) (by decide +kernel) (by decide +kernel) rfl g385 <|
    z_iconst (n := 0) (zd (i := .iconst (0)) (n := 1) (by decide +kernel)) (by decide +kernel) <|
    z_aload_n (n := 0) (i := 0) (zd (i := .aload_n 0) (n := 1) (by decide +kernel)) rfl <|
    z_getR (ci := 4) (j := 6) (idx := 31) (zd (i := .getfield 31) (n := 3) (by decide +kernel)) (by decide +kernel) (by decide +kernel) rfl g385 <|
    z_iconst (n := 0) (zd (i := .iconst (0)) (n := 1) (by decide +kernel)) (by decide +kernel) <|
    z_aload_n (n := 0) (i := 0) (zd (i := .aload_n 0) (n := 1) (by decide +kernel)) rfl <|
    z_getR (ci := 4) (j := 6) (idx := 31) (zd (i := .getfield 31) (n := 3) (by decide +kernel)) (by decide +kernel) (by decide +kernel) rfl g385 <|
    z_alen (zd (i := .arraylength) (n := 1) (by decide +kernel)) <|
    z_copy (idx := 50) (zd (i := .invokestatic 50) (n := 3) (by decide +kernel)) g844 g846 g845 g113 <|
    z_vret (zd (i := .return_) (n := 1) (by decide +kernel)) rfl
noncomputable def f_X4_copy : zMt := zmet 2 [b_X4_copy_0, b_X4_copy_1]
theorem c_X4_copy (d : Nat) : zC l G gh (d + 1) n_X4_copy f_X4_copy := zmet_ok (pcs := p_X4_copy) (by decide) rfl rfl ⟨s_X4_copy_0 d, s_X4_copy_1 d, trivial⟩
def n_X3_push : qMn := (yX3_push, cX3_push, 2, none, 0, 0)
theorem to_X3_push : qTo n_X3_push 1 := ⟨g839, g108, ⟨by decide, by decide, by decide +kernel⟩, by decide⟩
def p_X3_push : List Nat := [0]
noncomputable def b_X3_push_0 : zBl := fun jp K => oAld 0 <| oGetR 3 0 <| oAld 0 <| oGetI 3 1 <| oAald <| oAld 1 <| oCv 4 1 f_X4_copy <| oAld 0 <| oAld 0 <| oGetI 3 1 <| oInt 2147483649 <| oB2 zadd <| oInt 2147483678 <| oB2z zirem <| oPutI 3 1 <| oAld 0 <| oAld 0 <| oGetI 3 2 <| oInt 2147483649 <| oB2 zadd <| oInt 2147483678 <| oM2 zmin <| oPutI 3 2 <| oVret K
theorem s_X3_push_0 (d : Nat) : zPb l G gh (d + 2) n_X3_push p_X3_push 0 b_X3_push_0 := fun K jp hj =>
    z_aload_n (n := 0) (i := 0) (zd (i := .aload_n 0) (n := 1) (by decide +kernel)) rfl <|
    z_getR (ci := 3) (j := 0) (idx := 11) (zd (i := .getfield 11) (n := 3) (by decide +kernel)) (by decide +kernel) (by decide +kernel) rfl g412 <|
    z_aload_n (n := 0) (i := 0) (zd (i := .aload_n 0) (n := 1) (by decide +kernel)) rfl <|
    z_getI (ci := 3) (j := 1) (idx := 15) (zd (i := .getfield 15) (n := 3) (by decide +kernel)) (by decide +kernel) (by decide +kernel) rfl g413 <|
    z_aald (zd (i := .aaload) (n := 1) (by decide +kernel)) <|
    z_aload_n (n := 1) (i := 1) (zd (i := .aload_n 1) (n := 1) (by decide +kernel)) rfl <|
    z_callV (idx := 23) (ci := 4) (N := n_X4_copy) (zd (i := .invokevirtual 23) (n := 3) (by decide +kernel)) to_X4_copy g840 g841 g842 (by decide +kernel) rfl rfl rfl (c_X4_copy (l := l) (G := G) (gh := gh) d) <|
    z_aload_n (n := 0) (i := 0) (zd (i := .aload_n 0) (n := 1) (by decide +kernel)) rfl <|
    z_aload_n (n := 0) (i := 0) (zd (i := .aload_n 0) (n := 1) (by decide +kernel)) rfl <|
    z_getI (ci := 3) (j := 1) (idx := 15) (zd (i := .getfield 15) (n := 3) (by decide +kernel)) (by decide +kernel) (by decide +kernel) rfl g413 <|
    z_iconst (n := 1) (zd (i := .iconst (1)) (n := 1) (by decide +kernel)) (by decide +kernel) <|
    z_iadd (zd (i := .iadd) (n := 1) (by decide +kernel)) <|
    z_bipush (n := 30) (zd (i := .bipush (30)) (n := 2) (by decide +kernel)) (by decide +kernel) <|
    z_irem (zd (i := .irem) (n := 1) (by decide +kernel)) <|
    z_putI (ci := 3) (j := 1) (idx := 15) (zd (i := .putfield 15) (n := 3) (by decide +kernel)) (by decide +kernel) (by decide +kernel) rfl g413 (Or.inl rfl) <|
    z_aload_n (n := 0) (i := 0) (zd (i := .aload_n 0) (n := 1) (by decide +kernel)) rfl <|
    z_aload_n (n := 0) (i := 0) (zd (i := .aload_n 0) (n := 1) (by decide +kernel)) rfl <|
    z_getI (ci := 3) (j := 2) (idx := 19) (zd (i := .getfield 19) (n := 3) (by decide +kernel)) (by decide +kernel) (by decide +kernel) rfl g414 <|
    z_iconst (n := 1) (zd (i := .iconst (1)) (n := 1) (by decide +kernel)) (by decide +kernel) <|
    z_iadd (zd (i := .iadd) (n := 1) (by decide +kernel)) <|
    z_bipush (n := 30) (zd (i := .bipush (30)) (n := 2) (by decide +kernel)) (by decide +kernel) <|
    z_min (idx := 27) (zd (i := .invokestatic 27) (n := 3) (by decide +kernel)) g847 g578 g111 g579 <|
    z_putI (ci := 3) (j := 2) (idx := 19) (zd (i := .putfield 19) (n := 3) (by decide +kernel)) (by decide +kernel) (by decide +kernel) rfl g414 (Or.inl rfl) <|
    z_vret (zd (i := .return_) (n := 1) (by decide +kernel)) rfl
noncomputable def f_X3_push : zMt := zmet 2 [b_X3_push_0]
theorem c_X3_push (d : Nat) : zC l G gh (d + 2) n_X3_push f_X3_push := zmet_ok (pcs := p_X3_push) (by decide) rfl rfl ⟨s_X3_push_0 d, trivial⟩
def n_X0_stirred : qMn := (yX0_stirred, cX0_stirred, 3, (some Jvm.ClassFile.FieldType.int), 0, 0)
theorem to_X0_stirred : qTo n_X0_stirred 2 := ⟨g878, g105, ⟨by decide, by decide, by decide +kernel⟩, by decide⟩
def p_X0_stirred : List Nat := [0]
noncomputable def b_X0_stirred_0 : zBl := fun jp K => oIld 0 <| oIld 1 <| oB2 zixor <| oInt 3250998893 <| oB2 zimul <| oInt 2147495993 <| oB2 zadd <| oIst 2 <| oIld 2 <| oIld 2 <| oInt 2147483663 <| oB2 ziushr <| oB2 zixor <| oIret K
theorem s_X0_stirred_0 (d : Nat) : zPb l G gh (d + 1) n_X0_stirred p_X0_stirred 0 b_X0_stirred_0 := fun K jp hj =>
    z_iload_n (n := 0) (i := 0) (zd (i := .iload_n 0) (n := 1) (by decide +kernel)) rfl <|
    z_iload_n (n := 1) (i := 1) (zd (i := .iload_n 1) (n := 1) (by decide +kernel)) rfl <|
    z_ixor (zd (i := .ixor) (n := 1) (by decide +kernel)) <|
    z_ldc (n := 94) (zd (i := .ldc 94) (n := 2) (by decide +kernel)) g879 (by decide +kernel) <|
    z_imul (zd (i := .imul) (n := 1) (by decide +kernel)) <|
    z_sipush (n := 12345) (zd (i := .sipush (12345)) (n := 3) (by decide +kernel)) (by decide +kernel) <|
    z_iadd (zd (i := .iadd) (n := 1) (by decide +kernel)) <|
    z_istore_n (n := 2) (i := 2) (zd (i := .istore_n 2) (n := 1) (by decide +kernel)) rfl (by decide +kernel) <|
    z_iload_n (n := 2) (i := 2) (zd (i := .iload_n 2) (n := 1) (by decide +kernel)) rfl <|
    z_iload_n (n := 2) (i := 2) (zd (i := .iload_n 2) (n := 1) (by decide +kernel)) rfl <|
    z_bipush (n := 15) (zd (i := .bipush (15)) (n := 2) (by decide +kernel)) (by decide +kernel) <|
    z_iushr (zd (i := .iushr) (n := 1) (by decide +kernel)) <|
    z_ixor (zd (i := .ixor) (n := 1) (by decide +kernel)) <|
    z_iret (zd (i := .ireturn) (n := 1) (by decide +kernel)) rfl
noncomputable def f_X0_stirred : zMt := zmet 3 [b_X0_stirred_0]
theorem c_X0_stirred (d : Nat) : zC l G gh (d + 1) n_X0_stirred f_X0_stirred := zmet_ok (pcs := p_X0_stirred) (by decide) rfl rfl ⟨s_X0_stirred_0 d, trivial⟩
def n_X0_lot : qMn := (yX0_lot, cX0_lot, 3, (some Jvm.ClassFile.FieldType.int), 0, 0)
theorem to_X0_lot : qTo n_X0_lot 2 := ⟨g875, g105, ⟨by decide, by decide, by decide +kernel⟩, by decide⟩
def p_X0_lot : List Nat := [0]
noncomputable def b_X0_lot_0 : zBl := fun jp K => oIld 0 <| oInt 2147483767 <| oCs 2 f_X0_stirred <| oIld 1 <| oCs 2 f_X0_stirred <| oIst 2 <| oIld 2 <| oInt 2147483649 <| oB2 ziushr <| oInt 2147483748 <| oB2z zirem <| oIret K
theorem s_X0_lot_0 (d : Nat) : zPb l G gh (d + 2) n_X0_lot p_X0_lot 0 b_X0_lot_0 := fun K jp hj =>
    z_iload_n (n := 0) (i := 0) (zd (i := .iload_n 0) (n := 1) (by decide +kernel)) rfl <|
    z_bipush (n := 119) (zd (i := .bipush (119)) (n := 2) (by decide +kernel)) (by decide +kernel) <|
    z_callS (idx := 91) (N := n_X0_stirred) (zd (i := .invokestatic 91) (n := 3) (by decide +kernel)) to_X0_stirred g876 g877 rfl rfl (c_X0_stirred (l := l) (G := G) (gh := gh) d) <|
    z_iload_n (n := 1) (i := 1) (zd (i := .iload_n 1) (n := 1) (by decide +kernel)) rfl <|
    z_callS (idx := 91) (N := n_X0_stirred) (zd (i := .invokestatic 91) (n := 3) (by decide +kernel)) to_X0_stirred g876 g877 rfl rfl (c_X0_stirred (l := l) (G := G) (gh := gh) d) <|
    z_istore_n (n := 2) (i := 2) (zd (i := .istore_n 2) (n := 1) (by decide +kernel)) rfl (by decide +kernel) <|
    z_iload_n (n := 2) (i := 2) (zd (i := .iload_n 2) (n := 1) (by decide +kernel)) rfl <|
    z_iconst (n := 1) (zd (i := .iconst (1)) (n := 1) (by decide +kernel)) (by decide +kernel) <|
    z_iushr (zd (i := .iushr) (n := 1) (by decide +kernel)) <|
    z_bipush (n := 100) (zd (i := .bipush (100)) (n := 2) (by decide +kernel)) (by decide +kernel) <|
    z_irem (zd (i := .irem) (n := 1) (by decide +kernel)) <|
    z_iret (zd (i := .ireturn) (n := 1) (by decide +kernel)) rfl
noncomputable def f_X0_lot : zMt := zmet 3 [b_X0_lot_0]
theorem c_X0_lot (d : Nat) : zC l G gh (d + 2) n_X0_lot f_X0_lot := zmet_ok (pcs := p_X0_lot) (by decide) rfl rfl ⟨s_X0_lot_0 d, trivial⟩
def n_X0_isWind : qMn := (yX0_isWind, cX0_isWind, 3, (some Jvm.ClassFile.FieldType.boolean), 0, 0)
theorem to_X0_isWind : qTo n_X0_isWind 3 := ⟨g872, g105, ⟨by decide, by decide, by decide +kernel⟩, by decide⟩
def p_X0_isWind : List Nat := [0, 15, 16]
noncomputable def b_X0_isWind_0 : zBl := fun jp K => oIld 1 <| oInt 2147483652 <| oIld 0 <| oB2 zimul <| oCs 2 f_X0_lot <| oIld 2 <| oIc zge zlt (jp 1) (oFail)
theorem s_X0_isWind_0 (d : Nat) : zPb l G gh (d + 3) n_X0_isWind p_X0_isWind 0 b_X0_isWind_0 := fun K jp hj =>
    z_iload_n (n := 1) (i := 1) (zd (i := .iload_n 1) (n := 1) (by decide +kernel)) rfl <|
    z_iconst (n := 4) (zd (i := .iconst (4)) (n := 1) (by decide +kernel)) (by decide +kernel) <|
    z_iload_n (n := 0) (i := 0) (zd (i := .iload_n 0) (n := 1) (by decide +kernel)) rfl <|
    z_imul (zd (i := .imul) (n := 1) (by decide +kernel)) <|
    z_callS (idx := 87) (N := n_X0_lot) (zd (i := .invokestatic 87) (n := 3) (by decide +kernel)) to_X0_lot g873 g874 rfl rfl (c_X0_lot (l := l) (G := G) (gh := gh) d) <|
    z_iload_n (n := 2) (i := 2) (zd (i := .iload_n 2) (n := 1) (by decide +kernel)) rfl <|
    z_icmp_ge (off := 7) (tgt := 15) (zd (i := .if_icmp .ge (7)) (n := 3) (by decide +kernel)) (by decide +kernel) (zj (hj 1) (by decide +kernel)) z_fail
noncomputable def b_X0_isWind_1 : zBl := fun jp K => oInt 2147483648 <| jp 2
theorem s_X0_isWind_1 (d : Nat) : zPb l G gh (d + 3) n_X0_isWind p_X0_isWind 15 b_X0_isWind_1 := fun K jp hj =>
    z_iconst (n := 0) (zd (i := .iconst (0)) (n := 1) (by decide +kernel)) (by decide +kernel) <|
    (zj (hj 2) (by decide +kernel))
noncomputable def b_X0_isWind_2 : zBl := fun jp K => oZret K
theorem s_X0_isWind_2 (d : Nat) : zPb l G gh (d + 3) n_X0_isWind p_X0_isWind 16 b_X0_isWind_2 := fun K jp hj =>
    z_zret (zd (i := .ireturn) (n := 1) (by decide +kernel)) rfl
noncomputable def f_X0_isWind : zMt := zmet 3 [b_X0_isWind_0, b_X0_isWind_1, b_X0_isWind_2]
theorem c_X0_isWind (d : Nat) : zC l G gh (d + 3) n_X0_isWind f_X0_isWind := zmet_ok (pcs := p_X0_isWind) (by decide) rfl rfl ⟨s_X0_isWind_0 d, s_X0_isWind_1 d, s_X0_isWind_2 d, trivial⟩
def n_X0_pass : qMn := (yX0_pass, cX0_pass, 10, none, 0, 0)
theorem to_X0_pass : qTo n_X0_pass 4 := ⟨g868, g105, ⟨by decide, by decide, by decide +kernel⟩, by decide⟩
def p_X0_pass : List Nat := [0, 3, 9, 34, 80, 96]
noncomputable def b_X0_pass_0 : zBl := fun jp K => oInt 2147483648 <| oIst 5 <| jp 1
theorem s_X0_pass_0 (d : Nat) : zPb l G gh (d + 5) n_X0_pass p_X0_pass 0 b_X0_pass_0 := fun K jp hj =>
    z_iconst (n := 0) (zd (i := .iconst (0)) (n := 1) (by decide +kernel)) (by decide +kernel) <|
    z_istore (i := 5) (zd (i := .istore 5) (n := 2) (by decide +kernel)) (by decide +kernel) <|
    (zj (hj 1) (by decide +kernel))
noncomputable def b_X0_pass_1 : zBl := fun jp K => oIld 5 <| oIld 2 <| oIc zge zlt (jp 5) (jp 2)
theorem s_X0_pass_1 (d : Nat) : zPb l G gh (d + 5) n_X0_pass p_X0_pass 3 b_X0_pass_1 := fun K jp hj =>
    z_iload (i := 5) (zd (i := .iload 5) (n := 2) (by decide +kernel)) <|
    z_iload_n (n := 2) (i := 2) (zd (i := .iload_n 2) (n := 1) (by decide +kernel)) rfl <|
    z_icmp_ge (off := 90) (tgt := 96) (zd (i := .if_icmp .ge (90)) (n := 3) (by decide +kernel)) (by decide +kernel) (zj (hj 5) (by decide +kernel)) (zj (hj 2) (by decide +kernel))
noncomputable def b_X0_pass_2 : zBl := fun jp K => oAld 0 <| oAld 1 <| oGetI 4 0 <| oCv 0 1 f_X0_heat <| oIst 6 <| oAld 1 <| oGetI 4 0 <| oIld 3 <| oIld 4 <| oCs 3 f_X0_isWind <| oIst 7 <| oInt 2147483648 <| oIst 8 <| jp 3
theorem s_X0_pass_2 (d : Nat) : zPb l G gh (d + 5) n_X0_pass p_X0_pass 9 b_X0_pass_2 := fun K jp hj =>
    z_aload_n (n := 0) (i := 0) (zd (i := .aload_n 0) (n := 1) (by decide +kernel)) rfl <|
    z_aload_n (n := 1) (i := 1) (zd (i := .aload_n 1) (n := 1) (by decide +kernel)) rfl <|
    z_getI (ci := 4) (j := 0) (idx := 95) (zd (i := .getfield 95) (n := 3) (by decide +kernel)) (by decide +kernel) (by decide +kernel) rfl g369 <|
    z_callV (idx := 100) (ci := 0) (N := n_X0_heat) (zd (i := .invokevirtual 100) (n := 3) (by decide +kernel)) to_X0_heat g869 g717 g718 (by decide +kernel) rfl rfl rfl (c_X0_heat (l := l) (G := G) (gh := gh) d) <|
    z_istore (i := 6) (zd (i := .istore 6) (n := 2) (by decide +kernel)) (by decide +kernel) <|
    z_aload_n (n := 1) (i := 1) (zd (i := .aload_n 1) (n := 1) (by decide +kernel)) rfl <|
    z_getI (ci := 4) (j := 0) (idx := 95) (zd (i := .getfield 95) (n := 3) (by decide +kernel)) (by decide +kernel) (by decide +kernel) rfl g369 <|
    z_iload_n (n := 3) (i := 3) (zd (i := .iload_n 3) (n := 1) (by decide +kernel)) rfl <|
    z_iload (i := 4) (zd (i := .iload 4) (n := 2) (by decide +kernel)) <|
    z_callS (idx := 101) (N := n_X0_isWind) (zd (i := .invokestatic 101) (n := 3) (by decide +kernel)) to_X0_isWind g870 g871 rfl rfl (c_X0_isWind (l := l) (G := G) (gh := gh) (d + 1)) <|
    z_istore (i := 7) (zd (i := .istore 7) (n := 2) (by decide +kernel)) (by decide +kernel) <|
    z_iconst (n := 0) (zd (i := .iconst (0)) (n := 1) (by decide +kernel)) (by decide +kernel) <|
    z_istore (i := 8) (zd (i := .istore 8) (n := 2) (by decide +kernel)) (by decide +kernel) <|
    (zj (hj 3) (by decide +kernel))
noncomputable def b_X0_pass_3 : zBl := fun jp K => oIld 8 <| oAld 0 <| oGetI 0 5 <| oIc zge zlt (jp 4) (oFail)
theorem s_X0_pass_3 (d : Nat) : zPb l G gh (d + 5) n_X0_pass p_X0_pass 34 b_X0_pass_3 := fun K jp hj =>
    z_iload (i := 8) (zd (i := .iload 8) (n := 2) (by decide +kernel)) <|
    z_aload_n (n := 0) (i := 0) (zd (i := .aload_n 0) (n := 1) (by decide +kernel)) rfl <|
    z_getI (ci := 0) (j := 5) (idx := 29) (zd (i := .getfield 29) (n := 3) (by decide +kernel)) (by decide +kernel) (by decide +kernel) rfl g285 <|
    z_icmp_ge (off := 40) (tgt := 80) (zd (i := .if_icmp .ge (40)) (n := 3) (by decide +kernel)) (by decide +kernel) (zj (hj 4) (by decide +kernel)) z_fail
noncomputable def b_X0_pass_4 : zBl := fun jp K => oAld 1 <| oDup <| oGetI 4 0 <| oInt 2147483649 <| oB2 zadd <| oPutI 4 0 <| oInc 5 2147483649 <| jp 1
theorem s_X0_pass_4 (d : Nat) : zPb l G gh (d + 5) n_X0_pass p_X0_pass 80 b_X0_pass_4 := fun K jp hj =>
    z_aload_n (n := 1) (i := 1) (zd (i := .aload_n 1) (n := 1) (by decide +kernel)) rfl <|
    z_dup (zd (i := .dup) (n := 1) (by decide +kernel)) <|
    z_getI (ci := 4) (j := 0) (idx := 95) (zd (i := .getfield 95) (n := 3) (by decide +kernel)) (by decide +kernel) (by decide +kernel) rfl g369 <|
    z_iconst (n := 1) (zd (i := .iconst (1)) (n := 1) (by decide +kernel)) (by decide +kernel) <|
    z_iadd (zd (i := .iadd) (n := 1) (by decide +kernel)) <|
    z_putI (ci := 4) (j := 0) (idx := 95) (zd (i := .putfield 95) (n := 3) (by decide +kernel)) (by decide +kernel) (by decide +kernel) rfl g369 (Or.inl rfl) <|
    z_iinc (i := 5) (n := 1) (zd (i := .iinc 5 (1)) (n := 3) (by decide +kernel)) (by decide +kernel) (by decide +kernel) <|
    z_goto (off := -90) (tgt := 3) (zd (i := .goto (-90)) (n := 3) (by decide +kernel)) (by decide +kernel) (zj (hj 1) (by decide +kernel))
noncomputable def b_X0_pass_5 : zBl := fun jp K => oVret K
theorem s_X0_pass_5 (d : Nat) : zPb l G gh (d + 5) n_X0_pass p_X0_pass 96 b_X0_pass_5 := fun K jp hj =>
    z_vret (zd (i := .return_) (n := 1) (by decide +kernel)) rfl
noncomputable def f_X0_pass : zMt := zmet 10 [b_X0_pass_0, b_X0_pass_1, b_X0_pass_2, b_X0_pass_3, b_X0_pass_4, b_X0_pass_5]
theorem c_X0_pass (d : Nat) : zC l G gh (d + 5) n_X0_pass f_X0_pass := zmet_ok (pcs := p_X0_pass) (by decide) rfl rfl ⟨s_X0_pass_0 d, s_X0_pass_1 d, s_X0_pass_2 d, s_X0_pass_3 d, s_X0_pass_4 d, s_X0_pass_5 d, trivial⟩
def n_X8_hours : qMn := (yX8_hours, cX8_hours, 2, (some Jvm.ClassFile.FieldType.int), 0, 0)
theorem to_X8_hours : qTo n_X8_hours 1 := ⟨g861, g97, ⟨by decide, by decide, by decide +kernel⟩, by decide⟩
def p_X8_hours : List Nat := [0, 7, 9, 13, 50]
noncomputable def b_X8_hours_0 : zBl := fun jp K => oIld 1 <| oCs 1 f_X8_isAhead <| oIf zne zeq (jp 2) (jp 1)
theorem s_X8_hours_0 (d : Nat) : zPb l G gh (d + 6) n_X8_hours p_X8_hours 0 b_X8_hours_0 := fun K jp hj =>
    z_iload_n (n := 1) (i := 1) (zd (i := .iload_n 1) (n := 1) (by decide +kernel)) rfl <|
    z_callS (idx := 207) (N := n_X8_isAhead) (zd (i := .invokestatic 207) (n := 3) (by decide +kernel)) to_X8_isAhead g862 g863 rfl rfl (c_X8_isAhead (l := l) (G := G) (gh := gh) (d + 4)) <|
    z_if_ne (off := 5) (tgt := 9) (zd (i := .ifCond .ne (5)) (n := 3) (by decide +kernel)) (by decide +kernel) (zj (hj 2) (by decide +kernel)) (zj (hj 1) (by decide +kernel))
noncomputable def b_X8_hours_1 : zBl := fun jp K => oInt 2147483647 <| oIret K
theorem s_X8_hours_1 (d : Nat) : zPb l G gh (d + 6) n_X8_hours p_X8_hours 7 b_X8_hours_1 := fun K jp hj =>
    z_iconst (n := -1) (zd (i := .iconst (-1)) (n := 1) (by decide +kernel)) (by decide +kernel) <|
    z_iret (zd (i := .ireturn) (n := 1) (by decide +kernel)) rfl
noncomputable def b_X8_hours_2 : zBl := fun jp K => oIld 1 <| oIf zle zgt (jp 4) (jp 3)
theorem s_X8_hours_2 (d : Nat) : zPb l G gh (d + 6) n_X8_hours p_X8_hours 9 b_X8_hours_2 := fun K jp hj =>
    z_iload_n (n := 1) (i := 1) (zd (i := .iload_n 1) (n := 1) (by decide +kernel)) rfl <|
    z_if_le (off := 40) (tgt := 50) (zd (i := .ifCond .le (40)) (n := 3) (by decide +kernel)) (by decide +kernel) (zj (hj 4) (by decide +kernel)) (zj (hj 3) (by decide +kernel))
noncomputable def b_X8_hours_3 : zBl := fun jp K => oAld 0 <| oGetR 8 4 <| oAld 0 <| oGetR 8 2 <| oCv 3 1 f_X3_push <| oAld 0 <| oGetR 8 12 <| oAld 0 <| oGetR 8 2 <| oIld 1 <| oAld 0 <| oGetR 8 12 <| oGetI 0 11 <| oAld 0 <| oGetR 8 12 <| oGetI 0 9 <| oCv 0 4 f_X0_pass <| jp 4
theorem s_X8_hours_3 (d : Nat) : zPb l G gh (d + 6) n_X8_hours p_X8_hours 13 b_X8_hours_3 := fun K jp hj =>
    z_aload_n (n := 0) (i := 0) (zd (i := .aload_n 0) (n := 1) (by decide +kernel)) rfl <|
    z_getR (ci := 8) (j := 4) (idx := 36) (zd (i := .getfield 36) (n := 3) (by decide +kernel)) (by decide +kernel) (by decide +kernel) rfl g456 <|
    z_aload_n (n := 0) (i := 0) (zd (i := .aload_n 0) (n := 1) (by decide +kernel)) rfl <|
    z_getR (ci := 8) (j := 2) (idx := 26) (zd (i := .getfield 26) (n := 3) (by decide +kernel)) (by decide +kernel) (by decide +kernel) rfl g454 <|
    z_callV (idx := 199) (ci := 3) (N := n_X3_push) (zd (i := .invokevirtual 199) (n := 3) (by decide +kernel)) to_X3_push g836 g837 g838 (by decide +kernel) rfl rfl rfl (c_X3_push (l := l) (G := G) (gh := gh) (d + 3)) <|
    z_aload_n (n := 0) (i := 0) (zd (i := .aload_n 0) (n := 1) (by decide +kernel)) rfl <|
    z_getR (ci := 8) (j := 12) (idx := 71) (zd (i := .getfield 71) (n := 3) (by decide +kernel)) (by decide +kernel) (by decide +kernel) rfl g464 <|
    z_aload_n (n := 0) (i := 0) (zd (i := .aload_n 0) (n := 1) (by decide +kernel)) rfl <|
    z_getR (ci := 8) (j := 2) (idx := 26) (zd (i := .getfield 26) (n := 3) (by decide +kernel)) (by decide +kernel) (by decide +kernel) rfl g454 <|
    z_iload_n (n := 1) (i := 1) (zd (i := .iload_n 1) (n := 1) (by decide +kernel)) rfl <|
    z_aload_n (n := 0) (i := 0) (zd (i := .aload_n 0) (n := 1) (by decide +kernel)) rfl <|
    z_getR (ci := 8) (j := 12) (idx := 71) (zd (i := .getfield 71) (n := 3) (by decide +kernel)) (by decide +kernel) (by decide +kernel) rfl g464 <|
    z_getI (ci := 0) (j := 11) (idx := 210) (zd (i := .getfield 210) (n := 3) (by decide +kernel)) (by decide +kernel) (by decide +kernel) rfl g303 <|
    z_aload_n (n := 0) (i := 0) (zd (i := .aload_n 0) (n := 1) (by decide +kernel)) rfl <|
    z_getR (ci := 8) (j := 12) (idx := 71) (zd (i := .getfield 71) (n := 3) (by decide +kernel)) (by decide +kernel) (by decide +kernel) rfl g464 <|
    z_getI (ci := 0) (j := 9) (idx := 213) (zd (i := .getfield 213) (n := 3) (by decide +kernel)) (by decide +kernel) (by decide +kernel) rfl g297 <|
    z_callV (idx := 216) (ci := 0) (N := n_X0_pass) (zd (i := .invokevirtual 216) (n := 3) (by decide +kernel)) to_X0_pass g865 g866 g867 (by decide +kernel) rfl rfl rfl (c_X0_pass (l := l) (G := G) (gh := gh) d) <|
    (zj (hj 4) (by decide +kernel))
noncomputable def b_X8_hours_4 : zBl := fun jp K => oAld 0 <| oGetR 8 2 <| oGetI 4 0 <| oIret K
theorem s_X8_hours_4 (d : Nat) : zPb l G gh (d + 6) n_X8_hours p_X8_hours 50 b_X8_hours_4 := fun K jp hj =>
    z_aload_n (n := 0) (i := 0) (zd (i := .aload_n 0) (n := 1) (by decide +kernel)) rfl <|
    z_getR (ci := 8) (j := 2) (idx := 26) (zd (i := .getfield 26) (n := 3) (by decide +kernel)) (by decide +kernel) (by decide +kernel) rfl g454 <|
    z_getI (ci := 4) (j := 0) (idx := 140) (zd (i := .getfield 140) (n := 3) (by decide +kernel)) (by decide +kernel) (by decide +kernel) rfl g368 <|
    z_iret (zd (i := .ireturn) (n := 1) (by decide +kernel)) rfl
noncomputable def f_X8_hours : zMt := zmet 2 [b_X8_hours_0, b_X8_hours_1, b_X8_hours_2, b_X8_hours_3, b_X8_hours_4]
theorem c_X8_hours (d : Nat) : zC l G gh (d + 6) n_X8_hours f_X8_hours := zmet_ok (pcs := p_X8_hours) (by decide) rfl rfl ⟨s_X8_hours_0 d, s_X8_hours_1 d, s_X8_hours_2 d, s_X8_hours_3 d, s_X8_hours_4 d, trivial⟩
def n_X9_isLong : qMn := (yX9_isLong, cX9_isLong, 1, (some Jvm.ClassFile.FieldType.boolean), 0, 0)
theorem to_X9_isLong : qTo n_X9_isLong 1 := ⟨g1545, g110, ⟨by decide, by decide, by decide +kernel⟩, by decide⟩
def p_X9_isLong : List Nat := [0]
noncomputable def b_X9_isLong_0 : zBl := fun jp K => oIld 0 <| oInt 2147483648 <| oInt 2147483696 <| oCs 3 f_X9_in <| oZret K
theorem s_X9_isLong_0 (d : Nat) : zPb l G gh (d + 2) n_X9_isLong p_X9_isLong 0 b_X9_isLong_0 := fun K jp hj =>
    z_iload_n (n := 0) (i := 0) (zd (i := .iload_n 0) (n := 1) (by decide +kernel)) rfl <|
    z_iconst (n := 0) (zd (i := .iconst (0)) (n := 1) (by decide +kernel)) (by decide +kernel) <|
    z_bipush (n := 48) (zd (i := .bipush (48)) (n := 2) (by decide +kernel)) (by decide +kernel) <|
    z_callS (idx := 304) (N := n_X9_in) (zd (i := .invokestatic 304) (n := 3) (by decide +kernel)) to_X9_in g1442 g1443 rfl rfl (c_X9_in (l := l) (G := G) (gh := gh) d) <|
    z_zret (zd (i := .ireturn) (n := 1) (by decide +kernel)) rfl
noncomputable def f_X9_isLong : zMt := zmet 1 [b_X9_isLong_0]
theorem c_X9_isLong (d : Nat) : zC l G gh (d + 2) n_X9_isLong f_X9_isLong := zmet_ok (pcs := p_X9_isLong) (by decide) rfl rfl ⟨s_X9_isLong_0 d, trivial⟩
def n_X9_mixed : qMn := (yX9_mixed, cX9_mixed, 3, (some Jvm.ClassFile.FieldType.int), 0, 0)
theorem to_X9_mixed : qTo n_X9_mixed 2 := ⟨g1560, g110, ⟨by decide, by decide, by decide +kernel⟩, by decide⟩
def p_X9_mixed : List Nat := [0]
noncomputable def b_X9_mixed_0 : zBl := fun jp K => oIld 0 <| oIld 1 <| oB2 zixor <| oInt 3250998893 <| oB2 zimul <| oInt 2147495993 <| oB2 zadd <| oIst 2 <| oIld 2 <| oIld 2 <| oInt 2147483663 <| oB2 ziushr <| oB2 zixor <| oIret K
theorem s_X9_mixed_0 (d : Nat) : zPb l G gh (d + 1) n_X9_mixed p_X9_mixed 0 b_X9_mixed_0 := fun K jp hj =>
    z_iload_n (n := 0) (i := 0) (zd (i := .iload_n 0) (n := 1) (by decide +kernel)) rfl <|
    z_iload_n (n := 1) (i := 1) (zd (i := .iload_n 1) (n := 1) (by decide +kernel)) rfl <|
    z_ixor (zd (i := .ixor) (n := 1) (by decide +kernel)) <|
    z_ldcw (n := 311) (zd (i := .ldc_w 311) (n := 3) (by decide +kernel)) g1561 (by decide +kernel) <|
    z_imul (zd (i := .imul) (n := 1) (by decide +kernel)) <|
    z_sipush (n := 12345) (zd (i := .sipush (12345)) (n := 3) (by decide +kernel)) (by decide +kernel) <|
    z_iadd (zd (i := .iadd) (n := 1) (by decide +kernel)) <|
    z_istore_n (n := 2) (i := 2) (zd (i := .istore_n 2) (n := 1) (by decide +kernel)) rfl (by decide +kernel) <|
    z_iload_n (n := 2) (i := 2) (zd (i := .iload_n 2) (n := 1) (by decide +kernel)) rfl <|
    z_iload_n (n := 2) (i := 2) (zd (i := .iload_n 2) (n := 1) (by decide +kernel)) rfl <|
    z_bipush (n := 15) (zd (i := .bipush (15)) (n := 2) (by decide +kernel)) (by decide +kernel) <|
    z_iushr (zd (i := .iushr) (n := 1) (by decide +kernel)) <|
    z_ixor (zd (i := .ixor) (n := 1) (by decide +kernel)) <|
    z_iret (zd (i := .ireturn) (n := 1) (by decide +kernel)) rfl
noncomputable def f_X9_mixed : zMt := zmet 3 [b_X9_mixed_0]
theorem c_X9_mixed (d : Nat) : zC l G gh (d + 1) n_X9_mixed f_X9_mixed := zmet_ok (pcs := p_X9_mixed) (by decide) rfl rfl ⟨s_X9_mixed_0 d, trivial⟩
def n_X9_isWind : qMn := (yX9_isWind, cX9_isWind, 1, (some Jvm.ClassFile.FieldType.boolean), 0, 0)
theorem to_X9_isWind : qTo n_X9_isWind 0 := ⟨g1557, g110, ⟨by decide, by decide, by decide +kernel⟩, by decide⟩
def p_X9_isWind : List Nat := [0, 42, 43]
noncomputable def b_X9_isWind_0 : zBl := fun jp K => oAld 0 <| oGetI 9 50 <| oInt 2147483767 <| oCs 2 f_X9_mixed <| oInt 2147483652 <| oAld 0 <| oGetR 9 49 <| oInt 2147483744 <| oXald 10 <| oB2 zimul <| oCs 2 f_X9_mixed <| oInt 2147483649 <| oB2 ziushr <| oInt 2147483748 <| oB2z zirem <| oAld 0 <| oGetR 9 29 <| oAld 0 <| oGetI 9 18 <| oXald 10 <| oIc zge zlt (jp 1) (oFail)
theorem s_X9_isWind_0 (d : Nat) : zPb l G gh (d + 2) n_X9_isWind p_X9_isWind 0 b_X9_isWind_0 := fun K jp hj =>
    z_aload_n (n := 0) (i := 0) (zd (i := .aload_n 0) (n := 1) (by decide +kernel)) rfl <|
    z_getI (ci := 9) (j := 50) (idx := 308) (zd (i := .getfield 308) (n := 3) (by decide +kernel)) (by decide +kernel) (by decide +kernel) rfl g1178 <|
    z_bipush (n := 119) (zd (i := .bipush (119)) (n := 2) (by decide +kernel)) (by decide +kernel) <|
    z_callS (idx := 312) (N := n_X9_mixed) (zd (i := .invokestatic 312) (n := 3) (by decide +kernel)) to_X9_mixed g1558 g1559 rfl rfl (c_X9_mixed (l := l) (G := G) (gh := gh) d) <|
    z_iconst (n := 4) (zd (i := .iconst (4)) (n := 1) (by decide +kernel)) (by decide +kernel) <|
    z_aload_n (n := 0) (i := 0) (zd (i := .aload_n 0) (n := 1) (by decide +kernel)) rfl <|
    z_getR (ci := 9) (j := 49) (idx := 113) (zd (i := .getfield 113) (n := 3) (by decide +kernel)) (by decide +kernel) (by decide +kernel) rfl g1177 <|
    z_bipush (n := 96) (zd (i := .bipush (96)) (n := 2) (by decide +kernel)) (by decide +kernel) <|
    z_iald (zd (i := .iaload) (n := 1) (by decide +kernel)) <|
    z_imul (zd (i := .imul) (n := 1) (by decide +kernel)) <|
    z_callS (idx := 312) (N := n_X9_mixed) (zd (i := .invokestatic 312) (n := 3) (by decide +kernel)) to_X9_mixed g1558 g1559 rfl rfl (c_X9_mixed (l := l) (G := G) (gh := gh) d) <|
    z_iconst (n := 1) (zd (i := .iconst (1)) (n := 1) (by decide +kernel)) (by decide +kernel) <|
    z_iushr (zd (i := .iushr) (n := 1) (by decide +kernel)) <|
    z_bipush (n := 100) (zd (i := .bipush (100)) (n := 2) (by decide +kernel)) (by decide +kernel) <|
    z_irem (zd (i := .irem) (n := 1) (by decide +kernel)) <|
    z_aload_n (n := 0) (i := 0) (zd (i := .aload_n 0) (n := 1) (by decide +kernel)) rfl <|
    z_getR (ci := 9) (j := 29) (idx := 64) (zd (i := .getfield 64) (n := 3) (by decide +kernel)) (by decide +kernel) (by decide +kernel) rfl g1157 <|
    z_aload_n (n := 0) (i := 0) (zd (i := .aload_n 0) (n := 1) (by decide +kernel)) rfl <|
    z_getI (ci := 9) (j := 18) (idx := 230) (zd (i := .getfield 230) (n := 3) (by decide +kernel)) (by decide +kernel) (by decide +kernel) rfl g1146 <|
    z_iald (zd (i := .iaload) (n := 1) (by decide +kernel)) <|
    z_icmp_ge (off := 7) (tgt := 42) (zd (i := .if_icmp .ge (7)) (n := 3) (by decide +kernel)) (by decide +kernel) (zj (hj 1) (by decide +kernel)) z_fail
noncomputable def b_X9_isWind_1 : zBl := fun jp K => oInt 2147483648 <| jp 2
theorem s_X9_isWind_1 (d : Nat) : zPb l G gh (d + 2) n_X9_isWind p_X9_isWind 42 b_X9_isWind_1 := fun K jp hj =>
    z_iconst (n := 0) (zd (i := .iconst (0)) (n := 1) (by decide +kernel)) (by decide +kernel) <|
    (zj (hj 2) (by decide +kernel))
noncomputable def b_X9_isWind_2 : zBl := fun jp K => oZret K
theorem s_X9_isWind_2 (d : Nat) : zPb l G gh (d + 2) n_X9_isWind p_X9_isWind 43 b_X9_isWind_2 := fun K jp hj =>
    z_zret (zd (i := .ireturn) (n := 1) (by decide +kernel)) rfl
noncomputable def f_X9_isWind : zMt := zmet 1 [b_X9_isWind_0, b_X9_isWind_1, b_X9_isWind_2]
theorem c_X9_isWind (d : Nat) : zC l G gh (d + 2) n_X9_isWind f_X9_isWind := zmet_ok (pcs := p_X9_isWind) (by decide) rfl rfl ⟨s_X9_isWind_0 d, s_X9_isWind_1 d, s_X9_isWind_2 d, trivial⟩
def n_X9_hourGoes : qMn := (yX9_hourGoes, cX9_hourGoes, 4, none, 0, 0)
theorem to_X9_hourGoes : qTo n_X9_hourGoes 0 := ⟨g1553, g110, ⟨by decide, by decide, by decide +kernel⟩, by decide⟩
def p_X9_hourGoes : List Nat := [0, 7, 71]
noncomputable def b_X9_hourGoes_0 : zBl := fun jp K => oAld 0 <| oCv 9 0 f_X9_isWind <| oIst 1 <| oInt 2147483648 <| oIst 2 <| jp 1
theorem s_X9_hourGoes_0 (d : Nat) : zPb l G gh (d + 3) n_X9_hourGoes p_X9_hourGoes 0 b_X9_hourGoes_0 := fun K jp hj =>
    z_aload_n (n := 0) (i := 0) (zd (i := .aload_n 0) (n := 1) (by decide +kernel)) rfl <|
    z_callV (idx := 361) (ci := 9) (N := n_X9_isWind) (zd (i := .invokevirtual 361) (n := 3) (by decide +kernel)) to_X9_isWind g1554 g1556 g84 (by decide +kernel) rfl rfl rfl (c_X9_isWind (l := l) (G := G) (gh := gh) d) <|
    z_istore_n (n := 1) (i := 1) (zd (i := .istore_n 1) (n := 1) (by decide +kernel)) rfl (by decide +kernel) <|
    z_iconst (n := 0) (zd (i := .iconst (0)) (n := 1) (by decide +kernel)) (by decide +kernel) <|
    z_istore_n (n := 2) (i := 2) (zd (i := .istore_n 2) (n := 1) (by decide +kernel)) rfl (by decide +kernel) <|
    (zj (hj 1) (by decide +kernel))
noncomputable def b_X9_hourGoes_1 : zBl := fun jp K => oIld 2 <| oAld 0 <| oGetR 9 25 <| oAld 0 <| oGetI 9 18 <| oXald 10 <| oIc zge zlt (jp 2) (oFail)
theorem s_X9_hourGoes_1 (d : Nat) : zPb l G gh (d + 3) n_X9_hourGoes p_X9_hourGoes 7 b_X9_hourGoes_1 := fun K jp hj =>
    z_iload_n (n := 2) (i := 2) (zd (i := .iload_n 2) (n := 1) (by decide +kernel)) rfl <|
    z_aload_n (n := 0) (i := 0) (zd (i := .aload_n 0) (n := 1) (by decide +kernel)) rfl <|
    z_getR (ci := 9) (j := 25) (idx := 52) (zd (i := .getfield 52) (n := 3) (by decide +kernel)) (by decide +kernel) (by decide +kernel) rfl g1153 <|
    z_aload_n (n := 0) (i := 0) (zd (i := .aload_n 0) (n := 1) (by decide +kernel)) rfl <|
    z_getI (ci := 9) (j := 18) (idx := 230) (zd (i := .getfield 230) (n := 3) (by decide +kernel)) (by decide +kernel) (by decide +kernel) rfl g1146 <|
    z_iald (zd (i := .iaload) (n := 1) (by decide +kernel)) <|
    z_icmp_ge (off := 54) (tgt := 71) (zd (i := .if_icmp .ge (54)) (n := 3) (by decide +kernel)) (by decide +kernel) (zj (hj 2) (by decide +kernel)) z_fail
noncomputable def b_X9_hourGoes_2 : zBl := fun jp K => oAld 0 <| oGetR 9 49 <| oInt 2147483744 <| oDup2 <| oXald 10 <| oInt 2147483649 <| oB2 zadd <| oXast 10 zid <| oVret K
theorem s_X9_hourGoes_2 (d : Nat) : zPb l G gh (d + 3) n_X9_hourGoes p_X9_hourGoes 71 b_X9_hourGoes_2 := fun K jp hj =>
    z_aload_n (n := 0) (i := 0) (zd (i := .aload_n 0) (n := 1) (by decide +kernel)) rfl <|
    z_getR (ci := 9) (j := 49) (idx := 113) (zd (i := .getfield 113) (n := 3) (by decide +kernel)) (by decide +kernel) (by decide +kernel) rfl g1177 <|
    z_bipush (n := 96) (zd (i := .bipush (96)) (n := 2) (by decide +kernel)) (by decide +kernel) <|
    z_dup2 (zd (i := .dup2) (n := 1) (by decide +kernel)) <|
    z_iald (zd (i := .iaload) (n := 1) (by decide +kernel)) <|
    z_iconst (n := 1) (zd (i := .iconst (1)) (n := 1) (by decide +kernel)) (by decide +kernel) <|
    z_iadd (zd (i := .iadd) (n := 1) (by decide +kernel)) <|
    z_iast (zd (i := .iastore) (n := 1) (by decide +kernel)) <|
    z_vret (zd (i := .return_) (n := 1) (by decide +kernel)) rfl
noncomputable def f_X9_hourGoes : zMt := zmet 4 [b_X9_hourGoes_0, b_X9_hourGoes_1, b_X9_hourGoes_2]
theorem c_X9_hourGoes (d : Nat) : zC l G gh (d + 3) n_X9_hourGoes f_X9_hourGoes := zmet_ok (pcs := p_X9_hourGoes) (by decide) rfl rfl ⟨s_X9_hourGoes_0 d, s_X9_hourGoes_1 d, s_X9_hourGoes_2 d, trivial⟩
def n_X9_goes : qMn := (yX9_goes, cX9_goes, 3, none, 0, 0)
theorem to_X9_goes : qTo n_X9_goes 1 := ⟨g1549, g110, ⟨by decide, by decide, by decide +kernel⟩, by decide⟩
def p_X9_goes : List Nat := [0, 2, 7, 17]
noncomputable def b_X9_goes_0 : zBl := fun jp K => oInt 2147483648 <| oIst 2 <| jp 1
theorem s_X9_goes_0 (d : Nat) : zPb l G gh (d + 4) n_X9_goes p_X9_goes 0 b_X9_goes_0 := fun K jp hj =>
    z_iconst (n := 0) (zd (i := .iconst (0)) (n := 1) (by decide +kernel)) (by decide +kernel) <|
    z_istore_n (n := 2) (i := 2) (zd (i := .istore_n 2) (n := 1) (by decide +kernel)) rfl (by decide +kernel) <|
    (zj (hj 1) (by decide +kernel))
noncomputable def b_X9_goes_1 : zBl := fun jp K => oIld 2 <| oIld 1 <| oIc zge zlt (jp 3) (jp 2)
theorem s_X9_goes_1 (d : Nat) : zPb l G gh (d + 4) n_X9_goes p_X9_goes 2 b_X9_goes_1 := fun K jp hj =>
    z_iload_n (n := 2) (i := 2) (zd (i := .iload_n 2) (n := 1) (by decide +kernel)) rfl <|
    z_iload_n (n := 1) (i := 1) (zd (i := .iload_n 1) (n := 1) (by decide +kernel)) rfl <|
    z_icmp_ge (off := 13) (tgt := 17) (zd (i := .if_icmp .ge (13)) (n := 3) (by decide +kernel)) (by decide +kernel) (zj (hj 3) (by decide +kernel)) (zj (hj 2) (by decide +kernel))
noncomputable def b_X9_goes_2 : zBl := fun jp K => oAld 0 <| oCv 9 0 f_X9_hourGoes <| oInc 2 2147483649 <| jp 1
theorem s_X9_goes_2 (d : Nat) : zPb l G gh (d + 4) n_X9_goes p_X9_goes 7 b_X9_goes_2 := fun K jp hj =>
    z_aload_n (n := 0) (i := 0) (zd (i := .aload_n 0) (n := 1) (by decide +kernel)) rfl <|
    z_callV (idx := 369) (ci := 9) (N := n_X9_hourGoes) (zd (i := .invokevirtual 369) (n := 3) (by decide +kernel)) to_X9_hourGoes g1550 g1552 g83 (by decide +kernel) rfl rfl rfl (c_X9_hourGoes (l := l) (G := G) (gh := gh) d) <|
    z_iinc (i := 2) (n := 1) (zd (i := .iinc 2 (1)) (n := 3) (by decide +kernel)) (by decide +kernel) (by decide +kernel) <|
    z_goto (off := -12) (tgt := 2) (zd (i := .goto (-12)) (n := 3) (by decide +kernel)) (by decide +kernel) (zj (hj 1) (by decide +kernel))
noncomputable def b_X9_goes_3 : zBl := fun jp K => oVret K
theorem s_X9_goes_3 (d : Nat) : zPb l G gh (d + 4) n_X9_goes p_X9_goes 17 b_X9_goes_3 := fun K jp hj =>
    z_vret (zd (i := .return_) (n := 1) (by decide +kernel)) rfl
noncomputable def f_X9_goes : zMt := zmet 3 [b_X9_goes_0, b_X9_goes_1, b_X9_goes_2, b_X9_goes_3]
theorem c_X9_goes (d : Nat) : zC l G gh (d + 4) n_X9_goes f_X9_goes := zmet_ok (pcs := p_X9_goes) (by decide) rfl rfl ⟨s_X9_goes_0 d, s_X9_goes_1 d, s_X9_goes_2 d, s_X9_goes_3 d, trivial⟩
def n_X9_records : qMn := (yX9_records, cX9_records, 2, none, 0, 0)
theorem to_X9_records : qTo n_X9_records 0 := ⟨g1529, g110, ⟨by decide, by decide, by decide +kernel⟩, by decide⟩
def p_X9_records : List Nat := [0, 49, 51, 57, 83]
noncomputable def b_X9_records_0 : zBl := fun jp K => oAld 0 <| oGetI 9 51 <| oInt 2147483678 <| oIc zne zeq (jp 1) (oFail)
theorem s_X9_records_0 (d : Nat) : zPb l G gh (d + 2) n_X9_records p_X9_records 0 b_X9_records_0 := fun K jp hj =>
    z_aload_n (n := 0) (i := 0) (zd (i := .aload_n 0) (n := 1) (by decide +kernel)) rfl <|
    z_getI (ci := 9) (j := 51) (idx := 248) (zd (i := .getfield 248) (n := 3) (by decide +kernel)) (by decide +kernel) (by decide +kernel) rfl g1179 <|
    z_bipush (n := 30) (zd (i := .bipush (30)) (n := 2) (by decide +kernel)) (by decide +kernel) <|
    z_icmp_ne (off := 43) (tgt := 49) (zd (i := .if_icmp .ne (43)) (n := 3) (by decide +kernel)) (by decide +kernel) (zj (hj 1) (by decide +kernel)) z_fail
noncomputable def b_X9_records_1 : zBl := fun jp K => oInt 2147483648 <| oIst 1 <| jp 2
theorem s_X9_records_1 (d : Nat) : zPb l G gh (d + 2) n_X9_records p_X9_records 49 b_X9_records_1 := fun K jp hj =>
    z_iconst (n := 0) (zd (i := .iconst (0)) (n := 1) (by decide +kernel)) (by decide +kernel) <|
    z_istore_n (n := 1) (i := 1) (zd (i := .istore_n 1) (n := 1) (by decide +kernel)) rfl (by decide +kernel) <|
    (zj (hj 2) (by decide +kernel))
noncomputable def b_X9_records_2 : zBl := fun jp K => oIld 1 <| oInt 2147483745 <| oIc zge zlt (jp 4) (jp 3)
theorem s_X9_records_2 (d : Nat) : zPb l G gh (d + 2) n_X9_records p_X9_records 51 b_X9_records_2 := fun K jp hj =>
    z_iload_n (n := 1) (i := 1) (zd (i := .iload_n 1) (n := 1) (by decide +kernel)) rfl <|
    z_bipush (n := 97) (zd (i := .bipush (97)) (n := 2) (by decide +kernel)) (by decide +kernel) <|
    z_icmp_ge (off := 29) (tgt := 83) (zd (i := .if_icmp .ge (29)) (n := 3) (by decide +kernel)) (by decide +kernel) (zj (hj 4) (by decide +kernel)) (zj (hj 3) (by decide +kernel))
noncomputable def b_X9_records_3 : zBl := fun jp K => oAld 0 <| oGetR 9 52 <| oInt 2147483745 <| oAld 0 <| oGetI 9 51 <| oB2 zimul <| oIld 1 <| oB2 zadd <| oAld 0 <| oGetR 9 48 <| oIld 1 <| oXald 10 <| oXast 10 zid <| oInc 1 2147483649 <| jp 2
theorem s_X9_records_3 (d : Nat) : zPb l G gh (d + 2) n_X9_records p_X9_records 57 b_X9_records_3 := fun K jp hj =>
    z_aload_n (n := 0) (i := 0) (zd (i := .aload_n 0) (n := 1) (by decide +kernel)) rfl <|
    z_getR (ci := 9) (j := 52) (idx := 116) (zd (i := .getfield 116) (n := 3) (by decide +kernel)) (by decide +kernel) (by decide +kernel) rfl g1180 <|
    z_bipush (n := 97) (zd (i := .bipush (97)) (n := 2) (by decide +kernel)) (by decide +kernel) <|
    z_aload_n (n := 0) (i := 0) (zd (i := .aload_n 0) (n := 1) (by decide +kernel)) rfl <|
    z_getI (ci := 9) (j := 51) (idx := 248) (zd (i := .getfield 248) (n := 3) (by decide +kernel)) (by decide +kernel) (by decide +kernel) rfl g1179 <|
    z_imul (zd (i := .imul) (n := 1) (by decide +kernel)) <|
    z_iload_n (n := 1) (i := 1) (zd (i := .iload_n 1) (n := 1) (by decide +kernel)) rfl <|
    z_iadd (zd (i := .iadd) (n := 1) (by decide +kernel)) <|
    z_aload_n (n := 0) (i := 0) (zd (i := .aload_n 0) (n := 1) (by decide +kernel)) rfl <|
    z_getR (ci := 9) (j := 48) (idx := 110) (zd (i := .getfield 110) (n := 3) (by decide +kernel)) (by decide +kernel) (by decide +kernel) rfl g1176 <|
    z_iload_n (n := 1) (i := 1) (zd (i := .iload_n 1) (n := 1) (by decide +kernel)) rfl <|
    z_iald (zd (i := .iaload) (n := 1) (by decide +kernel)) <|
    z_iast (zd (i := .iastore) (n := 1) (by decide +kernel)) <|
    z_iinc (i := 1) (n := 1) (zd (i := .iinc 1 (1)) (n := 3) (by decide +kernel)) (by decide +kernel) (by decide +kernel) <|
    z_goto (off := -29) (tgt := 51) (zd (i := .goto (-29)) (n := 3) (by decide +kernel)) (by decide +kernel) (zj (hj 2) (by decide +kernel))
noncomputable def b_X9_records_4 : zBl := fun jp K => oAld 0 <| oDup <| oGetI 9 51 <| oInt 2147483649 <| oB2 zadd <| oPutI 9 51 <| oAld 0 <| oCv 9 0 f_X9_keepsRow <| oVret K
theorem s_X9_records_4 (d : Nat) : zPb l G gh (d + 2) n_X9_records p_X9_records 83 b_X9_records_4 := fun K jp hj =>
    z_aload_n (n := 0) (i := 0) (zd (i := .aload_n 0) (n := 1) (by decide +kernel)) rfl <|
    z_dup (zd (i := .dup) (n := 1) (by decide +kernel)) <|
    z_getI (ci := 9) (j := 51) (idx := 248) (zd (i := .getfield 248) (n := 3) (by decide +kernel)) (by decide +kernel) (by decide +kernel) rfl g1179 <|
    z_iconst (n := 1) (zd (i := .iconst (1)) (n := 1) (by decide +kernel)) (by decide +kernel) <|
    z_iadd (zd (i := .iadd) (n := 1) (by decide +kernel)) <|
    z_putI (ci := 9) (j := 51) (idx := 248) (zd (i := .putfield 248) (n := 3) (by decide +kernel)) (by decide +kernel) (by decide +kernel) rfl g1179 (Or.inl rfl) <|
    z_aload_n (n := 0) (i := 0) (zd (i := .aload_n 0) (n := 1) (by decide +kernel)) rfl <|
    z_callV (idx := 164) (ci := 9) (N := n_X9_keepsRow) (zd (i := .invokevirtual 164) (n := 3) (by decide +kernel)) to_X9_keepsRow g1125 g1127 g43 (by decide +kernel) rfl rfl rfl (c_X9_keepsRow (l := l) (G := G) (gh := gh) d) <|
    z_vret (zd (i := .return_) (n := 1) (by decide +kernel)) rfl
noncomputable def f_X9_records : zMt := zmet 2 [b_X9_records_0, b_X9_records_1, b_X9_records_2, b_X9_records_3, b_X9_records_4]
theorem c_X9_records (d : Nat) : zC l G gh (d + 2) n_X9_records f_X9_records := zmet_ok (pcs := p_X9_records) (by decide) rfl rfl ⟨s_X9_records_0 d, s_X9_records_1 d, s_X9_records_2 d, s_X9_records_3 d, s_X9_records_4 d, trivial⟩
def n_X9_hours : qMn := (yX9_hours, cX9_hours, 2, (some Jvm.ClassFile.FieldType.int), 0, 0)
theorem to_X9_hours : qTo n_X9_hours 1 := ⟨g1542, g110, ⟨by decide, by decide, by decide +kernel⟩, by decide⟩
def p_X9_hours : List Nat := [0, 7, 9, 13, 21]
noncomputable def b_X9_hours_0 : zBl := fun jp K => oIld 1 <| oCs 1 f_X9_isLong <| oIf zne zeq (jp 2) (jp 1)
theorem s_X9_hours_0 (d : Nat) : zPb l G gh (d + 5) n_X9_hours p_X9_hours 0 b_X9_hours_0 := fun K jp hj =>
    z_iload_n (n := 1) (i := 1) (zd (i := .iload_n 1) (n := 1) (by decide +kernel)) rfl <|
    z_callS (idx := 393) (N := n_X9_isLong) (zd (i := .invokestatic 393) (n := 3) (by decide +kernel)) to_X9_isLong g1543 g1544 rfl rfl (c_X9_isLong (l := l) (G := G) (gh := gh) (d + 2)) <|
    z_if_ne (off := 5) (tgt := 9) (zd (i := .ifCond .ne (5)) (n := 3) (by decide +kernel)) (by decide +kernel) (zj (hj 2) (by decide +kernel)) (zj (hj 1) (by decide +kernel))
noncomputable def b_X9_hours_1 : zBl := fun jp K => oInt 2147483647 <| oIret K
theorem s_X9_hours_1 (d : Nat) : zPb l G gh (d + 5) n_X9_hours p_X9_hours 7 b_X9_hours_1 := fun K jp hj =>
    z_iconst (n := -1) (zd (i := .iconst (-1)) (n := 1) (by decide +kernel)) (by decide +kernel) <|
    z_iret (zd (i := .ireturn) (n := 1) (by decide +kernel)) rfl
noncomputable def b_X9_hours_2 : zBl := fun jp K => oIld 1 <| oIf zne zeq (jp 4) (jp 3)
theorem s_X9_hours_2 (d : Nat) : zPb l G gh (d + 5) n_X9_hours p_X9_hours 9 b_X9_hours_2 := fun K jp hj =>
    z_iload_n (n := 1) (i := 1) (zd (i := .iload_n 1) (n := 1) (by decide +kernel)) rfl <|
    z_if_ne (off := 11) (tgt := 21) (zd (i := .ifCond .ne (11)) (n := 3) (by decide +kernel)) (by decide +kernel) (zj (hj 4) (by decide +kernel)) (zj (hj 3) (by decide +kernel))
noncomputable def b_X9_hours_3 : zBl := fun jp K => oAld 0 <| oGetR 9 48 <| oInt 2147483744 <| oXald 10 <| oIret K
theorem s_X9_hours_3 (d : Nat) : zPb l G gh (d + 5) n_X9_hours p_X9_hours 13 b_X9_hours_3 := fun K jp hj =>
    z_aload_n (n := 0) (i := 0) (zd (i := .aload_n 0) (n := 1) (by decide +kernel)) rfl <|
    z_getR (ci := 9) (j := 48) (idx := 110) (zd (i := .getfield 110) (n := 3) (by decide +kernel)) (by decide +kernel) (by decide +kernel) rfl g1176 <|
    z_bipush (n := 96) (zd (i := .bipush (96)) (n := 2) (by decide +kernel)) (by decide +kernel) <|
    z_iald (zd (i := .iaload) (n := 1) (by decide +kernel)) <|
    z_iret (zd (i := .ireturn) (n := 1) (by decide +kernel)) rfl
noncomputable def b_X9_hours_4 : zBl := fun jp K => oAld 0 <| oCv 9 0 f_X9_copies <| oAld 0 <| oIld 1 <| oCv 9 1 f_X9_goes <| oAld 0 <| oCv 9 0 f_X9_records <| oAld 0 <| oGetR 9 48 <| oInt 2147483744 <| oXald 10 <| oIret K
theorem s_X9_hours_4 (d : Nat) : zPb l G gh (d + 5) n_X9_hours p_X9_hours 21 b_X9_hours_4 := fun K jp hj =>
    z_aload_n (n := 0) (i := 0) (zd (i := .aload_n 0) (n := 1) (by decide +kernel)) rfl <|
    z_callV (idx := 375) (ci := 9) (N := n_X9_copies) (zd (i := .invokevirtual 375) (n := 3) (by decide +kernel)) to_X9_copies g1445 g1447 g67 (by decide +kernel) rfl rfl rfl (c_X9_copies (l := l) (G := G) (gh := gh) (d + 3)) <|
    z_aload_n (n := 0) (i := 0) (zd (i := .aload_n 0) (n := 1) (by decide +kernel)) rfl <|
    z_iload_n (n := 1) (i := 1) (zd (i := .iload_n 1) (n := 1) (by decide +kernel)) rfl <|
    z_callV (idx := 396) (ci := 9) (N := n_X9_goes) (zd (i := .invokevirtual 396) (n := 3) (by decide +kernel)) to_X9_goes g1546 g1548 g82 (by decide +kernel) rfl rfl rfl (c_X9_goes (l := l) (G := G) (gh := gh) d) <|
    z_aload_n (n := 0) (i := 0) (zd (i := .aload_n 0) (n := 1) (by decide +kernel)) rfl <|
    z_callV (idx := 390) (ci := 9) (N := n_X9_records) (zd (i := .invokevirtual 390) (n := 3) (by decide +kernel)) to_X9_records g1526 g1528 g81 (by decide +kernel) rfl rfl rfl (c_X9_records (l := l) (G := G) (gh := gh) (d + 2)) <|
    z_aload_n (n := 0) (i := 0) (zd (i := .aload_n 0) (n := 1) (by decide +kernel)) rfl <|
    z_getR (ci := 9) (j := 48) (idx := 110) (zd (i := .getfield 110) (n := 3) (by decide +kernel)) (by decide +kernel) (by decide +kernel) rfl g1176 <|
    z_bipush (n := 96) (zd (i := .bipush (96)) (n := 2) (by decide +kernel)) (by decide +kernel) <|
    z_iald (zd (i := .iaload) (n := 1) (by decide +kernel)) <|
    z_iret (zd (i := .ireturn) (n := 1) (by decide +kernel)) rfl
noncomputable def f_X9_hours : zMt := zmet 2 [b_X9_hours_0, b_X9_hours_1, b_X9_hours_2, b_X9_hours_3, b_X9_hours_4]
theorem c_X9_hours (d : Nat) : zC l G gh (d + 5) n_X9_hours f_X9_hours := zmet_ok (pcs := p_X9_hours) (by decide) rfl rfl ⟨s_X9_hours_0 d, s_X9_hours_1 d, s_X9_hours_2 d, s_X9_hours_3 d, s_X9_hours_4 d, trivial⟩
def n_X3_pop : qMn := (yX3_pop, cX3_pop, 2, (some Jvm.ClassFile.FieldType.boolean), 0, 0)
theorem to_X3_pop : qTo n_X3_pop 1 := ⟨g896, g108, ⟨by decide, by decide, by decide +kernel⟩, by decide⟩
def p_X3_pop : List Nat := [0, 7]
noncomputable def b_X3_pop_0 : zBl := fun jp K => oAld 0 <| oGetI 3 2 <| oIf zne zeq (oFail) (jp 1)
theorem s_X3_pop_0 (d : Nat) : zPb l G gh (d + 1) n_X3_pop p_X3_pop 0 b_X3_pop_0 := fun K jp hj =>
    z_aload_n (n := 0) (i := 0) (zd (i := .aload_n 0) (n := 1) (by decide +kernel)) rfl <|
    z_getI (ci := 3) (j := 2) (idx := 19) (zd (i := .getfield 19) (n := 3) (by decide +kernel)) (by decide +kernel) (by decide +kernel) rfl g414 <|
    z_if_ne (off := 5) (tgt := 9) (zd (i := .ifCond .ne (5)) (n := 3) (by decide +kernel)) (by decide +kernel) z_fail (zj (hj 1) (by decide +kernel))
noncomputable def b_X3_pop_1 : zBl := fun jp K => oInt 2147483648 <| oZret K
theorem s_X3_pop_1 (d : Nat) : zPb l G gh (d + 1) n_X3_pop p_X3_pop 7 b_X3_pop_1 := fun K jp hj =>
    z_iconst (n := 0) (zd (i := .iconst (0)) (n := 1) (by decide +kernel)) (by decide +kernel) <|
    z_zret (zd (i := .ireturn) (n := 1) (by decide +kernel)) rfl
noncomputable def f_X3_pop : zMt := zmet 2 [b_X3_pop_0, b_X3_pop_1]
theorem c_X3_pop (d : Nat) : zC l G gh (d + 1) n_X3_pop f_X3_pop := zmet_ok (pcs := p_X3_pop) (by decide) rfl rfl ⟨s_X3_pop_0 d, s_X3_pop_1 d, trivial⟩
def n_X8_undo : qMn := (yX8_undo, cX8_undo, 1, (some Jvm.ClassFile.FieldType.boolean), 0, 0)
theorem to_X8_undo : qTo n_X8_undo 0 := ⟨g892, g97, ⟨by decide, by decide, by decide +kernel⟩, by decide⟩
def p_X8_undo : List Nat := [0]
noncomputable def b_X8_undo_0 : zBl := fun jp K => oAld 0 <| oGetR 8 4 <| oAld 0 <| oGetR 8 2 <| oCv 3 1 f_X3_pop <| oZret K
theorem s_X8_undo_0 (d : Nat) : zPb l G gh (d + 2) n_X8_undo p_X8_undo 0 b_X8_undo_0 := fun K jp hj =>
    z_aload_n (n := 0) (i := 0) (zd (i := .aload_n 0) (n := 1) (by decide +kernel)) rfl <|
    z_getR (ci := 8) (j := 4) (idx := 36) (zd (i := .getfield 36) (n := 3) (by decide +kernel)) (by decide +kernel) (by decide +kernel) rfl g456 <|
    z_aload_n (n := 0) (i := 0) (zd (i := .aload_n 0) (n := 1) (by decide +kernel)) rfl <|
    z_getR (ci := 8) (j := 2) (idx := 26) (zd (i := .getfield 26) (n := 3) (by decide +kernel)) (by decide +kernel) (by decide +kernel) rfl g454 <|
    z_callV (idx := 220) (ci := 3) (N := n_X3_pop) (zd (i := .invokevirtual 220) (n := 3) (by decide +kernel)) to_X3_pop g893 g894 g895 (by decide +kernel) rfl rfl rfl (c_X3_pop (l := l) (G := G) (gh := gh) d) <|
    z_zret (zd (i := .ireturn) (n := 1) (by decide +kernel)) rfl
noncomputable def f_X8_undo : zMt := zmet 1 [b_X8_undo_0]
theorem c_X8_undo (d : Nat) : zC l G gh (d + 2) n_X8_undo f_X8_undo := zmet_ok (pcs := p_X8_undo) (by decide) rfl rfl ⟨s_X8_undo_0 d, trivial⟩
def n_X9_undo : qMn := (yX9_undo, cX9_undo, 2, (some Jvm.ClassFile.FieldType.boolean), 0, 0)
theorem to_X9_undo : qTo n_X9_undo 0 := ⟨g1573, g110, ⟨by decide, by decide, by decide +kernel⟩, by decide⟩
def p_X9_undo : List Nat := [0, 7]
noncomputable def b_X9_undo_0 : zBl := fun jp K => oAld 0 <| oGetI 9 51 <| oIf zne zeq (oFail) (jp 1)
theorem s_X9_undo_0 (d : Nat) : zPb l G gh (d + 1) n_X9_undo p_X9_undo 0 b_X9_undo_0 := fun K jp hj =>
    z_aload_n (n := 0) (i := 0) (zd (i := .aload_n 0) (n := 1) (by decide +kernel)) rfl <|
    z_getI (ci := 9) (j := 51) (idx := 248) (zd (i := .getfield 248) (n := 3) (by decide +kernel)) (by decide +kernel) (by decide +kernel) rfl g1179 <|
    z_if_ne (off := 5) (tgt := 9) (zd (i := .ifCond .ne (5)) (n := 3) (by decide +kernel)) (by decide +kernel) z_fail (zj (hj 1) (by decide +kernel))
noncomputable def b_X9_undo_1 : zBl := fun jp K => oInt 2147483648 <| oZret K
theorem s_X9_undo_1 (d : Nat) : zPb l G gh (d + 1) n_X9_undo p_X9_undo 7 b_X9_undo_1 := fun K jp hj =>
    z_iconst (n := 0) (zd (i := .iconst (0)) (n := 1) (by decide +kernel)) (by decide +kernel) <|
    z_zret (zd (i := .ireturn) (n := 1) (by decide +kernel)) rfl
noncomputable def f_X9_undo : zMt := zmet 2 [b_X9_undo_0, b_X9_undo_1]
theorem c_X9_undo (d : Nat) : zC l G gh (d + 1) n_X9_undo f_X9_undo := zmet_ok (pcs := p_X9_undo) (by decide) rfl rfl ⟨s_X9_undo_0 d, s_X9_undo_1 d, trivial⟩
def n_X8_sight : qMn := (yX8_sight, cX8_sight, 6, (some Jvm.ClassFile.FieldType.int), 0, 0)
theorem to_X8_sight : qTo n_X8_sight 3 := ⟨g900, g97, ⟨by decide, by decide, by decide +kernel⟩, by decide⟩
def p_X8_sight : List Nat := [0, 7, 22]
noncomputable def b_X8_sight_0 : zBl := fun jp K => oIld 1 <| oCs 1 f_X8_isX <| oIf zeq zne (jp 2) (jp 1)
theorem s_X8_sight_0 (d : Nat) : zPb l G gh (d + 2) n_X8_sight p_X8_sight 0 b_X8_sight_0 := fun K jp hj =>
    z_iload_n (n := 1) (i := 1) (zd (i := .iload_n 1) (n := 1) (by decide +kernel)) rfl <|
    z_callS (idx := 175) (N := n_X8_isX) (zd (i := .invokestatic 175) (n := 3) (by decide +kernel)) to_X8_isX g805 g806 rfl rfl (c_X8_isX (l := l) (G := G) (gh := gh) d) <|
    z_if_eq (off := 18) (tgt := 22) (zd (i := .ifCond .eq (18)) (n := 3) (by decide +kernel)) (by decide +kernel) (zj (hj 2) (by decide +kernel)) (zj (hj 1) (by decide +kernel))
noncomputable def b_X8_sight_1 : zBl := fun jp K => oAld 0 <| oIld 2 <| oCv 8 1 f_X8_isThing <| oIf zeq zne (jp 2) (oFail)
theorem s_X8_sight_1 (d : Nat) : zPb l G gh (d + 2) n_X8_sight p_X8_sight 7 b_X8_sight_1 := fun K jp hj =>
    z_aload_n (n := 0) (i := 0) (zd (i := .aload_n 0) (n := 1) (by decide +kernel)) rfl <|
    z_iload_n (n := 2) (i := 2) (zd (i := .iload_n 2) (n := 1) (by decide +kernel)) rfl <|
    z_callV (idx := 115) (ci := 8) (N := n_X8_isThing) (zd (i := .invokevirtual 115) (n := 3) (by decide +kernel)) to_X8_isThing g708 g710 g17 (by decide +kernel) rfl rfl rfl (c_X8_isThing (l := l) (G := G) (gh := gh) d) <|
    z_if_eq (off := 10) (tgt := 22) (zd (i := .ifCond .eq (10)) (n := 3) (by decide +kernel)) (by decide +kernel) (zj (hj 2) (by decide +kernel)) z_fail
noncomputable def b_X8_sight_2 : zBl := fun jp K => oInt 2147483647 <| oIret K
theorem s_X8_sight_2 (d : Nat) : zPb l G gh (d + 2) n_X8_sight p_X8_sight 22 b_X8_sight_2 := fun K jp hj =>
    z_iconst (n := -1) (zd (i := .iconst (-1)) (n := 1) (by decide +kernel)) (by decide +kernel) <|
    z_iret (zd (i := .ireturn) (n := 1) (by decide +kernel)) rfl
noncomputable def f_X8_sight : zMt := zmet 6 [b_X8_sight_0, b_X8_sight_1, b_X8_sight_2]
theorem c_X8_sight (d : Nat) : zC l G gh (d + 2) n_X8_sight f_X8_sight := zmet_ok (pcs := p_X8_sight) (by decide) rfl rfl ⟨s_X8_sight_0 d, s_X8_sight_1 d, s_X8_sight_2 d, trivial⟩
def n_X9_sight : qMn := (yX9_sight, cX9_sight, 4, (some Jvm.ClassFile.FieldType.int), 0, 0)
theorem to_X9_sight : qTo n_X9_sight 3 := ⟨g1577, g110, ⟨by decide, by decide, by decide +kernel⟩, by decide⟩
def p_X9_sight : List Nat := [0, 7, 40, 41]
noncomputable def b_X9_sight_0 : zBl := fun jp K => oIld 1 <| oCs 1 f_X9_isX <| oIf zeq zne (jp 2) (jp 1)
theorem s_X9_sight_0 (d : Nat) : zPb l G gh (d + 3) n_X9_sight p_X9_sight 0 b_X9_sight_0 := fun K jp hj =>
    z_iload_n (n := 1) (i := 1) (zd (i := .iload_n 1) (n := 1) (by decide +kernel)) rfl <|
    z_callS (idx := 387) (N := n_X9_isX) (zd (i := .invokestatic 387) (n := 3) (by decide +kernel)) to_X9_isX g1507 g1508 rfl rfl (c_X9_isX (l := l) (G := G) (gh := gh) d) <|
    z_if_eq (off := 36) (tgt := 40) (zd (i := .ifCond .eq (36)) (n := 3) (by decide +kernel)) (by decide +kernel) (zj (hj 2) (by decide +kernel)) (zj (hj 1) (by decide +kernel))
noncomputable def b_X9_sight_1 : zBl := fun jp K => oAld 0 <| oIld 2 <| oCv 9 1 f_X9_isThing <| oIf zeq zne (jp 2) (oFail)
theorem s_X9_sight_1 (d : Nat) : zPb l G gh (d + 3) n_X9_sight p_X9_sight 7 b_X9_sight_1 := fun K jp hj =>
    z_aload_n (n := 0) (i := 0) (zd (i := .aload_n 0) (n := 1) (by decide +kernel)) rfl <|
    z_iload_n (n := 2) (i := 2) (zd (i := .iload_n 2) (n := 1) (by decide +kernel)) rfl <|
    z_callV (idx := 372) (ci := 9) (N := n_X9_isThing) (zd (i := .invokevirtual 372) (n := 3) (by decide +kernel)) to_X9_isThing g1438 g1440 g66 (by decide +kernel) rfl rfl rfl (c_X9_isThing (l := l) (G := G) (gh := gh) d) <|
    z_if_eq (off := 28) (tgt := 40) (zd (i := .ifCond .eq (28)) (n := 3) (by decide +kernel)) (by decide +kernel) (zj (hj 2) (by decide +kernel)) z_fail
noncomputable def b_X9_sight_2 : zBl := fun jp K => oInt 2147483647 <| jp 3
theorem s_X9_sight_2 (d : Nat) : zPb l G gh (d + 3) n_X9_sight p_X9_sight 40 b_X9_sight_2 := fun K jp hj =>
    z_iconst (n := -1) (zd (i := .iconst (-1)) (n := 1) (by decide +kernel)) (by decide +kernel) <|
    (zj (hj 3) (by decide +kernel))
noncomputable def b_X9_sight_3 : zBl := fun jp K => oIret K
theorem s_X9_sight_3 (d : Nat) : zPb l G gh (d + 3) n_X9_sight p_X9_sight 41 b_X9_sight_3 := fun K jp hj =>
    z_iret (zd (i := .ireturn) (n := 1) (by decide +kernel)) rfl
noncomputable def f_X9_sight : zMt := zmet 4 [b_X9_sight_0, b_X9_sight_1, b_X9_sight_2, b_X9_sight_3]
theorem c_X9_sight (d : Nat) : zC l G gh (d + 3) n_X9_sight f_X9_sight := zmet_ok (pcs := p_X9_sight) (by decide) rfl rfl ⟨s_X9_sight_0 d, s_X9_sight_1 d, s_X9_sight_2 d, s_X9_sight_3 d, trivial⟩
def n_X8_findSpotsLentOn : qMn := (yX8_findSpotsLentOn, cX8_findSpotsLentOn, 5, none, 0, 0)
theorem to_X8_findSpotsLentOn : qTo n_X8_findSpotsLentOn 0 := ⟨g918, g97, ⟨by decide, by decide, by decide +kernel⟩, by decide⟩
def p_X8_findSpotsLentOn : List Nat := [0, 17, 109]
noncomputable def b_X8_findSpotsLentOn_0 : zBl := fun jp K => oAld 0 <| oGetR 8 12 <| oAld 0 <| oGetR 8 2 <| oGetI 4 0 <| oCv 0 1 f_X0_heat <| oIst 1 <| oInt 2147483648 <| oIst 2 <| jp 1
theorem s_X8_findSpotsLentOn_0 (d : Nat) : zPb l G gh (d + 5) n_X8_findSpotsLentOn p_X8_findSpotsLentOn 0 b_X8_findSpotsLentOn_0 := fun K jp hj =>
    z_aload_n (n := 0) (i := 0) (zd (i := .aload_n 0) (n := 1) (by decide +kernel)) rfl <|
    z_getR (ci := 8) (j := 12) (idx := 71) (zd (i := .getfield 71) (n := 3) (by decide +kernel)) (by decide +kernel) (by decide +kernel) rfl g464 <|
    z_aload_n (n := 0) (i := 0) (zd (i := .aload_n 0) (n := 1) (by decide +kernel)) rfl <|
    z_getR (ci := 8) (j := 2) (idx := 26) (zd (i := .getfield 26) (n := 3) (by decide +kernel)) (by decide +kernel) (by decide +kernel) rfl g454 <|
    z_getI (ci := 4) (j := 0) (idx := 140) (zd (i := .getfield 140) (n := 3) (by decide +kernel)) (by decide +kernel) (by decide +kernel) rfl g368 <|
    z_callV (idx := 143) (ci := 0) (N := n_X0_heat) (zd (i := .invokevirtual 143) (n := 3) (by decide +kernel)) to_X0_heat g716 g717 g718 (by decide +kernel) rfl rfl rfl (c_X0_heat (l := l) (G := G) (gh := gh) d) <|
    z_istore_n (n := 1) (i := 1) (zd (i := .istore_n 1) (n := 1) (by decide +kernel)) rfl (by decide +kernel) <|
    z_iconst (n := 0) (zd (i := .iconst (0)) (n := 1) (by decide +kernel)) (by decide +kernel) <|
    z_istore_n (n := 2) (i := 2) (zd (i := .istore_n 2) (n := 1) (by decide +kernel)) rfl (by decide +kernel) <|
    (zj (hj 1) (by decide +kernel))
noncomputable def b_X8_findSpotsLentOn_1 : zBl := fun jp K => oIld 2 <| oAld 0 <| oGetR 8 12 <| oGetI 0 5 <| oIc zge zlt (jp 2) (oFail)
theorem s_X8_findSpotsLentOn_1 (d : Nat) : zPb l G gh (d + 5) n_X8_findSpotsLentOn p_X8_findSpotsLentOn 17 b_X8_findSpotsLentOn_1 := fun K jp hj =>
    z_iload_n (n := 2) (i := 2) (zd (i := .iload_n 2) (n := 1) (by decide +kernel)) rfl <|
    z_aload_n (n := 0) (i := 0) (zd (i := .aload_n 0) (n := 1) (by decide +kernel)) rfl <|
    z_getR (ci := 8) (j := 12) (idx := 71) (zd (i := .getfield 71) (n := 3) (by decide +kernel)) (by decide +kernel) (by decide +kernel) rfl g464 <|
    z_getI (ci := 0) (j := 5) (idx := 230) (zd (i := .getfield 230) (n := 3) (by decide +kernel)) (by decide +kernel) (by decide +kernel) rfl g288 <|
    z_icmp_ge (off := 84) (tgt := 109) (zd (i := .if_icmp .ge (84)) (n := 3) (by decide +kernel)) (by decide +kernel) (zj (hj 2) (by decide +kernel)) z_fail
noncomputable def b_X8_findSpotsLentOn_2 : zBl := fun jp K => oVret K
theorem s_X8_findSpotsLentOn_2 (d : Nat) : zPb l G gh (d + 5) n_X8_findSpotsLentOn p_X8_findSpotsLentOn 109 b_X8_findSpotsLentOn_2 := fun K jp hj =>
    z_vret (zd (i := .return_) (n := 1) (by decide +kernel)) rfl
noncomputable def f_X8_findSpotsLentOn : zMt := zmet 5 [b_X8_findSpotsLentOn_0, b_X8_findSpotsLentOn_1, b_X8_findSpotsLentOn_2]
theorem c_X8_findSpotsLentOn (d : Nat) : zC l G gh (d + 5) n_X8_findSpotsLentOn f_X8_findSpotsLentOn := zmet_ok (pcs := p_X8_findSpotsLentOn) (by decide) rfl rfl ⟨s_X8_findSpotsLentOn_0 d, s_X8_findSpotsLentOn_1 d, s_X8_findSpotsLentOn_2 d, trivial⟩
def n_X8_clash : qMn := (yX8_clash, cX8_clash, 6, (some Jvm.ClassFile.FieldType.int), 0, 0)
theorem to_X8_clash : qTo n_X8_clash 1 := ⟨g914, g97, ⟨by decide, by decide, by decide +kernel⟩, by decide⟩
def p_X8_clash : List Nat := [0, 4, 9, 11, 23, 96, 100, 104, 105]
noncomputable def b_X8_clash_0 : zBl := fun jp K => oIld 1 <| oIf zlt zge (jp 2) (jp 1)
theorem s_X8_clash_0 (d : Nat) : zPb l G gh (d + 6) n_X8_clash p_X8_clash 0 b_X8_clash_0 := fun K jp hj =>
    z_iload_n (n := 1) (i := 1) (zd (i := .iload_n 1) (n := 1) (by decide +kernel)) rfl <|
    z_if_lt (off := 8) (tgt := 9) (zd (i := .ifCond .lt (8)) (n := 3) (by decide +kernel)) (by decide +kernel) (zj (hj 2) (by decide +kernel)) (zj (hj 1) (by decide +kernel))
noncomputable def b_X8_clash_1 : zBl := fun jp K => oIld 1 <| oInt 2147483649 <| oIc zle zgt (jp 3) (jp 2)
theorem s_X8_clash_1 (d : Nat) : zPb l G gh (d + 6) n_X8_clash p_X8_clash 4 b_X8_clash_1 := fun K jp hj =>
    z_iload_n (n := 1) (i := 1) (zd (i := .iload_n 1) (n := 1) (by decide +kernel)) rfl <|
    z_iconst (n := 1) (zd (i := .iconst (1)) (n := 1) (by decide +kernel)) (by decide +kernel) <|
    z_icmp_le (off := 5) (tgt := 11) (zd (i := .if_icmp .le (5)) (n := 3) (by decide +kernel)) (by decide +kernel) (zj (hj 3) (by decide +kernel)) (zj (hj 2) (by decide +kernel))
noncomputable def b_X8_clash_2 : zBl := fun jp K => oInt 2147483647 <| oIret K
theorem s_X8_clash_2 (d : Nat) : zPb l G gh (d + 6) n_X8_clash p_X8_clash 9 b_X8_clash_2 := fun K jp hj =>
    z_iconst (n := -1) (zd (i := .iconst (-1)) (n := 1) (by decide +kernel)) (by decide +kernel) <|
    z_iret (zd (i := .ireturn) (n := 1) (by decide +kernel)) rfl
noncomputable def b_X8_clash_3 : zBl := fun jp K => oAld 0 <| oCv 8 0 f_X8_findSpotsLentOn <| oInt 2147483648 <| oIst 2 <| oInt 2147483646 <| oIst 3 <| oInt 2147483648 <| oIst 4 <| jp 4
theorem s_X8_clash_3 (d : Nat) : zPb l G gh (d + 6) n_X8_clash p_X8_clash 11 b_X8_clash_3 := fun K jp hj =>
    z_aload_n (n := 0) (i := 0) (zd (i := .aload_n 0) (n := 1) (by decide +kernel)) rfl <|
    z_callV (idx := 227) (ci := 8) (N := n_X8_findSpotsLentOn) (zd (i := .invokevirtual 227) (n := 3) (by decide +kernel)) to_X8_findSpotsLentOn g915 g917 g29 (by decide +kernel) rfl rfl rfl (c_X8_findSpotsLentOn (l := l) (G := G) (gh := gh) d) <|
    z_iconst (n := 0) (zd (i := .iconst (0)) (n := 1) (by decide +kernel)) (by decide +kernel) <|
    z_istore_n (n := 2) (i := 2) (zd (i := .istore_n 2) (n := 1) (by decide +kernel)) rfl (by decide +kernel) <|
    z_bipush (n := -2) (zd (i := .bipush (-2)) (n := 2) (by decide +kernel)) (by decide +kernel) <|
    z_istore_n (n := 3) (i := 3) (zd (i := .istore_n 3) (n := 1) (by decide +kernel)) rfl (by decide +kernel) <|
    z_iconst (n := 0) (zd (i := .iconst (0)) (n := 1) (by decide +kernel)) (by decide +kernel) <|
    z_istore (i := 4) (zd (i := .istore 4) (n := 2) (by decide +kernel)) (by decide +kernel) <|
    (zj (hj 4) (by decide +kernel))
noncomputable def b_X8_clash_4 : zBl := fun jp K => oIld 4 <| oAld 0 <| oGetR 8 12 <| oGetI 0 5 <| oIc zge zlt (jp 5) (oFail)
theorem s_X8_clash_4 (d : Nat) : zPb l G gh (d + 6) n_X8_clash p_X8_clash 23 b_X8_clash_4 := fun K jp hj =>
    z_iload (i := 4) (zd (i := .iload 4) (n := 2) (by decide +kernel)) <|
    z_aload_n (n := 0) (i := 0) (zd (i := .aload_n 0) (n := 1) (by decide +kernel)) rfl <|
    z_getR (ci := 8) (j := 12) (idx := 71) (zd (i := .getfield 71) (n := 3) (by decide +kernel)) (by decide +kernel) (by decide +kernel) rfl g464 <|
    z_getI (ci := 0) (j := 5) (idx := 230) (zd (i := .getfield 230) (n := 3) (by decide +kernel)) (by decide +kernel) (by decide +kernel) rfl g288 <|
    z_icmp_ge (off := 64) (tgt := 96) (zd (i := .if_icmp .ge (64)) (n := 3) (by decide +kernel)) (by decide +kernel) (zj (hj 5) (by decide +kernel)) z_fail
noncomputable def b_X8_clash_5 : zBl := fun jp K => oIld 1 <| oIf zne zeq (jp 7) (jp 6)
theorem s_X8_clash_5 (d : Nat) : zPb l G gh (d + 6) n_X8_clash p_X8_clash 96 b_X8_clash_5 := fun K jp hj =>
    z_iload_n (n := 1) (i := 1) (zd (i := .iload_n 1) (n := 1) (by decide +kernel)) rfl <|
    z_if_ne (off := 7) (tgt := 104) (zd (i := .ifCond .ne (7)) (n := 3) (by decide +kernel)) (by decide +kernel) (zj (hj 7) (by decide +kernel)) (zj (hj 6) (by decide +kernel))
noncomputable def b_X8_clash_6 : zBl := fun jp K => oIld 2 <| jp 8
theorem s_X8_clash_6 (d : Nat) : zPb l G gh (d + 6) n_X8_clash p_X8_clash 100 b_X8_clash_6 := fun K jp hj =>
    z_iload_n (n := 2) (i := 2) (zd (i := .iload_n 2) (n := 1) (by decide +kernel)) rfl <|
    z_goto (off := 4) (tgt := 105) (zd (i := .goto (4)) (n := 3) (by decide +kernel)) (by decide +kernel) (zj (hj 8) (by decide +kernel))
noncomputable def b_X8_clash_7 : zBl := fun jp K => oIld 3 <| jp 8
theorem s_X8_clash_7 (d : Nat) : zPb l G gh (d + 6) n_X8_clash p_X8_clash 104 b_X8_clash_7 := fun K jp hj =>
    z_iload_n (n := 3) (i := 3) (zd (i := .iload_n 3) (n := 1) (by decide +kernel)) rfl <|
    (zj (hj 8) (by decide +kernel))
noncomputable def b_X8_clash_8 : zBl := fun jp K => oIret K
theorem s_X8_clash_8 (d : Nat) : zPb l G gh (d + 6) n_X8_clash p_X8_clash 105 b_X8_clash_8 := fun K jp hj =>
    z_iret (zd (i := .ireturn) (n := 1) (by decide +kernel)) rfl
noncomputable def f_X8_clash : zMt := zmet 6 [b_X8_clash_0, b_X8_clash_1, b_X8_clash_2, b_X8_clash_3, b_X8_clash_4, b_X8_clash_5, b_X8_clash_6, b_X8_clash_7, b_X8_clash_8]
theorem c_X8_clash (d : Nat) : zC l G gh (d + 6) n_X8_clash f_X8_clash := zmet_ok (pcs := p_X8_clash) (by decide) rfl rfl ⟨s_X8_clash_0 d, s_X8_clash_1 d, s_X8_clash_2 d, s_X8_clash_3 d, s_X8_clash_4 d, s_X8_clash_5 d, s_X8_clash_6 d, s_X8_clash_7 d, s_X8_clash_8 d, trivial⟩
def n_X9_clash : qMn := (yX9_clash, cX9_clash, 6, (some Jvm.ClassFile.FieldType.int), 0, 0)
theorem to_X9_clash : qTo n_X9_clash 1 := ⟨g1589, g110, ⟨by decide, by decide, by decide +kernel⟩, by decide⟩
def p_X9_clash : List Nat := [0, 9, 11, 23, 99, 103, 107, 108]
noncomputable def b_X9_clash_0 : zBl := fun jp K => oIld 1 <| oInt 2147483648 <| oInt 2147483649 <| oCs 3 f_X9_in <| oIf zne zeq (jp 2) (jp 1)
theorem s_X9_clash_0 (d : Nat) : zPb l G gh (d + 2) n_X9_clash p_X9_clash 0 b_X9_clash_0 := fun K jp hj =>
    z_iload_n (n := 1) (i := 1) (zd (i := .iload_n 1) (n := 1) (by decide +kernel)) rfl <|
    z_iconst (n := 0) (zd (i := .iconst (0)) (n := 1) (by decide +kernel)) (by decide +kernel) <|
    z_iconst (n := 1) (zd (i := .iconst (1)) (n := 1) (by decide +kernel)) (by decide +kernel) <|
    z_callS (idx := 304) (N := n_X9_in) (zd (i := .invokestatic 304) (n := 3) (by decide +kernel)) to_X9_in g1442 g1443 rfl rfl (c_X9_in (l := l) (G := G) (gh := gh) d) <|
    z_if_ne (off := 5) (tgt := 11) (zd (i := .ifCond .ne (5)) (n := 3) (by decide +kernel)) (by decide +kernel) (zj (hj 2) (by decide +kernel)) (zj (hj 1) (by decide +kernel))
noncomputable def b_X9_clash_1 : zBl := fun jp K => oInt 2147483647 <| oIret K
theorem s_X9_clash_1 (d : Nat) : zPb l G gh (d + 2) n_X9_clash p_X9_clash 9 b_X9_clash_1 := fun K jp hj =>
    z_iconst (n := -1) (zd (i := .iconst (-1)) (n := 1) (by decide +kernel)) (by decide +kernel) <|
    z_iret (zd (i := .ireturn) (n := 1) (by decide +kernel)) rfl
noncomputable def b_X9_clash_2 : zBl := fun jp K => oAld 0 <| oCv 9 0 f_X9_copies <| oInt 2147483648 <| oIst 2 <| oInt 2147483646 <| oIst 3 <| oInt 2147483648 <| oIst 4 <| jp 3
theorem s_X9_clash_2 (d : Nat) : zPb l G gh (d + 2) n_X9_clash p_X9_clash 11 b_X9_clash_2 := fun K jp hj =>
    z_aload_n (n := 0) (i := 0) (zd (i := .aload_n 0) (n := 1) (by decide +kernel)) rfl <|
    z_callV (idx := 375) (ci := 9) (N := n_X9_copies) (zd (i := .invokevirtual 375) (n := 3) (by decide +kernel)) to_X9_copies g1445 g1447 g67 (by decide +kernel) rfl rfl rfl (c_X9_copies (l := l) (G := G) (gh := gh) d) <|
    z_iconst (n := 0) (zd (i := .iconst (0)) (n := 1) (by decide +kernel)) (by decide +kernel) <|
    z_istore_n (n := 2) (i := 2) (zd (i := .istore_n 2) (n := 1) (by decide +kernel)) rfl (by decide +kernel) <|
    z_bipush (n := -2) (zd (i := .bipush (-2)) (n := 2) (by decide +kernel)) (by decide +kernel) <|
    z_istore_n (n := 3) (i := 3) (zd (i := .istore_n 3) (n := 1) (by decide +kernel)) rfl (by decide +kernel) <|
    z_iconst (n := 0) (zd (i := .iconst (0)) (n := 1) (by decide +kernel)) (by decide +kernel) <|
    z_istore (i := 4) (zd (i := .istore 4) (n := 2) (by decide +kernel)) (by decide +kernel) <|
    (zj (hj 3) (by decide +kernel))
noncomputable def b_X9_clash_3 : zBl := fun jp K => oIld 4 <| oAld 0 <| oGetR 9 25 <| oAld 0 <| oGetI 9 18 <| oXald 10 <| oIc zge zlt (jp 4) (oFail)
theorem s_X9_clash_3 (d : Nat) : zPb l G gh (d + 2) n_X9_clash p_X9_clash 23 b_X9_clash_3 := fun K jp hj =>
    z_iload (i := 4) (zd (i := .iload 4) (n := 2) (by decide +kernel)) <|
    z_aload_n (n := 0) (i := 0) (zd (i := .aload_n 0) (n := 1) (by decide +kernel)) rfl <|
    z_getR (ci := 9) (j := 25) (idx := 52) (zd (i := .getfield 52) (n := 3) (by decide +kernel)) (by decide +kernel) (by decide +kernel) rfl g1153 <|
    z_aload_n (n := 0) (i := 0) (zd (i := .aload_n 0) (n := 1) (by decide +kernel)) rfl <|
    z_getI (ci := 9) (j := 18) (idx := 230) (zd (i := .getfield 230) (n := 3) (by decide +kernel)) (by decide +kernel) (by decide +kernel) rfl g1146 <|
    z_iald (zd (i := .iaload) (n := 1) (by decide +kernel)) <|
    z_icmp_ge (off := 65) (tgt := 99) (zd (i := .if_icmp .ge (65)) (n := 3) (by decide +kernel)) (by decide +kernel) (zj (hj 4) (by decide +kernel)) z_fail
noncomputable def b_X9_clash_4 : zBl := fun jp K => oIld 1 <| oIf zne zeq (jp 6) (jp 5)
theorem s_X9_clash_4 (d : Nat) : zPb l G gh (d + 2) n_X9_clash p_X9_clash 99 b_X9_clash_4 := fun K jp hj =>
    z_iload_n (n := 1) (i := 1) (zd (i := .iload_n 1) (n := 1) (by decide +kernel)) rfl <|
    z_if_ne (off := 7) (tgt := 107) (zd (i := .ifCond .ne (7)) (n := 3) (by decide +kernel)) (by decide +kernel) (zj (hj 6) (by decide +kernel)) (zj (hj 5) (by decide +kernel))
noncomputable def b_X9_clash_5 : zBl := fun jp K => oIld 2 <| jp 7
theorem s_X9_clash_5 (d : Nat) : zPb l G gh (d + 2) n_X9_clash p_X9_clash 103 b_X9_clash_5 := fun K jp hj =>
    z_iload_n (n := 2) (i := 2) (zd (i := .iload_n 2) (n := 1) (by decide +kernel)) rfl <|
    z_goto (off := 4) (tgt := 108) (zd (i := .goto (4)) (n := 3) (by decide +kernel)) (by decide +kernel) (zj (hj 7) (by decide +kernel))
noncomputable def b_X9_clash_6 : zBl := fun jp K => oIld 3 <| jp 7
theorem s_X9_clash_6 (d : Nat) : zPb l G gh (d + 2) n_X9_clash p_X9_clash 107 b_X9_clash_6 := fun K jp hj =>
    z_iload_n (n := 3) (i := 3) (zd (i := .iload_n 3) (n := 1) (by decide +kernel)) rfl <|
    (zj (hj 7) (by decide +kernel))
noncomputable def b_X9_clash_7 : zBl := fun jp K => oIret K
theorem s_X9_clash_7 (d : Nat) : zPb l G gh (d + 2) n_X9_clash p_X9_clash 108 b_X9_clash_7 := fun K jp hj =>
    z_iret (zd (i := .ireturn) (n := 1) (by decide +kernel)) rfl
noncomputable def f_X9_clash : zMt := zmet 6 [b_X9_clash_0, b_X9_clash_1, b_X9_clash_2, b_X9_clash_3, b_X9_clash_4, b_X9_clash_5, b_X9_clash_6, b_X9_clash_7]
theorem c_X9_clash (d : Nat) : zC l G gh (d + 2) n_X9_clash f_X9_clash := zmet_ok (pcs := p_X9_clash) (by decide) rfl rfl ⟨s_X9_clash_0 d, s_X9_clash_1 d, s_X9_clash_2 d, s_X9_clash_3 d, s_X9_clash_4 d, s_X9_clash_5 d, s_X9_clash_6 d, s_X9_clash_7 d, trivial⟩
def n_X8_longFrom : qMn := (yX8_longFrom, cX8_longFrom, 6, (some Jvm.ClassFile.FieldType.int), 0, 0)
theorem to_X8_longFrom : qTo n_X8_longFrom 3 := ⟨g926, g97, ⟨by decide, by decide, by decide +kernel⟩, by decide⟩
def p_X8_longFrom : List Nat := [0, 7, 26]
noncomputable def b_X8_longFrom_0 : zBl := fun jp K => oIld 1 <| oCs 1 f_X8_isX <| oIf zeq zne (jp 2) (jp 1)
theorem s_X8_longFrom_0 (d : Nat) : zPb l G gh (d + 2) n_X8_longFrom p_X8_longFrom 0 b_X8_longFrom_0 := fun K jp hj =>
    z_iload_n (n := 1) (i := 1) (zd (i := .iload_n 1) (n := 1) (by decide +kernel)) rfl <|
    z_callS (idx := 175) (N := n_X8_isX) (zd (i := .invokestatic 175) (n := 3) (by decide +kernel)) to_X8_isX g805 g806 rfl rfl (c_X8_isX (l := l) (G := G) (gh := gh) d) <|
    z_if_eq (off := 22) (tgt := 26) (zd (i := .ifCond .eq (22)) (n := 3) (by decide +kernel)) (by decide +kernel) (zj (hj 2) (by decide +kernel)) (zj (hj 1) (by decide +kernel))
noncomputable def b_X8_longFrom_1 : zBl := fun jp K => oAld 0 <| oIld 2 <| oCv 8 1 f_X8_isThing <| oIf zeq zne (jp 2) (oFail)
theorem s_X8_longFrom_1 (d : Nat) : zPb l G gh (d + 2) n_X8_longFrom p_X8_longFrom 7 b_X8_longFrom_1 := fun K jp hj =>
    z_aload_n (n := 0) (i := 0) (zd (i := .aload_n 0) (n := 1) (by decide +kernel)) rfl <|
    z_iload_n (n := 2) (i := 2) (zd (i := .iload_n 2) (n := 1) (by decide +kernel)) rfl <|
    z_callV (idx := 115) (ci := 8) (N := n_X8_isThing) (zd (i := .invokevirtual 115) (n := 3) (by decide +kernel)) to_X8_isThing g708 g710 g17 (by decide +kernel) rfl rfl rfl (c_X8_isThing (l := l) (G := G) (gh := gh) d) <|
    z_if_eq (off := 14) (tgt := 26) (zd (i := .ifCond .eq (14)) (n := 3) (by decide +kernel)) (by decide +kernel) (zj (hj 2) (by decide +kernel)) z_fail
noncomputable def b_X8_longFrom_2 : zBl := fun jp K => oInt 2147483647 <| oIret K
theorem s_X8_longFrom_2 (d : Nat) : zPb l G gh (d + 2) n_X8_longFrom p_X8_longFrom 26 b_X8_longFrom_2 := fun K jp hj =>
    z_iconst (n := -1) (zd (i := .iconst (-1)) (n := 1) (by decide +kernel)) (by decide +kernel) <|
    z_iret (zd (i := .ireturn) (n := 1) (by decide +kernel)) rfl
noncomputable def f_X8_longFrom : zMt := zmet 6 [b_X8_longFrom_0, b_X8_longFrom_1, b_X8_longFrom_2]
theorem c_X8_longFrom (d : Nat) : zC l G gh (d + 2) n_X8_longFrom f_X8_longFrom := zmet_ok (pcs := p_X8_longFrom) (by decide) rfl rfl ⟨s_X8_longFrom_0 d, s_X8_longFrom_1 d, s_X8_longFrom_2 d, trivial⟩
def n_X9_longFrom : qMn := (yX9_longFrom, cX9_longFrom, 4, (some Jvm.ClassFile.FieldType.int), 0, 0)
theorem to_X9_longFrom : qTo n_X9_longFrom 3 := ⟨g1597, g110, ⟨by decide, by decide, by decide +kernel⟩, by decide⟩
def p_X9_longFrom : List Nat := [0, 7, 32, 33]
noncomputable def b_X9_longFrom_0 : zBl := fun jp K => oIld 1 <| oCs 1 f_X9_isX <| oIf zeq zne (jp 2) (jp 1)
theorem s_X9_longFrom_0 (d : Nat) : zPb l G gh (d + 3) n_X9_longFrom p_X9_longFrom 0 b_X9_longFrom_0 := fun K jp hj =>
    z_iload_n (n := 1) (i := 1) (zd (i := .iload_n 1) (n := 1) (by decide +kernel)) rfl <|
    z_callS (idx := 387) (N := n_X9_isX) (zd (i := .invokestatic 387) (n := 3) (by decide +kernel)) to_X9_isX g1507 g1508 rfl rfl (c_X9_isX (l := l) (G := G) (gh := gh) d) <|
    z_if_eq (off := 28) (tgt := 32) (zd (i := .ifCond .eq (28)) (n := 3) (by decide +kernel)) (by decide +kernel) (zj (hj 2) (by decide +kernel)) (zj (hj 1) (by decide +kernel))
noncomputable def b_X9_longFrom_1 : zBl := fun jp K => oAld 0 <| oIld 2 <| oCv 9 1 f_X9_isThing <| oIf zeq zne (jp 2) (oFail)
theorem s_X9_longFrom_1 (d : Nat) : zPb l G gh (d + 3) n_X9_longFrom p_X9_longFrom 7 b_X9_longFrom_1 := fun K jp hj =>
    z_aload_n (n := 0) (i := 0) (zd (i := .aload_n 0) (n := 1) (by decide +kernel)) rfl <|
    z_iload_n (n := 2) (i := 2) (zd (i := .iload_n 2) (n := 1) (by decide +kernel)) rfl <|
    z_callV (idx := 372) (ci := 9) (N := n_X9_isThing) (zd (i := .invokevirtual 372) (n := 3) (by decide +kernel)) to_X9_isThing g1438 g1440 g66 (by decide +kernel) rfl rfl rfl (c_X9_isThing (l := l) (G := G) (gh := gh) d) <|
    z_if_eq (off := 20) (tgt := 32) (zd (i := .ifCond .eq (20)) (n := 3) (by decide +kernel)) (by decide +kernel) (zj (hj 2) (by decide +kernel)) z_fail
noncomputable def b_X9_longFrom_2 : zBl := fun jp K => oInt 2147483647 <| jp 3
theorem s_X9_longFrom_2 (d : Nat) : zPb l G gh (d + 3) n_X9_longFrom p_X9_longFrom 32 b_X9_longFrom_2 := fun K jp hj =>
    z_iconst (n := -1) (zd (i := .iconst (-1)) (n := 1) (by decide +kernel)) (by decide +kernel) <|
    (zj (hj 3) (by decide +kernel))
noncomputable def b_X9_longFrom_3 : zBl := fun jp K => oIret K
theorem s_X9_longFrom_3 (d : Nat) : zPb l G gh (d + 3) n_X9_longFrom p_X9_longFrom 33 b_X9_longFrom_3 := fun K jp hj =>
    z_iret (zd (i := .ireturn) (n := 1) (by decide +kernel)) rfl
noncomputable def f_X9_longFrom : zMt := zmet 4 [b_X9_longFrom_0, b_X9_longFrom_1, b_X9_longFrom_2, b_X9_longFrom_3]
theorem c_X9_longFrom (d : Nat) : zC l G gh (d + 3) n_X9_longFrom f_X9_longFrom := zmet_ok (pcs := p_X9_longFrom) (by decide) rfl rfl ⟨s_X9_longFrom_0 d, s_X9_longFrom_1 d, s_X9_longFrom_2 d, s_X9_longFrom_3 d, trivial⟩
def n_X8_best : qMn := (yX8_best, cX8_best, 6, (some Jvm.ClassFile.FieldType.int), 0, 0)
theorem to_X8_best : qTo n_X8_best 3 := ⟨g930, g97, ⟨by decide, by decide, by decide +kernel⟩, by decide⟩
def p_X8_best : List Nat := [0, 28]
noncomputable def b_X8_best_0 : zBl := fun jp K => oAld 0 <| oIld 1 <| oCv 8 1 f_X8_isThing <| oIf zeq zne (jp 1) (oFail)
theorem s_X8_best_0 (d : Nat) : zPb l G gh (d + 2) n_X8_best p_X8_best 0 b_X8_best_0 := fun K jp hj =>
    z_aload_n (n := 0) (i := 0) (zd (i := .aload_n 0) (n := 1) (by decide +kernel)) rfl <|
    z_iload_n (n := 1) (i := 1) (zd (i := .iload_n 1) (n := 1) (by decide +kernel)) rfl <|
    z_callV (idx := 115) (ci := 8) (N := n_X8_isThing) (zd (i := .invokevirtual 115) (n := 3) (by decide +kernel)) to_X8_isThing g708 g710 g17 (by decide +kernel) rfl rfl rfl (c_X8_isThing (l := l) (G := G) (gh := gh) d) <|
    z_if_eq (off := 23) (tgt := 28) (zd (i := .ifCond .eq (23)) (n := 3) (by decide +kernel)) (by decide +kernel) (zj (hj 1) (by decide +kernel)) z_fail
noncomputable def b_X8_best_1 : zBl := fun jp K => oInt 2147483647 <| oIret K
theorem s_X8_best_1 (d : Nat) : zPb l G gh (d + 2) n_X8_best p_X8_best 28 b_X8_best_1 := fun K jp hj =>
    z_iconst (n := -1) (zd (i := .iconst (-1)) (n := 1) (by decide +kernel)) (by decide +kernel) <|
    z_iret (zd (i := .ireturn) (n := 1) (by decide +kernel)) rfl
noncomputable def f_X8_best : zMt := zmet 6 [b_X8_best_0, b_X8_best_1]
theorem c_X8_best (d : Nat) : zC l G gh (d + 2) n_X8_best f_X8_best := zmet_ok (pcs := p_X8_best) (by decide) rfl rfl ⟨s_X8_best_0 d, s_X8_best_1 d, trivial⟩
def n_X9_best : qMn := (yX9_best, cX9_best, 8, (some Jvm.ClassFile.FieldType.int), 0, 0)
theorem to_X9_best : qTo n_X9_best 3 := ⟨g1608, g110, ⟨by decide, by decide, by decide +kernel⟩, by decide⟩
def p_X9_best : List Nat := [0, 24]
noncomputable def b_X9_best_0 : zBl := fun jp K => oAld 0 <| oIld 1 <| oCv 9 1 f_X9_isThing <| oIf zeq zne (jp 1) (oFail)
theorem s_X9_best_0 (d : Nat) : zPb l G gh (d + 3) n_X9_best p_X9_best 0 b_X9_best_0 := fun K jp hj =>
    z_aload_n (n := 0) (i := 0) (zd (i := .aload_n 0) (n := 1) (by decide +kernel)) rfl <|
    z_iload_n (n := 1) (i := 1) (zd (i := .iload_n 1) (n := 1) (by decide +kernel)) rfl <|
    z_callV (idx := 372) (ci := 9) (N := n_X9_isThing) (zd (i := .invokevirtual 372) (n := 3) (by decide +kernel)) to_X9_isThing g1438 g1440 g66 (by decide +kernel) rfl rfl rfl (c_X9_isThing (l := l) (G := G) (gh := gh) d) <|
    z_if_eq (off := 19) (tgt := 24) (zd (i := .ifCond .eq (19)) (n := 3) (by decide +kernel)) (by decide +kernel) (zj (hj 1) (by decide +kernel)) z_fail
noncomputable def b_X9_best_1 : zBl := fun jp K => oInt 2147483647 <| oIret K
theorem s_X9_best_1 (d : Nat) : zPb l G gh (d + 3) n_X9_best p_X9_best 24 b_X9_best_1 := fun K jp hj =>
    z_iconst (n := -1) (zd (i := .iconst (-1)) (n := 1) (by decide +kernel)) (by decide +kernel) <|
    z_iret (zd (i := .ireturn) (n := 1) (by decide +kernel)) rfl
noncomputable def f_X9_best : zMt := zmet 8 [b_X9_best_0, b_X9_best_1]
theorem c_X9_best (d : Nat) : zC l G gh (d + 3) n_X9_best f_X9_best := zmet_ok (pcs := p_X9_best) (by decide) rfl rfl ⟨s_X9_best_0 d, s_X9_best_1 d, trivial⟩
def n_X8_dawns : qMn := (yX8_dawns, cX8_dawns, 5, (some Jvm.ClassFile.FieldType.int), 0, 0)
theorem to_X8_dawns : qTo n_X8_dawns 2 := ⟨g938, g97, ⟨by decide, by decide, by decide +kernel⟩, by decide⟩
def p_X8_dawns : List Nat := [0, 7, 15]
noncomputable def b_X8_dawns_0 : zBl := fun jp K => oIld 1 <| oCs 1 f_X8_isX <| oIf zeq zne (jp 2) (jp 1)
theorem s_X8_dawns_0 (d : Nat) : zPb l G gh (d + 2) n_X8_dawns p_X8_dawns 0 b_X8_dawns_0 := fun K jp hj =>
    z_iload_n (n := 1) (i := 1) (zd (i := .iload_n 1) (n := 1) (by decide +kernel)) rfl <|
    z_callS (idx := 175) (N := n_X8_isX) (zd (i := .invokestatic 175) (n := 3) (by decide +kernel)) to_X8_isX g805 g806 rfl rfl (c_X8_isX (l := l) (G := G) (gh := gh) d) <|
    z_if_eq (off := 11) (tgt := 15) (zd (i := .ifCond .eq (11)) (n := 3) (by decide +kernel)) (by decide +kernel) (zj (hj 2) (by decide +kernel)) (zj (hj 1) (by decide +kernel))
noncomputable def b_X8_dawns_1 : zBl := fun jp K => oAld 0 <| oIld 2 <| oCv 8 1 f_X8_isThing <| oIf zne zeq (oFail) (jp 2)
theorem s_X8_dawns_1 (d : Nat) : zPb l G gh (d + 2) n_X8_dawns p_X8_dawns 7 b_X8_dawns_1 := fun K jp hj =>
    z_aload_n (n := 0) (i := 0) (zd (i := .aload_n 0) (n := 1) (by decide +kernel)) rfl <|
    z_iload_n (n := 2) (i := 2) (zd (i := .iload_n 2) (n := 1) (by decide +kernel)) rfl <|
    z_callV (idx := 115) (ci := 8) (N := n_X8_isThing) (zd (i := .invokevirtual 115) (n := 3) (by decide +kernel)) to_X8_isThing g708 g710 g17 (by decide +kernel) rfl rfl rfl (c_X8_isThing (l := l) (G := G) (gh := gh) d) <|
    z_if_ne (off := 5) (tgt := 17) (zd (i := .ifCond .ne (5)) (n := 3) (by decide +kernel)) (by decide +kernel) z_fail (zj (hj 2) (by decide +kernel))
noncomputable def b_X8_dawns_2 : zBl := fun jp K => oInt 2147483647 <| oIret K
theorem s_X8_dawns_2 (d : Nat) : zPb l G gh (d + 2) n_X8_dawns p_X8_dawns 15 b_X8_dawns_2 := fun K jp hj =>
    z_iconst (n := -1) (zd (i := .iconst (-1)) (n := 1) (by decide +kernel)) (by decide +kernel) <|
    z_iret (zd (i := .ireturn) (n := 1) (by decide +kernel)) rfl
noncomputable def f_X8_dawns : zMt := zmet 5 [b_X8_dawns_0, b_X8_dawns_1, b_X8_dawns_2]
theorem c_X8_dawns (d : Nat) : zC l G gh (d + 2) n_X8_dawns f_X8_dawns := zmet_ok (pcs := p_X8_dawns) (by decide) rfl rfl ⟨s_X8_dawns_0 d, s_X8_dawns_1 d, s_X8_dawns_2 d, trivial⟩
def n_X9_dawns : qMn := (yX9_dawns, cX9_dawns, 4, (some Jvm.ClassFile.FieldType.int), 0, 0)
theorem to_X9_dawns : qTo n_X9_dawns 2 := ⟨g1612, g110, ⟨by decide, by decide, by decide +kernel⟩, by decide⟩
def p_X9_dawns : List Nat := [0, 7, 15]
noncomputable def b_X9_dawns_0 : zBl := fun jp K => oIld 1 <| oCs 1 f_X9_isX <| oIf zeq zne (jp 2) (jp 1)
theorem s_X9_dawns_0 (d : Nat) : zPb l G gh (d + 3) n_X9_dawns p_X9_dawns 0 b_X9_dawns_0 := fun K jp hj =>
    z_iload_n (n := 1) (i := 1) (zd (i := .iload_n 1) (n := 1) (by decide +kernel)) rfl <|
    z_callS (idx := 387) (N := n_X9_isX) (zd (i := .invokestatic 387) (n := 3) (by decide +kernel)) to_X9_isX g1507 g1508 rfl rfl (c_X9_isX (l := l) (G := G) (gh := gh) d) <|
    z_if_eq (off := 11) (tgt := 15) (zd (i := .ifCond .eq (11)) (n := 3) (by decide +kernel)) (by decide +kernel) (zj (hj 2) (by decide +kernel)) (zj (hj 1) (by decide +kernel))
noncomputable def b_X9_dawns_1 : zBl := fun jp K => oAld 0 <| oIld 2 <| oCv 9 1 f_X9_isThing <| oIf zne zeq (oFail) (jp 2)
theorem s_X9_dawns_1 (d : Nat) : zPb l G gh (d + 3) n_X9_dawns p_X9_dawns 7 b_X9_dawns_1 := fun K jp hj =>
    z_aload_n (n := 0) (i := 0) (zd (i := .aload_n 0) (n := 1) (by decide +kernel)) rfl <|
    z_iload_n (n := 2) (i := 2) (zd (i := .iload_n 2) (n := 1) (by decide +kernel)) rfl <|
    z_callV (idx := 372) (ci := 9) (N := n_X9_isThing) (zd (i := .invokevirtual 372) (n := 3) (by decide +kernel)) to_X9_isThing g1438 g1440 g66 (by decide +kernel) rfl rfl rfl (c_X9_isThing (l := l) (G := G) (gh := gh) d) <|
    z_if_ne (off := 5) (tgt := 17) (zd (i := .ifCond .ne (5)) (n := 3) (by decide +kernel)) (by decide +kernel) z_fail (zj (hj 2) (by decide +kernel))
noncomputable def b_X9_dawns_2 : zBl := fun jp K => oInt 2147483647 <| oIret K
theorem s_X9_dawns_2 (d : Nat) : zPb l G gh (d + 3) n_X9_dawns p_X9_dawns 15 b_X9_dawns_2 := fun K jp hj =>
    z_iconst (n := -1) (zd (i := .iconst (-1)) (n := 1) (by decide +kernel)) (by decide +kernel) <|
    z_iret (zd (i := .ireturn) (n := 1) (by decide +kernel)) rfl
noncomputable def f_X9_dawns : zMt := zmet 4 [b_X9_dawns_0, b_X9_dawns_1, b_X9_dawns_2]
theorem c_X9_dawns (d : Nat) : zC l G gh (d + 3) n_X9_dawns f_X9_dawns := zmet_ok (pcs := p_X9_dawns) (by decide) rfl rfl ⟨s_X9_dawns_0 d, s_X9_dawns_1 d, s_X9_dawns_2 d, trivial⟩
def n_X8_near : qMn := (yX8_near, cX8_near, 8, (some Jvm.ClassFile.FieldType.int), 0, 0)
theorem to_X8_near : qTo n_X8_near 2 := ⟨g942, g97, ⟨by decide, by decide, by decide +kernel⟩, by decide⟩
def p_X8_near : List Nat := [0, 7, 11, 16, 18, 44, 113, 117, 124, 131]
noncomputable def b_X8_near_0 : zBl := fun jp K => oIld 1 <| oCs 1 f_X8_isX <| oIf zeq zne (jp 3) (jp 1)
theorem s_X8_near_0 (d : Nat) : zPb l G gh (d + 5) n_X8_near p_X8_near 0 b_X8_near_0 := fun K jp hj =>
    z_iload_n (n := 1) (i := 1) (zd (i := .iload_n 1) (n := 1) (by decide +kernel)) rfl <|
    z_callS (idx := 175) (N := n_X8_isX) (zd (i := .invokestatic 175) (n := 3) (by decide +kernel)) to_X8_isX g805 g806 rfl rfl (c_X8_isX (l := l) (G := G) (gh := gh) (d + 3)) <|
    z_if_eq (off := 12) (tgt := 16) (zd (i := .ifCond .eq (12)) (n := 3) (by decide +kernel)) (by decide +kernel) (zj (hj 3) (by decide +kernel)) (zj (hj 1) (by decide +kernel))
noncomputable def b_X8_near_1 : zBl := fun jp K => oIld 2 <| oIf zlt zge (jp 3) (jp 2)
theorem s_X8_near_1 (d : Nat) : zPb l G gh (d + 5) n_X8_near p_X8_near 7 b_X8_near_1 := fun K jp hj =>
    z_iload_n (n := 2) (i := 2) (zd (i := .iload_n 2) (n := 1) (by decide +kernel)) rfl <|
    z_if_lt (off := 8) (tgt := 16) (zd (i := .ifCond .lt (8)) (n := 3) (by decide +kernel)) (by decide +kernel) (zj (hj 3) (by decide +kernel)) (zj (hj 2) (by decide +kernel))
noncomputable def b_X8_near_2 : zBl := fun jp K => oIld 2 <| oInt 2147483649 <| oIc zle zgt (jp 4) (jp 3)
theorem s_X8_near_2 (d : Nat) : zPb l G gh (d + 5) n_X8_near p_X8_near 11 b_X8_near_2 := fun K jp hj =>
    z_iload_n (n := 2) (i := 2) (zd (i := .iload_n 2) (n := 1) (by decide +kernel)) rfl <|
    z_iconst (n := 1) (zd (i := .iconst (1)) (n := 1) (by decide +kernel)) (by decide +kernel) <|
    z_icmp_le (off := 5) (tgt := 18) (zd (i := .if_icmp .le (5)) (n := 3) (by decide +kernel)) (by decide +kernel) (zj (hj 4) (by decide +kernel)) (zj (hj 3) (by decide +kernel))
noncomputable def b_X8_near_3 : zBl := fun jp K => oInt 2147483647 <| oIret K
theorem s_X8_near_3 (d : Nat) : zPb l G gh (d + 5) n_X8_near p_X8_near 16 b_X8_near_3 := fun K jp hj =>
    z_iconst (n := -1) (zd (i := .iconst (-1)) (n := 1) (by decide +kernel)) (by decide +kernel) <|
    z_iret (zd (i := .ireturn) (n := 1) (by decide +kernel)) rfl
noncomputable def b_X8_near_4 : zBl := fun jp K => oAld 0 <| oGetR 8 12 <| oAld 0 <| oGetR 8 2 <| oGetI 4 0 <| oCv 0 1 f_X0_heat <| oIst 3 <| oInt 2147483646 <| oIst 4 <| oInt 2147483668 <| oIst 5 <| oInt 2147483648 <| oIst 6 <| jp 5
theorem s_X8_near_4 (d : Nat) : zPb l G gh (d + 5) n_X8_near p_X8_near 18 b_X8_near_4 := fun K jp hj =>
    z_aload_n (n := 0) (i := 0) (zd (i := .aload_n 0) (n := 1) (by decide +kernel)) rfl <|
    z_getR (ci := 8) (j := 12) (idx := 71) (zd (i := .getfield 71) (n := 3) (by decide +kernel)) (by decide +kernel) (by decide +kernel) rfl g464 <|
    z_aload_n (n := 0) (i := 0) (zd (i := .aload_n 0) (n := 1) (by decide +kernel)) rfl <|
    z_getR (ci := 8) (j := 2) (idx := 26) (zd (i := .getfield 26) (n := 3) (by decide +kernel)) (by decide +kernel) (by decide +kernel) rfl g454 <|
    z_getI (ci := 4) (j := 0) (idx := 140) (zd (i := .getfield 140) (n := 3) (by decide +kernel)) (by decide +kernel) (by decide +kernel) rfl g368 <|
    z_callV (idx := 143) (ci := 0) (N := n_X0_heat) (zd (i := .invokevirtual 143) (n := 3) (by decide +kernel)) to_X0_heat g716 g717 g718 (by decide +kernel) rfl rfl rfl (c_X0_heat (l := l) (G := G) (gh := gh) d) <|
    z_istore_n (n := 3) (i := 3) (zd (i := .istore_n 3) (n := 1) (by decide +kernel)) rfl (by decide +kernel) <|
    z_bipush (n := -2) (zd (i := .bipush (-2)) (n := 2) (by decide +kernel)) (by decide +kernel) <|
    z_istore (i := 4) (zd (i := .istore 4) (n := 2) (by decide +kernel)) (by decide +kernel) <|
    z_bipush (n := 20) (zd (i := .bipush (20)) (n := 2) (by decide +kernel)) (by decide +kernel) <|
    z_istore (i := 5) (zd (i := .istore 5) (n := 2) (by decide +kernel)) (by decide +kernel) <|
    z_iconst (n := 0) (zd (i := .iconst (0)) (n := 1) (by decide +kernel)) (by decide +kernel) <|
    z_istore (i := 6) (zd (i := .istore 6) (n := 2) (by decide +kernel)) (by decide +kernel) <|
    (zj (hj 5) (by decide +kernel))
noncomputable def b_X8_near_5 : zBl := fun jp K => oIld 6 <| oAld 0 <| oGetR 8 12 <| oGetI 0 2 <| oIc zge zlt (jp 6) (oFail)
theorem s_X8_near_5 (d : Nat) : zPb l G gh (d + 5) n_X8_near p_X8_near 44 b_X8_near_5 := fun K jp hj =>
    z_iload (i := 6) (zd (i := .iload 6) (n := 2) (by decide +kernel)) <|
    z_aload_n (n := 0) (i := 0) (zd (i := .aload_n 0) (n := 1) (by decide +kernel)) rfl <|
    z_getR (ci := 8) (j := 12) (idx := 71) (zd (i := .getfield 71) (n := 3) (by decide +kernel)) (by decide +kernel) (by decide +kernel) rfl g464 <|
    z_getI (ci := 0) (j := 2) (idx := 236) (zd (i := .getfield 236) (n := 3) (by decide +kernel)) (by decide +kernel) (by decide +kernel) rfl g280 <|
    z_icmp_ge (off := 60) (tgt := 113) (zd (i := .if_icmp .ge (60)) (n := 3) (by decide +kernel)) (by decide +kernel) (zj (hj 6) (by decide +kernel)) z_fail
noncomputable def b_X8_near_6 : zBl := fun jp K => oIld 2 <| oIf zeq zne (jp 8) (jp 7)
theorem s_X8_near_6 (d : Nat) : zPb l G gh (d + 5) n_X8_near p_X8_near 113 b_X8_near_6 := fun K jp hj =>
    z_iload_n (n := 2) (i := 2) (zd (i := .iload_n 2) (n := 1) (by decide +kernel)) rfl <|
    z_if_eq (off := 10) (tgt := 124) (zd (i := .ifCond .eq (10)) (n := 3) (by decide +kernel)) (by decide +kernel) (zj (hj 8) (by decide +kernel)) (zj (hj 7) (by decide +kernel))
noncomputable def b_X8_near_7 : zBl := fun jp K => oIld 4 <| oInt 2147483646 <| oIc zne zeq (oFail) (jp 8)
theorem s_X8_near_7 (d : Nat) : zPb l G gh (d + 5) n_X8_near p_X8_near 117 b_X8_near_7 := fun K jp hj =>
    z_iload (i := 4) (zd (i := .iload 4) (n := 2) (by decide +kernel)) <|
    z_bipush (n := -2) (zd (i := .bipush (-2)) (n := 2) (by decide +kernel)) (by decide +kernel) <|
    z_icmp_ne (off := 8) (tgt := 129) (zd (i := .if_icmp .ne (8)) (n := 3) (by decide +kernel)) (by decide +kernel) z_fail (zj (hj 8) (by decide +kernel))
noncomputable def b_X8_near_8 : zBl := fun jp K => oIld 4 <| jp 9
theorem s_X8_near_8 (d : Nat) : zPb l G gh (d + 5) n_X8_near p_X8_near 124 b_X8_near_8 := fun K jp hj =>
    z_iload (i := 4) (zd (i := .iload 4) (n := 2) (by decide +kernel)) <|
    z_goto (off := 5) (tgt := 131) (zd (i := .goto (5)) (n := 3) (by decide +kernel)) (by decide +kernel) (zj (hj 9) (by decide +kernel))
noncomputable def b_X8_near_9 : zBl := fun jp K => oIret K
theorem s_X8_near_9 (d : Nat) : zPb l G gh (d + 5) n_X8_near p_X8_near 131 b_X8_near_9 := fun K jp hj =>
    z_iret (zd (i := .ireturn) (n := 1) (by decide +kernel)) rfl
noncomputable def f_X8_near : zMt := zmet 8 [b_X8_near_0, b_X8_near_1, b_X8_near_2, b_X8_near_3, b_X8_near_4, b_X8_near_5, b_X8_near_6, b_X8_near_7, b_X8_near_8, b_X8_near_9]
theorem c_X8_near (d : Nat) : zC l G gh (d + 5) n_X8_near f_X8_near := zmet_ok (pcs := p_X8_near) (by decide) rfl rfl ⟨s_X8_near_0 d, s_X8_near_1 d, s_X8_near_2 d, s_X8_near_3 d, s_X8_near_4 d, s_X8_near_5 d, s_X8_near_6 d, s_X8_near_7 d, s_X8_near_8 d, s_X8_near_9 d, trivial⟩
def n_X9_near : qMn := (yX9_near, cX9_near, 7, (some Jvm.ClassFile.FieldType.int), 0, 0)
theorem to_X9_near : qTo n_X9_near 2 := ⟨g1616, g110, ⟨by decide, by decide, by decide +kernel⟩, by decide⟩
def p_X9_near : List Nat := [0, 7, 16, 18, 28, 98, 102, 106, 108]
noncomputable def b_X9_near_0 : zBl := fun jp K => oIld 1 <| oCs 1 f_X9_isX <| oIf zeq zne (jp 2) (jp 1)
theorem s_X9_near_0 (d : Nat) : zPb l G gh (d + 3) n_X9_near p_X9_near 0 b_X9_near_0 := fun K jp hj =>
    z_iload_n (n := 1) (i := 1) (zd (i := .iload_n 1) (n := 1) (by decide +kernel)) rfl <|
    z_callS (idx := 387) (N := n_X9_isX) (zd (i := .invokestatic 387) (n := 3) (by decide +kernel)) to_X9_isX g1507 g1508 rfl rfl (c_X9_isX (l := l) (G := G) (gh := gh) d) <|
    z_if_eq (off := 12) (tgt := 16) (zd (i := .ifCond .eq (12)) (n := 3) (by decide +kernel)) (by decide +kernel) (zj (hj 2) (by decide +kernel)) (zj (hj 1) (by decide +kernel))
noncomputable def b_X9_near_1 : zBl := fun jp K => oIld 2 <| oInt 2147483648 <| oInt 2147483649 <| oCs 3 f_X9_in <| oIf zne zeq (jp 3) (jp 2)
theorem s_X9_near_1 (d : Nat) : zPb l G gh (d + 3) n_X9_near p_X9_near 7 b_X9_near_1 := fun K jp hj =>
    z_iload_n (n := 2) (i := 2) (zd (i := .iload_n 2) (n := 1) (by decide +kernel)) rfl <|
    z_iconst (n := 0) (zd (i := .iconst (0)) (n := 1) (by decide +kernel)) (by decide +kernel) <|
    z_iconst (n := 1) (zd (i := .iconst (1)) (n := 1) (by decide +kernel)) (by decide +kernel) <|
    z_callS (idx := 304) (N := n_X9_in) (zd (i := .invokestatic 304) (n := 3) (by decide +kernel)) to_X9_in g1442 g1443 rfl rfl (c_X9_in (l := l) (G := G) (gh := gh) (d + 1)) <|
    z_if_ne (off := 5) (tgt := 18) (zd (i := .ifCond .ne (5)) (n := 3) (by decide +kernel)) (by decide +kernel) (zj (hj 3) (by decide +kernel)) (zj (hj 2) (by decide +kernel))
noncomputable def b_X9_near_2 : zBl := fun jp K => oInt 2147483647 <| oIret K
theorem s_X9_near_2 (d : Nat) : zPb l G gh (d + 3) n_X9_near p_X9_near 16 b_X9_near_2 := fun K jp hj =>
    z_iconst (n := -1) (zd (i := .iconst (-1)) (n := 1) (by decide +kernel)) (by decide +kernel) <|
    z_iret (zd (i := .ireturn) (n := 1) (by decide +kernel)) rfl
noncomputable def b_X9_near_3 : zBl := fun jp K => oInt 2147483646 <| oIst 3 <| oInt 2147483646 <| oIst 4 <| oInt 2147483648 <| oIst 5 <| jp 4
theorem s_X9_near_3 (d : Nat) : zPb l G gh (d + 3) n_X9_near p_X9_near 18 b_X9_near_3 := fun K jp hj =>
    z_bipush (n := -2) (zd (i := .bipush (-2)) (n := 2) (by decide +kernel)) (by decide +kernel) <|
    z_istore_n (n := 3) (i := 3) (zd (i := .istore_n 3) (n := 1) (by decide +kernel)) rfl (by decide +kernel) <|
    z_bipush (n := -2) (zd (i := .bipush (-2)) (n := 2) (by decide +kernel)) (by decide +kernel) <|
    z_istore (i := 4) (zd (i := .istore 4) (n := 2) (by decide +kernel)) (by decide +kernel) <|
    z_iconst (n := 0) (zd (i := .iconst (0)) (n := 1) (by decide +kernel)) (by decide +kernel) <|
    z_istore (i := 5) (zd (i := .istore 5) (n := 2) (by decide +kernel)) (by decide +kernel) <|
    (zj (hj 4) (by decide +kernel))
noncomputable def b_X9_near_4 : zBl := fun jp K => oIld 5 <| oAld 0 <| oGetR 9 22 <| oAld 0 <| oGetI 9 18 <| oXald 10 <| oIc zge zlt (jp 5) (oFail)
theorem s_X9_near_4 (d : Nat) : zPb l G gh (d + 3) n_X9_near p_X9_near 28 b_X9_near_4 := fun K jp hj =>
    z_iload (i := 5) (zd (i := .iload 5) (n := 2) (by decide +kernel)) <|
    z_aload_n (n := 0) (i := 0) (zd (i := .aload_n 0) (n := 1) (by decide +kernel)) rfl <|
    z_getR (ci := 9) (j := 22) (idx := 43) (zd (i := .getfield 43) (n := 3) (by decide +kernel)) (by decide +kernel) (by decide +kernel) rfl g1150 <|
    z_aload_n (n := 0) (i := 0) (zd (i := .aload_n 0) (n := 1) (by decide +kernel)) rfl <|
    z_getI (ci := 9) (j := 18) (idx := 230) (zd (i := .getfield 230) (n := 3) (by decide +kernel)) (by decide +kernel) (by decide +kernel) rfl g1146 <|
    z_iald (zd (i := .iaload) (n := 1) (by decide +kernel)) <|
    z_icmp_ge (off := 59) (tgt := 98) (zd (i := .if_icmp .ge (59)) (n := 3) (by decide +kernel)) (by decide +kernel) (zj (hj 5) (by decide +kernel)) z_fail
noncomputable def b_X9_near_5 : zBl := fun jp K => oIld 2 <| oIf zne zeq (jp 7) (jp 6)
theorem s_X9_near_5 (d : Nat) : zPb l G gh (d + 3) n_X9_near p_X9_near 98 b_X9_near_5 := fun K jp hj =>
    z_iload_n (n := 2) (i := 2) (zd (i := .iload_n 2) (n := 1) (by decide +kernel)) rfl <|
    z_if_ne (off := 7) (tgt := 106) (zd (i := .ifCond .ne (7)) (n := 3) (by decide +kernel)) (by decide +kernel) (zj (hj 7) (by decide +kernel)) (zj (hj 6) (by decide +kernel))
noncomputable def b_X9_near_6 : zBl := fun jp K => oIld 3 <| jp 8
theorem s_X9_near_6 (d : Nat) : zPb l G gh (d + 3) n_X9_near p_X9_near 102 b_X9_near_6 := fun K jp hj =>
    z_iload_n (n := 3) (i := 3) (zd (i := .iload_n 3) (n := 1) (by decide +kernel)) rfl <|
    z_goto (off := 5) (tgt := 108) (zd (i := .goto (5)) (n := 3) (by decide +kernel)) (by decide +kernel) (zj (hj 8) (by decide +kernel))
noncomputable def b_X9_near_7 : zBl := fun jp K => oIld 4 <| jp 8
theorem s_X9_near_7 (d : Nat) : zPb l G gh (d + 3) n_X9_near p_X9_near 106 b_X9_near_7 := fun K jp hj =>
    z_iload (i := 4) (zd (i := .iload 4) (n := 2) (by decide +kernel)) <|
    (zj (hj 8) (by decide +kernel))
noncomputable def b_X9_near_8 : zBl := fun jp K => oIret K
theorem s_X9_near_8 (d : Nat) : zPb l G gh (d + 3) n_X9_near p_X9_near 108 b_X9_near_8 := fun K jp hj =>
    z_iret (zd (i := .ireturn) (n := 1) (by decide +kernel)) rfl
noncomputable def f_X9_near : zMt := zmet 7 [b_X9_near_0, b_X9_near_1, b_X9_near_2, b_X9_near_3, b_X9_near_4, b_X9_near_5, b_X9_near_6, b_X9_near_7, b_X9_near_8]
theorem c_X9_near (d : Nat) : zC l G gh (d + 3) n_X9_near f_X9_near := zmet_ok (pcs := p_X9_near) (by decide) rfl rfl ⟨s_X9_near_0 d, s_X9_near_1 d, s_X9_near_2 d, s_X9_near_3 d, s_X9_near_4 d, s_X9_near_5 d, s_X9_near_6 d, s_X9_near_7 d, s_X9_near_8 d, trivial⟩
def n_X8_crowd : qMn := (yX8_crowd, cX8_crowd, 6, (some Jvm.ClassFile.FieldType.int), 0, 0)
theorem to_X8_crowd : qTo n_X8_crowd 1 := ⟨g947, g97, ⟨by decide, by decide, by decide +kernel⟩, by decide⟩
def p_X8_crowd : List Nat := [0, 7, 9, 29, 106]
noncomputable def b_X8_crowd_0 : zBl := fun jp K => oIld 1 <| oCs 1 f_X8_isX <| oIf zne zeq (jp 2) (jp 1)
theorem s_X8_crowd_0 (d : Nat) : zPb l G gh (d + 5) n_X8_crowd p_X8_crowd 0 b_X8_crowd_0 := fun K jp hj =>
    z_iload_n (n := 1) (i := 1) (zd (i := .iload_n 1) (n := 1) (by decide +kernel)) rfl <|
    z_callS (idx := 175) (N := n_X8_isX) (zd (i := .invokestatic 175) (n := 3) (by decide +kernel)) to_X8_isX g805 g806 rfl rfl (c_X8_isX (l := l) (G := G) (gh := gh) (d + 3)) <|
    z_if_ne (off := 5) (tgt := 9) (zd (i := .ifCond .ne (5)) (n := 3) (by decide +kernel)) (by decide +kernel) (zj (hj 2) (by decide +kernel)) (zj (hj 1) (by decide +kernel))
noncomputable def b_X8_crowd_1 : zBl := fun jp K => oInt 2147483647 <| oIret K
theorem s_X8_crowd_1 (d : Nat) : zPb l G gh (d + 5) n_X8_crowd p_X8_crowd 7 b_X8_crowd_1 := fun K jp hj =>
    z_iconst (n := -1) (zd (i := .iconst (-1)) (n := 1) (by decide +kernel)) (by decide +kernel) <|
    z_iret (zd (i := .ireturn) (n := 1) (by decide +kernel)) rfl
noncomputable def b_X8_crowd_2 : zBl := fun jp K => oAld 0 <| oGetR 8 12 <| oAld 0 <| oGetR 8 2 <| oGetI 4 0 <| oCv 0 1 f_X0_heat <| oIst 2 <| oInt 2147483648 <| oIst 3 <| oInt 2147483648 <| oIst 4 <| jp 3
theorem s_X8_crowd_2 (d : Nat) : zPb l G gh (d + 5) n_X8_crowd p_X8_crowd 9 b_X8_crowd_2 := fun K jp hj =>
    z_aload_n (n := 0) (i := 0) (zd (i := .aload_n 0) (n := 1) (by decide +kernel)) rfl <|
    z_getR (ci := 8) (j := 12) (idx := 71) (zd (i := .getfield 71) (n := 3) (by decide +kernel)) (by decide +kernel) (by decide +kernel) rfl g464 <|
    z_aload_n (n := 0) (i := 0) (zd (i := .aload_n 0) (n := 1) (by decide +kernel)) rfl <|
    z_getR (ci := 8) (j := 2) (idx := 26) (zd (i := .getfield 26) (n := 3) (by decide +kernel)) (by decide +kernel) (by decide +kernel) rfl g454 <|
    z_getI (ci := 4) (j := 0) (idx := 140) (zd (i := .getfield 140) (n := 3) (by decide +kernel)) (by decide +kernel) (by decide +kernel) rfl g368 <|
    z_callV (idx := 143) (ci := 0) (N := n_X0_heat) (zd (i := .invokevirtual 143) (n := 3) (by decide +kernel)) to_X0_heat g716 g717 g718 (by decide +kernel) rfl rfl rfl (c_X0_heat (l := l) (G := G) (gh := gh) d) <|
    z_istore_n (n := 2) (i := 2) (zd (i := .istore_n 2) (n := 1) (by decide +kernel)) rfl (by decide +kernel) <|
    z_iconst (n := 0) (zd (i := .iconst (0)) (n := 1) (by decide +kernel)) (by decide +kernel) <|
    z_istore_n (n := 3) (i := 3) (zd (i := .istore_n 3) (n := 1) (by decide +kernel)) rfl (by decide +kernel) <|
    z_iconst (n := 0) (zd (i := .iconst (0)) (n := 1) (by decide +kernel)) (by decide +kernel) <|
    z_istore (i := 4) (zd (i := .istore 4) (n := 2) (by decide +kernel)) (by decide +kernel) <|
    (zj (hj 3) (by decide +kernel))
noncomputable def b_X8_crowd_3 : zBl := fun jp K => oIld 4 <| oAld 0 <| oGetR 8 12 <| oGetI 0 5 <| oIc zge zlt (jp 4) (oFail)
theorem s_X8_crowd_3 (d : Nat) : zPb l G gh (d + 5) n_X8_crowd p_X8_crowd 29 b_X8_crowd_3 := fun K jp hj =>
    z_iload (i := 4) (zd (i := .iload 4) (n := 2) (by decide +kernel)) <|
    z_aload_n (n := 0) (i := 0) (zd (i := .aload_n 0) (n := 1) (by decide +kernel)) rfl <|
    z_getR (ci := 8) (j := 12) (idx := 71) (zd (i := .getfield 71) (n := 3) (by decide +kernel)) (by decide +kernel) (by decide +kernel) rfl g464 <|
    z_getI (ci := 0) (j := 5) (idx := 230) (zd (i := .getfield 230) (n := 3) (by decide +kernel)) (by decide +kernel) (by decide +kernel) rfl g288 <|
    z_icmp_ge (off := 68) (tgt := 106) (zd (i := .if_icmp .ge (68)) (n := 3) (by decide +kernel)) (by decide +kernel) (zj (hj 4) (by decide +kernel)) z_fail
noncomputable def b_X8_crowd_4 : zBl := fun jp K => oIld 3 <| oIret K
theorem s_X8_crowd_4 (d : Nat) : zPb l G gh (d + 5) n_X8_crowd p_X8_crowd 106 b_X8_crowd_4 := fun K jp hj =>
    z_iload_n (n := 3) (i := 3) (zd (i := .iload_n 3) (n := 1) (by decide +kernel)) rfl <|
    z_iret (zd (i := .ireturn) (n := 1) (by decide +kernel)) rfl
noncomputable def f_X8_crowd : zMt := zmet 6 [b_X8_crowd_0, b_X8_crowd_1, b_X8_crowd_2, b_X8_crowd_3, b_X8_crowd_4]
theorem c_X8_crowd (d : Nat) : zC l G gh (d + 5) n_X8_crowd f_X8_crowd := zmet_ok (pcs := p_X8_crowd) (by decide) rfl rfl ⟨s_X8_crowd_0 d, s_X8_crowd_1 d, s_X8_crowd_2 d, s_X8_crowd_3 d, s_X8_crowd_4 d, trivial⟩
def n_X9_crowd : qMn := (yX9_crowd, cX9_crowd, 5, (some Jvm.ClassFile.FieldType.int), 0, 0)
theorem to_X9_crowd : qTo n_X9_crowd 1 := ⟨g1620, g110, ⟨by decide, by decide, by decide +kernel⟩, by decide⟩
def p_X9_crowd : List Nat := [0, 7, 9, 17, 89]
noncomputable def b_X9_crowd_0 : zBl := fun jp K => oIld 1 <| oCs 1 f_X9_isX <| oIf zne zeq (jp 2) (jp 1)
theorem s_X9_crowd_0 (d : Nat) : zPb l G gh (d + 3) n_X9_crowd p_X9_crowd 0 b_X9_crowd_0 := fun K jp hj =>
    z_iload_n (n := 1) (i := 1) (zd (i := .iload_n 1) (n := 1) (by decide +kernel)) rfl <|
    z_callS (idx := 387) (N := n_X9_isX) (zd (i := .invokestatic 387) (n := 3) (by decide +kernel)) to_X9_isX g1507 g1508 rfl rfl (c_X9_isX (l := l) (G := G) (gh := gh) d) <|
    z_if_ne (off := 5) (tgt := 9) (zd (i := .ifCond .ne (5)) (n := 3) (by decide +kernel)) (by decide +kernel) (zj (hj 2) (by decide +kernel)) (zj (hj 1) (by decide +kernel))
noncomputable def b_X9_crowd_1 : zBl := fun jp K => oInt 2147483647 <| oIret K
theorem s_X9_crowd_1 (d : Nat) : zPb l G gh (d + 3) n_X9_crowd p_X9_crowd 7 b_X9_crowd_1 := fun K jp hj =>
    z_iconst (n := -1) (zd (i := .iconst (-1)) (n := 1) (by decide +kernel)) (by decide +kernel) <|
    z_iret (zd (i := .ireturn) (n := 1) (by decide +kernel)) rfl
noncomputable def b_X9_crowd_2 : zBl := fun jp K => oAld 0 <| oCv 9 0 f_X9_copies <| oInt 2147483648 <| oIst 2 <| oInt 2147483648 <| oIst 3 <| jp 3
theorem s_X9_crowd_2 (d : Nat) : zPb l G gh (d + 3) n_X9_crowd p_X9_crowd 9 b_X9_crowd_2 := fun K jp hj =>
    z_aload_n (n := 0) (i := 0) (zd (i := .aload_n 0) (n := 1) (by decide +kernel)) rfl <|
    z_callV (idx := 375) (ci := 9) (N := n_X9_copies) (zd (i := .invokevirtual 375) (n := 3) (by decide +kernel)) to_X9_copies g1445 g1447 g67 (by decide +kernel) rfl rfl rfl (c_X9_copies (l := l) (G := G) (gh := gh) (d + 1)) <|
    z_iconst (n := 0) (zd (i := .iconst (0)) (n := 1) (by decide +kernel)) (by decide +kernel) <|
    z_istore_n (n := 2) (i := 2) (zd (i := .istore_n 2) (n := 1) (by decide +kernel)) rfl (by decide +kernel) <|
    z_iconst (n := 0) (zd (i := .iconst (0)) (n := 1) (by decide +kernel)) (by decide +kernel) <|
    z_istore_n (n := 3) (i := 3) (zd (i := .istore_n 3) (n := 1) (by decide +kernel)) rfl (by decide +kernel) <|
    (zj (hj 3) (by decide +kernel))
noncomputable def b_X9_crowd_3 : zBl := fun jp K => oIld 3 <| oAld 0 <| oGetR 9 25 <| oAld 0 <| oGetI 9 18 <| oXald 10 <| oIc zge zlt (jp 4) (oFail)
theorem s_X9_crowd_3 (d : Nat) : zPb l G gh (d + 3) n_X9_crowd p_X9_crowd 17 b_X9_crowd_3 := fun K jp hj =>
    z_iload_n (n := 3) (i := 3) (zd (i := .iload_n 3) (n := 1) (by decide +kernel)) rfl <|
    z_aload_n (n := 0) (i := 0) (zd (i := .aload_n 0) (n := 1) (by decide +kernel)) rfl <|
    z_getR (ci := 9) (j := 25) (idx := 52) (zd (i := .getfield 52) (n := 3) (by decide +kernel)) (by decide +kernel) (by decide +kernel) rfl g1153 <|
    z_aload_n (n := 0) (i := 0) (zd (i := .aload_n 0) (n := 1) (by decide +kernel)) rfl <|
    z_getI (ci := 9) (j := 18) (idx := 230) (zd (i := .getfield 230) (n := 3) (by decide +kernel)) (by decide +kernel) (by decide +kernel) rfl g1146 <|
    z_iald (zd (i := .iaload) (n := 1) (by decide +kernel)) <|
    z_icmp_ge (off := 62) (tgt := 89) (zd (i := .if_icmp .ge (62)) (n := 3) (by decide +kernel)) (by decide +kernel) (zj (hj 4) (by decide +kernel)) z_fail
noncomputable def b_X9_crowd_4 : zBl := fun jp K => oIld 2 <| oIret K
theorem s_X9_crowd_4 (d : Nat) : zPb l G gh (d + 3) n_X9_crowd p_X9_crowd 89 b_X9_crowd_4 := fun K jp hj =>
    z_iload_n (n := 2) (i := 2) (zd (i := .iload_n 2) (n := 1) (by decide +kernel)) rfl <|
    z_iret (zd (i := .ireturn) (n := 1) (by decide +kernel)) rfl
noncomputable def f_X9_crowd : zMt := zmet 5 [b_X9_crowd_0, b_X9_crowd_1, b_X9_crowd_2, b_X9_crowd_3, b_X9_crowd_4]
theorem c_X9_crowd (d : Nat) : zC l G gh (d + 3) n_X9_crowd f_X9_crowd := zmet_ok (pcs := p_X9_crowd) (by decide) rfl rfl ⟨s_X9_crowd_0 d, s_X9_crowd_1 d, s_X9_crowd_2 d, s_X9_crowd_3 d, s_X9_crowd_4 d, trivial⟩
def n_X8_rich : qMn := (yX8_rich, cX8_rich, 5, (some Jvm.ClassFile.FieldType.int), 0, 0)
theorem to_X8_rich : qTo n_X8_rich 2 := ⟨g951, g97, ⟨by decide, by decide, by decide +kernel⟩, by decide⟩
def p_X8_rich : List Nat := [0, 7, 11, 16, 18, 28]
noncomputable def b_X8_rich_0 : zBl := fun jp K => oIld 1 <| oCs 1 f_X8_isAhead <| oIf zeq zne (jp 3) (jp 1)
theorem s_X8_rich_0 (d : Nat) : zPb l G gh (d + 2) n_X8_rich p_X8_rich 0 b_X8_rich_0 := fun K jp hj =>
    z_iload_n (n := 1) (i := 1) (zd (i := .iload_n 1) (n := 1) (by decide +kernel)) rfl <|
    z_callS (idx := 207) (N := n_X8_isAhead) (zd (i := .invokestatic 207) (n := 3) (by decide +kernel)) to_X8_isAhead g862 g863 rfl rfl (c_X8_isAhead (l := l) (G := G) (gh := gh) d) <|
    z_if_eq (off := 12) (tgt := 16) (zd (i := .ifCond .eq (12)) (n := 3) (by decide +kernel)) (by decide +kernel) (zj (hj 3) (by decide +kernel)) (zj (hj 1) (by decide +kernel))
noncomputable def b_X8_rich_1 : zBl := fun jp K => oIld 2 <| oIf zlt zge (jp 3) (jp 2)
theorem s_X8_rich_1 (d : Nat) : zPb l G gh (d + 2) n_X8_rich p_X8_rich 7 b_X8_rich_1 := fun K jp hj =>
    z_iload_n (n := 2) (i := 2) (zd (i := .iload_n 2) (n := 1) (by decide +kernel)) rfl <|
    z_if_lt (off := 8) (tgt := 16) (zd (i := .ifCond .lt (8)) (n := 3) (by decide +kernel)) (by decide +kernel) (zj (hj 3) (by decide +kernel)) (zj (hj 2) (by decide +kernel))
noncomputable def b_X8_rich_2 : zBl := fun jp K => oIld 2 <| oInt 2147483649 <| oIc zle zgt (jp 4) (jp 3)
theorem s_X8_rich_2 (d : Nat) : zPb l G gh (d + 2) n_X8_rich p_X8_rich 11 b_X8_rich_2 := fun K jp hj =>
    z_iload_n (n := 2) (i := 2) (zd (i := .iload_n 2) (n := 1) (by decide +kernel)) rfl <|
    z_iconst (n := 1) (zd (i := .iconst (1)) (n := 1) (by decide +kernel)) (by decide +kernel) <|
    z_icmp_le (off := 5) (tgt := 18) (zd (i := .if_icmp .le (5)) (n := 3) (by decide +kernel)) (by decide +kernel) (zj (hj 4) (by decide +kernel)) (zj (hj 3) (by decide +kernel))
noncomputable def b_X8_rich_3 : zBl := fun jp K => oInt 2147483647 <| oIret K
theorem s_X8_rich_3 (d : Nat) : zPb l G gh (d + 2) n_X8_rich p_X8_rich 16 b_X8_rich_3 := fun K jp hj =>
    z_iconst (n := -1) (zd (i := .iconst (-1)) (n := 1) (by decide +kernel)) (by decide +kernel) <|
    z_iret (zd (i := .ireturn) (n := 1) (by decide +kernel)) rfl
noncomputable def b_X8_rich_4 : zBl := fun jp K => oAld 0 <| oGetR 8 12 <| oGetI 0 5 <| oIf zne zeq (oFail) (jp 5)
theorem s_X8_rich_4 (d : Nat) : zPb l G gh (d + 2) n_X8_rich p_X8_rich 18 b_X8_rich_4 := fun K jp hj =>
    z_aload_n (n := 0) (i := 0) (zd (i := .aload_n 0) (n := 1) (by decide +kernel)) rfl <|
    z_getR (ci := 8) (j := 12) (idx := 71) (zd (i := .getfield 71) (n := 3) (by decide +kernel)) (by decide +kernel) (by decide +kernel) rfl g464 <|
    z_getI (ci := 0) (j := 5) (idx := 230) (zd (i := .getfield 230) (n := 3) (by decide +kernel)) (by decide +kernel) (by decide +kernel) rfl g288 <|
    z_if_ne (off := 6) (tgt := 31) (zd (i := .ifCond .ne (6)) (n := 3) (by decide +kernel)) (by decide +kernel) z_fail (zj (hj 5) (by decide +kernel))
noncomputable def b_X8_rich_5 : zBl := fun jp K => oInt 2147483646 <| oIret K
theorem s_X8_rich_5 (d : Nat) : zPb l G gh (d + 2) n_X8_rich p_X8_rich 28 b_X8_rich_5 := fun K jp hj =>
    z_bipush (n := -2) (zd (i := .bipush (-2)) (n := 2) (by decide +kernel)) (by decide +kernel) <|
    z_iret (zd (i := .ireturn) (n := 1) (by decide +kernel)) rfl
noncomputable def f_X8_rich : zMt := zmet 5 [b_X8_rich_0, b_X8_rich_1, b_X8_rich_2, b_X8_rich_3, b_X8_rich_4, b_X8_rich_5]
theorem c_X8_rich (d : Nat) : zC l G gh (d + 2) n_X8_rich f_X8_rich := zmet_ok (pcs := p_X8_rich) (by decide) rfl rfl ⟨s_X8_rich_0 d, s_X8_rich_1 d, s_X8_rich_2 d, s_X8_rich_3 d, s_X8_rich_4 d, s_X8_rich_5 d, trivial⟩
def n_X9_rich : qMn := (yX9_rich, cX9_rich, 7, (some Jvm.ClassFile.FieldType.int), 0, 0)
theorem to_X9_rich : qTo n_X9_rich 2 := ⟨g1648, g110, ⟨by decide, by decide, by decide +kernel⟩, by decide⟩
def p_X9_rich : List Nat := [0, 7, 16, 18, 37, 93, 97, 101, 103]
noncomputable def b_X9_rich_0 : zBl := fun jp K => oIld 1 <| oCs 1 f_X9_isLong <| oIf zeq zne (jp 2) (jp 1)
theorem s_X9_rich_0 (d : Nat) : zPb l G gh (d + 5) n_X9_rich p_X9_rich 0 b_X9_rich_0 := fun K jp hj =>
    z_iload_n (n := 1) (i := 1) (zd (i := .iload_n 1) (n := 1) (by decide +kernel)) rfl <|
    z_callS (idx := 393) (N := n_X9_isLong) (zd (i := .invokestatic 393) (n := 3) (by decide +kernel)) to_X9_isLong g1543 g1544 rfl rfl (c_X9_isLong (l := l) (G := G) (gh := gh) (d + 2)) <|
    z_if_eq (off := 12) (tgt := 16) (zd (i := .ifCond .eq (12)) (n := 3) (by decide +kernel)) (by decide +kernel) (zj (hj 2) (by decide +kernel)) (zj (hj 1) (by decide +kernel))
noncomputable def b_X9_rich_1 : zBl := fun jp K => oIld 2 <| oInt 2147483648 <| oInt 2147483649 <| oCs 3 f_X9_in <| oIf zne zeq (jp 3) (jp 2)
theorem s_X9_rich_1 (d : Nat) : zPb l G gh (d + 5) n_X9_rich p_X9_rich 7 b_X9_rich_1 := fun K jp hj =>
    z_iload_n (n := 2) (i := 2) (zd (i := .iload_n 2) (n := 1) (by decide +kernel)) rfl <|
    z_iconst (n := 0) (zd (i := .iconst (0)) (n := 1) (by decide +kernel)) (by decide +kernel) <|
    z_iconst (n := 1) (zd (i := .iconst (1)) (n := 1) (by decide +kernel)) (by decide +kernel) <|
    z_callS (idx := 304) (N := n_X9_in) (zd (i := .invokestatic 304) (n := 3) (by decide +kernel)) to_X9_in g1442 g1443 rfl rfl (c_X9_in (l := l) (G := G) (gh := gh) (d + 3)) <|
    z_if_ne (off := 5) (tgt := 18) (zd (i := .ifCond .ne (5)) (n := 3) (by decide +kernel)) (by decide +kernel) (zj (hj 3) (by decide +kernel)) (zj (hj 2) (by decide +kernel))
noncomputable def b_X9_rich_2 : zBl := fun jp K => oInt 2147483647 <| oIret K
theorem s_X9_rich_2 (d : Nat) : zPb l G gh (d + 5) n_X9_rich p_X9_rich 16 b_X9_rich_2 := fun K jp hj =>
    z_iconst (n := -1) (zd (i := .iconst (-1)) (n := 1) (by decide +kernel)) (by decide +kernel) <|
    z_iret (zd (i := .ireturn) (n := 1) (by decide +kernel)) rfl
noncomputable def b_X9_rich_3 : zBl := fun jp K => oAld 0 <| oCv 9 0 f_X9_copies <| oAld 0 <| oIld 1 <| oCv 9 1 f_X9_goes <| oInt 2147483646 <| oIst 3 <| oInt 2147483646 <| oIst 4 <| oInt 2147483648 <| oIst 5 <| jp 4
theorem s_X9_rich_3 (d : Nat) : zPb l G gh (d + 5) n_X9_rich p_X9_rich 18 b_X9_rich_3 := fun K jp hj =>
    z_aload_n (n := 0) (i := 0) (zd (i := .aload_n 0) (n := 1) (by decide +kernel)) rfl <|
    z_callV (idx := 375) (ci := 9) (N := n_X9_copies) (zd (i := .invokevirtual 375) (n := 3) (by decide +kernel)) to_X9_copies g1445 g1447 g67 (by decide +kernel) rfl rfl rfl (c_X9_copies (l := l) (G := G) (gh := gh) (d + 3)) <|
    z_aload_n (n := 0) (i := 0) (zd (i := .aload_n 0) (n := 1) (by decide +kernel)) rfl <|
    z_iload_n (n := 1) (i := 1) (zd (i := .iload_n 1) (n := 1) (by decide +kernel)) rfl <|
    z_callV (idx := 396) (ci := 9) (N := n_X9_goes) (zd (i := .invokevirtual 396) (n := 3) (by decide +kernel)) to_X9_goes g1546 g1548 g82 (by decide +kernel) rfl rfl rfl (c_X9_goes (l := l) (G := G) (gh := gh) d) <|
    z_bipush (n := -2) (zd (i := .bipush (-2)) (n := 2) (by decide +kernel)) (by decide +kernel) <|
    z_istore_n (n := 3) (i := 3) (zd (i := .istore_n 3) (n := 1) (by decide +kernel)) rfl (by decide +kernel) <|
    z_bipush (n := -2) (zd (i := .bipush (-2)) (n := 2) (by decide +kernel)) (by decide +kernel) <|
    z_istore (i := 4) (zd (i := .istore 4) (n := 2) (by decide +kernel)) (by decide +kernel) <|
    z_iconst (n := 0) (zd (i := .iconst (0)) (n := 1) (by decide +kernel)) (by decide +kernel) <|
    z_istore (i := 5) (zd (i := .istore 5) (n := 2) (by decide +kernel)) (by decide +kernel) <|
    (zj (hj 4) (by decide +kernel))
noncomputable def b_X9_rich_4 : zBl := fun jp K => oIld 5 <| oAld 0 <| oGetR 9 25 <| oAld 0 <| oGetI 9 18 <| oXald 10 <| oIc zge zlt (jp 5) (oFail)
theorem s_X9_rich_4 (d : Nat) : zPb l G gh (d + 5) n_X9_rich p_X9_rich 37 b_X9_rich_4 := fun K jp hj =>
    z_iload (i := 5) (zd (i := .iload 5) (n := 2) (by decide +kernel)) <|
    z_aload_n (n := 0) (i := 0) (zd (i := .aload_n 0) (n := 1) (by decide +kernel)) rfl <|
    z_getR (ci := 9) (j := 25) (idx := 52) (zd (i := .getfield 52) (n := 3) (by decide +kernel)) (by decide +kernel) (by decide +kernel) rfl g1153 <|
    z_aload_n (n := 0) (i := 0) (zd (i := .aload_n 0) (n := 1) (by decide +kernel)) rfl <|
    z_getI (ci := 9) (j := 18) (idx := 230) (zd (i := .getfield 230) (n := 3) (by decide +kernel)) (by decide +kernel) (by decide +kernel) rfl g1146 <|
    z_iald (zd (i := .iaload) (n := 1) (by decide +kernel)) <|
    z_icmp_ge (off := 45) (tgt := 93) (zd (i := .if_icmp .ge (45)) (n := 3) (by decide +kernel)) (by decide +kernel) (zj (hj 5) (by decide +kernel)) z_fail
noncomputable def b_X9_rich_5 : zBl := fun jp K => oIld 2 <| oIf zne zeq (jp 7) (jp 6)
theorem s_X9_rich_5 (d : Nat) : zPb l G gh (d + 5) n_X9_rich p_X9_rich 93 b_X9_rich_5 := fun K jp hj =>
    z_iload_n (n := 2) (i := 2) (zd (i := .iload_n 2) (n := 1) (by decide +kernel)) rfl <|
    z_if_ne (off := 7) (tgt := 101) (zd (i := .ifCond .ne (7)) (n := 3) (by decide +kernel)) (by decide +kernel) (zj (hj 7) (by decide +kernel)) (zj (hj 6) (by decide +kernel))
noncomputable def b_X9_rich_6 : zBl := fun jp K => oIld 3 <| jp 8
theorem s_X9_rich_6 (d : Nat) : zPb l G gh (d + 5) n_X9_rich p_X9_rich 97 b_X9_rich_6 := fun K jp hj =>
    z_iload_n (n := 3) (i := 3) (zd (i := .iload_n 3) (n := 1) (by decide +kernel)) rfl <|
    z_goto (off := 5) (tgt := 103) (zd (i := .goto (5)) (n := 3) (by decide +kernel)) (by decide +kernel) (zj (hj 8) (by decide +kernel))
noncomputable def b_X9_rich_7 : zBl := fun jp K => oIld 4 <| jp 8
theorem s_X9_rich_7 (d : Nat) : zPb l G gh (d + 5) n_X9_rich p_X9_rich 101 b_X9_rich_7 := fun K jp hj =>
    z_iload (i := 4) (zd (i := .iload 4) (n := 2) (by decide +kernel)) <|
    (zj (hj 8) (by decide +kernel))
noncomputable def b_X9_rich_8 : zBl := fun jp K => oIret K
theorem s_X9_rich_8 (d : Nat) : zPb l G gh (d + 5) n_X9_rich p_X9_rich 103 b_X9_rich_8 := fun K jp hj =>
    z_iret (zd (i := .ireturn) (n := 1) (by decide +kernel)) rfl
noncomputable def f_X9_rich : zMt := zmet 7 [b_X9_rich_0, b_X9_rich_1, b_X9_rich_2, b_X9_rich_3, b_X9_rich_4, b_X9_rich_5, b_X9_rich_6, b_X9_rich_7, b_X9_rich_8]
theorem c_X9_rich (d : Nat) : zC l G gh (d + 5) n_X9_rich f_X9_rich := zmet_ok (pcs := p_X9_rich) (by decide) rfl rfl ⟨s_X9_rich_0 d, s_X9_rich_1 d, s_X9_rich_2 d, s_X9_rich_3 d, s_X9_rich_4 d, s_X9_rich_5 d, s_X9_rich_6 d, s_X9_rich_7 d, s_X9_rich_8 d, trivial⟩
def n_X0_thingsSeenFrom : qMn := (yX0_thingsSeenFrom, cX0_thingsSeenFrom, 6, (some Jvm.ClassFile.FieldType.int), 0, 0)
theorem to_X0_thingsSeenFrom : qTo n_X0_thingsSeenFrom 3 := ⟨g782, g105, ⟨by decide, by decide, by decide +kernel⟩, by decide⟩
def p_X0_thingsSeenFrom : List Nat := [0, 6, 42]
noncomputable def b_X0_thingsSeenFrom_0 : zBl := fun jp K => oInt 2147483648 <| oIst 4 <| oInt 2147483648 <| oIst 5 <| jp 1
theorem s_X0_thingsSeenFrom_0 (d : Nat) : zPb l G gh (d + 1) n_X0_thingsSeenFrom p_X0_thingsSeenFrom 0 b_X0_thingsSeenFrom_0 := fun K jp hj =>
    z_iconst (n := 0) (zd (i := .iconst (0)) (n := 1) (by decide +kernel)) (by decide +kernel) <|
    z_istore (i := 4) (zd (i := .istore 4) (n := 2) (by decide +kernel)) (by decide +kernel) <|
    z_iconst (n := 0) (zd (i := .iconst (0)) (n := 1) (by decide +kernel)) (by decide +kernel) <|
    z_istore (i := 5) (zd (i := .istore 5) (n := 2) (by decide +kernel)) (by decide +kernel) <|
    (zj (hj 1) (by decide +kernel))
noncomputable def b_X0_thingsSeenFrom_1 : zBl := fun jp K => oIld 5 <| oAld 0 <| oGetI 0 2 <| oIc zge zlt (jp 2) (oFail)
theorem s_X0_thingsSeenFrom_1 (d : Nat) : zPb l G gh (d + 1) n_X0_thingsSeenFrom p_X0_thingsSeenFrom 6 b_X0_thingsSeenFrom_1 := fun K jp hj =>
    z_iload (i := 5) (zd (i := .iload 5) (n := 2) (by decide +kernel)) <|
    z_aload_n (n := 0) (i := 0) (zd (i := .aload_n 0) (n := 1) (by decide +kernel)) rfl <|
    z_getI (ci := 0) (j := 2) (idx := 19) (zd (i := .getfield 19) (n := 3) (by decide +kernel)) (by decide +kernel) (by decide +kernel) rfl g278 <|
    z_icmp_ge (off := 30) (tgt := 42) (zd (i := .if_icmp .ge (30)) (n := 3) (by decide +kernel)) (by decide +kernel) (zj (hj 2) (by decide +kernel)) z_fail
noncomputable def b_X0_thingsSeenFrom_2 : zBl := fun jp K => oIld 4 <| oIret K
theorem s_X0_thingsSeenFrom_2 (d : Nat) : zPb l G gh (d + 1) n_X0_thingsSeenFrom p_X0_thingsSeenFrom 42 b_X0_thingsSeenFrom_2 := fun K jp hj =>
    z_iload (i := 4) (zd (i := .iload 4) (n := 2) (by decide +kernel)) <|
    z_iret (zd (i := .ireturn) (n := 1) (by decide +kernel)) rfl
noncomputable def f_X0_thingsSeenFrom : zMt := zmet 6 [b_X0_thingsSeenFrom_0, b_X0_thingsSeenFrom_1, b_X0_thingsSeenFrom_2]
theorem c_X0_thingsSeenFrom (d : Nat) : zC l G gh (d + 1) n_X0_thingsSeenFrom f_X0_thingsSeenFrom := zmet_ok (pcs := p_X0_thingsSeenFrom) (by decide) rfl rfl ⟨s_X0_thingsSeenFrom_0 d, s_X0_thingsSeenFrom_1 d, s_X0_thingsSeenFrom_2 d, trivial⟩
def n_X8_thingsSeenFrom : qMn := (yX8_thingsSeenFrom, cX8_thingsSeenFrom, 3, (some Jvm.ClassFile.FieldType.int), 0, 0)
theorem to_X8_thingsSeenFrom : qTo n_X8_thingsSeenFrom 2 := ⟨g778, g97, ⟨by decide, by decide, by decide +kernel⟩, by decide⟩
def p_X8_thingsSeenFrom : List Nat := [0]
noncomputable def b_X8_thingsSeenFrom_0 : zBl := fun jp K => oAld 0 <| oGetR 8 12 <| oIld 1 <| oAld 0 <| oGetR 8 2 <| oGetI 4 0 <| oIld 2 <| oCv 0 3 f_X0_thingsSeenFrom <| oIret K
theorem s_X8_thingsSeenFrom_0 (d : Nat) : zPb l G gh (d + 2) n_X8_thingsSeenFrom p_X8_thingsSeenFrom 0 b_X8_thingsSeenFrom_0 := fun K jp hj =>
    z_aload_n (n := 0) (i := 0) (zd (i := .aload_n 0) (n := 1) (by decide +kernel)) rfl <|
    z_getR (ci := 8) (j := 12) (idx := 71) (zd (i := .getfield 71) (n := 3) (by decide +kernel)) (by decide +kernel) (by decide +kernel) rfl g464 <|
    z_iload_n (n := 1) (i := 1) (zd (i := .iload_n 1) (n := 1) (by decide +kernel)) rfl <|
    z_aload_n (n := 0) (i := 0) (zd (i := .aload_n 0) (n := 1) (by decide +kernel)) rfl <|
    z_getR (ci := 8) (j := 2) (idx := 26) (zd (i := .getfield 26) (n := 3) (by decide +kernel)) (by decide +kernel) (by decide +kernel) rfl g454 <|
    z_getI (ci := 4) (j := 0) (idx := 140) (zd (i := .getfield 140) (n := 3) (by decide +kernel)) (by decide +kernel) (by decide +kernel) rfl g368 <|
    z_iload_n (n := 2) (i := 2) (zd (i := .iload_n 2) (n := 1) (by decide +kernel)) rfl <|
    z_callV (idx := 336) (ci := 0) (N := n_X0_thingsSeenFrom) (zd (i := .invokevirtual 336) (n := 3) (by decide +kernel)) to_X0_thingsSeenFrom g779 g780 g781 (by decide +kernel) rfl rfl rfl (c_X0_thingsSeenFrom (l := l) (G := G) (gh := gh) d) <|
    z_iret (zd (i := .ireturn) (n := 1) (by decide +kernel)) rfl
noncomputable def f_X8_thingsSeenFrom : zMt := zmet 3 [b_X8_thingsSeenFrom_0]
theorem c_X8_thingsSeenFrom (d : Nat) : zC l G gh (d + 2) n_X8_thingsSeenFrom f_X8_thingsSeenFrom := zmet_ok (pcs := p_X8_thingsSeenFrom) (by decide) rfl rfl ⟨s_X8_thingsSeenFrom_0 d, trivial⟩
def n_J6_bitCount_0f7a4 : qMn := (yJ6_bitCount_0f7a4, cJ6_bitCount_0f7a4, 1, (some Jvm.ClassFile.FieldType.int), 0, 0)
theorem to_J6_bitCount_0f7a4 : qTo n_J6_bitCount_0f7a4 1 := ⟨g972, g114, ⟨by decide, by decide, by decide +kernel⟩, by decide⟩
def p_J6_bitCount_0f7a4 : List Nat := [0, 46]
noncomputable def b_J6_bitCount_0f7a4_0 : zBl := fun jp K => oIld 0 <| oIld 0 <| oInt 2147483649 <| oB2 ziushr <| oInt 3579139413 <| oB2 ziand <| oB2 zsub <| oIst 0 <| oIld 0 <| oInt 3006477107 <| oB2 ziand <| oIld 0 <| oInt 2147483650 <| oB2 ziushr <| oInt 3006477107 <| oB2 ziand <| oB2 zadd <| oIst 0 <| oIld 0 <| oIld 0 <| oInt 2147483652 <| oB2 ziushr <| oB2 zadd <| oInt 2400128783 <| oB2 ziand <| oIst 0 <| oIld 0 <| oIld 0 <| oInt 2147483656 <| oB2 ziushr <| oB2 zadd <| oIst 0 <| oIld 0 <| oIld 0 <| oInt 2147483664 <| oB2 ziushr <| jp 1
theorem s_J6_bitCount_0f7a4_0 (d : Nat) : zPb l G gh (d + 1) n_J6_bitCount_0f7a4 p_J6_bitCount_0f7a4 0 b_J6_bitCount_0f7a4_0 := fun K jp hj =>
    z_iload_n (n := 0) (i := 0) (zd (i := .iload_n 0) (n := 1) (by decide +kernel)) rfl <|
    z_iload_n (n := 0) (i := 0) (zd (i := .iload_n 0) (n := 1) (by decide +kernel)) rfl <|
    z_iconst (n := 1) (zd (i := .iconst (1)) (n := 1) (by decide +kernel)) (by decide +kernel) <|
    z_iushr (zd (i := .iushr) (n := 1) (by decide +kernel)) <|
    z_ldcw (n := 265) (zd (i := .ldc_w 265) (n := 3) (by decide +kernel)) g973 (by decide +kernel) <|
    z_iand (zd (i := .iand) (n := 1) (by decide +kernel)) <|
    z_isub (zd (i := .isub) (n := 1) (by decide +kernel)) <|
    z_istore_n (n := 0) (i := 0) (zd (i := .istore_n 0) (n := 1) (by decide +kernel)) rfl (by decide +kernel) <|
    z_iload_n (n := 0) (i := 0) (zd (i := .iload_n 0) (n := 1) (by decide +kernel)) rfl <|
    z_ldcw (n := 266) (zd (i := .ldc_w 266) (n := 3) (by decide +kernel)) g974 (by decide +kernel) <|
    z_iand (zd (i := .iand) (n := 1) (by decide +kernel)) <|
    z_iload_n (n := 0) (i := 0) (zd (i := .iload_n 0) (n := 1) (by decide +kernel)) rfl <|
    z_iconst (n := 2) (zd (i := .iconst (2)) (n := 1) (by decide +kernel)) (by decide +kernel) <|
    z_iushr (zd (i := .iushr) (n := 1) (by decide +kernel)) <|
    z_ldcw (n := 266) (zd (i := .ldc_w 266) (n := 3) (by decide +kernel)) g974 (by decide +kernel) <|
    z_iand (zd (i := .iand) (n := 1) (by decide +kernel)) <|
    z_iadd (zd (i := .iadd) (n := 1) (by decide +kernel)) <|
    z_istore_n (n := 0) (i := 0) (zd (i := .istore_n 0) (n := 1) (by decide +kernel)) rfl (by decide +kernel) <|
    z_iload_n (n := 0) (i := 0) (zd (i := .iload_n 0) (n := 1) (by decide +kernel)) rfl <|
    z_iload_n (n := 0) (i := 0) (zd (i := .iload_n 0) (n := 1) (by decide +kernel)) rfl <|
    z_iconst (n := 4) (zd (i := .iconst (4)) (n := 1) (by decide +kernel)) (by decide +kernel) <|
    z_iushr (zd (i := .iushr) (n := 1) (by decide +kernel)) <|
    z_iadd (zd (i := .iadd) (n := 1) (by decide +kernel)) <|
    z_ldcw (n := 267) (zd (i := .ldc_w 267) (n := 3) (by decide +kernel)) g975 (by decide +kernel) <|
    z_iand (zd (i := .iand) (n := 1) (by decide +kernel)) <|
    z_istore_n (n := 0) (i := 0) (zd (i := .istore_n 0) (n := 1) (by decide +kernel)) rfl (by decide +kernel) <|
    z_iload_n (n := 0) (i := 0) (zd (i := .iload_n 0) (n := 1) (by decide +kernel)) rfl <|
    z_iload_n (n := 0) (i := 0) (zd (i := .iload_n 0) (n := 1) (by decide +kernel)) rfl <|
    z_bipush (n := 8) (zd (i := .bipush (8)) (n := 2) (by decide +kernel)) (by decide +kernel) <|
    z_iushr (zd (i := .iushr) (n := 1) (by decide +kernel)) <|
    z_iadd (zd (i := .iadd) (n := 1) (by decide +kernel)) <|
    z_istore_n (n := 0) (i := 0) (zd (i := .istore_n 0) (n := 1) (by decide +kernel)) rfl (by decide +kernel) <|
    z_iload_n (n := 0) (i := 0) (zd (i := .iload_n 0) (n := 1) (by decide +kernel)) rfl <|
    z_iload_n (n := 0) (i := 0) (zd (i := .iload_n 0) (n := 1) (by decide +kernel)) rfl <|
    z_bipush (n := 16) (zd (i := .bipush (16)) (n := 2) (by decide +kernel)) (by decide +kernel) <|
    z_iushr (zd (i := .iushr) (n := 1) (by decide +kernel)) <|
    (zj (hj 1) (by decide +kernel))
noncomputable def b_J6_bitCount_0f7a4_1 : zBl := fun jp K => oB2 zadd <| oIst 0 <| oIld 0 <| oInt 2147483711 <| oB2 ziand <| oIret K
theorem s_J6_bitCount_0f7a4_1 (d : Nat) : zPb l G gh (d + 1) n_J6_bitCount_0f7a4 p_J6_bitCount_0f7a4 46 b_J6_bitCount_0f7a4_1 := fun K jp hj =>
    z_iadd (zd (i := .iadd) (n := 1) (by decide +kernel)) <|
    z_istore_n (n := 0) (i := 0) (zd (i := .istore_n 0) (n := 1) (by decide +kernel)) rfl (by decide +kernel) <|
    z_iload_n (n := 0) (i := 0) (zd (i := .iload_n 0) (n := 1) (by decide +kernel)) rfl <|
    z_bipush (n := 63) (zd (i := .bipush (63)) (n := 2) (by decide +kernel)) (by decide +kernel) <|
    z_iand (zd (i := .iand) (n := 1) (by decide +kernel)) <|
    z_iret (zd (i := .ireturn) (n := 1) (by decide +kernel)) rfl
noncomputable def f_J6_bitCount_0f7a4 : zMt := zmet 1 [b_J6_bitCount_0f7a4_0, b_J6_bitCount_0f7a4_1]
theorem c_J6_bitCount_0f7a4 (d : Nat) : zC l G gh (d + 1) n_J6_bitCount_0f7a4 f_J6_bitCount_0f7a4 := zmet_ok (pcs := p_J6_bitCount_0f7a4) (by decide) rfl rfl ⟨s_J6_bitCount_0f7a4_0 d, s_J6_bitCount_0f7a4_1 d, trivial⟩
def n_X8_nextPitch : qMn := (yX8_nextPitch, cX8_nextPitch, 4, (some Jvm.ClassFile.FieldType.boolean), 0, 0)
theorem to_X8_nextPitch : qTo n_X8_nextPitch 1 := ⟨g980, g97, ⟨by decide, by decide, by decide +kernel⟩, by decide⟩
def p_X8_nextPitch : List Nat := [0, 4, 8, 23, 37, 42, 64, 66, 72]
noncomputable def b_X8_nextPitch_0 : zBl := fun jp K => oIld 1 <| oInt 2147483649 <| oB2 zsub <| oIst 2 <| jp 1
theorem s_X8_nextPitch_0 (d : Nat) : zPb l G gh (d + 1) n_X8_nextPitch p_X8_nextPitch 0 b_X8_nextPitch_0 := fun K jp hj =>
    z_iload_n (n := 1) (i := 1) (zd (i := .iload_n 1) (n := 1) (by decide +kernel)) rfl <|
    z_iconst (n := 1) (zd (i := .iconst (1)) (n := 1) (by decide +kernel)) (by decide +kernel) <|
    z_isub (zd (i := .isub) (n := 1) (by decide +kernel)) <|
    z_istore_n (n := 2) (i := 2) (zd (i := .istore_n 2) (n := 1) (by decide +kernel)) rfl (by decide +kernel) <|
    (zj (hj 1) (by decide +kernel))
noncomputable def b_X8_nextPitch_1 : zBl := fun jp K => oIld 2 <| oIf zlt zge (jp 8) (jp 2)
theorem s_X8_nextPitch_1 (d : Nat) : zPb l G gh (d + 1) n_X8_nextPitch p_X8_nextPitch 4 b_X8_nextPitch_1 := fun K jp hj =>
    z_iload_n (n := 2) (i := 2) (zd (i := .iload_n 2) (n := 1) (by decide +kernel)) rfl <|
    z_if_lt (off := 67) (tgt := 72) (zd (i := .ifCond .lt (67)) (n := 3) (by decide +kernel)) (by decide +kernel) (zj (hj 8) (by decide +kernel)) (zj (hj 2) (by decide +kernel))
noncomputable def b_X8_nextPitch_2 : zBl := fun jp K => oAld 0 <| oGetR 8 10 <| oIld 2 <| oXald 10 <| oInt 2147483668 <| oIld 1 <| oB2 zsub <| oIld 2 <| oB2 zadd <| oIc zge zlt (jp 7) (jp 3)
theorem s_X8_nextPitch_2 (d : Nat) : zPb l G gh (d + 1) n_X8_nextPitch p_X8_nextPitch 8 b_X8_nextPitch_2 := fun K jp hj =>
    z_aload_n (n := 0) (i := 0) (zd (i := .aload_n 0) (n := 1) (by decide +kernel)) rfl <|
    z_getR (ci := 8) (j := 10) (idx := 62) (zd (i := .getfield 62) (n := 3) (by decide +kernel)) (by decide +kernel) (by decide +kernel) rfl g462 <|
    z_iload_n (n := 2) (i := 2) (zd (i := .iload_n 2) (n := 1) (by decide +kernel)) rfl <|
    z_iald (zd (i := .iaload) (n := 1) (by decide +kernel)) <|
    z_bipush (n := 20) (zd (i := .bipush (20)) (n := 2) (by decide +kernel)) (by decide +kernel) <|
    z_iload_n (n := 1) (i := 1) (zd (i := .iload_n 1) (n := 1) (by decide +kernel)) rfl <|
    z_isub (zd (i := .isub) (n := 1) (by decide +kernel)) <|
    z_iload_n (n := 2) (i := 2) (zd (i := .iload_n 2) (n := 1) (by decide +kernel)) rfl <|
    z_iadd (zd (i := .iadd) (n := 1) (by decide +kernel)) <|
    z_icmp_ge (off := 46) (tgt := 66) (zd (i := .if_icmp .ge (46)) (n := 3) (by decide +kernel)) (by decide +kernel) (zj (hj 7) (by decide +kernel)) (zj (hj 3) (by decide +kernel))
noncomputable def b_X8_nextPitch_3 : zBl := fun jp K => oAld 0 <| oGetR 8 10 <| oIld 2 <| oDup2 <| oXald 10 <| oInt 2147483649 <| oB2 zadd <| oXast 10 zid <| oIld 2 <| oInt 2147483649 <| oB2 zadd <| oIst 3 <| jp 4
theorem s_X8_nextPitch_3 (d : Nat) : zPb l G gh (d + 1) n_X8_nextPitch p_X8_nextPitch 23 b_X8_nextPitch_3 := fun K jp hj =>
    z_aload_n (n := 0) (i := 0) (zd (i := .aload_n 0) (n := 1) (by decide +kernel)) rfl <|
    z_getR (ci := 8) (j := 10) (idx := 62) (zd (i := .getfield 62) (n := 3) (by decide +kernel)) (by decide +kernel) (by decide +kernel) rfl g462 <|
    z_iload_n (n := 2) (i := 2) (zd (i := .iload_n 2) (n := 1) (by decide +kernel)) rfl <|
    z_dup2 (zd (i := .dup2) (n := 1) (by decide +kernel)) <|
    z_iald (zd (i := .iaload) (n := 1) (by decide +kernel)) <|
    z_iconst (n := 1) (zd (i := .iconst (1)) (n := 1) (by decide +kernel)) (by decide +kernel) <|
    z_iadd (zd (i := .iadd) (n := 1) (by decide +kernel)) <|
    z_iast (zd (i := .iastore) (n := 1) (by decide +kernel)) <|
    z_iload_n (n := 2) (i := 2) (zd (i := .iload_n 2) (n := 1) (by decide +kernel)) rfl <|
    z_iconst (n := 1) (zd (i := .iconst (1)) (n := 1) (by decide +kernel)) (by decide +kernel) <|
    z_iadd (zd (i := .iadd) (n := 1) (by decide +kernel)) <|
    z_istore_n (n := 3) (i := 3) (zd (i := .istore_n 3) (n := 1) (by decide +kernel)) rfl (by decide +kernel) <|
    (zj (hj 4) (by decide +kernel))
noncomputable def b_X8_nextPitch_4 : zBl := fun jp K => oIld 3 <| oIld 1 <| oIc zge zlt (jp 6) (jp 5)
theorem s_X8_nextPitch_4 (d : Nat) : zPb l G gh (d + 1) n_X8_nextPitch p_X8_nextPitch 37 b_X8_nextPitch_4 := fun K jp hj =>
    z_iload_n (n := 3) (i := 3) (zd (i := .iload_n 3) (n := 1) (by decide +kernel)) rfl <|
    z_iload_n (n := 1) (i := 1) (zd (i := .iload_n 1) (n := 1) (by decide +kernel)) rfl <|
    z_icmp_ge (off := 25) (tgt := 64) (zd (i := .if_icmp .ge (25)) (n := 3) (by decide +kernel)) (by decide +kernel) (zj (hj 6) (by decide +kernel)) (zj (hj 5) (by decide +kernel))
noncomputable def b_X8_nextPitch_5 : zBl := fun jp K => oAld 0 <| oGetR 8 10 <| oIld 3 <| oAld 0 <| oGetR 8 10 <| oIld 3 <| oInt 2147483649 <| oB2 zsub <| oXald 10 <| oInt 2147483649 <| oB2 zadd <| oXast 10 zid <| oInc 3 2147483649 <| jp 4
theorem s_X8_nextPitch_5 (d : Nat) : zPb l G gh (d + 1) n_X8_nextPitch p_X8_nextPitch 42 b_X8_nextPitch_5 := fun K jp hj =>
    z_aload_n (n := 0) (i := 0) (zd (i := .aload_n 0) (n := 1) (by decide +kernel)) rfl <|
    z_getR (ci := 8) (j := 10) (idx := 62) (zd (i := .getfield 62) (n := 3) (by decide +kernel)) (by decide +kernel) (by decide +kernel) rfl g462 <|
    z_iload_n (n := 3) (i := 3) (zd (i := .iload_n 3) (n := 1) (by decide +kernel)) rfl <|
    z_aload_n (n := 0) (i := 0) (zd (i := .aload_n 0) (n := 1) (by decide +kernel)) rfl <|
    z_getR (ci := 8) (j := 10) (idx := 62) (zd (i := .getfield 62) (n := 3) (by decide +kernel)) (by decide +kernel) (by decide +kernel) rfl g462 <|
    z_iload_n (n := 3) (i := 3) (zd (i := .iload_n 3) (n := 1) (by decide +kernel)) rfl <|
    z_iconst (n := 1) (zd (i := .iconst (1)) (n := 1) (by decide +kernel)) (by decide +kernel) <|
    z_isub (zd (i := .isub) (n := 1) (by decide +kernel)) <|
    z_iald (zd (i := .iaload) (n := 1) (by decide +kernel)) <|
    z_iconst (n := 1) (zd (i := .iconst (1)) (n := 1) (by decide +kernel)) (by decide +kernel) <|
    z_iadd (zd (i := .iadd) (n := 1) (by decide +kernel)) <|
    z_iast (zd (i := .iastore) (n := 1) (by decide +kernel)) <|
    z_iinc (i := 3) (n := 1) (zd (i := .iinc 3 (1)) (n := 3) (by decide +kernel)) (by decide +kernel) (by decide +kernel) <|
    z_goto (off := -24) (tgt := 37) (zd (i := .goto (-24)) (n := 3) (by decide +kernel)) (by decide +kernel) (zj (hj 4) (by decide +kernel))
noncomputable def b_X8_nextPitch_6 : zBl := fun jp K => oInt 2147483649 <| oZret K
theorem s_X8_nextPitch_6 (d : Nat) : zPb l G gh (d + 1) n_X8_nextPitch p_X8_nextPitch 64 b_X8_nextPitch_6 := fun K jp hj =>
    z_iconst (n := 1) (zd (i := .iconst (1)) (n := 1) (by decide +kernel)) (by decide +kernel) <|
    z_zret (zd (i := .ireturn) (n := 1) (by decide +kernel)) rfl
noncomputable def b_X8_nextPitch_7 : zBl := fun jp K => oInc 2 2147483647 <| jp 1
theorem s_X8_nextPitch_7 (d : Nat) : zPb l G gh (d + 1) n_X8_nextPitch p_X8_nextPitch 66 b_X8_nextPitch_7 := fun K jp hj =>
    z_iinc (i := 2) (n := -1) (zd (i := .iinc 2 (-1)) (n := 3) (by decide +kernel)) (by decide +kernel) (by decide +kernel) <|
    z_goto (off := -65) (tgt := 4) (zd (i := .goto (-65)) (n := 3) (by decide +kernel)) (by decide +kernel) (zj (hj 1) (by decide +kernel))
noncomputable def b_X8_nextPitch_8 : zBl := fun jp K => oInt 2147483648 <| oZret K
theorem s_X8_nextPitch_8 (d : Nat) : zPb l G gh (d + 1) n_X8_nextPitch p_X8_nextPitch 72 b_X8_nextPitch_8 := fun K jp hj =>
    z_iconst (n := 0) (zd (i := .iconst (0)) (n := 1) (by decide +kernel)) (by decide +kernel) <|
    z_zret (zd (i := .ireturn) (n := 1) (by decide +kernel)) rfl
noncomputable def f_X8_nextPitch : zMt := zmet 4 [b_X8_nextPitch_0, b_X8_nextPitch_1, b_X8_nextPitch_2, b_X8_nextPitch_3, b_X8_nextPitch_4, b_X8_nextPitch_5, b_X8_nextPitch_6, b_X8_nextPitch_7, b_X8_nextPitch_8]
theorem c_X8_nextPitch (d : Nat) : zC l G gh (d + 1) n_X8_nextPitch f_X8_nextPitch := zmet_ok (pcs := p_X8_nextPitch) (by decide) rfl rfl ⟨s_X8_nextPitch_0 d, s_X8_nextPitch_1 d, s_X8_nextPitch_2 d, s_X8_nextPitch_3 d, s_X8_nextPitch_4 d, s_X8_nextPitch_5 d, s_X8_nextPitch_6 d, s_X8_nextPitch_7 d, s_X8_nextPitch_8 d, trivial⟩
end
