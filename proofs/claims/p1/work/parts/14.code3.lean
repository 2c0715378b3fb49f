section
variable {l : Launch} {G : qG} {gh : zGh}
def n_X8_pitchUmbrellas : qMn := (yX8_pitchUmbrellas, cX8_pitchUmbrellas, 8, (some Jvm.ClassFile.FieldType.int), 0, 0)
theorem to_X8_pitchUmbrellas : qTo n_X8_pitchUmbrellas 1 := ⟨g969, g97, ⟨by decide, by decide, by decide +kernel⟩, by decide⟩
def p_X8_pitchUmbrellas : List Nat := [0, 17, 23, 41, 43, 48, 61, 69, 77, 82, 88, 94, 117, 126, 146, 159]
noncomputable def b_X8_pitchUmbrellas_0 : zBl := fun jp K => oAld 0 <| oGetR 8 12 <| oAld 0 <| oGetR 8 2 <| oGetI 4 0 <| oCv 0 1 f_X0_heat <| oIst 2 <| oInt 2147483648 <| oIst 3 <| jp 1
theorem s_X8_pitchUmbrellas_0 (d : Nat) : zPb l G gh (d + 5) n_X8_pitchUmbrellas p_X8_pitchUmbrellas 0 b_X8_pitchUmbrellas_0 := fun K jp hj =>
    z_aload_n (n := 0) (i := 0) (zd (i := .aload_n 0) (n := 1) (by decide +kernel)) rfl <|
    z_getR (ci := 8) (j := 12) (idx := 71) (zd (i := .getfield 71) (n := 3) (by decide +kernel)) (by decide +kernel) (by decide +kernel) rfl g464 <|
    z_aload_n (n := 0) (i := 0) (zd (i := .aload_n 0) (n := 1) (by decide +kernel)) rfl <|
    z_getR (ci := 8) (j := 2) (idx := 26) (zd (i := .getfield 26) (n := 3) (by decide +kernel)) (by decide +kernel) (by decide +kernel) rfl g454 <|
    z_getI (ci := 4) (j := 0) (idx := 140) (zd (i := .getfield 140) (n := 3) (by decide +kernel)) (by decide +kernel) (by decide +kernel) rfl g368 <|
    z_callV (idx := 143) (ci := 0) (N := n_X0_heat) (zd (i := .invokevirtual 143) (n := 3) (by decide +kernel)) to_X0_heat g716 g717 g718 (by decide +kernel) rfl rfl rfl (c_X0_heat (l := l) (G := G) (gh := gh) d) <|
    z_istore_n (n := 2) (i := 2) (zd (i := .istore_n 2) (n := 1) (by decide +kernel)) rfl (by decide +kernel) <|
    z_iconst (n := 0) (zd (i := .iconst (0)) (n := 1) (by decide +kernel)) (by decide +kernel) <|
    z_istore_n (n := 3) (i := 3) (zd (i := .istore_n 3) (n := 1) (by decide +kernel)) rfl (by decide +kernel) <|
    (zj (hj 1) (by decide +kernel))
noncomputable def b_X8_pitchUmbrellas_1 : zBl := fun jp K => oIld 3 <| oInt 2147483668 <| oIc zge zlt (jp 3) (jp 2)
theorem s_X8_pitchUmbrellas_1 (d : Nat) : zPb l G gh (d + 5) n_X8_pitchUmbrellas p_X8_pitchUmbrellas 17 b_X8_pitchUmbrellas_1 := fun K jp hj =>
    z_iload_n (n := 3) (i := 3) (zd (i := .iload_n 3) (n := 1) (by decide +kernel)) rfl <|
    z_bipush (n := 20) (zd (i := .bipush (20)) (n := 2) (by decide +kernel)) (by decide +kernel) <|
    z_icmp_ge (off := 21) (tgt := 41) (zd (i := .if_icmp .ge (21)) (n := 3) (by decide +kernel)) (by decide +kernel) (zj (hj 3) (by decide +kernel)) (zj (hj 2) (by decide +kernel))
noncomputable def b_X8_pitchUmbrellas_2 : zBl := fun jp K => oAld 0 <| oGetR 8 8 <| oIld 3 <| oAld 0 <| oIld 3 <| oIld 2 <| oCv 8 2 f_X8_thingsSeenFrom <| oXast 10 zid <| oInc 3 2147483649 <| jp 1
theorem s_X8_pitchUmbrellas_2 (d : Nat) : zPb l G gh (d + 5) n_X8_pitchUmbrellas p_X8_pitchUmbrellas 23 b_X8_pitchUmbrellas_2 := fun K jp hj =>
    z_aload_n (n := 0) (i := 0) (zd (i := .aload_n 0) (n := 1) (by decide +kernel)) rfl <|
    z_getR (ci := 8) (j := 8) (idx := 55) (zd (i := .getfield 55) (n := 3) (by decide +kernel)) (by decide +kernel) (by decide +kernel) rfl g460 <|
    z_iload_n (n := 3) (i := 3) (zd (i := .iload_n 3) (n := 1) (by decide +kernel)) rfl <|
    z_aload_n (n := 0) (i := 0) (zd (i := .aload_n 0) (n := 1) (by decide +kernel)) rfl <|
    z_iload_n (n := 3) (i := 3) (zd (i := .iload_n 3) (n := 1) (by decide +kernel)) rfl <|
    z_iload_n (n := 2) (i := 2) (zd (i := .iload_n 2) (n := 1) (by decide +kernel)) rfl <|
    z_callV (idx := 146) (ci := 8) (N := n_X8_thingsSeenFrom) (zd (i := .invokevirtual 146) (n := 3) (by decide +kernel)) to_X8_thingsSeenFrom g775 g777 g24 (by decide +kernel) rfl rfl rfl (c_X8_thingsSeenFrom (l := l) (G := G) (gh := gh) (d + 2)) <|
    z_iast (zd (i := .iastore) (n := 1) (by decide +kernel)) <|
    z_iinc (i := 3) (n := 1) (zd (i := .iinc 3 (1)) (n := 3) (by decide +kernel)) (by decide +kernel) (by decide +kernel) <|
    z_goto (off := -21) (tgt := 17) (zd (i := .goto (-21)) (n := 3) (by decide +kernel)) (by decide +kernel) (zj (hj 1) (by decide +kernel))
noncomputable def b_X8_pitchUmbrellas_3 : zBl := fun jp K => oInt 2147483648 <| oIst 3 <| jp 4
theorem s_X8_pitchUmbrellas_3 (d : Nat) : zPb l G gh (d + 5) n_X8_pitchUmbrellas p_X8_pitchUmbrellas 41 b_X8_pitchUmbrellas_3 := fun K jp hj =>
    z_iconst (n := 0) (zd (i := .iconst (0)) (n := 1) (by decide +kernel)) (by decide +kernel) <|
    z_istore_n (n := 3) (i := 3) (zd (i := .istore_n 3) (n := 1) (by decide +kernel)) rfl (by decide +kernel) <|
    (zj (hj 4) (by decide +kernel))
noncomputable def b_X8_pitchUmbrellas_4 : zBl := fun jp K => oIld 3 <| oIld 1 <| oIc zge zlt (jp 6) (jp 5)
theorem s_X8_pitchUmbrellas_4 (d : Nat) : zPb l G gh (d + 5) n_X8_pitchUmbrellas p_X8_pitchUmbrellas 43 b_X8_pitchUmbrellas_4 := fun K jp hj =>
    z_iload_n (n := 3) (i := 3) (zd (i := .iload_n 3) (n := 1) (by decide +kernel)) rfl <|
    z_iload_n (n := 1) (i := 1) (zd (i := .iload_n 1) (n := 1) (by decide +kernel)) rfl <|
    z_icmp_ge (off := 16) (tgt := 61) (zd (i := .if_icmp .ge (16)) (n := 3) (by decide +kernel)) (by decide +kernel) (zj (hj 6) (by decide +kernel)) (zj (hj 5) (by decide +kernel))
noncomputable def b_X8_pitchUmbrellas_5 : zBl := fun jp K => oAld 0 <| oGetR 8 10 <| oIld 3 <| oIld 3 <| oXast 10 zid <| oInc 3 2147483649 <| jp 4
theorem s_X8_pitchUmbrellas_5 (d : Nat) : zPb l G gh (d + 5) n_X8_pitchUmbrellas p_X8_pitchUmbrellas 48 b_X8_pitchUmbrellas_5 := fun K jp hj =>
    z_aload_n (n := 0) (i := 0) (zd (i := .aload_n 0) (n := 1) (by decide +kernel)) rfl <|
    z_getR (ci := 8) (j := 10) (idx := 62) (zd (i := .getfield 62) (n := 3) (by decide +kernel)) (by decide +kernel) (by decide +kernel) rfl g462 <|
    z_iload_n (n := 3) (i := 3) (zd (i := .iload_n 3) (n := 1) (by decide +kernel)) rfl <|
    z_iload_n (n := 3) (i := 3) (zd (i := .iload_n 3) (n := 1) (by decide +kernel)) rfl <|
    z_iast (zd (i := .iastore) (n := 1) (by decide +kernel)) <|
    z_iinc (i := 3) (n := 1) (zd (i := .iinc 3 (1)) (n := 3) (by decide +kernel)) (by decide +kernel) (by decide +kernel) <|
    z_goto (off := -15) (tgt := 43) (zd (i := .goto (-15)) (n := 3) (by decide +kernel)) (by decide +kernel) (zj (hj 4) (by decide +kernel))
noncomputable def b_X8_pitchUmbrellas_6 : zBl := fun jp K => oInt 2147483647 <| oIst 3 <| oInt 2147483649 <| oIst 4 <| oInt 2147483648 <| oIst 5 <| jp 7
theorem s_X8_pitchUmbrellas_6 (d : Nat) : zPb l G gh (d + 5) n_X8_pitchUmbrellas p_X8_pitchUmbrellas 61 b_X8_pitchUmbrellas_6 := fun K jp hj =>
    z_iconst (n := -1) (zd (i := .iconst (-1)) (n := 1) (by decide +kernel)) (by decide +kernel) <|
    z_istore_n (n := 3) (i := 3) (zd (i := .istore_n 3) (n := 1) (by decide +kernel)) rfl (by decide +kernel) <|
    z_iconst (n := 1) (zd (i := .iconst (1)) (n := 1) (by decide +kernel)) (by decide +kernel) <|
    z_istore (i := 4) (zd (i := .istore 4) (n := 2) (by decide +kernel)) (by decide +kernel) <|
    z_iconst (n := 0) (zd (i := .iconst (0)) (n := 1) (by decide +kernel)) (by decide +kernel) <|
    z_istore (i := 5) (zd (i := .istore 5) (n := 2) (by decide +kernel)) (by decide +kernel) <|
    (zj (hj 7) (by decide +kernel))
noncomputable def b_X8_pitchUmbrellas_7 : zBl := fun jp K => oIld 5 <| oInt 2147484788 <| oIc zge zlt (jp 15) (jp 8)
theorem s_X8_pitchUmbrellas_7 (d : Nat) : zPb l G gh (d + 5) n_X8_pitchUmbrellas p_X8_pitchUmbrellas 69 b_X8_pitchUmbrellas_7 := fun K jp hj =>
    z_iload (i := 5) (zd (i := .iload 5) (n := 2) (by decide +kernel)) <|
    z_sipush (n := 1140) (zd (i := .sipush (1140)) (n := 3) (by decide +kernel)) (by decide +kernel) <|
    z_icmp_ge (off := 85) (tgt := 159) (zd (i := .if_icmp .ge (85)) (n := 3) (by decide +kernel)) (by decide +kernel) (zj (hj 15) (by decide +kernel)) (zj (hj 8) (by decide +kernel))
noncomputable def b_X8_pitchUmbrellas_8 : zBl := fun jp K => oIld 4 <| oIf zeq zne (jp 15) (jp 9)
theorem s_X8_pitchUmbrellas_8 (d : Nat) : zPb l G gh (d + 5) n_X8_pitchUmbrellas p_X8_pitchUmbrellas 77 b_X8_pitchUmbrellas_8 := fun K jp hj =>
    z_iload (i := 4) (zd (i := .iload 4) (n := 2) (by decide +kernel)) <|
    z_if_eq (off := 80) (tgt := 159) (zd (i := .ifCond .eq (80)) (n := 3) (by decide +kernel)) (by decide +kernel) (zj (hj 15) (by decide +kernel)) (zj (hj 9) (by decide +kernel))
noncomputable def b_X8_pitchUmbrellas_9 : zBl := fun jp K => oInt 2147483648 <| oIst 6 <| oInt 2147483648 <| oIst 7 <| jp 10
theorem s_X8_pitchUmbrellas_9 (d : Nat) : zPb l G gh (d + 5) n_X8_pitchUmbrellas p_X8_pitchUmbrellas 82 b_X8_pitchUmbrellas_9 := fun K jp hj =>
    z_iconst (n := 0) (zd (i := .iconst (0)) (n := 1) (by decide +kernel)) (by decide +kernel) <|
    z_istore (i := 6) (zd (i := .istore 6) (n := 2) (by decide +kernel)) (by decide +kernel) <|
    z_iconst (n := 0) (zd (i := .iconst (0)) (n := 1) (by decide +kernel)) (by decide +kernel) <|
    z_istore (i := 7) (zd (i := .istore 7) (n := 2) (by decide +kernel)) (by decide +kernel) <|
    (zj (hj 10) (by decide +kernel))
noncomputable def b_X8_pitchUmbrellas_10 : zBl := fun jp K => oIld 7 <| oIld 1 <| oIc zge zlt (jp 12) (jp 11)
theorem s_X8_pitchUmbrellas_10 (d : Nat) : zPb l G gh (d + 5) n_X8_pitchUmbrellas p_X8_pitchUmbrellas 88 b_X8_pitchUmbrellas_10 := fun K jp hj =>
    z_iload (i := 7) (zd (i := .iload 7) (n := 2) (by decide +kernel)) <|
    z_iload_n (n := 1) (i := 1) (zd (i := .iload_n 1) (n := 1) (by decide +kernel)) rfl <|
    z_icmp_ge (off := 26) (tgt := 117) (zd (i := .if_icmp .ge (26)) (n := 3) (by decide +kernel)) (by decide +kernel) (zj (hj 12) (by decide +kernel)) (zj (hj 11) (by decide +kernel))
noncomputable def b_X8_pitchUmbrellas_11 : zBl := fun jp K => oIld 6 <| oAld 0 <| oGetR 8 8 <| oAld 0 <| oGetR 8 10 <| oIld 7 <| oXald 10 <| oXald 10 <| oB2 zior <| oIst 6 <| oInc 7 2147483649 <| jp 10
theorem s_X8_pitchUmbrellas_11 (d : Nat) : zPb l G gh (d + 5) n_X8_pitchUmbrellas p_X8_pitchUmbrellas 94 b_X8_pitchUmbrellas_11 := fun K jp hj =>
    z_iload (i := 6) (zd (i := .iload 6) (n := 2) (by decide +kernel)) <|
    z_aload_n (n := 0) (i := 0) (zd (i := .aload_n 0) (n := 1) (by decide +kernel)) rfl <|
    z_getR (ci := 8) (j := 8) (idx := 55) (zd (i := .getfield 55) (n := 3) (by decide +kernel)) (by decide +kernel) (by decide +kernel) rfl g460 <|
    z_aload_n (n := 0) (i := 0) (zd (i := .aload_n 0) (n := 1) (by decide +kernel)) rfl <|
    z_getR (ci := 8) (j := 10) (idx := 62) (zd (i := .getfield 62) (n := 3) (by decide +kernel)) (by decide +kernel) (by decide +kernel) rfl g462 <|
    z_iload (i := 7) (zd (i := .iload 7) (n := 2) (by decide +kernel)) <|
    z_iald (zd (i := .iaload) (n := 1) (by decide +kernel)) <|
    z_iald (zd (i := .iaload) (n := 1) (by decide +kernel)) <|
    z_ior (zd (i := .ior) (n := 1) (by decide +kernel)) <|
    z_istore (i := 6) (zd (i := .istore 6) (n := 2) (by decide +kernel)) (by decide +kernel) <|
    z_iinc (i := 7) (n := 1) (zd (i := .iinc 7 (1)) (n := 3) (by decide +kernel)) (by decide +kernel) (by decide +kernel) <|
    z_goto (off := -26) (tgt := 88) (zd (i := .goto (-26)) (n := 3) (by decide +kernel)) (by decide +kernel) (zj (hj 10) (by decide +kernel))
noncomputable def b_X8_pitchUmbrellas_12 : zBl := fun jp K => oIld 6 <| oCs 1 f_J6_bitCount_0f7a4 <| oIld 3 <| oIc zle zgt (jp 14) (jp 13)
theorem s_X8_pitchUmbrellas_12 (d : Nat) : zPb l G gh (d + 5) n_X8_pitchUmbrellas p_X8_pitchUmbrellas 117 b_X8_pitchUmbrellas_12 := fun K jp hj =>
    z_iload (i := 6) (zd (i := .iload 6) (n := 2) (by decide +kernel)) <|
    z_callS (idx := 264) (N := n_J6_bitCount_0f7a4) (zd (i := .invokestatic 264) (n := 3) (by decide +kernel)) to_J6_bitCount_0f7a4 g970 g971 rfl rfl (c_J6_bitCount_0f7a4 (l := l) (G := G) (gh := gh) (d + 3)) <|
    z_iload_n (n := 3) (i := 3) (zd (i := .iload_n 3) (n := 1) (by decide +kernel)) rfl <|
    z_icmp_le (off := 23) (tgt := 146) (zd (i := .if_icmp .le (23)) (n := 3) (by decide +kernel)) (by decide +kernel) (zj (hj 14) (by decide +kernel)) (zj (hj 13) (by decide +kernel))
noncomputable def b_X8_pitchUmbrellas_13 : zBl := fun jp K => oIld 6 <| oCs 1 f_J6_bitCount_0f7a4 <| oIst 3 <| oAld 0 <| oGetR 8 10 <| oInt 2147483648 <| oAld 0 <| oGetR 8 11 <| oInt 2147483648 <| oIld 1 <| oCopy <| jp 14
theorem s_X8_pitchUmbrellas_13 (d : Nat) : zPb l G gh (d + 5) n_X8_pitchUmbrellas p_X8_pitchUmbrellas 126 b_X8_pitchUmbrellas_13 := fun K jp hj =>
    z_iload (i := 6) (zd (i := .iload 6) (n := 2) (by decide +kernel)) <|
    z_callS (idx := 264) (N := n_J6_bitCount_0f7a4) (zd (i := .invokestatic 264) (n := 3) (by decide +kernel)) to_J6_bitCount_0f7a4 g970 g971 rfl rfl (c_J6_bitCount_0f7a4 (l := l) (G := G) (gh := gh) (d + 3)) <|
    z_istore_n (n := 3) (i := 3) (zd (i := .istore_n 3) (n := 1) (by decide +kernel)) rfl (by decide +kernel) <|
    z_aload_n (n := 0) (i := 0) (zd (i := .aload_n 0) (n := 1) (by decide +kernel)) rfl <|
    z_getR (ci := 8) (j := 10) (idx := 62) (zd (i := .getfield 62) (n := 3) (by decide +kernel)) (by decide +kernel) (by decide +kernel) rfl g462 <|
    z_iconst (n := 0) (zd (i := .iconst (0)) (n := 1) (by decide +kernel)) (by decide +kernel) <|
    z_aload_n (n := 0) (i := 0) (zd (i := .aload_n 0) (n := 1) (by decide +kernel)) rfl <|
    z_getR (ci := 8) (j := 11) (idx := 65) (zd (i := .getfield 65) (n := 3) (by decide +kernel)) (by decide +kernel) (by decide +kernel) rfl g463 <|
    z_iconst (n := 0) (zd (i := .iconst (0)) (n := 1) (by decide +kernel)) (by decide +kernel) <|
    z_iload_n (n := 1) (i := 1) (zd (i := .iload_n 1) (n := 1) (by decide +kernel)) rfl <|
    z_copy (idx := 269) (zd (i := .invokestatic 269) (n := 3) (by decide +kernel)) g976 g846 g845 g113 <|
    (zj (hj 14) (by decide +kernel))
noncomputable def b_X8_pitchUmbrellas_14 : zBl := fun jp K => oAld 0 <| oIld 1 <| oCv 8 1 f_X8_nextPitch <| oIst 4 <| oInc 5 2147483649 <| jp 7
theorem s_X8_pitchUmbrellas_14 (d : Nat) : zPb l G gh (d + 5) n_X8_pitchUmbrellas p_X8_pitchUmbrellas 146 b_X8_pitchUmbrellas_14 := fun K jp hj =>
    z_aload_n (n := 0) (i := 0) (zd (i := .aload_n 0) (n := 1) (by decide +kernel)) rfl <|
    z_iload_n (n := 1) (i := 1) (zd (i := .iload_n 1) (n := 1) (by decide +kernel)) rfl <|
    z_callV (idx := 275) (ci := 8) (N := n_X8_nextPitch) (zd (i := .invokevirtual 275) (n := 3) (by decide +kernel)) to_X8_nextPitch g977 g979 g34 (by decide +kernel) rfl rfl rfl (c_X8_nextPitch (l := l) (G := G) (gh := gh) (d + 3)) <|
    z_istore (i := 4) (zd (i := .istore 4) (n := 2) (by decide +kernel)) (by decide +kernel) <|
    z_iinc (i := 5) (n := 1) (zd (i := .iinc 5 (1)) (n := 3) (by decide +kernel)) (by decide +kernel) (by decide +kernel) <|
    z_goto (off := -87) (tgt := 69) (zd (i := .goto (-87)) (n := 3) (by decide +kernel)) (by decide +kernel) (zj (hj 7) (by decide +kernel))
noncomputable def b_X8_pitchUmbrellas_15 : zBl := fun jp K => oIld 3 <| oIret K
theorem s_X8_pitchUmbrellas_15 (d : Nat) : zPb l G gh (d + 5) n_X8_pitchUmbrellas p_X8_pitchUmbrellas 159 b_X8_pitchUmbrellas_15 := fun K jp hj =>
    z_iload_n (n := 3) (i := 3) (zd (i := .iload_n 3) (n := 1) (by decide +kernel)) rfl <|
    z_iret (zd (i := .ireturn) (n := 1) (by decide +kernel)) rfl
noncomputable def f_X8_pitchUmbrellas : zMt := zmet 8 [b_X8_pitchUmbrellas_0, b_X8_pitchUmbrellas_1, b_X8_pitchUmbrellas_2, b_X8_pitchUmbrellas_3, b_X8_pitchUmbrellas_4, b_X8_pitchUmbrellas_5, b_X8_pitchUmbrellas_6, b_X8_pitchUmbrellas_7, b_X8_pitchUmbrellas_8, b_X8_pitchUmbrellas_9, b_X8_pitchUmbrellas_10, b_X8_pitchUmbrellas_11, b_X8_pitchUmbrellas_12, b_X8_pitchUmbrellas_13, b_X8_pitchUmbrellas_14, b_X8_pitchUmbrellas_15]
theorem c_X8_pitchUmbrellas (d : Nat) : zC l G gh (d + 5) n_X8_pitchUmbrellas f_X8_pitchUmbrellas := zmet_ok (pcs := p_X8_pitchUmbrellas) (by decide) rfl rfl ⟨s_X8_pitchUmbrellas_0 d, s_X8_pitchUmbrellas_1 d, s_X8_pitchUmbrellas_2 d, s_X8_pitchUmbrellas_3 d, s_X8_pitchUmbrellas_4 d, s_X8_pitchUmbrellas_5 d, s_X8_pitchUmbrellas_6 d, s_X8_pitchUmbrellas_7 d, s_X8_pitchUmbrellas_8 d, s_X8_pitchUmbrellas_9 d, s_X8_pitchUmbrellas_10 d, s_X8_pitchUmbrellas_11 d, s_X8_pitchUmbrellas_12 d, s_X8_pitchUmbrellas_13 d, s_X8_pitchUmbrellas_14 d, s_X8_pitchUmbrellas_15 d, trivial⟩
def n_X8_umbrellas : qMn := (yX8_umbrellas, cX8_umbrellas, 4, (some Jvm.ClassFile.FieldType.int), 0, 0)
theorem to_X8_umbrellas : qTo n_X8_umbrellas 2 := ⟨g965, g97, ⟨by decide, by decide, by decide +kernel⟩, by decide⟩
def p_X8_umbrellas : List Nat := [0, 5, 10, 15, 20, 22, 33, 37, 43]
noncomputable def b_X8_umbrellas_0 : zBl := fun jp K => oIld 1 <| oInt 2147483649 <| oIc zlt zge (jp 4) (jp 1)
theorem s_X8_umbrellas_0 (d : Nat) : zPb l G gh (d + 6) n_X8_umbrellas p_X8_umbrellas 0 b_X8_umbrellas_0 := fun K jp hj =>
    z_iload_n (n := 1) (i := 1) (zd (i := .iload_n 1) (n := 1) (by decide +kernel)) rfl <|
    z_iconst (n := 1) (zd (i := .iconst (1)) (n := 1) (by decide +kernel)) (by decide +kernel) <|
    z_icmp_lt (off := 18) (tgt := 20) (zd (i := .if_icmp .lt (18)) (n := 3) (by decide +kernel)) (by decide +kernel) (zj (hj 4) (by decide +kernel)) (zj (hj 1) (by decide +kernel))
noncomputable def b_X8_umbrellas_1 : zBl := fun jp K => oIld 1 <| oInt 2147483651 <| oIc zgt zle (jp 4) (jp 2)
theorem s_X8_umbrellas_1 (d : Nat) : zPb l G gh (d + 6) n_X8_umbrellas p_X8_umbrellas 5 b_X8_umbrellas_1 := fun K jp hj =>
    z_iload_n (n := 1) (i := 1) (zd (i := .iload_n 1) (n := 1) (by decide +kernel)) rfl <|
    z_iconst (n := 3) (zd (i := .iconst (3)) (n := 1) (by decide +kernel)) (by decide +kernel) <|
    z_icmp_gt (off := 13) (tgt := 20) (zd (i := .if_icmp .gt (13)) (n := 3) (by decide +kernel)) (by decide +kernel) (zj (hj 4) (by decide +kernel)) (zj (hj 2) (by decide +kernel))
noncomputable def b_X8_umbrellas_2 : zBl := fun jp K => oIld 2 <| oInt 2147483647 <| oIc zlt zge (jp 4) (jp 3)
theorem s_X8_umbrellas_2 (d : Nat) : zPb l G gh (d + 6) n_X8_umbrellas p_X8_umbrellas 10 b_X8_umbrellas_2 := fun K jp hj =>
    z_iload_n (n := 2) (i := 2) (zd (i := .iload_n 2) (n := 1) (by decide +kernel)) rfl <|
    z_iconst (n := -1) (zd (i := .iconst (-1)) (n := 1) (by decide +kernel)) (by decide +kernel) <|
    z_icmp_lt (off := 8) (tgt := 20) (zd (i := .if_icmp .lt (8)) (n := 3) (by decide +kernel)) (by decide +kernel) (zj (hj 4) (by decide +kernel)) (zj (hj 3) (by decide +kernel))
noncomputable def b_X8_umbrellas_3 : zBl := fun jp K => oIld 2 <| oIld 1 <| oIc zlt zge (jp 5) (jp 4)
theorem s_X8_umbrellas_3 (d : Nat) : zPb l G gh (d + 6) n_X8_umbrellas p_X8_umbrellas 15 b_X8_umbrellas_3 := fun K jp hj =>
    z_iload_n (n := 2) (i := 2) (zd (i := .iload_n 2) (n := 1) (by decide +kernel)) rfl <|
    z_iload_n (n := 1) (i := 1) (zd (i := .iload_n 1) (n := 1) (by decide +kernel)) rfl <|
    z_icmp_lt (off := 5) (tgt := 22) (zd (i := .if_icmp .lt (5)) (n := 3) (by decide +kernel)) (by decide +kernel) (zj (hj 5) (by decide +kernel)) (zj (hj 4) (by decide +kernel))
noncomputable def b_X8_umbrellas_4 : zBl := fun jp K => oInt 2147483647 <| oIret K
theorem s_X8_umbrellas_4 (d : Nat) : zPb l G gh (d + 6) n_X8_umbrellas p_X8_umbrellas 20 b_X8_umbrellas_4 := fun K jp hj =>
    z_iconst (n := -1) (zd (i := .iconst (-1)) (n := 1) (by decide +kernel)) (by decide +kernel) <|
    z_iret (zd (i := .ireturn) (n := 1) (by decide +kernel)) rfl
noncomputable def b_X8_umbrellas_5 : zBl := fun jp K => oAld 0 <| oIld 1 <| oCv 8 1 f_X8_pitchUmbrellas <| oIst 3 <| oIld 2 <| oInt 2147483647 <| oIc zne zeq (jp 7) (jp 6)
theorem s_X8_umbrellas_5 (d : Nat) : zPb l G gh (d + 6) n_X8_umbrellas p_X8_umbrellas 22 b_X8_umbrellas_5 := fun K jp hj =>
    z_aload_n (n := 0) (i := 0) (zd (i := .aload_n 0) (n := 1) (by decide +kernel)) rfl <|
    z_iload_n (n := 1) (i := 1) (zd (i := .iload_n 1) (n := 1) (by decide +kernel)) rfl <|
    z_callV (idx := 261) (ci := 8) (N := n_X8_pitchUmbrellas) (zd (i := .invokevirtual 261) (n := 3) (by decide +kernel)) to_X8_pitchUmbrellas g966 g968 g33 (by decide +kernel) rfl rfl rfl (c_X8_pitchUmbrellas (l := l) (G := G) (gh := gh) d) <|
    z_istore_n (n := 3) (i := 3) (zd (i := .istore_n 3) (n := 1) (by decide +kernel)) rfl (by decide +kernel) <|
    z_iload_n (n := 2) (i := 2) (zd (i := .iload_n 2) (n := 1) (by decide +kernel)) rfl <|
    z_iconst (n := -1) (zd (i := .iconst (-1)) (n := 1) (by decide +kernel)) (by decide +kernel) <|
    z_icmp_ne (off := 7) (tgt := 37) (zd (i := .if_icmp .ne (7)) (n := 3) (by decide +kernel)) (by decide +kernel) (zj (hj 7) (by decide +kernel)) (zj (hj 6) (by decide +kernel))
noncomputable def b_X8_umbrellas_6 : zBl := fun jp K => oIld 3 <| jp 8
theorem s_X8_umbrellas_6 (d : Nat) : zPb l G gh (d + 6) n_X8_umbrellas p_X8_umbrellas 33 b_X8_umbrellas_6 := fun K jp hj =>
    z_iload_n (n := 3) (i := 3) (zd (i := .iload_n 3) (n := 1) (by decide +kernel)) rfl <|
    z_goto (off := 9) (tgt := 43) (zd (i := .goto (9)) (n := 3) (by decide +kernel)) (by decide +kernel) (zj (hj 8) (by decide +kernel))
noncomputable def b_X8_umbrellas_7 : zBl := fun jp K => oAld 0 <| oGetR 8 11 <| oIld 2 <| oXald 10 <| jp 8
theorem s_X8_umbrellas_7 (d : Nat) : zPb l G gh (d + 6) n_X8_umbrellas p_X8_umbrellas 37 b_X8_umbrellas_7 := fun K jp hj =>
    z_aload_n (n := 0) (i := 0) (zd (i := .aload_n 0) (n := 1) (by decide +kernel)) rfl <|
    z_getR (ci := 8) (j := 11) (idx := 65) (zd (i := .getfield 65) (n := 3) (by decide +kernel)) (by decide +kernel) (by decide +kernel) rfl g463 <|
    z_iload_n (n := 2) (i := 2) (zd (i := .iload_n 2) (n := 1) (by decide +kernel)) rfl <|
    z_iald (zd (i := .iaload) (n := 1) (by decide +kernel)) <|
    (zj (hj 8) (by decide +kernel))
noncomputable def b_X8_umbrellas_8 : zBl := fun jp K => oIret K
theorem s_X8_umbrellas_8 (d : Nat) : zPb l G gh (d + 6) n_X8_umbrellas p_X8_umbrellas 43 b_X8_umbrellas_8 := fun K jp hj =>
    z_iret (zd (i := .ireturn) (n := 1) (by decide +kernel)) rfl
noncomputable def f_X8_umbrellas : zMt := zmet 4 [b_X8_umbrellas_0, b_X8_umbrellas_1, b_X8_umbrellas_2, b_X8_umbrellas_3, b_X8_umbrellas_4, b_X8_umbrellas_5, b_X8_umbrellas_6, b_X8_umbrellas_7, b_X8_umbrellas_8]
theorem c_X8_umbrellas (d : Nat) : zC l G gh (d + 6) n_X8_umbrellas f_X8_umbrellas := zmet_ok (pcs := p_X8_umbrellas) (by decide) rfl rfl ⟨s_X8_umbrellas_0 d, s_X8_umbrellas_1 d, s_X8_umbrellas_2 d, s_X8_umbrellas_3 d, s_X8_umbrellas_4 d, s_X8_umbrellas_5 d, s_X8_umbrellas_6 d, s_X8_umbrellas_7 d, s_X8_umbrellas_8 d, trivial⟩
def n_X9_fillsSeen : qMn := (yX9_fillsSeen, cX9_fillsSeen, 3, none, 0, 0)
theorem to_X9_fillsSeen : qTo n_X9_fillsSeen 0 := ⟨g1628, g110, ⟨by decide, by decide, by decide +kernel⟩, by decide⟩
def p_X9_fillsSeen : List Nat := [0, 2, 8, 17, 64, 70]
noncomputable def b_X9_fillsSeen_0 : zBl := fun jp K => oInt 2147483648 <| oIst 1 <| jp 1
theorem s_X9_fillsSeen_0 (d : Nat) : zPb l G gh (d + 1) n_X9_fillsSeen p_X9_fillsSeen 0 b_X9_fillsSeen_0 := fun K jp hj =>
    z_iconst (n := 0) (zd (i := .iconst (0)) (n := 1) (by decide +kernel)) (by decide +kernel) <|
    z_istore_n (n := 1) (i := 1) (zd (i := .istore_n 1) (n := 1) (by decide +kernel)) rfl (by decide +kernel) <|
    (zj (hj 1) (by decide +kernel))
noncomputable def b_X9_fillsSeen_1 : zBl := fun jp K => oIld 1 <| oInt 2147483667 <| oIc zgt zle (jp 5) (jp 2)
theorem s_X9_fillsSeen_1 (d : Nat) : zPb l G gh (d + 1) n_X9_fillsSeen p_X9_fillsSeen 2 b_X9_fillsSeen_1 := fun K jp hj =>
    z_iload_n (n := 1) (i := 1) (zd (i := .iload_n 1) (n := 1) (by decide +kernel)) rfl <|
    z_bipush (n := 19) (zd (i := .bipush (19)) (n := 2) (by decide +kernel)) (by decide +kernel) <|
    z_icmp_gt (off := 65) (tgt := 70) (zd (i := .if_icmp .gt (65)) (n := 3) (by decide +kernel)) (by decide +kernel) (zj (hj 5) (by decide +kernel)) (zj (hj 2) (by decide +kernel))
noncomputable def b_X9_fillsSeen_2 : zBl := fun jp K => oAld 0 <| oGetR 9 53 <| oIld 1 <| oInt 2147483648 <| oXast 10 zid <| oInt 2147483648 <| oIst 2 <| jp 3
theorem s_X9_fillsSeen_2 (d : Nat) : zPb l G gh (d + 1) n_X9_fillsSeen p_X9_fillsSeen 8 b_X9_fillsSeen_2 := fun K jp hj =>
    z_aload_n (n := 0) (i := 0) (zd (i := .aload_n 0) (n := 1) (by decide +kernel)) rfl <|
    z_getR (ci := 9) (j := 53) (idx := 119) (zd (i := .getfield 119) (n := 3) (by decide +kernel)) (by decide +kernel) (by decide +kernel) rfl g1181 <|
    z_iload_n (n := 1) (i := 1) (zd (i := .iload_n 1) (n := 1) (by decide +kernel)) rfl <|
    z_iconst (n := 0) (zd (i := .iconst (0)) (n := 1) (by decide +kernel)) (by decide +kernel) <|
    z_iast (zd (i := .iastore) (n := 1) (by decide +kernel)) <|
    z_iconst (n := 0) (zd (i := .iconst (0)) (n := 1) (by decide +kernel)) (by decide +kernel) <|
    z_istore_n (n := 2) (i := 2) (zd (i := .istore_n 2) (n := 1) (by decide +kernel)) rfl (by decide +kernel) <|
    (zj (hj 3) (by decide +kernel))
noncomputable def b_X9_fillsSeen_3 : zBl := fun jp K => oIld 2 <| oAld 0 <| oGetR 9 22 <| oAld 0 <| oGetI 9 18 <| oXald 10 <| oIc zge zlt (jp 4) (oFail)
theorem s_X9_fillsSeen_3 (d : Nat) : zPb l G gh (d + 1) n_X9_fillsSeen p_X9_fillsSeen 17 b_X9_fillsSeen_3 := fun K jp hj =>
    z_iload_n (n := 2) (i := 2) (zd (i := .iload_n 2) (n := 1) (by decide +kernel)) rfl <|
    z_aload_n (n := 0) (i := 0) (zd (i := .aload_n 0) (n := 1) (by decide +kernel)) rfl <|
    z_getR (ci := 9) (j := 22) (idx := 43) (zd (i := .getfield 43) (n := 3) (by decide +kernel)) (by decide +kernel) (by decide +kernel) rfl g1150 <|
    z_aload_n (n := 0) (i := 0) (zd (i := .aload_n 0) (n := 1) (by decide +kernel)) rfl <|
    z_getI (ci := 9) (j := 18) (idx := 230) (zd (i := .getfield 230) (n := 3) (by decide +kernel)) (by decide +kernel) (by decide +kernel) rfl g1146 <|
    z_iald (zd (i := .iaload) (n := 1) (by decide +kernel)) <|
    z_icmp_ge (off := 37) (tgt := 64) (zd (i := .if_icmp .ge (37)) (n := 3) (by decide +kernel)) (by decide +kernel) (zj (hj 4) (by decide +kernel)) z_fail
noncomputable def b_X9_fillsSeen_4 : zBl := fun jp K => oInc 1 2147483649 <| jp 1
theorem s_X9_fillsSeen_4 (d : Nat) : zPb l G gh (d + 1) n_X9_fillsSeen p_X9_fillsSeen 64 b_X9_fillsSeen_4 := fun K jp hj =>
    z_iinc (i := 1) (n := 1) (zd (i := .iinc 1 (1)) (n := 3) (by decide +kernel)) (by decide +kernel) (by decide +kernel) <|
    z_goto (off := -65) (tgt := 2) (zd (i := .goto (-65)) (n := 3) (by decide +kernel)) (by decide +kernel) (zj (hj 1) (by decide +kernel))
noncomputable def b_X9_fillsSeen_5 : zBl := fun jp K => oVret K
theorem s_X9_fillsSeen_5 (d : Nat) : zPb l G gh (d + 1) n_X9_fillsSeen p_X9_fillsSeen 70 b_X9_fillsSeen_5 := fun K jp hj =>
    z_vret (zd (i := .return_) (n := 1) (by decide +kernel)) rfl
noncomputable def f_X9_fillsSeen : zMt := zmet 3 [b_X9_fillsSeen_0, b_X9_fillsSeen_1, b_X9_fillsSeen_2, b_X9_fillsSeen_3, b_X9_fillsSeen_4, b_X9_fillsSeen_5]
theorem c_X9_fillsSeen (d : Nat) : zC l G gh (d + 1) n_X9_fillsSeen f_X9_fillsSeen := zmet_ok (pcs := p_X9_fillsSeen) (by decide) rfl rfl ⟨s_X9_fillsSeen_0 d, s_X9_fillsSeen_1 d, s_X9_fillsSeen_2 d, s_X9_fillsSeen_3 d, s_X9_fillsSeen_4 d, s_X9_fillsSeen_5 d, trivial⟩
def n_X9_bits : qMn := (yX9_bits, cX9_bits, 3, (some Jvm.ClassFile.FieldType.int), 0, 0)
theorem to_X9_bits : qTo n_X9_bits 1 := ⟨g1635, g110, ⟨by decide, by decide, by decide +kernel⟩, by decide⟩
def p_X9_bits : List Nat := [0, 4, 10, 24]
noncomputable def b_X9_bits_0 : zBl := fun jp K => oInt 2147483648 <| oIst 1 <| oInt 2147483648 <| oIst 2 <| jp 1
theorem s_X9_bits_0 (d : Nat) : zPb l G gh (d + 1) n_X9_bits p_X9_bits 0 b_X9_bits_0 := fun K jp hj =>
    z_iconst (n := 0) (zd (i := .iconst (0)) (n := 1) (by decide +kernel)) (by decide +kernel) <|
    z_istore_n (n := 1) (i := 1) (zd (i := .istore_n 1) (n := 1) (by decide +kernel)) rfl (by decide +kernel) <|
    z_iconst (n := 0) (zd (i := .iconst (0)) (n := 1) (by decide +kernel)) (by decide +kernel) <|
    z_istore_n (n := 2) (i := 2) (zd (i := .istore_n 2) (n := 1) (by decide +kernel)) rfl (by decide +kernel) <|
    (zj (hj 1) (by decide +kernel))
noncomputable def b_X9_bits_1 : zBl := fun jp K => oIld 2 <| oInt 2147483654 <| oIc zge zlt (jp 3) (jp 2)
theorem s_X9_bits_1 (d : Nat) : zPb l G gh (d + 1) n_X9_bits p_X9_bits 4 b_X9_bits_1 := fun K jp hj =>
    z_iload_n (n := 2) (i := 2) (zd (i := .iload_n 2) (n := 1) (by decide +kernel)) rfl <|
    z_bipush (n := 6) (zd (i := .bipush (6)) (n := 2) (by decide +kernel)) (by decide +kernel) <|
    z_icmp_ge (off := 17) (tgt := 24) (zd (i := .if_icmp .ge (17)) (n := 3) (by decide +kernel)) (by decide +kernel) (zj (hj 3) (by decide +kernel)) (zj (hj 2) (by decide +kernel))
noncomputable def b_X9_bits_2 : zBl := fun jp K => oIld 1 <| oIld 0 <| oIld 2 <| oB2 zishr <| oInt 2147483649 <| oB2 ziand <| oB2 zadd <| oIst 1 <| oInc 2 2147483649 <| jp 1
theorem s_X9_bits_2 (d : Nat) : zPb l G gh (d + 1) n_X9_bits p_X9_bits 10 b_X9_bits_2 := fun K jp hj =>
    z_iload_n (n := 1) (i := 1) (zd (i := .iload_n 1) (n := 1) (by decide +kernel)) rfl <|
    z_iload_n (n := 0) (i := 0) (zd (i := .iload_n 0) (n := 1) (by decide +kernel)) rfl <|
    z_iload_n (n := 2) (i := 2) (zd (i := .iload_n 2) (n := 1) (by decide +kernel)) rfl <|
    z_ishr (zd (i := .ishr) (n := 1) (by decide +kernel)) <|
    z_iconst (n := 1) (zd (i := .iconst (1)) (n := 1) (by decide +kernel)) (by decide +kernel) <|
    z_iand (zd (i := .iand) (n := 1) (by decide +kernel)) <|
    z_iadd (zd (i := .iadd) (n := 1) (by decide +kernel)) <|
    z_istore_n (n := 1) (i := 1) (zd (i := .istore_n 1) (n := 1) (by decide +kernel)) rfl (by decide +kernel) <|
    z_iinc (i := 2) (n := 1) (zd (i := .iinc 2 (1)) (n := 3) (by decide +kernel)) (by decide +kernel) (by decide +kernel) <|
    z_goto (off := -17) (tgt := 4) (zd (i := .goto (-17)) (n := 3) (by decide +kernel)) (by decide +kernel) (zj (hj 1) (by decide +kernel))
noncomputable def b_X9_bits_3 : zBl := fun jp K => oIld 1 <| oIret K
theorem s_X9_bits_3 (d : Nat) : zPb l G gh (d + 1) n_X9_bits p_X9_bits 24 b_X9_bits_3 := fun K jp hj =>
    z_iload_n (n := 1) (i := 1) (zd (i := .iload_n 1) (n := 1) (by decide +kernel)) rfl <|
    z_iret (zd (i := .ireturn) (n := 1) (by decide +kernel)) rfl
noncomputable def f_X9_bits : zMt := zmet 3 [b_X9_bits_0, b_X9_bits_1, b_X9_bits_2, b_X9_bits_3]
theorem c_X9_bits (d : Nat) : zC l G gh (d + 1) n_X9_bits f_X9_bits := zmet_ok (pcs := p_X9_bits) (by decide) rfl rfl ⟨s_X9_bits_0 d, s_X9_bits_1 d, s_X9_bits_2 d, s_X9_bits_3 d, trivial⟩
def n_X9_tries : qMn := (yX9_tries, cX9_tries, 6, none, 0, 0)
theorem to_X9_tries : qTo n_X9_tries 4 := ⟨g1632, g110, ⟨by decide, by decide, by decide +kernel⟩, by decide⟩
def p_X9_tries : List Nat := [0, 11, 20, 21, 27, 37, 38, 53, 54]
noncomputable def b_X9_tries_0 : zBl := fun jp K => oAld 0 <| oGetR 9 53 <| oIld 2 <| oXald 10 <| oIld 1 <| oInt 2147483649 <| oIc zle zgt (jp 2) (jp 1)
theorem s_X9_tries_0 (d : Nat) : zPb l G gh (d + 2) n_X9_tries p_X9_tries 0 b_X9_tries_0 := fun K jp hj =>
    z_aload_n (n := 0) (i := 0) (zd (i := .aload_n 0) (n := 1) (by decide +kernel)) rfl <|
    z_getR (ci := 9) (j := 53) (idx := 119) (zd (i := .getfield 119) (n := 3) (by decide +kernel)) (by decide +kernel) (by decide +kernel) rfl g1181 <|
    z_iload_n (n := 2) (i := 2) (zd (i := .iload_n 2) (n := 1) (by decide +kernel)) rfl <|
    z_iald (zd (i := .iaload) (n := 1) (by decide +kernel)) <|
    z_iload_n (n := 1) (i := 1) (zd (i := .iload_n 1) (n := 1) (by decide +kernel)) rfl <|
    z_iconst (n := 1) (zd (i := .iconst (1)) (n := 1) (by decide +kernel)) (by decide +kernel) <|
    z_icmp_le (off := 12) (tgt := 20) (zd (i := .if_icmp .le (12)) (n := 3) (by decide +kernel)) (by decide +kernel) (zj (hj 2) (by decide +kernel)) (zj (hj 1) (by decide +kernel))
noncomputable def b_X9_tries_1 : zBl := fun jp K => oAld 0 <| oGetR 9 53 <| oIld 3 <| oXald 10 <| jp 3
theorem s_X9_tries_1 (d : Nat) : zPb l G gh (d + 2) n_X9_tries p_X9_tries 11 b_X9_tries_1 := fun K jp hj =>
    z_aload_n (n := 0) (i := 0) (zd (i := .aload_n 0) (n := 1) (by decide +kernel)) rfl <|
    z_getR (ci := 9) (j := 53) (idx := 119) (zd (i := .getfield 119) (n := 3) (by decide +kernel)) (by decide +kernel) (by decide +kernel) rfl g1181 <|
    z_iload_n (n := 3) (i := 3) (zd (i := .iload_n 3) (n := 1) (by decide +kernel)) rfl <|
    z_iald (zd (i := .iaload) (n := 1) (by decide +kernel)) <|
    z_goto (off := 4) (tgt := 21) (zd (i := .goto (4)) (n := 3) (by decide +kernel)) (by decide +kernel) (zj (hj 3) (by decide +kernel))
noncomputable def b_X9_tries_2 : zBl := fun jp K => oInt 2147483648 <| jp 3
theorem s_X9_tries_2 (d : Nat) : zPb l G gh (d + 2) n_X9_tries p_X9_tries 20 b_X9_tries_2 := fun K jp hj =>
    z_iconst (n := 0) (zd (i := .iconst (0)) (n := 1) (by decide +kernel)) (by decide +kernel) <|
    (zj (hj 3) (by decide +kernel))
noncomputable def b_X9_tries_3 : zBl := fun jp K => oB2 zior <| oIld 1 <| oInt 2147483650 <| oIc zle zgt (jp 5) (jp 4)
theorem s_X9_tries_3 (d : Nat) : zPb l G gh (d + 2) n_X9_tries p_X9_tries 21 b_X9_tries_3 := fun K jp hj =>
    z_ior (zd (i := .ior) (n := 1) (by decide +kernel)) <|
    z_iload_n (n := 1) (i := 1) (zd (i := .iload_n 1) (n := 1) (by decide +kernel)) rfl <|
    z_iconst (n := 2) (zd (i := .iconst (2)) (n := 1) (by decide +kernel)) (by decide +kernel) <|
    z_icmp_le (off := 13) (tgt := 37) (zd (i := .if_icmp .le (13)) (n := 3) (by decide +kernel)) (by decide +kernel) (zj (hj 5) (by decide +kernel)) (zj (hj 4) (by decide +kernel))
noncomputable def b_X9_tries_4 : zBl := fun jp K => oAld 0 <| oGetR 9 53 <| oIld 4 <| oXald 10 <| jp 6
theorem s_X9_tries_4 (d : Nat) : zPb l G gh (d + 2) n_X9_tries p_X9_tries 27 b_X9_tries_4 := fun K jp hj =>
    z_aload_n (n := 0) (i := 0) (zd (i := .aload_n 0) (n := 1) (by decide +kernel)) rfl <|
    z_getR (ci := 9) (j := 53) (idx := 119) (zd (i := .getfield 119) (n := 3) (by decide +kernel)) (by decide +kernel) (by decide +kernel) rfl g1181 <|
    z_iload (i := 4) (zd (i := .iload 4) (n := 2) (by decide +kernel)) <|
    z_iald (zd (i := .iaload) (n := 1) (by decide +kernel)) <|
    z_goto (off := 4) (tgt := 38) (zd (i := .goto (4)) (n := 3) (by decide +kernel)) (by decide +kernel) (zj (hj 6) (by decide +kernel))
noncomputable def b_X9_tries_5 : zBl := fun jp K => oInt 2147483648 <| jp 6
theorem s_X9_tries_5 (d : Nat) : zPb l G gh (d + 2) n_X9_tries p_X9_tries 37 b_X9_tries_5 := fun K jp hj =>
    z_iconst (n := 0) (zd (i := .iconst (0)) (n := 1) (by decide +kernel)) (by decide +kernel) <|
    (zj (hj 6) (by decide +kernel))
noncomputable def b_X9_tries_6 : zBl := fun jp K => oB2 zior <| oIst 5 <| oIld 5 <| oCs 1 f_X9_bits <| oAld 0 <| oGetI 9 55 <| oIc zgt zle (jp 8) (jp 7)
theorem s_X9_tries_6 (d : Nat) : zPb l G gh (d + 2) n_X9_tries p_X9_tries 38 b_X9_tries_6 := fun K jp hj =>
    z_ior (zd (i := .ior) (n := 1) (by decide +kernel)) <|
    z_istore (i := 5) (zd (i := .istore 5) (n := 2) (by decide +kernel)) (by decide +kernel) <|
    z_iload (i := 5) (zd (i := .iload 5) (n := 2) (by decide +kernel)) <|
    z_callS (idx := 412) (N := n_X9_bits) (zd (i := .invokestatic 412) (n := 3) (by decide +kernel)) to_X9_bits g1633 g1634 rfl rfl (c_X9_bits (l := l) (G := G) (gh := gh) d) <|
    z_aload_n (n := 0) (i := 0) (zd (i := .aload_n 0) (n := 1) (by decide +kernel)) rfl <|
    z_getI (ci := 9) (j := 55) (idx := 415) (zd (i := .getfield 415) (n := 3) (by decide +kernel)) (by decide +kernel) (by decide +kernel) rfl g1183 <|
    z_icmp_gt (off := 4) (tgt := 54) (zd (i := .if_icmp .gt (4)) (n := 3) (by decide +kernel)) (by decide +kernel) (zj (hj 8) (by decide +kernel)) (zj (hj 7) (by decide +kernel))
noncomputable def b_X9_tries_7 : zBl := fun jp K => oVret K
theorem s_X9_tries_7 (d : Nat) : zPb l G gh (d + 2) n_X9_tries p_X9_tries 53 b_X9_tries_7 := fun K jp hj =>
    z_vret (zd (i := .return_) (n := 1) (by decide +kernel)) rfl
noncomputable def b_X9_tries_8 : zBl := fun jp K => oAld 0 <| oIld 5 <| oCs 1 f_X9_bits <| oPutI 9 55 <| oAld 0 <| oGetR 9 54 <| oInt 2147483648 <| oIld 2 <| oXast 10 zid <| oAld 0 <| oGetR 9 54 <| oInt 2147483649 <| oIld 3 <| oXast 10 zid <| oAld 0 <| oGetR 9 54 <| oInt 2147483650 <| oIld 4 <| oXast 10 zid <| oVret K
theorem s_X9_tries_8 (d : Nat) : zPb l G gh (d + 2) n_X9_tries p_X9_tries 54 b_X9_tries_8 := fun K jp hj =>
    z_aload_n (n := 0) (i := 0) (zd (i := .aload_n 0) (n := 1) (by decide +kernel)) rfl <|
    z_iload (i := 5) (zd (i := .iload 5) (n := 2) (by decide +kernel)) <|
    z_callS (idx := 412) (N := n_X9_bits) (zd (i := .invokestatic 412) (n := 3) (by decide +kernel)) to_X9_bits g1633 g1634 rfl rfl (c_X9_bits (l := l) (G := G) (gh := gh) d) <|
    z_putI (ci := 9) (j := 55) (idx := 415) (zd (i := .putfield 415) (n := 3) (by decide +kernel)) (by decide +kernel) (by decide +kernel) rfl g1183 (Or.inl rfl) <|
    z_aload_n (n := 0) (i := 0) (zd (i := .aload_n 0) (n := 1) (by decide +kernel)) rfl <|
    z_getR (ci := 9) (j := 54) (idx := 122) (zd (i := .getfield 122) (n := 3) (by decide +kernel)) (by decide +kernel) (by decide +kernel) rfl g1182 <|
    z_iconst (n := 0) (zd (i := .iconst (0)) (n := 1) (by decide +kernel)) (by decide +kernel) <|
    z_iload_n (n := 2) (i := 2) (zd (i := .iload_n 2) (n := 1) (by decide +kernel)) rfl <|
    z_iast (zd (i := .iastore) (n := 1) (by decide +kernel)) <|
    z_aload_n (n := 0) (i := 0) (zd (i := .aload_n 0) (n := 1) (by decide +kernel)) rfl <|
    z_getR (ci := 9) (j := 54) (idx := 122) (zd (i := .getfield 122) (n := 3) (by decide +kernel)) (by decide +kernel) (by decide +kernel) rfl g1182 <|
    z_iconst (n := 1) (zd (i := .iconst (1)) (n := 1) (by decide +kernel)) (by decide +kernel) <|
    z_iload_n (n := 3) (i := 3) (zd (i := .iload_n 3) (n := 1) (by decide +kernel)) rfl <|
    z_iast (zd (i := .iastore) (n := 1) (by decide +kernel)) <|
    z_aload_n (n := 0) (i := 0) (zd (i := .aload_n 0) (n := 1) (by decide +kernel)) rfl <|
    z_getR (ci := 9) (j := 54) (idx := 122) (zd (i := .getfield 122) (n := 3) (by decide +kernel)) (by decide +kernel) (by decide +kernel) rfl g1182 <|
    z_iconst (n := 2) (zd (i := .iconst (2)) (n := 1) (by decide +kernel)) (by decide +kernel) <|
    z_iload (i := 4) (zd (i := .iload 4) (n := 2) (by decide +kernel)) <|
    z_iast (zd (i := .iastore) (n := 1) (by decide +kernel)) <|
    z_vret (zd (i := .return_) (n := 1) (by decide +kernel)) rfl
noncomputable def f_X9_tries : zMt := zmet 6 [b_X9_tries_0, b_X9_tries_1, b_X9_tries_2, b_X9_tries_3, b_X9_tries_4, b_X9_tries_5, b_X9_tries_6, b_X9_tries_7, b_X9_tries_8]
theorem c_X9_tries (d : Nat) : zC l G gh (d + 2) n_X9_tries f_X9_tries := zmet_ok (pcs := p_X9_tries) (by decide) rfl rfl ⟨s_X9_tries_0 d, s_X9_tries_1 d, s_X9_tries_2 d, s_X9_tries_3 d, s_X9_tries_4 d, s_X9_tries_5 d, s_X9_tries_6 d, s_X9_tries_7 d, s_X9_tries_8 d, trivial⟩
def n_X9_umbrellas : qMn := (yX9_umbrellas, cX9_umbrellas, 6, (some Jvm.ClassFile.FieldType.int), 0, 0)
theorem to_X9_umbrellas : qTo n_X9_umbrellas 2 := ⟨g1624, g110, ⟨by decide, by decide, by decide +kernel⟩, by decide⟩
def p_X9_umbrellas : List Nat := [0, 9, 20, 22, 33, 41, 46, 53, 60, 63, 66, 72, 79, 84, 88, 91, 107, 113, 119, 124, 131, 137]
noncomputable def b_X9_umbrellas_0 : zBl := fun jp K => oIld 1 <| oInt 2147483649 <| oInt 2147483651 <| oCs 3 f_X9_in <| oIf zeq zne (jp 2) (jp 1)
theorem s_X9_umbrellas_0 (d : Nat) : zPb l G gh (d + 3) n_X9_umbrellas p_X9_umbrellas 0 b_X9_umbrellas_0 := fun K jp hj =>
    z_iload_n (n := 1) (i := 1) (zd (i := .iload_n 1) (n := 1) (by decide +kernel)) rfl <|
    z_iconst (n := 1) (zd (i := .iconst (1)) (n := 1) (by decide +kernel)) (by decide +kernel) <|
    z_iconst (n := 3) (zd (i := .iconst (3)) (n := 1) (by decide +kernel)) (by decide +kernel) <|
    z_callS (idx := 304) (N := n_X9_in) (zd (i := .invokestatic 304) (n := 3) (by decide +kernel)) to_X9_in g1442 g1443 rfl rfl (c_X9_in (l := l) (G := G) (gh := gh) (d + 1)) <|
    z_if_eq (off := 14) (tgt := 20) (zd (i := .ifCond .eq (14)) (n := 3) (by decide +kernel)) (by decide +kernel) (zj (hj 2) (by decide +kernel)) (zj (hj 1) (by decide +kernel))
noncomputable def b_X9_umbrellas_1 : zBl := fun jp K => oIld 2 <| oInt 2147483647 <| oIld 1 <| oInt 2147483649 <| oB2 zsub <| oCs 3 f_X9_in <| oIf zne zeq (jp 3) (jp 2)
theorem s_X9_umbrellas_1 (d : Nat) : zPb l G gh (d + 3) n_X9_umbrellas p_X9_umbrellas 9 b_X9_umbrellas_1 := fun K jp hj =>
    z_iload_n (n := 2) (i := 2) (zd (i := .iload_n 2) (n := 1) (by decide +kernel)) rfl <|
    z_iconst (n := -1) (zd (i := .iconst (-1)) (n := 1) (by decide +kernel)) (by decide +kernel) <|
    z_iload_n (n := 1) (i := 1) (zd (i := .iload_n 1) (n := 1) (by decide +kernel)) rfl <|
    z_iconst (n := 1) (zd (i := .iconst (1)) (n := 1) (by decide +kernel)) (by decide +kernel) <|
    z_isub (zd (i := .isub) (n := 1) (by decide +kernel)) <|
    z_callS (idx := 304) (N := n_X9_in) (zd (i := .invokestatic 304) (n := 3) (by decide +kernel)) to_X9_in g1442 g1443 rfl rfl (c_X9_in (l := l) (G := G) (gh := gh) (d + 1)) <|
    z_if_ne (off := 5) (tgt := 22) (zd (i := .ifCond .ne (5)) (n := 3) (by decide +kernel)) (by decide +kernel) (zj (hj 3) (by decide +kernel)) (zj (hj 2) (by decide +kernel))
noncomputable def b_X9_umbrellas_2 : zBl := fun jp K => oInt 2147483647 <| oIret K
theorem s_X9_umbrellas_2 (d : Nat) : zPb l G gh (d + 3) n_X9_umbrellas p_X9_umbrellas 20 b_X9_umbrellas_2 := fun K jp hj =>
    z_iconst (n := -1) (zd (i := .iconst (-1)) (n := 1) (by decide +kernel)) (by decide +kernel) <|
    z_iret (zd (i := .ireturn) (n := 1) (by decide +kernel)) rfl
noncomputable def b_X9_umbrellas_3 : zBl := fun jp K => oAld 0 <| oCv 9 0 f_X9_fillsSeen <| oAld 0 <| oInt 2147483647 <| oPutI 9 55 <| oInt 2147483648 <| oIst 3 <| jp 4
theorem s_X9_umbrellas_3 (d : Nat) : zPb l G gh (d + 3) n_X9_umbrellas p_X9_umbrellas 22 b_X9_umbrellas_3 := fun K jp hj =>
    z_aload_n (n := 0) (i := 0) (zd (i := .aload_n 0) (n := 1) (by decide +kernel)) rfl <|
    z_callV (idx := 418) (ci := 9) (N := n_X9_fillsSeen) (zd (i := .invokevirtual 418) (n := 3) (by decide +kernel)) to_X9_fillsSeen g1625 g1627 g91 (by decide +kernel) rfl rfl rfl (c_X9_fillsSeen (l := l) (G := G) (gh := gh) (d + 1)) <|
    z_aload_n (n := 0) (i := 0) (zd (i := .aload_n 0) (n := 1) (by decide +kernel)) rfl <|
    z_iconst (n := -1) (zd (i := .iconst (-1)) (n := 1) (by decide +kernel)) (by decide +kernel) <|
    z_putI (ci := 9) (j := 55) (idx := 415) (zd (i := .putfield 415) (n := 3) (by decide +kernel)) (by decide +kernel) (by decide +kernel) rfl g1183 (Or.inl rfl) <|
    z_iconst (n := 0) (zd (i := .iconst (0)) (n := 1) (by decide +kernel)) (by decide +kernel) <|
    z_istore_n (n := 3) (i := 3) (zd (i := .istore_n 3) (n := 1) (by decide +kernel)) rfl (by decide +kernel) <|
    (zj (hj 4) (by decide +kernel))
noncomputable def b_X9_umbrellas_4 : zBl := fun jp K => oIld 3 <| oInt 2147483668 <| oIld 1 <| oB2 zsub <| oIc zgt zle (jp 18) (jp 5)
theorem s_X9_umbrellas_4 (d : Nat) : zPb l G gh (d + 3) n_X9_umbrellas p_X9_umbrellas 33 b_X9_umbrellas_4 := fun K jp hj =>
    z_iload_n (n := 3) (i := 3) (zd (i := .iload_n 3) (n := 1) (by decide +kernel)) rfl <|
    z_bipush (n := 20) (zd (i := .bipush (20)) (n := 2) (by decide +kernel)) (by decide +kernel) <|
    z_iload_n (n := 1) (i := 1) (zd (i := .iload_n 1) (n := 1) (by decide +kernel)) rfl <|
    z_isub (zd (i := .isub) (n := 1) (by decide +kernel)) <|
    z_icmp_gt (off := 81) (tgt := 119) (zd (i := .if_icmp .gt (81)) (n := 3) (by decide +kernel)) (by decide +kernel) (zj (hj 18) (by decide +kernel)) (zj (hj 5) (by decide +kernel))
noncomputable def b_X9_umbrellas_5 : zBl := fun jp K => oIld 3 <| oInt 2147483649 <| oB2 zadd <| oIst 4 <| jp 6
theorem s_X9_umbrellas_5 (d : Nat) : zPb l G gh (d + 3) n_X9_umbrellas p_X9_umbrellas 41 b_X9_umbrellas_5 := fun K jp hj =>
    z_iload_n (n := 3) (i := 3) (zd (i := .iload_n 3) (n := 1) (by decide +kernel)) rfl <|
    z_iconst (n := 1) (zd (i := .iconst (1)) (n := 1) (by decide +kernel)) (by decide +kernel) <|
    z_iadd (zd (i := .iadd) (n := 1) (by decide +kernel)) <|
    z_istore (i := 4) (zd (i := .istore 4) (n := 2) (by decide +kernel)) (by decide +kernel) <|
    (zj (hj 6) (by decide +kernel))
noncomputable def b_X9_umbrellas_6 : zBl := fun jp K => oIld 4 <| oIld 1 <| oInt 2147483649 <| oIc zle zgt (jp 8) (jp 7)
theorem s_X9_umbrellas_6 (d : Nat) : zPb l G gh (d + 3) n_X9_umbrellas p_X9_umbrellas 46 b_X9_umbrellas_6 := fun K jp hj =>
    z_iload (i := 4) (zd (i := .iload 4) (n := 2) (by decide +kernel)) <|
    z_iload_n (n := 1) (i := 1) (zd (i := .iload_n 1) (n := 1) (by decide +kernel)) rfl <|
    z_iconst (n := 1) (zd (i := .iconst (1)) (n := 1) (by decide +kernel)) (by decide +kernel) <|
    z_icmp_le (off := 10) (tgt := 60) (zd (i := .if_icmp .le (10)) (n := 3) (by decide +kernel)) (by decide +kernel) (zj (hj 8) (by decide +kernel)) (zj (hj 7) (by decide +kernel))
noncomputable def b_X9_umbrellas_7 : zBl := fun jp K => oInt 2147483669 <| oIld 1 <| oB2 zsub <| jp 9
theorem s_X9_umbrellas_7 (d : Nat) : zPb l G gh (d + 3) n_X9_umbrellas p_X9_umbrellas 53 b_X9_umbrellas_7 := fun K jp hj =>
    z_bipush (n := 21) (zd (i := .bipush (21)) (n := 2) (by decide +kernel)) (by decide +kernel) <|
    z_iload_n (n := 1) (i := 1) (zd (i := .iload_n 1) (n := 1) (by decide +kernel)) rfl <|
    z_isub (zd (i := .isub) (n := 1) (by decide +kernel)) <|
    z_goto (off := 6) (tgt := 63) (zd (i := .goto (6)) (n := 3) (by decide +kernel)) (by decide +kernel) (zj (hj 9) (by decide +kernel))
noncomputable def b_X9_umbrellas_8 : zBl := fun jp K => oIld 3 <| oInt 2147483649 <| oB2 zadd <| jp 9
theorem s_X9_umbrellas_8 (d : Nat) : zPb l G gh (d + 3) n_X9_umbrellas p_X9_umbrellas 60 b_X9_umbrellas_8 := fun K jp hj =>
    z_iload_n (n := 3) (i := 3) (zd (i := .iload_n 3) (n := 1) (by decide +kernel)) rfl <|
    z_iconst (n := 1) (zd (i := .iconst (1)) (n := 1) (by decide +kernel)) (by decide +kernel) <|
    z_iadd (zd (i := .iadd) (n := 1) (by decide +kernel)) <|
    (zj (hj 9) (by decide +kernel))
noncomputable def b_X9_umbrellas_9 : zBl := fun jp K => oIc zgt zle (jp 17) (jp 10)
theorem s_X9_umbrellas_9 (d : Nat) : zPb l G gh (d + 3) n_X9_umbrellas p_X9_umbrellas 63 b_X9_umbrellas_9 := fun K jp hj =>
    z_icmp_gt (off := 50) (tgt := 113) (zd (i := .if_icmp .gt (50)) (n := 3) (by decide +kernel)) (by decide +kernel) (zj (hj 17) (by decide +kernel)) (zj (hj 10) (by decide +kernel))
noncomputable def b_X9_umbrellas_10 : zBl := fun jp K => oIld 4 <| oInt 2147483649 <| oB2 zadd <| oIst 5 <| jp 11
theorem s_X9_umbrellas_10 (d : Nat) : zPb l G gh (d + 3) n_X9_umbrellas p_X9_umbrellas 66 b_X9_umbrellas_10 := fun K jp hj =>
    z_iload (i := 4) (zd (i := .iload 4) (n := 2) (by decide +kernel)) <|
    z_iconst (n := 1) (zd (i := .iconst (1)) (n := 1) (by decide +kernel)) (by decide +kernel) <|
    z_iadd (zd (i := .iadd) (n := 1) (by decide +kernel)) <|
    z_istore (i := 5) (zd (i := .istore 5) (n := 2) (by decide +kernel)) (by decide +kernel) <|
    (zj (hj 11) (by decide +kernel))
noncomputable def b_X9_umbrellas_11 : zBl := fun jp K => oIld 5 <| oIld 1 <| oInt 2147483650 <| oIc zle zgt (jp 13) (jp 12)
theorem s_X9_umbrellas_11 (d : Nat) : zPb l G gh (d + 3) n_X9_umbrellas p_X9_umbrellas 72 b_X9_umbrellas_11 := fun K jp hj =>
    z_iload (i := 5) (zd (i := .iload 5) (n := 2) (by decide +kernel)) <|
    z_iload_n (n := 1) (i := 1) (zd (i := .iload_n 1) (n := 1) (by decide +kernel)) rfl <|
    z_iconst (n := 2) (zd (i := .iconst (2)) (n := 1) (by decide +kernel)) (by decide +kernel) <|
    z_icmp_le (off := 8) (tgt := 84) (zd (i := .if_icmp .le (8)) (n := 3) (by decide +kernel)) (by decide +kernel) (zj (hj 13) (by decide +kernel)) (zj (hj 12) (by decide +kernel))
noncomputable def b_X9_umbrellas_12 : zBl := fun jp K => oInt 2147483667 <| jp 14
theorem s_X9_umbrellas_12 (d : Nat) : zPb l G gh (d + 3) n_X9_umbrellas p_X9_umbrellas 79 b_X9_umbrellas_12 := fun K jp hj =>
    z_bipush (n := 19) (zd (i := .bipush (19)) (n := 2) (by decide +kernel)) (by decide +kernel) <|
    z_goto (off := 7) (tgt := 88) (zd (i := .goto (7)) (n := 3) (by decide +kernel)) (by decide +kernel) (zj (hj 14) (by decide +kernel))
noncomputable def b_X9_umbrellas_13 : zBl := fun jp K => oIld 4 <| oInt 2147483649 <| oB2 zadd <| jp 14
theorem s_X9_umbrellas_13 (d : Nat) : zPb l G gh (d + 3) n_X9_umbrellas p_X9_umbrellas 84 b_X9_umbrellas_13 := fun K jp hj =>
    z_iload (i := 4) (zd (i := .iload 4) (n := 2) (by decide +kernel)) <|
    z_iconst (n := 1) (zd (i := .iconst (1)) (n := 1) (by decide +kernel)) (by decide +kernel) <|
    z_iadd (zd (i := .iadd) (n := 1) (by decide +kernel)) <|
    (zj (hj 14) (by decide +kernel))
noncomputable def b_X9_umbrellas_14 : zBl := fun jp K => oIc zgt zle (jp 16) (jp 15)
theorem s_X9_umbrellas_14 (d : Nat) : zPb l G gh (d + 3) n_X9_umbrellas p_X9_umbrellas 88 b_X9_umbrellas_14 := fun K jp hj =>
    z_icmp_gt (off := 19) (tgt := 107) (zd (i := .if_icmp .gt (19)) (n := 3) (by decide +kernel)) (by decide +kernel) (zj (hj 16) (by decide +kernel)) (zj (hj 15) (by decide +kernel))
noncomputable def b_X9_umbrellas_15 : zBl := fun jp K => oAld 0 <| oIld 1 <| oIld 3 <| oIld 4 <| oIld 5 <| oCv 9 4 f_X9_tries <| oInc 5 2147483649 <| jp 11
theorem s_X9_umbrellas_15 (d : Nat) : zPb l G gh (d + 3) n_X9_umbrellas p_X9_umbrellas 91 b_X9_umbrellas_15 := fun K jp hj =>
    z_aload_n (n := 0) (i := 0) (zd (i := .aload_n 0) (n := 1) (by decide +kernel)) rfl <|
    z_iload_n (n := 1) (i := 1) (zd (i := .iload_n 1) (n := 1) (by decide +kernel)) rfl <|
    z_iload_n (n := 3) (i := 3) (zd (i := .iload_n 3) (n := 1) (by decide +kernel)) rfl <|
    z_iload (i := 4) (zd (i := .iload 4) (n := 2) (by decide +kernel)) <|
    z_iload (i := 5) (zd (i := .iload 5) (n := 2) (by decide +kernel)) <|
    z_callV (idx := 421) (ci := 9) (N := n_X9_tries) (zd (i := .invokevirtual 421) (n := 3) (by decide +kernel)) to_X9_tries g1629 g1631 g92 (by decide +kernel) rfl rfl rfl (c_X9_tries (l := l) (G := G) (gh := gh) d) <|
    z_iinc (i := 5) (n := 1) (zd (i := .iinc 5 (1)) (n := 3) (by decide +kernel)) (by decide +kernel) (by decide +kernel) <|
    z_goto (off := -32) (tgt := 72) (zd (i := .goto (-32)) (n := 3) (by decide +kernel)) (by decide +kernel) (zj (hj 11) (by decide +kernel))
noncomputable def b_X9_umbrellas_16 : zBl := fun jp K => oInc 4 2147483649 <| jp 6
theorem s_X9_umbrellas_16 (d : Nat) : zPb l G gh (d + 3) n_X9_umbrellas p_X9_umbrellas 107 b_X9_umbrellas_16 := fun K jp hj =>
    z_iinc (i := 4) (n := 1) (zd (i := .iinc 4 (1)) (n := 3) (by decide +kernel)) (by decide +kernel) (by decide +kernel) <|
    z_goto (off := -64) (tgt := 46) (zd (i := .goto (-64)) (n := 3) (by decide +kernel)) (by decide +kernel) (zj (hj 6) (by decide +kernel))
noncomputable def b_X9_umbrellas_17 : zBl := fun jp K => oInc 3 2147483649 <| jp 4
theorem s_X9_umbrellas_17 (d : Nat) : zPb l G gh (d + 3) n_X9_umbrellas p_X9_umbrellas 113 b_X9_umbrellas_17 := fun K jp hj =>
    z_iinc (i := 3) (n := 1) (zd (i := .iinc 3 (1)) (n := 3) (by decide +kernel)) (by decide +kernel) (by decide +kernel) <|
    z_goto (off := -83) (tgt := 33) (zd (i := .goto (-83)) (n := 3) (by decide +kernel)) (by decide +kernel) (zj (hj 4) (by decide +kernel))
noncomputable def b_X9_umbrellas_18 : zBl := fun jp K => oIld 2 <| oInt 2147483647 <| oIc zne zeq (jp 20) (jp 19)
theorem s_X9_umbrellas_18 (d : Nat) : zPb l G gh (d + 3) n_X9_umbrellas p_X9_umbrellas 119 b_X9_umbrellas_18 := fun K jp hj =>
    z_iload_n (n := 2) (i := 2) (zd (i := .iload_n 2) (n := 1) (by decide +kernel)) rfl <|
    z_iconst (n := -1) (zd (i := .iconst (-1)) (n := 1) (by decide +kernel)) (by decide +kernel) <|
    z_icmp_ne (off := 10) (tgt := 131) (zd (i := .if_icmp .ne (10)) (n := 3) (by decide +kernel)) (by decide +kernel) (zj (hj 20) (by decide +kernel)) (zj (hj 19) (by decide +kernel))
noncomputable def b_X9_umbrellas_19 : zBl := fun jp K => oAld 0 <| oGetI 9 55 <| jp 21
theorem s_X9_umbrellas_19 (d : Nat) : zPb l G gh (d + 3) n_X9_umbrellas p_X9_umbrellas 124 b_X9_umbrellas_19 := fun K jp hj =>
    z_aload_n (n := 0) (i := 0) (zd (i := .aload_n 0) (n := 1) (by decide +kernel)) rfl <|
    z_getI (ci := 9) (j := 55) (idx := 415) (zd (i := .getfield 415) (n := 3) (by decide +kernel)) (by decide +kernel) (by decide +kernel) rfl g1183 <|
    z_goto (off := 9) (tgt := 137) (zd (i := .goto (9)) (n := 3) (by decide +kernel)) (by decide +kernel) (zj (hj 21) (by decide +kernel))
noncomputable def b_X9_umbrellas_20 : zBl := fun jp K => oAld 0 <| oGetR 9 54 <| oIld 2 <| oXald 10 <| jp 21
theorem s_X9_umbrellas_20 (d : Nat) : zPb l G gh (d + 3) n_X9_umbrellas p_X9_umbrellas 131 b_X9_umbrellas_20 := fun K jp hj =>
    z_aload_n (n := 0) (i := 0) (zd (i := .aload_n 0) (n := 1) (by decide +kernel)) rfl <|
    z_getR (ci := 9) (j := 54) (idx := 122) (zd (i := .getfield 122) (n := 3) (by decide +kernel)) (by decide +kernel) (by decide +kernel) rfl g1182 <|
    z_iload_n (n := 2) (i := 2) (zd (i := .iload_n 2) (n := 1) (by decide +kernel)) rfl <|
    z_iald (zd (i := .iaload) (n := 1) (by decide +kernel)) <|
    (zj (hj 21) (by decide +kernel))
noncomputable def b_X9_umbrellas_21 : zBl := fun jp K => oIret K
theorem s_X9_umbrellas_21 (d : Nat) : zPb l G gh (d + 3) n_X9_umbrellas p_X9_umbrellas 137 b_X9_umbrellas_21 := fun K jp hj =>
    z_iret (zd (i := .ireturn) (n := 1) (by decide +kernel)) rfl
noncomputable def f_X9_umbrellas : zMt := zmet 6 [b_X9_umbrellas_0, b_X9_umbrellas_1, b_X9_umbrellas_2, b_X9_umbrellas_3, b_X9_umbrellas_4, b_X9_umbrellas_5, b_X9_umbrellas_6, b_X9_umbrellas_7, b_X9_umbrellas_8, b_X9_umbrellas_9, b_X9_umbrellas_10, b_X9_umbrellas_11, b_X9_umbrellas_12, b_X9_umbrellas_13, b_X9_umbrellas_14, b_X9_umbrellas_15, b_X9_umbrellas_16, b_X9_umbrellas_17, b_X9_umbrellas_18, b_X9_umbrellas_19, b_X9_umbrellas_20, b_X9_umbrellas_21]
theorem c_X9_umbrellas (d : Nat) : zC l G gh (d + 3) n_X9_umbrellas f_X9_umbrellas := zmet_ok (pcs := p_X9_umbrellas) (by decide) rfl rfl ⟨s_X9_umbrellas_0 d, s_X9_umbrellas_1 d, s_X9_umbrellas_2 d, s_X9_umbrellas_3 d, s_X9_umbrellas_4 d, s_X9_umbrellas_5 d, s_X9_umbrellas_6 d, s_X9_umbrellas_7 d, s_X9_umbrellas_8 d, s_X9_umbrellas_9 d, s_X9_umbrellas_10 d, s_X9_umbrellas_11 d, s_X9_umbrellas_12 d, s_X9_umbrellas_13 d, s_X9_umbrellas_14 d, s_X9_umbrellas_15 d, s_X9_umbrellas_16 d, s_X9_umbrellas_17 d, s_X9_umbrellas_18 d, s_X9_umbrellas_19 d, s_X9_umbrellas_20 d, s_X9_umbrellas_21 d, trivial⟩
def n_X8_worth : qMn := (yX8_worth, cX8_worth, 7, (some Jvm.ClassFile.FieldType.int), 0, 0)
theorem to_X8_worth : qTo n_X8_worth 4 := ⟨g984, g97, ⟨by decide, by decide, by decide +kernel⟩, by decide⟩
def p_X8_worth : List Nat := [0, 34]
noncomputable def b_X8_worth_0 : zBl := fun jp K => oAld 0 <| oIld 1 <| oIld 2 <| oCv 8 2 f_X8_isPair <| oIf zeq zne (jp 1) (oFail)
theorem s_X8_worth_0 (d : Nat) : zPb l G gh (d + 3) n_X8_worth p_X8_worth 0 b_X8_worth_0 := fun K jp hj =>
    z_aload_n (n := 0) (i := 0) (zd (i := .aload_n 0) (n := 1) (by decide +kernel)) rfl <|
    z_iload_n (n := 1) (i := 1) (zd (i := .iload_n 1) (n := 1) (by decide +kernel)) rfl <|
    z_iload_n (n := 2) (i := 2) (zd (i := .iload_n 2) (n := 1) (by decide +kernel)) rfl <|
    z_callV (idx := 162) (ci := 8) (N := n_X8_isPair) (zd (i := .invokevirtual 162) (n := 3) (by decide +kernel)) to_X8_isPair g797 g799 g26 (by decide +kernel) rfl rfl rfl (c_X8_isPair (l := l) (G := G) (gh := gh) d) <|
    z_if_eq (off := 28) (tgt := 34) (zd (i := .ifCond .eq (28)) (n := 3) (by decide +kernel)) (by decide +kernel) (zj (hj 1) (by decide +kernel)) z_fail
noncomputable def b_X8_worth_1 : zBl := fun jp K => oInt 2147383648 <| oIret K
theorem s_X8_worth_1 (d : Nat) : zPb l G gh (d + 3) n_X8_worth p_X8_worth 34 b_X8_worth_1 := fun K jp hj =>
    z_ldcw (n := 278) (zd (i := .ldc_w 278) (n := 3) (by decide +kernel)) g985 (by decide +kernel) <|
    z_iret (zd (i := .ireturn) (n := 1) (by decide +kernel)) rfl
noncomputable def f_X8_worth : zMt := zmet 7 [b_X8_worth_0, b_X8_worth_1]
theorem c_X8_worth (d : Nat) : zC l G gh (d + 3) n_X8_worth f_X8_worth := zmet_ok (pcs := p_X8_worth) (by decide) rfl rfl ⟨s_X8_worth_0 d, s_X8_worth_1 d, trivial⟩
def n_X9_worth : qMn := (yX9_worth, cX9_worth, 10, (some Jvm.ClassFile.FieldType.int), 0, 0)
theorem to_X9_worth : qTo n_X9_worth 4 := ⟨g1639, g110, ⟨by decide, by decide, by decide +kernel⟩, by decide⟩
def p_X9_worth : List Nat := [0, 35]
noncomputable def b_X9_worth_0 : zBl := fun jp K => oAld 0 <| oIld 1 <| oCv 9 1 f_X9_isSeat <| oIf zeq zne (jp 1) (oFail)
theorem s_X9_worth_0 (d : Nat) : zPb l G gh (d + 3) n_X9_worth p_X9_worth 0 b_X9_worth_0 := fun K jp hj =>
    z_aload_n (n := 0) (i := 0) (zd (i := .aload_n 0) (n := 1) (by decide +kernel)) rfl <|
    z_iload_n (n := 1) (i := 1) (zd (i := .iload_n 1) (n := 1) (by decide +kernel)) rfl <|
    z_callV (idx := 378) (ci := 9) (N := n_X9_isSeat) (zd (i := .invokevirtual 378) (n := 3) (by decide +kernel)) to_X9_isSeat g1487 g1489 g75 (by decide +kernel) rfl rfl rfl (c_X9_isSeat (l := l) (G := G) (gh := gh) d) <|
    z_if_eq (off := 30) (tgt := 35) (zd (i := .ifCond .eq (30)) (n := 3) (by decide +kernel)) (by decide +kernel) (zj (hj 1) (by decide +kernel)) z_fail
noncomputable def b_X9_worth_1 : zBl := fun jp K => oInt 2147383648 <| oIret K
theorem s_X9_worth_1 (d : Nat) : zPb l G gh (d + 3) n_X9_worth p_X9_worth 35 b_X9_worth_1 := fun K jp hj =>
    z_ldcw (n := 424) (zd (i := .ldc_w 424) (n := 3) (by decide +kernel)) g1640 (by decide +kernel) <|
    z_iret (zd (i := .ireturn) (n := 1) (by decide +kernel)) rfl
noncomputable def f_X9_worth : zMt := zmet 10 [b_X9_worth_0, b_X9_worth_1]
theorem c_X9_worth (d : Nat) : zC l G gh (d + 3) n_X9_worth f_X9_worth := zmet_ok (pcs := p_X9_worth) (by decide) rfl rfl ⟨s_X9_worth_0 d, s_X9_worth_1 d, trivial⟩
def n_X8_book : qMn := (yX8_book, cX8_book, 3, (some Jvm.ClassFile.FieldType.int), 0, 0)
theorem to_X8_book : qTo n_X8_book 2 := ⟨g990, g97, ⟨by decide, by decide, by decide +kernel⟩, by decide⟩
def p_X8_book : List Nat := [0, 15]
noncomputable def b_X8_book_0 : zBl := fun jp K => oAld 0 <| oIld 1 <| oCv 8 1 f_X8_isSeat <| oIf zeq zne (jp 1) (oFail)
theorem s_X8_book_0 (d : Nat) : zPb l G gh (d + 2) n_X8_book p_X8_book 0 b_X8_book_0 := fun K jp hj =>
    z_aload_n (n := 0) (i := 0) (zd (i := .aload_n 0) (n := 1) (by decide +kernel)) rfl <|
    z_iload_n (n := 1) (i := 1) (zd (i := .iload_n 1) (n := 1) (by decide +kernel)) rfl <|
    z_callV (idx := 131) (ci := 8) (N := n_X8_isSeat) (zd (i := .invokevirtual 131) (n := 3) (by decide +kernel)) to_X8_isSeat g771 g773 g23 (by decide +kernel) rfl rfl rfl (c_X8_isSeat (l := l) (G := G) (gh := gh) d) <|
    z_if_eq (off := 10) (tgt := 15) (zd (i := .ifCond .eq (10)) (n := 3) (by decide +kernel)) (by decide +kernel) (zj (hj 1) (by decide +kernel)) z_fail
noncomputable def b_X8_book_1 : zBl := fun jp K => oInt 2147483647 <| oIret K
theorem s_X8_book_1 (d : Nat) : zPb l G gh (d + 2) n_X8_book p_X8_book 15 b_X8_book_1 := fun K jp hj =>
    z_iconst (n := -1) (zd (i := .iconst (-1)) (n := 1) (by decide +kernel)) (by decide +kernel) <|
    z_iret (zd (i := .ireturn) (n := 1) (by decide +kernel)) rfl
noncomputable def f_X8_book : zMt := zmet 3 [b_X8_book_0, b_X8_book_1]
theorem c_X8_book (d : Nat) : zC l G gh (d + 2) n_X8_book f_X8_book := zmet_ok (pcs := p_X8_book) (by decide) rfl rfl ⟨s_X8_book_0 d, s_X8_book_1 d, trivial⟩
def n_X9_book : qMn := (yX9_book, cX9_book, 3, (some Jvm.ClassFile.FieldType.int), 0, 0)
theorem to_X9_book : qTo n_X9_book 2 := ⟨g1644, g110, ⟨by decide, by decide, by decide +kernel⟩, by decide⟩
def p_X9_book : List Nat := [0, 15]
noncomputable def b_X9_book_0 : zBl := fun jp K => oAld 0 <| oIld 1 <| oCv 9 1 f_X9_isSeat <| oIf zeq zne (jp 1) (oFail)
theorem s_X9_book_0 (d : Nat) : zPb l G gh (d + 3) n_X9_book p_X9_book 0 b_X9_book_0 := fun K jp hj =>
    z_aload_n (n := 0) (i := 0) (zd (i := .aload_n 0) (n := 1) (by decide +kernel)) rfl <|
    z_iload_n (n := 1) (i := 1) (zd (i := .iload_n 1) (n := 1) (by decide +kernel)) rfl <|
    z_callV (idx := 378) (ci := 9) (N := n_X9_isSeat) (zd (i := .invokevirtual 378) (n := 3) (by decide +kernel)) to_X9_isSeat g1487 g1489 g75 (by decide +kernel) rfl rfl rfl (c_X9_isSeat (l := l) (G := G) (gh := gh) d) <|
    z_if_eq (off := 10) (tgt := 15) (zd (i := .ifCond .eq (10)) (n := 3) (by decide +kernel)) (by decide +kernel) (zj (hj 1) (by decide +kernel)) z_fail
noncomputable def b_X9_book_1 : zBl := fun jp K => oInt 2147483647 <| oIret K
theorem s_X9_book_1 (d : Nat) : zPb l G gh (d + 3) n_X9_book p_X9_book 15 b_X9_book_1 := fun K jp hj =>
    z_iconst (n := -1) (zd (i := .iconst (-1)) (n := 1) (by decide +kernel)) (by decide +kernel) <|
    z_iret (zd (i := .ireturn) (n := 1) (by decide +kernel)) rfl
noncomputable def f_X9_book : zMt := zmet 3 [b_X9_book_0, b_X9_book_1]
theorem c_X9_book (d : Nat) : zC l G gh (d + 3) n_X9_book f_X9_book := zmet_ok (pcs := p_X9_book) (by decide) rfl rfl ⟨s_X9_book_0 d, s_X9_book_1 d, trivial⟩
def n_X8_unseenOf : qMn := (yX8_unseenOf, cX8_unseenOf, 8, (some Jvm.ClassFile.FieldType.int), 0, 0)
theorem to_X8_unseenOf : qTo n_X8_unseenOf 3 := ⟨g998, g97, ⟨by decide, by decide, by decide +kernel⟩, by decide⟩
def p_X8_unseenOf : List Nat := [0, 16, 23, 26, 104, 110]
noncomputable def b_X8_unseenOf_0 : zBl := fun jp K => oAld 0 <| oGetR 8 12 <| oIld 3 <| oCv 0 1 f_X0_heat <| oIst 4 <| oIld 1 <| oIst 5 <| oInt 2147483648 <| oIst 6 <| jp 1
theorem s_X8_unseenOf_0 (d : Nat) : zPb l G gh (d + 5) n_X8_unseenOf p_X8_unseenOf 0 b_X8_unseenOf_0 := fun K jp hj =>
    z_aload_n (n := 0) (i := 0) (zd (i := .aload_n 0) (n := 1) (by decide +kernel)) rfl <|
    z_getR (ci := 8) (j := 12) (idx := 71) (zd (i := .getfield 71) (n := 3) (by decide +kernel)) (by decide +kernel) (by decide +kernel) rfl g464 <|
    z_iload_n (n := 3) (i := 3) (zd (i := .iload_n 3) (n := 1) (by decide +kernel)) rfl <|
    z_callV (idx := 143) (ci := 0) (N := n_X0_heat) (zd (i := .invokevirtual 143) (n := 3) (by decide +kernel)) to_X0_heat g716 g717 g718 (by decide +kernel) rfl rfl rfl (c_X0_heat (l := l) (G := G) (gh := gh) d) <|
    z_istore (i := 4) (zd (i := .istore 4) (n := 2) (by decide +kernel)) (by decide +kernel) <|
    z_iload_n (n := 1) (i := 1) (zd (i := .iload_n 1) (n := 1) (by decide +kernel)) rfl <|
    z_istore (i := 5) (zd (i := .istore 5) (n := 2) (by decide +kernel)) (by decide +kernel) <|
    z_iconst (n := 0) (zd (i := .iconst (0)) (n := 1) (by decide +kernel)) (by decide +kernel) <|
    z_istore (i := 6) (zd (i := .istore 6) (n := 2) (by decide +kernel)) (by decide +kernel) <|
    (zj (hj 1) (by decide +kernel))
noncomputable def b_X8_unseenOf_1 : zBl := fun jp K => oIld 6 <| oInt 2147483668 <| oIc zge zlt (jp 5) (jp 2)
theorem s_X8_unseenOf_1 (d : Nat) : zPb l G gh (d + 5) n_X8_unseenOf p_X8_unseenOf 16 b_X8_unseenOf_1 := fun K jp hj =>
    z_iload (i := 6) (zd (i := .iload 6) (n := 2) (by decide +kernel)) <|
    z_bipush (n := 20) (zd (i := .bipush (20)) (n := 2) (by decide +kernel)) (by decide +kernel) <|
    z_icmp_ge (off := 90) (tgt := 110) (zd (i := .if_icmp .ge (90)) (n := 3) (by decide +kernel)) (by decide +kernel) (zj (hj 5) (by decide +kernel)) (zj (hj 2) (by decide +kernel))
noncomputable def b_X8_unseenOf_2 : zBl := fun jp K => oInt 2147483648 <| oIst 7 <| jp 3
theorem s_X8_unseenOf_2 (d : Nat) : zPb l G gh (d + 5) n_X8_unseenOf p_X8_unseenOf 23 b_X8_unseenOf_2 := fun K jp hj =>
    z_iconst (n := 0) (zd (i := .iconst (0)) (n := 1) (by decide +kernel)) (by decide +kernel) <|
    z_istore (i := 7) (zd (i := .istore 7) (n := 2) (by decide +kernel)) (by decide +kernel) <|
    (zj (hj 3) (by decide +kernel))
noncomputable def b_X8_unseenOf_3 : zBl := fun jp K => oIld 7 <| oAld 0 <| oGetR 8 12 <| oGetI 0 5 <| oIc zge zlt (jp 4) (oFail)
theorem s_X8_unseenOf_3 (d : Nat) : zPb l G gh (d + 5) n_X8_unseenOf p_X8_unseenOf 26 b_X8_unseenOf_3 := fun K jp hj =>
    z_iload (i := 7) (zd (i := .iload 7) (n := 2) (by decide +kernel)) <|
    z_aload_n (n := 0) (i := 0) (zd (i := .aload_n 0) (n := 1) (by decide +kernel)) rfl <|
    z_getR (ci := 8) (j := 12) (idx := 71) (zd (i := .getfield 71) (n := 3) (by decide +kernel)) (by decide +kernel) (by decide +kernel) rfl g464 <|
    z_getI (ci := 0) (j := 5) (idx := 230) (zd (i := .getfield 230) (n := 3) (by decide +kernel)) (by decide +kernel) (by decide +kernel) rfl g288 <|
    z_icmp_ge (off := 69) (tgt := 104) (zd (i := .if_icmp .ge (69)) (n := 3) (by decide +kernel)) (by decide +kernel) (zj (hj 4) (by decide +kernel)) z_fail
noncomputable def b_X8_unseenOf_4 : zBl := fun jp K => oInc 6 2147483649 <| jp 1
theorem s_X8_unseenOf_4 (d : Nat) : zPb l G gh (d + 5) n_X8_unseenOf p_X8_unseenOf 104 b_X8_unseenOf_4 := fun K jp hj =>
    z_iinc (i := 6) (n := 1) (zd (i := .iinc 6 (1)) (n := 3) (by decide +kernel)) (by decide +kernel) (by decide +kernel) <|
    z_goto (off := -91) (tgt := 16) (zd (i := .goto (-91)) (n := 3) (by decide +kernel)) (by decide +kernel) (zj (hj 1) (by decide +kernel))
noncomputable def b_X8_unseenOf_5 : zBl := fun jp K => oIld 5 <| oIret K
theorem s_X8_unseenOf_5 (d : Nat) : zPb l G gh (d + 5) n_X8_unseenOf p_X8_unseenOf 110 b_X8_unseenOf_5 := fun K jp hj =>
    z_iload (i := 5) (zd (i := .iload 5) (n := 2) (by decide +kernel)) <|
    z_iret (zd (i := .ireturn) (n := 1) (by decide +kernel)) rfl
noncomputable def f_X8_unseenOf : zMt := zmet 8 [b_X8_unseenOf_0, b_X8_unseenOf_1, b_X8_unseenOf_2, b_X8_unseenOf_3, b_X8_unseenOf_4, b_X8_unseenOf_5]
theorem c_X8_unseenOf (d : Nat) : zC l G gh (d + 5) n_X8_unseenOf f_X8_unseenOf := zmet_ok (pcs := p_X8_unseenOf) (by decide) rfl rfl ⟨s_X8_unseenOf_0 d, s_X8_unseenOf_1 d, s_X8_unseenOf_2 d, s_X8_unseenOf_3 d, s_X8_unseenOf_4 d, s_X8_unseenOf_5 d, trivial⟩
def n_X8_hidden : qMn := (yX8_hidden, cX8_hidden, 7, (some Jvm.ClassFile.FieldType.int), 0, 0)
theorem to_X8_hidden : qTo n_X8_hidden 3 := ⟨g994, g97, ⟨by decide, by decide, by decide +kernel⟩, by decide⟩
def p_X8_hidden : List Nat := [0, 7, 14, 19, 25, 27, 47, 54, 63, 66]
noncomputable def b_X8_hidden_0 : zBl := fun jp K => oIld 1 <| oCs 1 f_X8_isX <| oIf zeq zne (jp 4) (jp 1)
theorem s_X8_hidden_0 (d : Nat) : zPb l G gh (d + 6) n_X8_hidden p_X8_hidden 0 b_X8_hidden_0 := fun K jp hj =>
    z_iload_n (n := 1) (i := 1) (zd (i := .iload_n 1) (n := 1) (by decide +kernel)) rfl <|
    z_callS (idx := 175) (N := n_X8_isX) (zd (i := .invokestatic 175) (n := 3) (by decide +kernel)) to_X8_isX g805 g806 rfl rfl (c_X8_isX (l := l) (G := G) (gh := gh) (d + 4)) <|
    z_if_eq (off := 21) (tgt := 25) (zd (i := .ifCond .eq (21)) (n := 3) (by decide +kernel)) (by decide +kernel) (zj (hj 4) (by decide +kernel)) (zj (hj 1) (by decide +kernel))
noncomputable def b_X8_hidden_1 : zBl := fun jp K => oIld 2 <| oCs 1 f_X8_isX <| oIf zeq zne (jp 4) (jp 2)
theorem s_X8_hidden_1 (d : Nat) : zPb l G gh (d + 6) n_X8_hidden p_X8_hidden 7 b_X8_hidden_1 := fun K jp hj =>
    z_iload_n (n := 2) (i := 2) (zd (i := .iload_n 2) (n := 1) (by decide +kernel)) rfl <|
    z_callS (idx := 175) (N := n_X8_isX) (zd (i := .invokestatic 175) (n := 3) (by decide +kernel)) to_X8_isX g805 g806 rfl rfl (c_X8_isX (l := l) (G := G) (gh := gh) (d + 4)) <|
    z_if_eq (off := 14) (tgt := 25) (zd (i := .ifCond .eq (14)) (n := 3) (by decide +kernel)) (by decide +kernel) (zj (hj 4) (by decide +kernel)) (zj (hj 2) (by decide +kernel))
noncomputable def b_X8_hidden_2 : zBl := fun jp K => oIld 3 <| oInt 2147483649 <| oIc zlt zge (jp 4) (jp 3)
theorem s_X8_hidden_2 (d : Nat) : zPb l G gh (d + 6) n_X8_hidden p_X8_hidden 14 b_X8_hidden_2 := fun K jp hj =>
    z_iload_n (n := 3) (i := 3) (zd (i := .iload_n 3) (n := 1) (by decide +kernel)) rfl <|
    z_iconst (n := 1) (zd (i := .iconst (1)) (n := 1) (by decide +kernel)) (by decide +kernel) <|
    z_icmp_lt (off := 9) (tgt := 25) (zd (i := .if_icmp .lt (9)) (n := 3) (by decide +kernel)) (by decide +kernel) (zj (hj 4) (by decide +kernel)) (zj (hj 3) (by decide +kernel))
noncomputable def b_X8_hidden_3 : zBl := fun jp K => oIld 3 <| oInt 2147483657 <| oIc zle zgt (jp 5) (jp 4)
theorem s_X8_hidden_3 (d : Nat) : zPb l G gh (d + 6) n_X8_hidden p_X8_hidden 19 b_X8_hidden_3 := fun K jp hj =>
    z_iload_n (n := 3) (i := 3) (zd (i := .iload_n 3) (n := 1) (by decide +kernel)) rfl <|
    z_bipush (n := 9) (zd (i := .bipush (9)) (n := 2) (by decide +kernel)) (by decide +kernel) <|
    z_icmp_le (off := 5) (tgt := 27) (zd (i := .if_icmp .le (5)) (n := 3) (by decide +kernel)) (by decide +kernel) (zj (hj 5) (by decide +kernel)) (zj (hj 4) (by decide +kernel))
noncomputable def b_X8_hidden_4 : zBl := fun jp K => oInt 2147483647 <| oIret K
theorem s_X8_hidden_4 (d : Nat) : zPb l G gh (d + 6) n_X8_hidden p_X8_hidden 25 b_X8_hidden_4 := fun K jp hj =>
    z_iconst (n := -1) (zd (i := .iconst (-1)) (n := 1) (by decide +kernel)) (by decide +kernel) <|
    z_iret (zd (i := .ireturn) (n := 1) (by decide +kernel)) rfl
noncomputable def b_X8_hidden_5 : zBl := fun jp K => oAld 0 <| oInt 2147483649 <| oIld 1 <| oB2 zishl <| oIld 3 <| oAld 0 <| oGetR 8 2 <| oGetI 4 0 <| oCv 8 3 f_X8_unseenOf <| oIst 4 <| oInt 2147483648 <| oIst 5 <| jp 6
theorem s_X8_hidden_5 (d : Nat) : zPb l G gh (d + 6) n_X8_hidden p_X8_hidden 27 b_X8_hidden_5 := fun K jp hj =>
    z_aload_n (n := 0) (i := 0) (zd (i := .aload_n 0) (n := 1) (by decide +kernel)) rfl <|
    z_iconst (n := 1) (zd (i := .iconst (1)) (n := 1) (by decide +kernel)) (by decide +kernel) <|
    z_iload_n (n := 1) (i := 1) (zd (i := .iload_n 1) (n := 1) (by decide +kernel)) rfl <|
    z_ishl (zd (i := .ishl) (n := 1) (by decide +kernel)) <|
    z_iload_n (n := 3) (i := 3) (zd (i := .iload_n 3) (n := 1) (by decide +kernel)) rfl <|
    z_aload_n (n := 0) (i := 0) (zd (i := .aload_n 0) (n := 1) (by decide +kernel)) rfl <|
    z_getR (ci := 8) (j := 2) (idx := 26) (zd (i := .getfield 26) (n := 3) (by decide +kernel)) (by decide +kernel) (by decide +kernel) rfl g454 <|
    z_getI (ci := 4) (j := 0) (idx := 140) (zd (i := .getfield 140) (n := 3) (by decide +kernel)) (by decide +kernel) (by decide +kernel) rfl g368 <|
    z_callV (idx := 282) (ci := 8) (N := n_X8_unseenOf) (zd (i := .invokevirtual 282) (n := 3) (by decide +kernel)) to_X8_unseenOf g995 g997 g35 (by decide +kernel) rfl rfl rfl (c_X8_unseenOf (l := l) (G := G) (gh := gh) d) <|
    z_istore (i := 4) (zd (i := .istore 4) (n := 2) (by decide +kernel)) (by decide +kernel) <|
    z_iconst (n := 0) (zd (i := .iconst (0)) (n := 1) (by decide +kernel)) (by decide +kernel) <|
    z_istore (i := 5) (zd (i := .istore 5) (n := 2) (by decide +kernel)) (by decide +kernel) <|
    (zj (hj 6) (by decide +kernel))
noncomputable def b_X8_hidden_6 : zBl := fun jp K => oIld 5 <| oInt 2147483696 <| oIc zgt zle (oFail) (jp 7)
theorem s_X8_hidden_6 (d : Nat) : zPb l G gh (d + 6) n_X8_hidden p_X8_hidden 47 b_X8_hidden_6 := fun K jp hj =>
    z_iload (i := 5) (zd (i := .iload 5) (n := 2) (by decide +kernel)) <|
    z_bipush (n := 48) (zd (i := .bipush (48)) (n := 2) (by decide +kernel)) (by decide +kernel) <|
    z_icmp_gt (off := 60) (tgt := 111) (zd (i := .if_icmp .gt (60)) (n := 3) (by decide +kernel)) (by decide +kernel) z_fail (zj (hj 7) (by decide +kernel))
noncomputable def b_X8_hidden_7 : zBl := fun jp K => oIld 4 <| oIld 2 <| oB2 zishr <| oInt 2147483649 <| oB2 ziand <| oIf zeq zne (jp 9) (jp 8)
theorem s_X8_hidden_7 (d : Nat) : zPb l G gh (d + 6) n_X8_hidden p_X8_hidden 54 b_X8_hidden_7 := fun K jp hj =>
    z_iload (i := 4) (zd (i := .iload 4) (n := 2) (by decide +kernel)) <|
    z_iload_n (n := 2) (i := 2) (zd (i := .iload_n 2) (n := 1) (by decide +kernel)) rfl <|
    z_ishr (zd (i := .ishr) (n := 1) (by decide +kernel)) <|
    z_iconst (n := 1) (zd (i := .iconst (1)) (n := 1) (by decide +kernel)) (by decide +kernel) <|
    z_iand (zd (i := .iand) (n := 1) (by decide +kernel)) <|
    z_if_eq (off := 6) (tgt := 66) (zd (i := .ifCond .eq (6)) (n := 3) (by decide +kernel)) (by decide +kernel) (zj (hj 9) (by decide +kernel)) (zj (hj 8) (by decide +kernel))
noncomputable def b_X8_hidden_8 : zBl := fun jp K => oIld 5 <| oIret K
theorem s_X8_hidden_8 (d : Nat) : zPb l G gh (d + 6) n_X8_hidden p_X8_hidden 63 b_X8_hidden_8 := fun K jp hj =>
    z_iload (i := 5) (zd (i := .iload 5) (n := 2) (by decide +kernel)) <|
    z_iret (zd (i := .ireturn) (n := 1) (by decide +kernel)) rfl
noncomputable def b_X8_hidden_9 : zBl := fun jp K => oIld 4 <| oIld 4 <| oInt 2147483649 <| oB2 zishl <| oB2 zior <| oIld 4 <| oInt 2147483649 <| oB2 zishr <| oB2 zior <| oInt 2148532223 <| oB2 ziand <| oIst 6 <| oAld 0 <| oIld 6 <| oIld 3 <| oAld 0 <| oGetR 8 2 <| oGetI 4 0 <| oIld 5 <| oB2 zadd <| oInt 2147483649 <| oB2 zadd <| oCv 8 3 f_X8_unseenOf <| oIst 4 <| oInc 5 2147483649 <| jp 6
theorem s_X8_hidden_9 (d : Nat) : zPb l G gh (d + 6) n_X8_hidden p_X8_hidden 66 b_X8_hidden_9 := fun K jp hj =>
    z_iload (i := 4) (zd (i := .iload 4) (n := 2) (by decide +kernel)) <|
    z_iload (i := 4) (zd (i := .iload 4) (n := 2) (by decide +kernel)) <|
    z_iconst (n := 1) (zd (i := .iconst (1)) (n := 1) (by decide +kernel)) (by decide +kernel) <|
    z_ishl (zd (i := .ishl) (n := 1) (by decide +kernel)) <|
    z_ior (zd (i := .ior) (n := 1) (by decide +kernel)) <|
    z_iload (i := 4) (zd (i := .iload 4) (n := 2) (by decide +kernel)) <|
    z_iconst (n := 1) (zd (i := .iconst (1)) (n := 1) (by decide +kernel)) (by decide +kernel) <|
    z_ishr (zd (i := .ishr) (n := 1) (by decide +kernel)) <|
    z_ior (zd (i := .ior) (n := 1) (by decide +kernel)) <|
    z_ldcw (n := 285) (zd (i := .ldc_w 285) (n := 3) (by decide +kernel)) g1001 (by decide +kernel) <|
    z_iand (zd (i := .iand) (n := 1) (by decide +kernel)) <|
    z_istore (i := 6) (zd (i := .istore 6) (n := 2) (by decide +kernel)) (by decide +kernel) <|
    z_aload_n (n := 0) (i := 0) (zd (i := .aload_n 0) (n := 1) (by decide +kernel)) rfl <|
    z_iload (i := 6) (zd (i := .iload 6) (n := 2) (by decide +kernel)) <|
    z_iload_n (n := 3) (i := 3) (zd (i := .iload_n 3) (n := 1) (by decide +kernel)) rfl <|
    z_aload_n (n := 0) (i := 0) (zd (i := .aload_n 0) (n := 1) (by decide +kernel)) rfl <|
    z_getR (ci := 8) (j := 2) (idx := 26) (zd (i := .getfield 26) (n := 3) (by decide +kernel)) (by decide +kernel) (by decide +kernel) rfl g454 <|
    z_getI (ci := 4) (j := 0) (idx := 140) (zd (i := .getfield 140) (n := 3) (by decide +kernel)) (by decide +kernel) (by decide +kernel) rfl g368 <|
    z_iload (i := 5) (zd (i := .iload 5) (n := 2) (by decide +kernel)) <|
    z_iadd (zd (i := .iadd) (n := 1) (by decide +kernel)) <|
    z_iconst (n := 1) (zd (i := .iconst (1)) (n := 1) (by decide +kernel)) (by decide +kernel) <|
    z_iadd (zd (i := .iadd) (n := 1) (by decide +kernel)) <|
    z_callV (idx := 282) (ci := 8) (N := n_X8_unseenOf) (zd (i := .invokevirtual 282) (n := 3) (by decide +kernel)) to_X8_unseenOf g995 g997 g35 (by decide +kernel) rfl rfl rfl (c_X8_unseenOf (l := l) (G := G) (gh := gh) d) <|
    z_istore (i := 4) (zd (i := .istore 4) (n := 2) (by decide +kernel)) (by decide +kernel) <|
    z_iinc (i := 5) (n := 1) (zd (i := .iinc 5 (1)) (n := 3) (by decide +kernel)) (by decide +kernel) (by decide +kernel) <|
    z_goto (off := -61) (tgt := 47) (zd (i := .goto (-61)) (n := 3) (by decide +kernel)) (by decide +kernel) (zj (hj 6) (by decide +kernel))
noncomputable def f_X8_hidden : zMt := zmet 7 [b_X8_hidden_0, b_X8_hidden_1, b_X8_hidden_2, b_X8_hidden_3, b_X8_hidden_4, b_X8_hidden_5, b_X8_hidden_6, b_X8_hidden_7, b_X8_hidden_8, b_X8_hidden_9]
theorem c_X8_hidden (d : Nat) : zC l G gh (d + 6) n_X8_hidden f_X8_hidden := zmet_ok (pcs := p_X8_hidden) (by decide) rfl rfl ⟨s_X8_hidden_0 d, s_X8_hidden_1 d, s_X8_hidden_2 d, s_X8_hidden_3 d, s_X8_hidden_4 d, s_X8_hidden_5 d, s_X8_hidden_6 d, s_X8_hidden_7 d, s_X8_hidden_8 d, s_X8_hidden_9 d, trivial⟩
def n_X9_isWatched : qMn := (yX9_isWatched, cX9_isWatched, 5, (some Jvm.ClassFile.FieldType.boolean), 0, 0)
theorem to_X9_isWatched : qTo n_X9_isWatched 3 := ⟨g1656, g110, ⟨by decide, by decide, by decide +kernel⟩, by decide⟩
def p_X9_isWatched : List Nat := [0, 3, 42]
noncomputable def b_X9_isWatched_0 : zBl := fun jp K => oInt 2147483648 <| oIst 4 <| jp 1
theorem s_X9_isWatched_0 (d : Nat) : zPb l G gh (d + 1) n_X9_isWatched p_X9_isWatched 0 b_X9_isWatched_0 := fun K jp hj =>
    z_iconst (n := 0) (zd (i := .iconst (0)) (n := 1) (by decide +kernel)) (by decide +kernel) <|
    z_istore (i := 4) (zd (i := .istore 4) (n := 2) (by decide +kernel)) (by decide +kernel) <|
    (zj (hj 1) (by decide +kernel))
noncomputable def b_X9_isWatched_1 : zBl := fun jp K => oIld 4 <| oAld 0 <| oGetR 9 25 <| oAld 0 <| oGetI 9 18 <| oXald 10 <| oIc zge zlt (jp 2) (oFail)
theorem s_X9_isWatched_1 (d : Nat) : zPb l G gh (d + 1) n_X9_isWatched p_X9_isWatched 3 b_X9_isWatched_1 := fun K jp hj =>
    z_iload (i := 4) (zd (i := .iload 4) (n := 2) (by decide +kernel)) <|
    z_aload_n (n := 0) (i := 0) (zd (i := .aload_n 0) (n := 1) (by decide +kernel)) rfl <|
    z_getR (ci := 9) (j := 25) (idx := 52) (zd (i := .getfield 52) (n := 3) (by decide +kernel)) (by decide +kernel) (by decide +kernel) rfl g1153 <|
    z_aload_n (n := 0) (i := 0) (zd (i := .aload_n 0) (n := 1) (by decide +kernel)) rfl <|
    z_getI (ci := 9) (j := 18) (idx := 230) (zd (i := .getfield 230) (n := 3) (by decide +kernel)) (by decide +kernel) (by decide +kernel) rfl g1146 <|
    z_iald (zd (i := .iaload) (n := 1) (by decide +kernel)) <|
    z_icmp_ge (off := 28) (tgt := 42) (zd (i := .if_icmp .ge (28)) (n := 3) (by decide +kernel)) (by decide +kernel) (zj (hj 2) (by decide +kernel)) z_fail
noncomputable def b_X9_isWatched_2 : zBl := fun jp K => oInt 2147483648 <| oZret K
theorem s_X9_isWatched_2 (d : Nat) : zPb l G gh (d + 1) n_X9_isWatched p_X9_isWatched 42 b_X9_isWatched_2 := fun K jp hj =>
    z_iconst (n := 0) (zd (i := .iconst (0)) (n := 1) (by decide +kernel)) (by decide +kernel) <|
    z_zret (zd (i := .ireturn) (n := 1) (by decide +kernel)) rfl
noncomputable def f_X9_isWatched : zMt := zmet 5 [b_X9_isWatched_0, b_X9_isWatched_1, b_X9_isWatched_2]
theorem c_X9_isWatched (d : Nat) : zC l G gh (d + 1) n_X9_isWatched f_X9_isWatched := zmet_ok (pcs := p_X9_isWatched) (by decide) rfl rfl ⟨s_X9_isWatched_0 d, s_X9_isWatched_1 d, s_X9_isWatched_2 d, trivial⟩
def n_X9_hidden : qMn := (yX9_hidden, cX9_hidden, 6, (some Jvm.ClassFile.FieldType.int), 0, 0)
theorem to_X9_hidden : qTo n_X9_hidden 3 := ⟨g1652, g110, ⟨by decide, by decide, by decide +kernel⟩, by decide⟩
def p_X9_hidden : List Nat := [0, 7, 14, 24, 26, 29, 36, 50, 66, 70, 71, 78, 81, 88, 99, 102, 105, 112, 130, 140, 152, 176, 180, 181, 188, 191, 198, 218]
noncomputable def b_X9_hidden_0 : zBl := fun jp K => oIld 1 <| oCs 1 f_X9_isX <| oIf zeq zne (jp 3) (jp 1)
theorem s_X9_hidden_0 (d : Nat) : zPb l G gh (d + 3) n_X9_hidden p_X9_hidden 0 b_X9_hidden_0 := fun K jp hj =>
    z_iload_n (n := 1) (i := 1) (zd (i := .iload_n 1) (n := 1) (by decide +kernel)) rfl <|
    z_callS (idx := 387) (N := n_X9_isX) (zd (i := .invokestatic 387) (n := 3) (by decide +kernel)) to_X9_isX g1507 g1508 rfl rfl (c_X9_isX (l := l) (G := G) (gh := gh) d) <|
    z_if_eq (off := 20) (tgt := 24) (zd (i := .ifCond .eq (20)) (n := 3) (by decide +kernel)) (by decide +kernel) (zj (hj 3) (by decide +kernel)) (zj (hj 1) (by decide +kernel))
noncomputable def b_X9_hidden_1 : zBl := fun jp K => oIld 2 <| oCs 1 f_X9_isX <| oIf zeq zne (jp 3) (jp 2)
theorem s_X9_hidden_1 (d : Nat) : zPb l G gh (d + 3) n_X9_hidden p_X9_hidden 7 b_X9_hidden_1 := fun K jp hj =>
    z_iload_n (n := 2) (i := 2) (zd (i := .iload_n 2) (n := 1) (by decide +kernel)) rfl <|
    z_callS (idx := 387) (N := n_X9_isX) (zd (i := .invokestatic 387) (n := 3) (by decide +kernel)) to_X9_isX g1507 g1508 rfl rfl (c_X9_isX (l := l) (G := G) (gh := gh) d) <|
    z_if_eq (off := 13) (tgt := 24) (zd (i := .ifCond .eq (13)) (n := 3) (by decide +kernel)) (by decide +kernel) (zj (hj 3) (by decide +kernel)) (zj (hj 2) (by decide +kernel))
noncomputable def b_X9_hidden_2 : zBl := fun jp K => oIld 3 <| oInt 2147483649 <| oInt 2147483657 <| oCs 3 f_X9_in <| oIf zne zeq (jp 4) (jp 3)
theorem s_X9_hidden_2 (d : Nat) : zPb l G gh (d + 3) n_X9_hidden p_X9_hidden 14 b_X9_hidden_2 := fun K jp hj =>
    z_iload_n (n := 3) (i := 3) (zd (i := .iload_n 3) (n := 1) (by decide +kernel)) rfl <|
    z_iconst (n := 1) (zd (i := .iconst (1)) (n := 1) (by decide +kernel)) (by decide +kernel) <|
    z_bipush (n := 9) (zd (i := .bipush (9)) (n := 2) (by decide +kernel)) (by decide +kernel) <|
    z_callS (idx := 304) (N := n_X9_in) (zd (i := .invokestatic 304) (n := 3) (by decide +kernel)) to_X9_in g1442 g1443 rfl rfl (c_X9_in (l := l) (G := G) (gh := gh) (d + 1)) <|
    z_if_ne (off := 5) (tgt := 26) (zd (i := .ifCond .ne (5)) (n := 3) (by decide +kernel)) (by decide +kernel) (zj (hj 4) (by decide +kernel)) (zj (hj 3) (by decide +kernel))
noncomputable def b_X9_hidden_3 : zBl := fun jp K => oInt 2147483647 <| oIret K
theorem s_X9_hidden_3 (d : Nat) : zPb l G gh (d + 3) n_X9_hidden p_X9_hidden 24 b_X9_hidden_3 := fun K jp hj =>
    z_iconst (n := -1) (zd (i := .iconst (-1)) (n := 1) (by decide +kernel)) (by decide +kernel) <|
    z_iret (zd (i := .ireturn) (n := 1) (by decide +kernel)) rfl
noncomputable def b_X9_hidden_4 : zBl := fun jp K => oInt 2147483648 <| oIst 4 <| jp 5
theorem s_X9_hidden_4 (d : Nat) : zPb l G gh (d + 3) n_X9_hidden p_X9_hidden 26 b_X9_hidden_4 := fun K jp hj =>
    z_iconst (n := 0) (zd (i := .iconst (0)) (n := 1) (by decide +kernel)) (by decide +kernel) <|
    z_istore (i := 4) (zd (i := .istore 4) (n := 2) (by decide +kernel)) (by decide +kernel) <|
    (zj (hj 5) (by decide +kernel))
noncomputable def b_X9_hidden_5 : zBl := fun jp K => oIld 4 <| oInt 2147483670 <| oIc zge zlt (jp 11) (jp 6)
theorem s_X9_hidden_5 (d : Nat) : zPb l G gh (d + 3) n_X9_hidden p_X9_hidden 29 b_X9_hidden_5 := fun K jp hj =>
    z_iload (i := 4) (zd (i := .iload 4) (n := 2) (by decide +kernel)) <|
    z_bipush (n := 22) (zd (i := .bipush (22)) (n := 2) (by decide +kernel)) (by decide +kernel) <|
    z_icmp_ge (off := 45) (tgt := 78) (zd (i := .if_icmp .ge (45)) (n := 3) (by decide +kernel)) (by decide +kernel) (zj (hj 11) (by decide +kernel)) (zj (hj 6) (by decide +kernel))
noncomputable def b_X9_hidden_6 : zBl := fun jp K => oAld 0 <| oGetR 9 56 <| oIld 4 <| oIld 4 <| oIld 1 <| oInt 2147483649 <| oB2 zadd <| oIc zne zeq (jp 9) (jp 7)
theorem s_X9_hidden_6 (d : Nat) : zPb l G gh (d + 3) n_X9_hidden p_X9_hidden 36 b_X9_hidden_6 := fun K jp hj =>
    z_aload_n (n := 0) (i := 0) (zd (i := .aload_n 0) (n := 1) (by decide +kernel)) rfl <|
    z_getR (ci := 9) (j := 56) (idx := 125) (zd (i := .getfield 125) (n := 3) (by decide +kernel)) (by decide +kernel) (by decide +kernel) rfl g1184 <|
    z_iload (i := 4) (zd (i := .iload 4) (n := 2) (by decide +kernel)) <|
    z_iload (i := 4) (zd (i := .iload 4) (n := 2) (by decide +kernel)) <|
    z_iload_n (n := 1) (i := 1) (zd (i := .iload_n 1) (n := 1) (by decide +kernel)) rfl <|
    z_iconst (n := 1) (zd (i := .iconst (1)) (n := 1) (by decide +kernel)) (by decide +kernel) <|
    z_iadd (zd (i := .iadd) (n := 1) (by decide +kernel)) <|
    z_icmp_ne (off := 23) (tgt := 70) (zd (i := .if_icmp .ne (23)) (n := 3) (by decide +kernel)) (by decide +kernel) (zj (hj 9) (by decide +kernel)) (zj (hj 7) (by decide +kernel))
noncomputable def b_X9_hidden_7 : zBl := fun jp K => oAld 0 <| oIld 1 <| oIld 3 <| oAld 0 <| oGetR 9 48 <| oInt 2147483744 <| oXald 10 <| oCv 9 3 f_X9_isWatched <| oIf zne zeq (jp 9) (jp 8)
theorem s_X9_hidden_7 (d : Nat) : zPb l G gh (d + 3) n_X9_hidden p_X9_hidden 50 b_X9_hidden_7 := fun K jp hj =>
    z_aload_n (n := 0) (i := 0) (zd (i := .aload_n 0) (n := 1) (by decide +kernel)) rfl <|
    z_iload_n (n := 1) (i := 1) (zd (i := .iload_n 1) (n := 1) (by decide +kernel)) rfl <|
    z_iload_n (n := 3) (i := 3) (zd (i := .iload_n 3) (n := 1) (by decide +kernel)) rfl <|
    z_aload_n (n := 0) (i := 0) (zd (i := .aload_n 0) (n := 1) (by decide +kernel)) rfl <|
    z_getR (ci := 9) (j := 48) (idx := 110) (zd (i := .getfield 110) (n := 3) (by decide +kernel)) (by decide +kernel) (by decide +kernel) rfl g1176 <|
    z_bipush (n := 96) (zd (i := .bipush (96)) (n := 2) (by decide +kernel)) (by decide +kernel) <|
    z_iald (zd (i := .iaload) (n := 1) (by decide +kernel)) <|
    z_callV (idx := 425) (ci := 9) (N := n_X9_isWatched) (zd (i := .invokevirtual 425) (n := 3) (by decide +kernel)) to_X9_isWatched g1653 g1655 g93 (by decide +kernel) rfl rfl rfl (c_X9_isWatched (l := l) (G := G) (gh := gh) (d + 1)) <|
    z_if_ne (off := 7) (tgt := 70) (zd (i := .ifCond .ne (7)) (n := 3) (by decide +kernel)) (by decide +kernel) (zj (hj 9) (by decide +kernel)) (zj (hj 8) (by decide +kernel))
noncomputable def b_X9_hidden_8 : zBl := fun jp K => oInt 2147483649 <| jp 10
theorem s_X9_hidden_8 (d : Nat) : zPb l G gh (d + 3) n_X9_hidden p_X9_hidden 66 b_X9_hidden_8 := fun K jp hj =>
    z_iconst (n := 1) (zd (i := .iconst (1)) (n := 1) (by decide +kernel)) (by decide +kernel) <|
    z_goto (off := 4) (tgt := 71) (zd (i := .goto (4)) (n := 3) (by decide +kernel)) (by decide +kernel) (zj (hj 10) (by decide +kernel))
noncomputable def b_X9_hidden_9 : zBl := fun jp K => oInt 2147483648 <| jp 10
theorem s_X9_hidden_9 (d : Nat) : zPb l G gh (d + 3) n_X9_hidden p_X9_hidden 70 b_X9_hidden_9 := fun K jp hj =>
    z_iconst (n := 0) (zd (i := .iconst (0)) (n := 1) (by decide +kernel)) (by decide +kernel) <|
    (zj (hj 10) (by decide +kernel))
noncomputable def b_X9_hidden_10 : zBl := fun jp K => oXast 12 znz1 <| oInc 4 2147483649 <| jp 5
theorem s_X9_hidden_10 (d : Nat) : zPb l G gh (d + 3) n_X9_hidden p_X9_hidden 71 b_X9_hidden_10 := fun K jp hj =>
    z_zast (zd (i := .bastore) (n := 1) (by decide +kernel)) <|
    z_iinc (i := 4) (n := 1) (zd (i := .iinc 4 (1)) (n := 3) (by decide +kernel)) (by decide +kernel) (by decide +kernel) <|
    z_goto (off := -46) (tgt := 29) (zd (i := .goto (-46)) (n := 3) (by decide +kernel)) (by decide +kernel) (zj (hj 5) (by decide +kernel))
noncomputable def b_X9_hidden_11 : zBl := fun jp K => oInt 2147483648 <| oIst 4 <| jp 12
theorem s_X9_hidden_11 (d : Nat) : zPb l G gh (d + 3) n_X9_hidden p_X9_hidden 78 b_X9_hidden_11 := fun K jp hj =>
    z_iconst (n := 0) (zd (i := .iconst (0)) (n := 1) (by decide +kernel)) (by decide +kernel) <|
    z_istore (i := 4) (zd (i := .istore 4) (n := 2) (by decide +kernel)) (by decide +kernel) <|
    (zj (hj 12) (by decide +kernel))
noncomputable def b_X9_hidden_12 : zBl := fun jp K => oIld 4 <| oInt 2147483696 <| oIc zgt zle (oFail) (jp 13)
theorem s_X9_hidden_12 (d : Nat) : zPb l G gh (d + 3) n_X9_hidden p_X9_hidden 81 b_X9_hidden_12 := fun K jp hj =>
    z_iload (i := 4) (zd (i := .iload 4) (n := 2) (by decide +kernel)) <|
    z_bipush (n := 48) (zd (i := .bipush (48)) (n := 2) (by decide +kernel)) (by decide +kernel) <|
    z_icmp_gt (off := 139) (tgt := 224) (zd (i := .if_icmp .gt (139)) (n := 3) (by decide +kernel)) (by decide +kernel) z_fail (zj (hj 13) (by decide +kernel))
noncomputable def b_X9_hidden_13 : zBl := fun jp K => oAld 0 <| oGetR 9 56 <| oIld 2 <| oInt 2147483649 <| oB2 zadd <| oXald 12 <| oIf zeq zne (jp 15) (jp 14)
theorem s_X9_hidden_13 (d : Nat) : zPb l G gh (d + 3) n_X9_hidden p_X9_hidden 88 b_X9_hidden_13 := fun K jp hj =>
    z_aload_n (n := 0) (i := 0) (zd (i := .aload_n 0) (n := 1) (by decide +kernel)) rfl <|
    z_getR (ci := 9) (j := 56) (idx := 125) (zd (i := .getfield 125) (n := 3) (by decide +kernel)) (by decide +kernel) (by decide +kernel) rfl g1184 <|
    z_iload_n (n := 2) (i := 2) (zd (i := .iload_n 2) (n := 1) (by decide +kernel)) rfl <|
    z_iconst (n := 1) (zd (i := .iconst (1)) (n := 1) (by decide +kernel)) (by decide +kernel) <|
    z_iadd (zd (i := .iadd) (n := 1) (by decide +kernel)) <|
    z_zald (zd (i := .baload) (n := 1) (by decide +kernel)) <|
    z_if_eq (off := 6) (tgt := 102) (zd (i := .ifCond .eq (6)) (n := 3) (by decide +kernel)) (by decide +kernel) (zj (hj 15) (by decide +kernel)) (zj (hj 14) (by decide +kernel))
noncomputable def b_X9_hidden_14 : zBl := fun jp K => oIld 4 <| oIret K
theorem s_X9_hidden_14 (d : Nat) : zPb l G gh (d + 3) n_X9_hidden p_X9_hidden 99 b_X9_hidden_14 := fun K jp hj =>
    z_iload (i := 4) (zd (i := .iload 4) (n := 2) (by decide +kernel)) <|
    z_iret (zd (i := .ireturn) (n := 1) (by decide +kernel)) rfl
noncomputable def b_X9_hidden_15 : zBl := fun jp K => oInt 2147483649 <| oIst 5 <| jp 16
theorem s_X9_hidden_15 (d : Nat) : zPb l G gh (d + 3) n_X9_hidden p_X9_hidden 102 b_X9_hidden_15 := fun K jp hj =>
    z_iconst (n := 1) (zd (i := .iconst (1)) (n := 1) (by decide +kernel)) (by decide +kernel) <|
    z_istore (i := 5) (zd (i := .istore 5) (n := 2) (by decide +kernel)) (by decide +kernel) <|
    (zj (hj 16) (by decide +kernel))
noncomputable def b_X9_hidden_16 : zBl := fun jp K => oIld 5 <| oInt 2147483668 <| oIc zgt zle (jp 24) (jp 17)
theorem s_X9_hidden_16 (d : Nat) : zPb l G gh (d + 3) n_X9_hidden p_X9_hidden 105 b_X9_hidden_16 := fun K jp hj =>
    z_iload (i := 5) (zd (i := .iload 5) (n := 2) (by decide +kernel)) <|
    z_bipush (n := 20) (zd (i := .bipush (20)) (n := 2) (by decide +kernel)) (by decide +kernel) <|
    z_icmp_gt (off := 79) (tgt := 188) (zd (i := .if_icmp .gt (79)) (n := 3) (by decide +kernel)) (by decide +kernel) (zj (hj 24) (by decide +kernel)) (zj (hj 17) (by decide +kernel))
noncomputable def b_X9_hidden_17 : zBl := fun jp K => oAld 0 <| oGetR 9 57 <| oIld 5 <| oAld 0 <| oGetR 9 56 <| oIld 5 <| oInt 2147483649 <| oB2 zsub <| oXald 12 <| oIf zne zeq (jp 20) (jp 18)
theorem s_X9_hidden_17 (d : Nat) : zPb l G gh (d + 3) n_X9_hidden p_X9_hidden 112 b_X9_hidden_17 := fun K jp hj =>
    z_aload_n (n := 0) (i := 0) (zd (i := .aload_n 0) (n := 1) (by decide +kernel)) rfl <|
    z_getR (ci := 9) (j := 57) (idx := 128) (zd (i := .getfield 128) (n := 3) (by decide +kernel)) (by decide +kernel) (by decide +kernel) rfl g1185 <|
    z_iload (i := 5) (zd (i := .iload 5) (n := 2) (by decide +kernel)) <|
    z_aload_n (n := 0) (i := 0) (zd (i := .aload_n 0) (n := 1) (by decide +kernel)) rfl <|
    z_getR (ci := 9) (j := 56) (idx := 125) (zd (i := .getfield 125) (n := 3) (by decide +kernel)) (by decide +kernel) (by decide +kernel) rfl g1184 <|
    z_iload (i := 5) (zd (i := .iload 5) (n := 2) (by decide +kernel)) <|
    z_iconst (n := 1) (zd (i := .iconst (1)) (n := 1) (by decide +kernel)) (by decide +kernel) <|
    z_isub (zd (i := .isub) (n := 1) (by decide +kernel)) <|
    z_zald (zd (i := .baload) (n := 1) (by decide +kernel)) <|
    z_if_ne (off := 25) (tgt := 152) (zd (i := .ifCond .ne (25)) (n := 3) (by decide +kernel)) (by decide +kernel) (zj (hj 20) (by decide +kernel)) (zj (hj 18) (by decide +kernel))
noncomputable def b_X9_hidden_18 : zBl := fun jp K => oAld 0 <| oGetR 9 56 <| oIld 5 <| oXald 12 <| oIf zne zeq (jp 20) (jp 19)
theorem s_X9_hidden_18 (d : Nat) : zPb l G gh (d + 3) n_X9_hidden p_X9_hidden 130 b_X9_hidden_18 := fun K jp hj =>
    z_aload_n (n := 0) (i := 0) (zd (i := .aload_n 0) (n := 1) (by decide +kernel)) rfl <|
    z_getR (ci := 9) (j := 56) (idx := 125) (zd (i := .getfield 125) (n := 3) (by decide +kernel)) (by decide +kernel) (by decide +kernel) rfl g1184 <|
    z_iload (i := 5) (zd (i := .iload 5) (n := 2) (by decide +kernel)) <|
    z_zald (zd (i := .baload) (n := 1) (by decide +kernel)) <|
    z_if_ne (off := 15) (tgt := 152) (zd (i := .ifCond .ne (15)) (n := 3) (by decide +kernel)) (by decide +kernel) (zj (hj 20) (by decide +kernel)) (zj (hj 19) (by decide +kernel))
noncomputable def b_X9_hidden_19 : zBl := fun jp K => oAld 0 <| oGetR 9 56 <| oIld 5 <| oInt 2147483649 <| oB2 zadd <| oXald 12 <| oIf zeq zne (jp 22) (jp 20)
theorem s_X9_hidden_19 (d : Nat) : zPb l G gh (d + 3) n_X9_hidden p_X9_hidden 140 b_X9_hidden_19 := fun K jp hj =>
    z_aload_n (n := 0) (i := 0) (zd (i := .aload_n 0) (n := 1) (by decide +kernel)) rfl <|
    z_getR (ci := 9) (j := 56) (idx := 125) (zd (i := .getfield 125) (n := 3) (by decide +kernel)) (by decide +kernel) (by decide +kernel) rfl g1184 <|
    z_iload (i := 5) (zd (i := .iload 5) (n := 2) (by decide +kernel)) <|
    z_iconst (n := 1) (zd (i := .iconst (1)) (n := 1) (by decide +kernel)) (by decide +kernel) <|
    z_iadd (zd (i := .iadd) (n := 1) (by decide +kernel)) <|
    z_zald (zd (i := .baload) (n := 1) (by decide +kernel)) <|
    z_if_eq (off := 31) (tgt := 180) (zd (i := .ifCond .eq (31)) (n := 3) (by decide +kernel)) (by decide +kernel) (zj (hj 22) (by decide +kernel)) (zj (hj 20) (by decide +kernel))
noncomputable def b_X9_hidden_20 : zBl := fun jp K => oAld 0 <| oIld 5 <| oInt 2147483649 <| oB2 zsub <| oIld 3 <| oAld 0 <| oGetR 9 48 <| oInt 2147483744 <| oXald 10 <| oIld 4 <| oB2 zadd <| oInt 2147483649 <| oB2 zadd <| oCv 9 3 f_X9_isWatched <| oIf zne zeq (jp 22) (jp 21)
theorem s_X9_hidden_20 (d : Nat) : zPb l G gh (d + 3) n_X9_hidden p_X9_hidden 152 b_X9_hidden_20 := fun K jp hj =>
    z_aload_n (n := 0) (i := 0) (zd (i := .aload_n 0) (n := 1) (by decide +kernel)) rfl <|
    z_iload (i := 5) (zd (i := .iload 5) (n := 2) (by decide +kernel)) <|
    z_iconst (n := 1) (zd (i := .iconst (1)) (n := 1) (by decide +kernel)) (by decide +kernel) <|
    z_isub (zd (i := .isub) (n := 1) (by decide +kernel)) <|
    z_iload_n (n := 3) (i := 3) (zd (i := .iload_n 3) (n := 1) (by decide +kernel)) rfl <|
    z_aload_n (n := 0) (i := 0) (zd (i := .aload_n 0) (n := 1) (by decide +kernel)) rfl <|
    z_getR (ci := 9) (j := 48) (idx := 110) (zd (i := .getfield 110) (n := 3) (by decide +kernel)) (by decide +kernel) (by decide +kernel) rfl g1176 <|
    z_bipush (n := 96) (zd (i := .bipush (96)) (n := 2) (by decide +kernel)) (by decide +kernel) <|
    z_iald (zd (i := .iaload) (n := 1) (by decide +kernel)) <|
    z_iload (i := 4) (zd (i := .iload 4) (n := 2) (by decide +kernel)) <|
    z_iadd (zd (i := .iadd) (n := 1) (by decide +kernel)) <|
    z_iconst (n := 1) (zd (i := .iconst (1)) (n := 1) (by decide +kernel)) (by decide +kernel) <|
    z_iadd (zd (i := .iadd) (n := 1) (by decide +kernel)) <|
    z_callV (idx := 425) (ci := 9) (N := n_X9_isWatched) (zd (i := .invokevirtual 425) (n := 3) (by decide +kernel)) to_X9_isWatched g1653 g1655 g93 (by decide +kernel) rfl rfl rfl (c_X9_isWatched (l := l) (G := G) (gh := gh) (d + 1)) <|
    z_if_ne (off := 7) (tgt := 180) (zd (i := .ifCond .ne (7)) (n := 3) (by decide +kernel)) (by decide +kernel) (zj (hj 22) (by decide +kernel)) (zj (hj 21) (by decide +kernel))
noncomputable def b_X9_hidden_21 : zBl := fun jp K => oInt 2147483649 <| jp 23
theorem s_X9_hidden_21 (d : Nat) : zPb l G gh (d + 3) n_X9_hidden p_X9_hidden 176 b_X9_hidden_21 := fun K jp hj =>
    z_iconst (n := 1) (zd (i := .iconst (1)) (n := 1) (by decide +kernel)) (by decide +kernel) <|
    z_goto (off := 4) (tgt := 181) (zd (i := .goto (4)) (n := 3) (by decide +kernel)) (by decide +kernel) (zj (hj 23) (by decide +kernel))
noncomputable def b_X9_hidden_22 : zBl := fun jp K => oInt 2147483648 <| jp 23
theorem s_X9_hidden_22 (d : Nat) : zPb l G gh (d + 3) n_X9_hidden p_X9_hidden 180 b_X9_hidden_22 := fun K jp hj =>
    z_iconst (n := 0) (zd (i := .iconst (0)) (n := 1) (by decide +kernel)) (by decide +kernel) <|
    (zj (hj 23) (by decide +kernel))
noncomputable def b_X9_hidden_23 : zBl := fun jp K => oXast 12 znz1 <| oInc 5 2147483649 <| jp 16
theorem s_X9_hidden_23 (d : Nat) : zPb l G gh (d + 3) n_X9_hidden p_X9_hidden 181 b_X9_hidden_23 := fun K jp hj =>
    z_zast (zd (i := .bastore) (n := 1) (by decide +kernel)) <|
    z_iinc (i := 5) (n := 1) (zd (i := .iinc 5 (1)) (n := 3) (by decide +kernel)) (by decide +kernel) (by decide +kernel) <|
    z_goto (off := -80) (tgt := 105) (zd (i := .goto (-80)) (n := 3) (by decide +kernel)) (by decide +kernel) (zj (hj 16) (by decide +kernel))
noncomputable def b_X9_hidden_24 : zBl := fun jp K => oInt 2147483649 <| oIst 5 <| jp 25
theorem s_X9_hidden_24 (d : Nat) : zPb l G gh (d + 3) n_X9_hidden p_X9_hidden 188 b_X9_hidden_24 := fun K jp hj =>
    z_iconst (n := 1) (zd (i := .iconst (1)) (n := 1) (by decide +kernel)) (by decide +kernel) <|
    z_istore (i := 5) (zd (i := .istore 5) (n := 2) (by decide +kernel)) (by decide +kernel) <|
    (zj (hj 25) (by decide +kernel))
noncomputable def b_X9_hidden_25 : zBl := fun jp K => oIld 5 <| oInt 2147483668 <| oIc zgt zle (jp 27) (jp 26)
theorem s_X9_hidden_25 (d : Nat) : zPb l G gh (d + 3) n_X9_hidden p_X9_hidden 191 b_X9_hidden_25 := fun K jp hj =>
    z_iload (i := 5) (zd (i := .iload 5) (n := 2) (by decide +kernel)) <|
    z_bipush (n := 20) (zd (i := .bipush (20)) (n := 2) (by decide +kernel)) (by decide +kernel) <|
    z_icmp_gt (off := 23) (tgt := 218) (zd (i := .if_icmp .gt (23)) (n := 3) (by decide +kernel)) (by decide +kernel) (zj (hj 27) (by decide +kernel)) (zj (hj 26) (by decide +kernel))
noncomputable def b_X9_hidden_26 : zBl := fun jp K => oAld 0 <| oGetR 9 56 <| oIld 5 <| oAld 0 <| oGetR 9 57 <| oIld 5 <| oXald 12 <| oXast 12 znz1 <| oInc 5 2147483649 <| jp 25
theorem s_X9_hidden_26 (d : Nat) : zPb l G gh (d + 3) n_X9_hidden p_X9_hidden 198 b_X9_hidden_26 := fun K jp hj =>
    z_aload_n (n := 0) (i := 0) (zd (i := .aload_n 0) (n := 1) (by decide +kernel)) rfl <|
    z_getR (ci := 9) (j := 56) (idx := 125) (zd (i := .getfield 125) (n := 3) (by decide +kernel)) (by decide +kernel) (by decide +kernel) rfl g1184 <|
    z_iload (i := 5) (zd (i := .iload 5) (n := 2) (by decide +kernel)) <|
    z_aload_n (n := 0) (i := 0) (zd (i := .aload_n 0) (n := 1) (by decide +kernel)) rfl <|
    z_getR (ci := 9) (j := 57) (idx := 128) (zd (i := .getfield 128) (n := 3) (by decide +kernel)) (by decide +kernel) (by decide +kernel) rfl g1185 <|
    z_iload (i := 5) (zd (i := .iload 5) (n := 2) (by decide +kernel)) <|
    z_zald (zd (i := .baload) (n := 1) (by decide +kernel)) <|
    z_zast (zd (i := .bastore) (n := 1) (by decide +kernel)) <|
    z_iinc (i := 5) (n := 1) (zd (i := .iinc 5 (1)) (n := 3) (by decide +kernel)) (by decide +kernel) (by decide +kernel) <|
    z_goto (off := -24) (tgt := 191) (zd (i := .goto (-24)) (n := 3) (by decide +kernel)) (by decide +kernel) (zj (hj 25) (by decide +kernel))
noncomputable def b_X9_hidden_27 : zBl := fun jp K => oInc 4 2147483649 <| jp 12
theorem s_X9_hidden_27 (d : Nat) : zPb l G gh (d + 3) n_X9_hidden p_X9_hidden 218 b_X9_hidden_27 := fun K jp hj =>
    z_iinc (i := 4) (n := 1) (zd (i := .iinc 4 (1)) (n := 3) (by decide +kernel)) (by decide +kernel) (by decide +kernel) <|
    z_goto (off := -140) (tgt := 81) (zd (i := .goto (-140)) (n := 3) (by decide +kernel)) (by decide +kernel) (zj (hj 12) (by decide +kernel))
noncomputable def f_X9_hidden : zMt := zmet 6 [b_X9_hidden_0, b_X9_hidden_1, b_X9_hidden_2, b_X9_hidden_3, b_X9_hidden_4, b_X9_hidden_5, b_X9_hidden_6, b_X9_hidden_7, b_X9_hidden_8, b_X9_hidden_9, b_X9_hidden_10, b_X9_hidden_11, b_X9_hidden_12, b_X9_hidden_13, b_X9_hidden_14, b_X9_hidden_15, b_X9_hidden_16, b_X9_hidden_17, b_X9_hidden_18, b_X9_hidden_19, b_X9_hidden_20, b_X9_hidden_21, b_X9_hidden_22, b_X9_hidden_23, b_X9_hidden_24, b_X9_hidden_25, b_X9_hidden_26, b_X9_hidden_27]
theorem c_X9_hidden (d : Nat) : zC l G gh (d + 3) n_X9_hidden f_X9_hidden := zmet_ok (pcs := p_X9_hidden) (by decide) rfl rfl ⟨s_X9_hidden_0 d, s_X9_hidden_1 d, s_X9_hidden_2 d, s_X9_hidden_3 d, s_X9_hidden_4 d, s_X9_hidden_5 d, s_X9_hidden_6 d, s_X9_hidden_7 d, s_X9_hidden_8 d, s_X9_hidden_9 d, s_X9_hidden_10 d, s_X9_hidden_11 d, s_X9_hidden_12 d, s_X9_hidden_13 d, s_X9_hidden_14 d, s_X9_hidden_15 d, s_X9_hidden_16 d, s_X9_hidden_17 d, s_X9_hidden_18 d, s_X9_hidden_19 d, s_X9_hidden_20 d, s_X9_hidden_21 d, s_X9_hidden_22 d, s_X9_hidden_23 d, s_X9_hidden_24 d, s_X9_hidden_25 d, s_X9_hidden_26 d, s_X9_hidden_27 d, trivial⟩
def n_X8_thingsSeen : qMn := (yX8_thingsSeen, cX8_thingsSeen, 5, (some Jvm.ClassFile.FieldType.int), 0, 0)
theorem to_X8_thingsSeen : qTo n_X8_thingsSeen 1 := ⟨g1009, g97, ⟨by decide, by decide, by decide +kernel⟩, by decide⟩
def p_X8_thingsSeen : List Nat := [0, 14, 54]
noncomputable def b_X8_thingsSeen_0 : zBl := fun jp K => oAld 0 <| oGetR 8 12 <| oIld 1 <| oCv 0 1 f_X0_heat <| oIst 2 <| oInt 2147483648 <| oIst 3 <| oInt 2147483648 <| oIst 4 <| jp 1
theorem s_X8_thingsSeen_0 (d : Nat) : zPb l G gh (d + 5) n_X8_thingsSeen p_X8_thingsSeen 0 b_X8_thingsSeen_0 := fun K jp hj =>
    z_aload_n (n := 0) (i := 0) (zd (i := .aload_n 0) (n := 1) (by decide +kernel)) rfl <|
    z_getR (ci := 8) (j := 12) (idx := 71) (zd (i := .getfield 71) (n := 3) (by decide +kernel)) (by decide +kernel) (by decide +kernel) rfl g464 <|
    z_iload_n (n := 1) (i := 1) (zd (i := .iload_n 1) (n := 1) (by decide +kernel)) rfl <|
    z_callV (idx := 143) (ci := 0) (N := n_X0_heat) (zd (i := .invokevirtual 143) (n := 3) (by decide +kernel)) to_X0_heat g716 g717 g718 (by decide +kernel) rfl rfl rfl (c_X0_heat (l := l) (G := G) (gh := gh) d) <|
    z_istore_n (n := 2) (i := 2) (zd (i := .istore_n 2) (n := 1) (by decide +kernel)) rfl (by decide +kernel) <|
    z_iconst (n := 0) (zd (i := .iconst (0)) (n := 1) (by decide +kernel)) (by decide +kernel) <|
    z_istore_n (n := 3) (i := 3) (zd (i := .istore_n 3) (n := 1) (by decide +kernel)) rfl (by decide +kernel) <|
    z_iconst (n := 0) (zd (i := .iconst (0)) (n := 1) (by decide +kernel)) (by decide +kernel) <|
    z_istore (i := 4) (zd (i := .istore 4) (n := 2) (by decide +kernel)) (by decide +kernel) <|
    (zj (hj 1) (by decide +kernel))
noncomputable def b_X8_thingsSeen_1 : zBl := fun jp K => oIld 4 <| oAld 0 <| oGetR 8 12 <| oGetI 0 5 <| oIc zge zlt (jp 2) (oFail)
theorem s_X8_thingsSeen_1 (d : Nat) : zPb l G gh (d + 5) n_X8_thingsSeen p_X8_thingsSeen 14 b_X8_thingsSeen_1 := fun K jp hj =>
    z_iload (i := 4) (zd (i := .iload 4) (n := 2) (by decide +kernel)) <|
    z_aload_n (n := 0) (i := 0) (zd (i := .aload_n 0) (n := 1) (by decide +kernel)) rfl <|
    z_getR (ci := 8) (j := 12) (idx := 71) (zd (i := .getfield 71) (n := 3) (by decide +kernel)) (by decide +kernel) (by decide +kernel) rfl g464 <|
    z_getI (ci := 0) (j := 5) (idx := 230) (zd (i := .getfield 230) (n := 3) (by decide +kernel)) (by decide +kernel) (by decide +kernel) rfl g288 <|
    z_icmp_ge (off := 31) (tgt := 54) (zd (i := .if_icmp .ge (31)) (n := 3) (by decide +kernel)) (by decide +kernel) (zj (hj 2) (by decide +kernel)) z_fail
noncomputable def b_X8_thingsSeen_2 : zBl := fun jp K => oIld 3 <| oIret K
theorem s_X8_thingsSeen_2 (d : Nat) : zPb l G gh (d + 5) n_X8_thingsSeen p_X8_thingsSeen 54 b_X8_thingsSeen_2 := fun K jp hj =>
    z_iload_n (n := 3) (i := 3) (zd (i := .iload_n 3) (n := 1) (by decide +kernel)) rfl <|
    z_iret (zd (i := .ireturn) (n := 1) (by decide +kernel)) rfl
noncomputable def f_X8_thingsSeen : zMt := zmet 5 [b_X8_thingsSeen_0, b_X8_thingsSeen_1, b_X8_thingsSeen_2]
theorem c_X8_thingsSeen (d : Nat) : zC l G gh (d + 5) n_X8_thingsSeen f_X8_thingsSeen := zmet_ok (pcs := p_X8_thingsSeen) (by decide) rfl rfl ⟨s_X8_thingsSeen_0 d, s_X8_thingsSeen_1 d, s_X8_thingsSeen_2 d, trivial⟩
def n_X8_cool : qMn := (yX8_cool, cX8_cool, 2, (some Jvm.ClassFile.FieldType.int), 0, 0)
theorem to_X8_cool : qTo n_X8_cool 0 := ⟨g1005, g97, ⟨by decide, by decide, by decide +kernel⟩, by decide⟩
def p_X8_cool : List Nat := [0, 2, 8, 24]
noncomputable def b_X8_cool_0 : zBl := fun jp K => oInt 2147483648 <| oIst 1 <| jp 1
theorem s_X8_cool_0 (d : Nat) : zPb l G gh (d + 6) n_X8_cool p_X8_cool 0 b_X8_cool_0 := fun K jp hj =>
    z_iconst (n := 0) (zd (i := .iconst (0)) (n := 1) (by decide +kernel)) (by decide +kernel) <|
    z_istore_n (n := 1) (i := 1) (zd (i := .istore_n 1) (n := 1) (by decide +kernel)) rfl (by decide +kernel) <|
    (zj (hj 1) (by decide +kernel))
noncomputable def b_X8_cool_1 : zBl := fun jp K => oIld 1 <| oInt 2147483696 <| oIc zgt zle (oFail) (jp 2)
theorem s_X8_cool_1 (d : Nat) : zPb l G gh (d + 6) n_X8_cool p_X8_cool 2 b_X8_cool_1 := fun K jp hj =>
    z_iload_n (n := 1) (i := 1) (zd (i := .iload_n 1) (n := 1) (by decide +kernel)) rfl <|
    z_bipush (n := 48) (zd (i := .bipush (48)) (n := 2) (by decide +kernel)) (by decide +kernel) <|
    z_icmp_gt (off := 27) (tgt := 32) (zd (i := .if_icmp .gt (27)) (n := 3) (by decide +kernel)) (by decide +kernel) z_fail (zj (hj 2) (by decide +kernel))
noncomputable def b_X8_cool_2 : zBl := fun jp K => oAld 0 <| oAld 0 <| oGetR 8 2 <| oGetI 4 0 <| oIld 1 <| oB2 zadd <| oCv 8 1 f_X8_thingsSeen <| oIf zne zeq (oFail) (jp 3)
theorem s_X8_cool_2 (d : Nat) : zPb l G gh (d + 6) n_X8_cool p_X8_cool 8 b_X8_cool_2 := fun K jp hj =>
    z_aload_n (n := 0) (i := 0) (zd (i := .aload_n 0) (n := 1) (by decide +kernel)) rfl <|
    z_aload_n (n := 0) (i := 0) (zd (i := .aload_n 0) (n := 1) (by decide +kernel)) rfl <|
    z_getR (ci := 8) (j := 2) (idx := 26) (zd (i := .getfield 26) (n := 3) (by decide +kernel)) (by decide +kernel) (by decide +kernel) rfl g454 <|
    z_getI (ci := 4) (j := 0) (idx := 140) (zd (i := .getfield 140) (n := 3) (by decide +kernel)) (by decide +kernel) (by decide +kernel) rfl g368 <|
    z_iload_n (n := 1) (i := 1) (zd (i := .iload_n 1) (n := 1) (by decide +kernel)) rfl <|
    z_iadd (zd (i := .iadd) (n := 1) (by decide +kernel)) <|
    z_callV (idx := 294) (ci := 8) (N := n_X8_thingsSeen) (zd (i := .invokevirtual 294) (n := 3) (by decide +kernel)) to_X8_thingsSeen g1006 g1008 g36 (by decide +kernel) rfl rfl rfl (c_X8_thingsSeen (l := l) (G := G) (gh := gh) d) <|
    z_if_ne (off := 5) (tgt := 26) (zd (i := .ifCond .ne (5)) (n := 3) (by decide +kernel)) (by decide +kernel) z_fail (zj (hj 3) (by decide +kernel))
noncomputable def b_X8_cool_3 : zBl := fun jp K => oIld 1 <| oIret K
theorem s_X8_cool_3 (d : Nat) : zPb l G gh (d + 6) n_X8_cool p_X8_cool 24 b_X8_cool_3 := fun K jp hj =>
    z_iload_n (n := 1) (i := 1) (zd (i := .iload_n 1) (n := 1) (by decide +kernel)) rfl <|
    z_iret (zd (i := .ireturn) (n := 1) (by decide +kernel)) rfl
noncomputable def f_X8_cool : zMt := zmet 2 [b_X8_cool_0, b_X8_cool_1, b_X8_cool_2, b_X8_cool_3]
theorem c_X8_cool (d : Nat) : zC l G gh (d + 6) n_X8_cool f_X8_cool := zmet_ok (pcs := p_X8_cool) (by decide) rfl rfl ⟨s_X8_cool_0 d, s_X8_cool_1 d, s_X8_cool_2 d, s_X8_cool_3 d, trivial⟩
def n_X9_cool : qMn := (yX9_cool, cX9_cool, 5, (some Jvm.ClassFile.FieldType.int), 0, 0)
theorem to_X9_cool : qTo n_X9_cool 0 := ⟨g1660, g110, ⟨by decide, by decide, by decide +kernel⟩, by decide⟩
def p_X9_cool : List Nat := [0, 2, 8, 12, 80, 84]
noncomputable def b_X9_cool_0 : zBl := fun jp K => oInt 2147483648 <| oIst 1 <| jp 1
theorem s_X9_cool_0 (d : Nat) : zPb l G gh (d + 1) n_X9_cool p_X9_cool 0 b_X9_cool_0 := fun K jp hj =>
    z_iconst (n := 0) (zd (i := .iconst (0)) (n := 1) (by decide +kernel)) (by decide +kernel) <|
    z_istore_n (n := 1) (i := 1) (zd (i := .istore_n 1) (n := 1) (by decide +kernel)) rfl (by decide +kernel) <|
    (zj (hj 1) (by decide +kernel))
noncomputable def b_X9_cool_1 : zBl := fun jp K => oIld 1 <| oInt 2147483696 <| oIc zgt zle (oFail) (jp 2)
theorem s_X9_cool_1 (d : Nat) : zPb l G gh (d + 1) n_X9_cool p_X9_cool 2 b_X9_cool_1 := fun K jp hj =>
    z_iload_n (n := 1) (i := 1) (zd (i := .iload_n 1) (n := 1) (by decide +kernel)) rfl <|
    z_bipush (n := 48) (zd (i := .bipush (48)) (n := 2) (by decide +kernel)) (by decide +kernel) <|
    z_icmp_gt (off := 87) (tgt := 92) (zd (i := .if_icmp .gt (87)) (n := 3) (by decide +kernel)) (by decide +kernel) z_fail (zj (hj 2) (by decide +kernel))
noncomputable def b_X9_cool_2 : zBl := fun jp K => oInt 2147483648 <| oIst 2 <| oInt 2147483648 <| oIst 3 <| jp 3
theorem s_X9_cool_2 (d : Nat) : zPb l G gh (d + 1) n_X9_cool p_X9_cool 8 b_X9_cool_2 := fun K jp hj =>
    z_iconst (n := 0) (zd (i := .iconst (0)) (n := 1) (by decide +kernel)) (by decide +kernel) <|
    z_istore_n (n := 2) (i := 2) (zd (i := .istore_n 2) (n := 1) (by decide +kernel)) rfl (by decide +kernel) <|
    z_iconst (n := 0) (zd (i := .iconst (0)) (n := 1) (by decide +kernel)) (by decide +kernel) <|
    z_istore_n (n := 3) (i := 3) (zd (i := .istore_n 3) (n := 1) (by decide +kernel)) rfl (by decide +kernel) <|
    (zj (hj 3) (by decide +kernel))
noncomputable def b_X9_cool_3 : zBl := fun jp K => oIld 3 <| oAld 0 <| oGetR 9 25 <| oAld 0 <| oGetI 9 18 <| oXald 10 <| oIc zge zlt (jp 4) (oFail)
theorem s_X9_cool_3 (d : Nat) : zPb l G gh (d + 1) n_X9_cool p_X9_cool 12 b_X9_cool_3 := fun K jp hj =>
    z_iload_n (n := 3) (i := 3) (zd (i := .iload_n 3) (n := 1) (by decide +kernel)) rfl <|
    z_aload_n (n := 0) (i := 0) (zd (i := .aload_n 0) (n := 1) (by decide +kernel)) rfl <|
    z_getR (ci := 9) (j := 25) (idx := 52) (zd (i := .getfield 52) (n := 3) (by decide +kernel)) (by decide +kernel) (by decide +kernel) rfl g1153 <|
    z_aload_n (n := 0) (i := 0) (zd (i := .aload_n 0) (n := 1) (by decide +kernel)) rfl <|
    z_getI (ci := 9) (j := 18) (idx := 230) (zd (i := .getfield 230) (n := 3) (by decide +kernel)) (by decide +kernel) (by decide +kernel) rfl g1146 <|
    z_iald (zd (i := .iaload) (n := 1) (by decide +kernel)) <|
    z_icmp_ge (off := 58) (tgt := 80) (zd (i := .if_icmp .ge (58)) (n := 3) (by decide +kernel)) (by decide +kernel) (zj (hj 4) (by decide +kernel)) z_fail
noncomputable def b_X9_cool_4 : zBl := fun jp K => oIld 2 <| oIf zne zeq (oFail) (jp 5)
theorem s_X9_cool_4 (d : Nat) : zPb l G gh (d + 1) n_X9_cool p_X9_cool 80 b_X9_cool_4 := fun K jp hj =>
    z_iload_n (n := 2) (i := 2) (zd (i := .iload_n 2) (n := 1) (by decide +kernel)) rfl <|
    z_if_ne (off := 5) (tgt := 86) (zd (i := .ifCond .ne (5)) (n := 3) (by decide +kernel)) (by decide +kernel) z_fail (zj (hj 5) (by decide +kernel))
noncomputable def b_X9_cool_5 : zBl := fun jp K => oIld 1 <| oIret K
theorem s_X9_cool_5 (d : Nat) : zPb l G gh (d + 1) n_X9_cool p_X9_cool 84 b_X9_cool_5 := fun K jp hj =>
    z_iload_n (n := 1) (i := 1) (zd (i := .iload_n 1) (n := 1) (by decide +kernel)) rfl <|
    z_iret (zd (i := .ireturn) (n := 1) (by decide +kernel)) rfl
noncomputable def f_X9_cool : zMt := zmet 5 [b_X9_cool_0, b_X9_cool_1, b_X9_cool_2, b_X9_cool_3, b_X9_cool_4, b_X9_cool_5]
theorem c_X9_cool (d : Nat) : zC l G gh (d + 1) n_X9_cool f_X9_cool := zmet_ok (pcs := p_X9_cool) (by decide) rfl rfl ⟨s_X9_cool_0 d, s_X9_cool_1 d, s_X9_cool_2 d, s_X9_cool_3 d, s_X9_cool_4 d, s_X9_cool_5 d, trivial⟩
def n_X8_heatIn : qMn := (yX8_heatIn, cX8_heatIn, 2, (some Jvm.ClassFile.FieldType.int), 0, 0)
theorem to_X8_heatIn : qTo n_X8_heatIn 1 := ⟨g1013, g97, ⟨by decide, by decide, by decide +kernel⟩, by decide⟩
def p_X8_heatIn : List Nat := [0, 7, 26, 27]
noncomputable def b_X8_heatIn_0 : zBl := fun jp K => oIld 1 <| oCs 1 f_X8_isAhead <| oIf zeq zne (jp 2) (jp 1)
theorem s_X8_heatIn_0 (d : Nat) : zPb l G gh (d + 5) n_X8_heatIn p_X8_heatIn 0 b_X8_heatIn_0 := fun K jp hj =>
    z_iload_n (n := 1) (i := 1) (zd (i := .iload_n 1) (n := 1) (by decide +kernel)) rfl <|
    z_callS (idx := 207) (N := n_X8_isAhead) (zd (i := .invokestatic 207) (n := 3) (by decide +kernel)) to_X8_isAhead g862 g863 rfl rfl (c_X8_isAhead (l := l) (G := G) (gh := gh) (d + 3)) <|
    z_if_eq (off := 22) (tgt := 26) (zd (i := .ifCond .eq (22)) (n := 3) (by decide +kernel)) (by decide +kernel) (zj (hj 2) (by decide +kernel)) (zj (hj 1) (by decide +kernel))
noncomputable def b_X8_heatIn_1 : zBl := fun jp K => oAld 0 <| oGetR 8 12 <| oAld 0 <| oGetR 8 2 <| oGetI 4 0 <| oIld 1 <| oB2 zadd <| oCv 0 1 f_X0_heat <| jp 3
theorem s_X8_heatIn_1 (d : Nat) : zPb l G gh (d + 5) n_X8_heatIn p_X8_heatIn 7 b_X8_heatIn_1 := fun K jp hj =>
    z_aload_n (n := 0) (i := 0) (zd (i := .aload_n 0) (n := 1) (by decide +kernel)) rfl <|
    z_getR (ci := 8) (j := 12) (idx := 71) (zd (i := .getfield 71) (n := 3) (by decide +kernel)) (by decide +kernel) (by decide +kernel) rfl g464 <|
    z_aload_n (n := 0) (i := 0) (zd (i := .aload_n 0) (n := 1) (by decide +kernel)) rfl <|
    z_getR (ci := 8) (j := 2) (idx := 26) (zd (i := .getfield 26) (n := 3) (by decide +kernel)) (by decide +kernel) (by decide +kernel) rfl g454 <|
    z_getI (ci := 4) (j := 0) (idx := 140) (zd (i := .getfield 140) (n := 3) (by decide +kernel)) (by decide +kernel) (by decide +kernel) rfl g368 <|
    z_iload_n (n := 1) (i := 1) (zd (i := .iload_n 1) (n := 1) (by decide +kernel)) rfl <|
    z_iadd (zd (i := .iadd) (n := 1) (by decide +kernel)) <|
    z_callV (idx := 143) (ci := 0) (N := n_X0_heat) (zd (i := .invokevirtual 143) (n := 3) (by decide +kernel)) to_X0_heat g716 g717 g718 (by decide +kernel) rfl rfl rfl (c_X0_heat (l := l) (G := G) (gh := gh) d) <|
    z_goto (off := 4) (tgt := 27) (zd (i := .goto (4)) (n := 3) (by decide +kernel)) (by decide +kernel) (zj (hj 3) (by decide +kernel))
noncomputable def b_X8_heatIn_2 : zBl := fun jp K => oInt 2147483647 <| jp 3
theorem s_X8_heatIn_2 (d : Nat) : zPb l G gh (d + 5) n_X8_heatIn p_X8_heatIn 26 b_X8_heatIn_2 := fun K jp hj =>
    z_iconst (n := -1) (zd (i := .iconst (-1)) (n := 1) (by decide +kernel)) (by decide +kernel) <|
    (zj (hj 3) (by decide +kernel))
noncomputable def b_X8_heatIn_3 : zBl := fun jp K => oIret K
theorem s_X8_heatIn_3 (d : Nat) : zPb l G gh (d + 5) n_X8_heatIn p_X8_heatIn 27 b_X8_heatIn_3 := fun K jp hj =>
    z_iret (zd (i := .ireturn) (n := 1) (by decide +kernel)) rfl
noncomputable def f_X8_heatIn : zMt := zmet 2 [b_X8_heatIn_0, b_X8_heatIn_1, b_X8_heatIn_2, b_X8_heatIn_3]
theorem c_X8_heatIn (d : Nat) : zC l G gh (d + 5) n_X8_heatIn f_X8_heatIn := zmet_ok (pcs := p_X8_heatIn) (by decide) rfl rfl ⟨s_X8_heatIn_0 d, s_X8_heatIn_1 d, s_X8_heatIn_2 d, s_X8_heatIn_3 d, trivial⟩
def n_X9_heatIn : qMn := (yX9_heatIn, cX9_heatIn, 2, (some Jvm.ClassFile.FieldType.int), 0, 0)
theorem to_X9_heatIn : qTo n_X9_heatIn 1 := ⟨g1664, g110, ⟨by decide, by decide, by decide +kernel⟩, by decide⟩
def p_X9_heatIn : List Nat := [0, 7, 23, 24]
noncomputable def b_X9_heatIn_0 : zBl := fun jp K => oIld 1 <| oCs 1 f_X9_isLong <| oIf zeq zne (jp 2) (jp 1)
theorem s_X9_heatIn_0 (d : Nat) : zPb l G gh (d + 3) n_X9_heatIn p_X9_heatIn 0 b_X9_heatIn_0 := fun K jp hj =>
    z_iload_n (n := 1) (i := 1) (zd (i := .iload_n 1) (n := 1) (by decide +kernel)) rfl <|
    z_callS (idx := 393) (N := n_X9_isLong) (zd (i := .invokestatic 393) (n := 3) (by decide +kernel)) to_X9_isLong g1543 g1544 rfl rfl (c_X9_isLong (l := l) (G := G) (gh := gh) d) <|
    z_if_eq (off := 19) (tgt := 23) (zd (i := .ifCond .eq (19)) (n := 3) (by decide +kernel)) (by decide +kernel) (zj (hj 2) (by decide +kernel)) (zj (hj 1) (by decide +kernel))
noncomputable def b_X9_heatIn_1 : zBl := fun jp K => oAld 0 <| oAld 0 <| oGetR 9 48 <| oInt 2147483744 <| oXald 10 <| oIld 1 <| oB2 zadd <| oCv 9 1 f_X9_heatAt <| jp 3
theorem s_X9_heatIn_1 (d : Nat) : zPb l G gh (d + 3) n_X9_heatIn p_X9_heatIn 7 b_X9_heatIn_1 := fun K jp hj =>
    z_aload_n (n := 0) (i := 0) (zd (i := .aload_n 0) (n := 1) (by decide +kernel)) rfl <|
    z_aload_n (n := 0) (i := 0) (zd (i := .aload_n 0) (n := 1) (by decide +kernel)) rfl <|
    z_getR (ci := 9) (j := 48) (idx := 110) (zd (i := .getfield 110) (n := 3) (by decide +kernel)) (by decide +kernel) (by decide +kernel) rfl g1176 <|
    z_bipush (n := 96) (zd (i := .bipush (96)) (n := 2) (by decide +kernel)) (by decide +kernel) <|
    z_iald (zd (i := .iaload) (n := 1) (by decide +kernel)) <|
    z_iload_n (n := 1) (i := 1) (zd (i := .iload_n 1) (n := 1) (by decide +kernel)) rfl <|
    z_iadd (zd (i := .iadd) (n := 1) (by decide +kernel)) <|
    z_callV (idx := 327) (ci := 9) (N := n_X9_heatAt) (zd (i := .invokevirtual 327) (n := 3) (by decide +kernel)) to_X9_heatAt g1461 g1463 g71 (by decide +kernel) rfl rfl rfl (c_X9_heatAt (l := l) (G := G) (gh := gh) d) <|
    z_goto (off := 4) (tgt := 24) (zd (i := .goto (4)) (n := 3) (by decide +kernel)) (by decide +kernel) (zj (hj 3) (by decide +kernel))
noncomputable def b_X9_heatIn_2 : zBl := fun jp K => oInt 2147483647 <| jp 3
theorem s_X9_heatIn_2 (d : Nat) : zPb l G gh (d + 3) n_X9_heatIn p_X9_heatIn 23 b_X9_heatIn_2 := fun K jp hj =>
    z_iconst (n := -1) (zd (i := .iconst (-1)) (n := 1) (by decide +kernel)) (by decide +kernel) <|
    (zj (hj 3) (by decide +kernel))
noncomputable def b_X9_heatIn_3 : zBl := fun jp K => oIret K
theorem s_X9_heatIn_3 (d : Nat) : zPb l G gh (d + 3) n_X9_heatIn p_X9_heatIn 24 b_X9_heatIn_3 := fun K jp hj =>
    z_iret (zd (i := .ireturn) (n := 1) (by decide +kernel)) rfl
noncomputable def f_X9_heatIn : zMt := zmet 2 [b_X9_heatIn_0, b_X9_heatIn_1, b_X9_heatIn_2, b_X9_heatIn_3]
theorem c_X9_heatIn (d : Nat) : zC l G gh (d + 3) n_X9_heatIn f_X9_heatIn := zmet_ok (pcs := p_X9_heatIn) (by decide) rfl rfl ⟨s_X9_heatIn_0 d, s_X9_heatIn_1 d, s_X9_heatIn_2 d, s_X9_heatIn_3 d, trivial⟩
def n_X8_lentIn : qMn := (yX8_lentIn, cX8_lentIn, 5, (some Jvm.ClassFile.FieldType.int), 0, 0)
theorem to_X8_lentIn : qTo n_X8_lentIn 3 := ⟨g1017, g97, ⟨by decide, by decide, by decide +kernel⟩, by decide⟩
def p_X8_lentIn : List Nat := [0, 16]
noncomputable def b_X8_lentIn_0 : zBl := fun jp K => oAld 0 <| oIld 1 <| oIld 2 <| oCv 8 2 f_X8_isPair <| oIf zeq zne (jp 1) (oFail)
theorem s_X8_lentIn_0 (d : Nat) : zPb l G gh (d + 3) n_X8_lentIn p_X8_lentIn 0 b_X8_lentIn_0 := fun K jp hj =>
    z_aload_n (n := 0) (i := 0) (zd (i := .aload_n 0) (n := 1) (by decide +kernel)) rfl <|
    z_iload_n (n := 1) (i := 1) (zd (i := .iload_n 1) (n := 1) (by decide +kernel)) rfl <|
    z_iload_n (n := 2) (i := 2) (zd (i := .iload_n 2) (n := 1) (by decide +kernel)) rfl <|
    z_callV (idx := 162) (ci := 8) (N := n_X8_isPair) (zd (i := .invokevirtual 162) (n := 3) (by decide +kernel)) to_X8_isPair g797 g799 g26 (by decide +kernel) rfl rfl rfl (c_X8_isPair (l := l) (G := G) (gh := gh) d) <|
    z_if_eq (off := 10) (tgt := 16) (zd (i := .ifCond .eq (10)) (n := 3) (by decide +kernel)) (by decide +kernel) (zj (hj 1) (by decide +kernel)) z_fail
noncomputable def b_X8_lentIn_1 : zBl := fun jp K => oInt 2147483647 <| oIret K
theorem s_X8_lentIn_1 (d : Nat) : zPb l G gh (d + 3) n_X8_lentIn p_X8_lentIn 16 b_X8_lentIn_1 := fun K jp hj =>
    z_iconst (n := -1) (zd (i := .iconst (-1)) (n := 1) (by decide +kernel)) (by decide +kernel) <|
    z_iret (zd (i := .ireturn) (n := 1) (by decide +kernel)) rfl
noncomputable def f_X8_lentIn : zMt := zmet 5 [b_X8_lentIn_0, b_X8_lentIn_1]
theorem c_X8_lentIn (d : Nat) : zC l G gh (d + 3) n_X8_lentIn f_X8_lentIn := zmet_ok (pcs := p_X8_lentIn) (by decide) rfl rfl ⟨s_X8_lentIn_0 d, s_X8_lentIn_1 d, trivial⟩
def n_X9_lentIn : qMn := (yX9_lentIn, cX9_lentIn, 4, (some Jvm.ClassFile.FieldType.int), 0, 0)
theorem to_X9_lentIn : qTo n_X9_lentIn 3 := ⟨g1668, g110, ⟨by decide, by decide, by decide +kernel⟩, by decide⟩
def p_X9_lentIn : List Nat := [0, 23]
noncomputable def b_X9_lentIn_0 : zBl := fun jp K => oAld 0 <| oIld 1 <| oCv 9 1 f_X9_isSeat <| oIf zeq zne (jp 1) (oFail)
theorem s_X9_lentIn_0 (d : Nat) : zPb l G gh (d + 3) n_X9_lentIn p_X9_lentIn 0 b_X9_lentIn_0 := fun K jp hj =>
    z_aload_n (n := 0) (i := 0) (zd (i := .aload_n 0) (n := 1) (by decide +kernel)) rfl <|
    z_iload_n (n := 1) (i := 1) (zd (i := .iload_n 1) (n := 1) (by decide +kernel)) rfl <|
    z_callV (idx := 378) (ci := 9) (N := n_X9_isSeat) (zd (i := .invokevirtual 378) (n := 3) (by decide +kernel)) to_X9_isSeat g1487 g1489 g75 (by decide +kernel) rfl rfl rfl (c_X9_isSeat (l := l) (G := G) (gh := gh) d) <|
    z_if_eq (off := 18) (tgt := 23) (zd (i := .ifCond .eq (18)) (n := 3) (by decide +kernel)) (by decide +kernel) (zj (hj 1) (by decide +kernel)) z_fail
noncomputable def b_X9_lentIn_1 : zBl := fun jp K => oInt 2147483647 <| oIret K
theorem s_X9_lentIn_1 (d : Nat) : zPb l G gh (d + 3) n_X9_lentIn p_X9_lentIn 23 b_X9_lentIn_1 := fun K jp hj =>
    z_iconst (n := -1) (zd (i := .iconst (-1)) (n := 1) (by decide +kernel)) (by decide +kernel) <|
    z_iret (zd (i := .ireturn) (n := 1) (by decide +kernel)) rfl
noncomputable def f_X9_lentIn : zMt := zmet 4 [b_X9_lentIn_0, b_X9_lentIn_1]
theorem c_X9_lentIn (d : Nat) : zC l G gh (d + 3) n_X9_lentIn f_X9_lentIn := zmet_ok (pcs := p_X9_lentIn) (by decide) rfl rfl ⟨s_X9_lentIn_0 d, s_X9_lentIn_1 d, trivial⟩
def n_X8_year : qMn := (yX8_year, cX8_year, 8, (some Jvm.ClassFile.FieldType.int), 0, 0)
theorem to_X8_year : qTo n_X8_year 4 := ⟨g1021, g97, ⟨by decide, by decide, by decide +kernel⟩, by decide⟩
def p_X8_year : List Nat := [0, 29]
noncomputable def b_X8_year_0 : zBl := fun jp K => oAld 0 <| oIld 1 <| oIld 2 <| oCv 8 2 f_X8_isPair <| oIf zeq zne (jp 1) (oFail)
theorem s_X8_year_0 (d : Nat) : zPb l G gh (d + 3) n_X8_year p_X8_year 0 b_X8_year_0 := fun K jp hj =>
    z_aload_n (n := 0) (i := 0) (zd (i := .aload_n 0) (n := 1) (by decide +kernel)) rfl <|
    z_iload_n (n := 1) (i := 1) (zd (i := .iload_n 1) (n := 1) (by decide +kernel)) rfl <|
    z_iload_n (n := 2) (i := 2) (zd (i := .iload_n 2) (n := 1) (by decide +kernel)) rfl <|
    z_callV (idx := 162) (ci := 8) (N := n_X8_isPair) (zd (i := .invokevirtual 162) (n := 3) (by decide +kernel)) to_X8_isPair g797 g799 g26 (by decide +kernel) rfl rfl rfl (c_X8_isPair (l := l) (G := G) (gh := gh) d) <|
    z_if_eq (off := 23) (tgt := 29) (zd (i := .ifCond .eq (23)) (n := 3) (by decide +kernel)) (by decide +kernel) (zj (hj 1) (by decide +kernel)) z_fail
noncomputable def b_X8_year_1 : zBl := fun jp K => oInt 2147483647 <| oIret K
theorem s_X8_year_1 (d : Nat) : zPb l G gh (d + 3) n_X8_year p_X8_year 29 b_X8_year_1 := fun K jp hj =>
    z_iconst (n := -1) (zd (i := .iconst (-1)) (n := 1) (by decide +kernel)) (by decide +kernel) <|
    z_iret (zd (i := .ireturn) (n := 1) (by decide +kernel)) rfl
noncomputable def f_X8_year : zMt := zmet 8 [b_X8_year_0, b_X8_year_1]
theorem c_X8_year (d : Nat) : zC l G gh (d + 3) n_X8_year f_X8_year := zmet_ok (pcs := p_X8_year) (by decide) rfl rfl ⟨s_X8_year_0 d, s_X8_year_1 d, trivial⟩
def n_X9_year : qMn := (yX9_year, cX9_year, 7, (some Jvm.ClassFile.FieldType.int), 0, 0)
theorem to_X9_year : qTo n_X9_year 4 := ⟨g1672, g110, ⟨by decide, by decide, by decide +kernel⟩, by decide⟩
def p_X9_year : List Nat := [0, 34]
noncomputable def b_X9_year_0 : zBl := fun jp K => oAld 0 <| oIld 1 <| oCv 9 1 f_X9_isSeat <| oIf zeq zne (jp 1) (oFail)
theorem s_X9_year_0 (d : Nat) : zPb l G gh (d + 3) n_X9_year p_X9_year 0 b_X9_year_0 := fun K jp hj =>
    z_aload_n (n := 0) (i := 0) (zd (i := .aload_n 0) (n := 1) (by decide +kernel)) rfl <|
    z_iload_n (n := 1) (i := 1) (zd (i := .iload_n 1) (n := 1) (by decide +kernel)) rfl <|
    z_callV (idx := 378) (ci := 9) (N := n_X9_isSeat) (zd (i := .invokevirtual 378) (n := 3) (by decide +kernel)) to_X9_isSeat g1487 g1489 g75 (by decide +kernel) rfl rfl rfl (c_X9_isSeat (l := l) (G := G) (gh := gh) d) <|
    z_if_eq (off := 29) (tgt := 34) (zd (i := .ifCond .eq (29)) (n := 3) (by decide +kernel)) (by decide +kernel) (zj (hj 1) (by decide +kernel)) z_fail
noncomputable def b_X9_year_1 : zBl := fun jp K => oInt 2147483647 <| oIret K
theorem s_X9_year_1 (d : Nat) : zPb l G gh (d + 3) n_X9_year p_X9_year 34 b_X9_year_1 := fun K jp hj =>
    z_iconst (n := -1) (zd (i := .iconst (-1)) (n := 1) (by decide +kernel)) (by decide +kernel) <|
    z_iret (zd (i := .ireturn) (n := 1) (by decide +kernel)) rfl
noncomputable def f_X9_year : zMt := zmet 7 [b_X9_year_0, b_X9_year_1]
theorem c_X9_year (d : Nat) : zC l G gh (d + 3) n_X9_year f_X9_year := zmet_ok (pcs := p_X9_year) (by decide) rfl rfl ⟨s_X9_year_0 d, s_X9_year_1 d, trivial⟩
def n_X7_put : qMn := (yX7_put, cX7_put, 4, (some Jvm.ClassFile.FieldType.int), 0, 0)
theorem to_X7_put : qTo n_X7_put 3 := ⟨g1029, g109, ⟨by decide, by decide, by decide +kernel⟩, by decide⟩
def p_X7_put : List Nat := [0, 11]
noncomputable def b_X7_put_0 : zBl := fun jp K => oAld 0 <| oGetI 7 0 <| oInt 2147483668 <| oIc zlt zge (jp 1) (oFail)
theorem s_X7_put_0 (d : Nat) : zPb l G gh (d + 1) n_X7_put p_X7_put 0 b_X7_put_0 := fun K jp hj =>
    z_aload_n (n := 0) (i := 0) (zd (i := .aload_n 0) (n := 1) (by decide +kernel)) rfl <|
    z_getI (ci := 7) (j := 0) (idx := 9) (zd (i := .getfield 9) (n := 3) (by decide +kernel)) (by decide +kernel) (by decide +kernel) rfl g429 <|
    z_bipush (n := 20) (zd (i := .bipush (20)) (n := 2) (by decide +kernel)) (by decide +kernel) <|
    z_icmp_lt (off := 5) (tgt := 11) (zd (i := .if_icmp .lt (5)) (n := 3) (by decide +kernel)) (by decide +kernel) (zj (hj 1) (by decide +kernel)) z_fail
noncomputable def b_X7_put_1 : zBl := fun jp K => oAld 0 <| oGetR 7 1 <| oAld 0 <| oGetI 7 0 <| oIld 1 <| oXast 10 zid <| oAld 0 <| oGetR 7 2 <| oAld 0 <| oGetI 7 0 <| oIld 2 <| oXast 10 zid <| oAld 0 <| oGetR 7 3 <| oAld 0 <| oGetI 7 0 <| oIld 3 <| oXast 10 zid <| oAld 0 <| oDup <| oGetI 7 0 <| oInt 2147483649 <| oB2 zadd <| oPutI 7 0 <| oAld 0 <| oGetI 7 0 <| oInt 2147483649 <| oB2 zsub <| oIret K
theorem s_X7_put_1 (d : Nat) : zPb l G gh (d + 1) n_X7_put p_X7_put 11 b_X7_put_1 := fun K jp hj =>
    z_aload_n (n := 0) (i := 0) (zd (i := .aload_n 0) (n := 1) (by decide +kernel)) rfl <|
    z_getR (ci := 7) (j := 1) (idx := 15) (zd (i := .getfield 15) (n := 3) (by decide +kernel)) (by decide +kernel) (by decide +kernel) rfl g431 <|
    z_aload_n (n := 0) (i := 0) (zd (i := .aload_n 0) (n := 1) (by decide +kernel)) rfl <|
    z_getI (ci := 7) (j := 0) (idx := 9) (zd (i := .getfield 9) (n := 3) (by decide +kernel)) (by decide +kernel) (by decide +kernel) rfl g429 <|
    z_iload_n (n := 1) (i := 1) (zd (i := .iload_n 1) (n := 1) (by decide +kernel)) rfl <|
    z_iast (zd (i := .iastore) (n := 1) (by decide +kernel)) <|
    z_aload_n (n := 0) (i := 0) (zd (i := .aload_n 0) (n := 1) (by decide +kernel)) rfl <|
    z_getR (ci := 7) (j := 2) (idx := 19) (zd (i := .getfield 19) (n := 3) (by decide +kernel)) (by decide +kernel) (by decide +kernel) rfl g432 <|
    z_aload_n (n := 0) (i := 0) (zd (i := .aload_n 0) (n := 1) (by decide +kernel)) rfl <|
    z_getI (ci := 7) (j := 0) (idx := 9) (zd (i := .getfield 9) (n := 3) (by decide +kernel)) (by decide +kernel) (by decide +kernel) rfl g429 <|
    z_iload_n (n := 2) (i := 2) (zd (i := .iload_n 2) (n := 1) (by decide +kernel)) rfl <|
    z_iast (zd (i := .iastore) (n := 1) (by decide +kernel)) <|
    z_aload_n (n := 0) (i := 0) (zd (i := .aload_n 0) (n := 1) (by decide +kernel)) rfl <|
    z_getR (ci := 7) (j := 3) (idx := 22) (zd (i := .getfield 22) (n := 3) (by decide +kernel)) (by decide +kernel) (by decide +kernel) rfl g433 <|
    z_aload_n (n := 0) (i := 0) (zd (i := .aload_n 0) (n := 1) (by decide +kernel)) rfl <|
    z_getI (ci := 7) (j := 0) (idx := 9) (zd (i := .getfield 9) (n := 3) (by decide +kernel)) (by decide +kernel) (by decide +kernel) rfl g429 <|
    z_iload_n (n := 3) (i := 3) (zd (i := .iload_n 3) (n := 1) (by decide +kernel)) rfl <|
    z_iast (zd (i := .iastore) (n := 1) (by decide +kernel)) <|
    z_aload_n (n := 0) (i := 0) (zd (i := .aload_n 0) (n := 1) (by decide +kernel)) rfl <|
    z_dup (zd (i := .dup) (n := 1) (by decide +kernel)) <|
    z_getI (ci := 7) (j := 0) (idx := 9) (zd (i := .getfield 9) (n := 3) (by decide +kernel)) (by decide +kernel) (by decide +kernel) rfl g429 <|
    z_iconst (n := 1) (zd (i := .iconst (1)) (n := 1) (by decide +kernel)) (by decide +kernel) <|
    z_iadd (zd (i := .iadd) (n := 1) (by decide +kernel)) <|
    z_putI (ci := 7) (j := 0) (idx := 9) (zd (i := .putfield 9) (n := 3) (by decide +kernel)) (by decide +kernel) (by decide +kernel) rfl g429 (Or.inl rfl) <|
    z_aload_n (n := 0) (i := 0) (zd (i := .aload_n 0) (n := 1) (by decide +kernel)) rfl <|
    z_getI (ci := 7) (j := 0) (idx := 9) (zd (i := .getfield 9) (n := 3) (by decide +kernel)) (by decide +kernel) (by decide +kernel) rfl g429 <|
    z_iconst (n := 1) (zd (i := .iconst (1)) (n := 1) (by decide +kernel)) (by decide +kernel) <|
    z_isub (zd (i := .isub) (n := 1) (by decide +kernel)) <|
    z_iret (zd (i := .ireturn) (n := 1) (by decide +kernel)) rfl
noncomputable def f_X7_put : zMt := zmet 4 [b_X7_put_0, b_X7_put_1]
theorem c_X7_put (d : Nat) : zC l G gh (d + 1) n_X7_put f_X7_put := zmet_ok (pcs := p_X7_put) (by decide) rfl rfl ⟨s_X7_put_0 d, s_X7_put_1 d, trivial⟩
def n_X8_tell : qMn := (yX8_tell, cX8_tell, 4, (some Jvm.ClassFile.FieldType.int), 0, 0)
theorem to_X8_tell : qTo n_X8_tell 3 := ⟨g1025, g97, ⟨by decide, by decide, by decide +kernel⟩, by decide⟩
def p_X8_tell : List Nat := [0, 7, 12, 19, 23, 29, 31]
noncomputable def b_X8_tell_0 : zBl := fun jp K => oIld 1 <| oCs 1 f_X8_isX <| oIf zeq zne (jp 5) (jp 1)
theorem s_X8_tell_0 (d : Nat) : zPb l G gh (d + 2) n_X8_tell p_X8_tell 0 b_X8_tell_0 := fun K jp hj =>
    z_iload_n (n := 1) (i := 1) (zd (i := .iload_n 1) (n := 1) (by decide +kernel)) rfl <|
    z_callS (idx := 175) (N := n_X8_isX) (zd (i := .invokestatic 175) (n := 3) (by decide +kernel)) to_X8_isX g805 g806 rfl rfl (c_X8_isX (l := l) (G := G) (gh := gh) d) <|
    z_if_eq (off := 25) (tgt := 29) (zd (i := .ifCond .eq (25)) (n := 3) (by decide +kernel)) (by decide +kernel) (zj (hj 5) (by decide +kernel)) (zj (hj 1) (by decide +kernel))
noncomputable def b_X8_tell_1 : zBl := fun jp K => oIld 2 <| oInt 2147483647 <| oIc zeq zne (jp 3) (jp 2)
theorem s_X8_tell_1 (d : Nat) : zPb l G gh (d + 2) n_X8_tell p_X8_tell 7 b_X8_tell_1 := fun K jp hj =>
    z_iload_n (n := 2) (i := 2) (zd (i := .iload_n 2) (n := 1) (by decide +kernel)) rfl <|
    z_iconst (n := -1) (zd (i := .iconst (-1)) (n := 1) (by decide +kernel)) (by decide +kernel) <|
    z_icmp_eq (off := 10) (tgt := 19) (zd (i := .if_icmp .eq (10)) (n := 3) (by decide +kernel)) (by decide +kernel) (zj (hj 3) (by decide +kernel)) (zj (hj 2) (by decide +kernel))
noncomputable def b_X8_tell_2 : zBl := fun jp K => oIld 2 <| oCs 1 f_X8_isX <| oIf zeq zne (jp 5) (jp 3)
theorem s_X8_tell_2 (d : Nat) : zPb l G gh (d + 2) n_X8_tell p_X8_tell 12 b_X8_tell_2 := fun K jp hj =>
    z_iload_n (n := 2) (i := 2) (zd (i := .iload_n 2) (n := 1) (by decide +kernel)) rfl <|
    z_callS (idx := 175) (N := n_X8_isX) (zd (i := .invokestatic 175) (n := 3) (by decide +kernel)) to_X8_isX g805 g806 rfl rfl (c_X8_isX (l := l) (G := G) (gh := gh) d) <|
    z_if_eq (off := 13) (tgt := 29) (zd (i := .ifCond .eq (13)) (n := 3) (by decide +kernel)) (by decide +kernel) (zj (hj 5) (by decide +kernel)) (zj (hj 3) (by decide +kernel))
noncomputable def b_X8_tell_3 : zBl := fun jp K => oIld 3 <| oIf zlt zge (jp 5) (jp 4)
theorem s_X8_tell_3 (d : Nat) : zPb l G gh (d + 2) n_X8_tell p_X8_tell 19 b_X8_tell_3 := fun K jp hj =>
    z_iload_n (n := 3) (i := 3) (zd (i := .iload_n 3) (n := 1) (by decide +kernel)) rfl <|
    z_if_lt (off := 9) (tgt := 29) (zd (i := .ifCond .lt (9)) (n := 3) (by decide +kernel)) (by decide +kernel) (zj (hj 5) (by decide +kernel)) (zj (hj 4) (by decide +kernel))
noncomputable def b_X8_tell_4 : zBl := fun jp K => oIld 3 <| oInt 2147483672 <| oIc zle zgt (jp 6) (jp 5)
theorem s_X8_tell_4 (d : Nat) : zPb l G gh (d + 2) n_X8_tell p_X8_tell 23 b_X8_tell_4 := fun K jp hj =>
    z_iload_n (n := 3) (i := 3) (zd (i := .iload_n 3) (n := 1) (by decide +kernel)) rfl <|
    z_bipush (n := 24) (zd (i := .bipush (24)) (n := 2) (by decide +kernel)) (by decide +kernel) <|
    z_icmp_le (off := 5) (tgt := 31) (zd (i := .if_icmp .le (5)) (n := 3) (by decide +kernel)) (by decide +kernel) (zj (hj 6) (by decide +kernel)) (zj (hj 5) (by decide +kernel))
noncomputable def b_X8_tell_5 : zBl := fun jp K => oInt 2147483647 <| oIret K
theorem s_X8_tell_5 (d : Nat) : zPb l G gh (d + 2) n_X8_tell p_X8_tell 29 b_X8_tell_5 := fun K jp hj =>
    z_iconst (n := -1) (zd (i := .iconst (-1)) (n := 1) (by decide +kernel)) (by decide +kernel) <|
    z_iret (zd (i := .ireturn) (n := 1) (by decide +kernel)) rfl
noncomputable def b_X8_tell_6 : zBl := fun jp K => oAld 0 <| oGetR 8 7 <| oIld 1 <| oIld 2 <| oAld 0 <| oGetR 8 2 <| oGetI 4 0 <| oIld 3 <| oB2 zadd <| oCv 7 3 f_X7_put <| oIret K
theorem s_X8_tell_6 (d : Nat) : zPb l G gh (d + 2) n_X8_tell p_X8_tell 31 b_X8_tell_6 := fun K jp hj =>
    z_aload_n (n := 0) (i := 0) (zd (i := .aload_n 0) (n := 1) (by decide +kernel)) rfl <|
    z_getR (ci := 8) (j := 7) (idx := 51) (zd (i := .getfield 51) (n := 3) (by decide +kernel)) (by decide +kernel) (by decide +kernel) rfl g459 <|
    z_iload_n (n := 1) (i := 1) (zd (i := .iload_n 1) (n := 1) (by decide +kernel)) rfl <|
    z_iload_n (n := 2) (i := 2) (zd (i := .iload_n 2) (n := 1) (by decide +kernel)) rfl <|
    z_aload_n (n := 0) (i := 0) (zd (i := .aload_n 0) (n := 1) (by decide +kernel)) rfl <|
    z_getR (ci := 8) (j := 2) (idx := 26) (zd (i := .getfield 26) (n := 3) (by decide +kernel)) (by decide +kernel) (by decide +kernel) rfl g454 <|
    z_getI (ci := 4) (j := 0) (idx := 140) (zd (i := .getfield 140) (n := 3) (by decide +kernel)) (by decide +kernel) (by decide +kernel) rfl g368 <|
    z_iload_n (n := 3) (i := 3) (zd (i := .iload_n 3) (n := 1) (by decide +kernel)) rfl <|
    z_iadd (zd (i := .iadd) (n := 1) (by decide +kernel)) <|
    z_callV (idx := 297) (ci := 7) (N := n_X7_put) (zd (i := .invokevirtual 297) (n := 3) (by decide +kernel)) to_X7_put g1026 g1027 g1028 (by decide +kernel) rfl rfl rfl (c_X7_put (l := l) (G := G) (gh := gh) d) <|
    z_iret (zd (i := .ireturn) (n := 1) (by decide +kernel)) rfl
noncomputable def f_X8_tell : zMt := zmet 4 [b_X8_tell_0, b_X8_tell_1, b_X8_tell_2, b_X8_tell_3, b_X8_tell_4, b_X8_tell_5, b_X8_tell_6]
theorem c_X8_tell (d : Nat) : zC l G gh (d + 2) n_X8_tell f_X8_tell := zmet_ok (pcs := p_X8_tell) (by decide) rfl rfl ⟨s_X8_tell_0 d, s_X8_tell_1 d, s_X8_tell_2 d, s_X8_tell_3 d, s_X8_tell_4 d, s_X8_tell_5 d, s_X8_tell_6 d, trivial⟩
def n_X9_tell : qMn := (yX9_tell, cX9_tell, 4, (some Jvm.ClassFile.FieldType.int), 0, 0)
theorem to_X9_tell : qTo n_X9_tell 3 := ⟨g1676, g110, ⟨by decide, by decide, by decide +kernel⟩, by decide⟩
def p_X9_tell : List Nat := [0, 9, 16, 21, 28, 38, 40, 63, 68, 69]
noncomputable def b_X9_tell_0 : zBl := fun jp K => oAld 0 <| oGetI 9 58 <| oInt 2147483668 <| oIc zeq zne (jp 5) (jp 1)
theorem s_X9_tell_0 (d : Nat) : zPb l G gh (d + 3) n_X9_tell p_X9_tell 0 b_X9_tell_0 := fun K jp hj =>
    z_aload_n (n := 0) (i := 0) (zd (i := .aload_n 0) (n := 1) (by decide +kernel)) rfl <|
    z_getI (ci := 9) (j := 58) (idx := 251) (zd (i := .getfield 251) (n := 3) (by decide +kernel)) (by decide +kernel) (by decide +kernel) rfl g1186 <|
    z_bipush (n := 20) (zd (i := .bipush (20)) (n := 2) (by decide +kernel)) (by decide +kernel) <|
    z_icmp_eq (off := 32) (tgt := 38) (zd (i := .if_icmp .eq (32)) (n := 3) (by decide +kernel)) (by decide +kernel) (zj (hj 5) (by decide +kernel)) (zj (hj 1) (by decide +kernel))
noncomputable def b_X9_tell_1 : zBl := fun jp K => oIld 1 <| oCs 1 f_X9_isX <| oIf zeq zne (jp 5) (jp 2)
theorem s_X9_tell_1 (d : Nat) : zPb l G gh (d + 3) n_X9_tell p_X9_tell 9 b_X9_tell_1 := fun K jp hj =>
    z_iload_n (n := 1) (i := 1) (zd (i := .iload_n 1) (n := 1) (by decide +kernel)) rfl <|
    z_callS (idx := 387) (N := n_X9_isX) (zd (i := .invokestatic 387) (n := 3) (by decide +kernel)) to_X9_isX g1507 g1508 rfl rfl (c_X9_isX (l := l) (G := G) (gh := gh) d) <|
    z_if_eq (off := 25) (tgt := 38) (zd (i := .ifCond .eq (25)) (n := 3) (by decide +kernel)) (by decide +kernel) (zj (hj 5) (by decide +kernel)) (zj (hj 2) (by decide +kernel))
noncomputable def b_X9_tell_2 : zBl := fun jp K => oIld 2 <| oInt 2147483647 <| oIc zeq zne (jp 4) (jp 3)
theorem s_X9_tell_2 (d : Nat) : zPb l G gh (d + 3) n_X9_tell p_X9_tell 16 b_X9_tell_2 := fun K jp hj =>
    z_iload_n (n := 2) (i := 2) (zd (i := .iload_n 2) (n := 1) (by decide +kernel)) rfl <|
    z_iconst (n := -1) (zd (i := .iconst (-1)) (n := 1) (by decide +kernel)) (by decide +kernel) <|
    z_icmp_eq (off := 10) (tgt := 28) (zd (i := .if_icmp .eq (10)) (n := 3) (by decide +kernel)) (by decide +kernel) (zj (hj 4) (by decide +kernel)) (zj (hj 3) (by decide +kernel))
noncomputable def b_X9_tell_3 : zBl := fun jp K => oIld 2 <| oCs 1 f_X9_isX <| oIf zeq zne (jp 5) (jp 4)
theorem s_X9_tell_3 (d : Nat) : zPb l G gh (d + 3) n_X9_tell p_X9_tell 21 b_X9_tell_3 := fun K jp hj =>
    z_iload_n (n := 2) (i := 2) (zd (i := .iload_n 2) (n := 1) (by decide +kernel)) rfl <|
    z_callS (idx := 387) (N := n_X9_isX) (zd (i := .invokestatic 387) (n := 3) (by decide +kernel)) to_X9_isX g1507 g1508 rfl rfl (c_X9_isX (l := l) (G := G) (gh := gh) d) <|
    z_if_eq (off := 13) (tgt := 38) (zd (i := .ifCond .eq (13)) (n := 3) (by decide +kernel)) (by decide +kernel) (zj (hj 5) (by decide +kernel)) (zj (hj 4) (by decide +kernel))
noncomputable def b_X9_tell_4 : zBl := fun jp K => oIld 3 <| oInt 2147483648 <| oInt 2147483672 <| oCs 3 f_X9_in <| oIf zne zeq (jp 6) (jp 5)
theorem s_X9_tell_4 (d : Nat) : zPb l G gh (d + 3) n_X9_tell p_X9_tell 28 b_X9_tell_4 := fun K jp hj =>
    z_iload_n (n := 3) (i := 3) (zd (i := .iload_n 3) (n := 1) (by decide +kernel)) rfl <|
    z_iconst (n := 0) (zd (i := .iconst (0)) (n := 1) (by decide +kernel)) (by decide +kernel) <|
    z_bipush (n := 24) (zd (i := .bipush (24)) (n := 2) (by decide +kernel)) (by decide +kernel) <|
    z_callS (idx := 304) (N := n_X9_in) (zd (i := .invokestatic 304) (n := 3) (by decide +kernel)) to_X9_in g1442 g1443 rfl rfl (c_X9_in (l := l) (G := G) (gh := gh) (d + 1)) <|
    z_if_ne (off := 5) (tgt := 40) (zd (i := .ifCond .ne (5)) (n := 3) (by decide +kernel)) (by decide +kernel) (zj (hj 6) (by decide +kernel)) (zj (hj 5) (by decide +kernel))
noncomputable def b_X9_tell_5 : zBl := fun jp K => oInt 2147483647 <| oIret K
theorem s_X9_tell_5 (d : Nat) : zPb l G gh (d + 3) n_X9_tell p_X9_tell 38 b_X9_tell_5 := fun K jp hj =>
    z_iconst (n := -1) (zd (i := .iconst (-1)) (n := 1) (by decide +kernel)) (by decide +kernel) <|
    z_iret (zd (i := .ireturn) (n := 1) (by decide +kernel)) rfl
noncomputable def b_X9_tell_6 : zBl := fun jp K => oAld 0 <| oGetR 9 59 <| oAld 0 <| oGetI 9 58 <| oIld 1 <| oXast 10 zid <| oAld 0 <| oGetR 9 60 <| oAld 0 <| oGetI 9 58 <| oIld 2 <| oInt 2147483647 <| oIc zne zeq (jp 8) (jp 7)
theorem s_X9_tell_6 (d : Nat) : zPb l G gh (d + 3) n_X9_tell p_X9_tell 40 b_X9_tell_6 := fun K jp hj =>
    z_aload_n (n := 0) (i := 0) (zd (i := .aload_n 0) (n := 1) (by decide +kernel)) rfl <|
    z_getR (ci := 9) (j := 59) (idx := 131) (zd (i := .getfield 131) (n := 3) (by decide +kernel)) (by decide +kernel) (by decide +kernel) rfl g1187 <|
    z_aload_n (n := 0) (i := 0) (zd (i := .aload_n 0) (n := 1) (by decide +kernel)) rfl <|
    z_getI (ci := 9) (j := 58) (idx := 251) (zd (i := .getfield 251) (n := 3) (by decide +kernel)) (by decide +kernel) (by decide +kernel) rfl g1186 <|
    z_iload_n (n := 1) (i := 1) (zd (i := .iload_n 1) (n := 1) (by decide +kernel)) rfl <|
    z_iast (zd (i := .iastore) (n := 1) (by decide +kernel)) <|
    z_aload_n (n := 0) (i := 0) (zd (i := .aload_n 0) (n := 1) (by decide +kernel)) rfl <|
    z_getR (ci := 9) (j := 60) (idx := 134) (zd (i := .getfield 134) (n := 3) (by decide +kernel)) (by decide +kernel) (by decide +kernel) rfl g1188 <|
    z_aload_n (n := 0) (i := 0) (zd (i := .aload_n 0) (n := 1) (by decide +kernel)) rfl <|
    z_getI (ci := 9) (j := 58) (idx := 251) (zd (i := .getfield 251) (n := 3) (by decide +kernel)) (by decide +kernel) (by decide +kernel) rfl g1186 <|
    z_iload_n (n := 2) (i := 2) (zd (i := .iload_n 2) (n := 1) (by decide +kernel)) rfl <|
    z_iconst (n := -1) (zd (i := .iconst (-1)) (n := 1) (by decide +kernel)) (by decide +kernel) <|
    z_icmp_ne (off := 8) (tgt := 68) (zd (i := .if_icmp .ne (8)) (n := 3) (by decide +kernel)) (by decide +kernel) (zj (hj 8) (by decide +kernel)) (zj (hj 7) (by decide +kernel))
noncomputable def b_X9_tell_7 : zBl := fun jp K => oInt 2147483646 <| jp 9
theorem s_X9_tell_7 (d : Nat) : zPb l G gh (d + 3) n_X9_tell p_X9_tell 63 b_X9_tell_7 := fun K jp hj =>
    z_bipush (n := -2) (zd (i := .bipush (-2)) (n := 2) (by decide +kernel)) (by decide +kernel) <|
    z_goto (off := 4) (tgt := 69) (zd (i := .goto (4)) (n := 3) (by decide +kernel)) (by decide +kernel) (zj (hj 9) (by decide +kernel))
noncomputable def b_X9_tell_8 : zBl := fun jp K => oIld 2 <| jp 9
theorem s_X9_tell_8 (d : Nat) : zPb l G gh (d + 3) n_X9_tell p_X9_tell 68 b_X9_tell_8 := fun K jp hj =>
    z_iload_n (n := 2) (i := 2) (zd (i := .iload_n 2) (n := 1) (by decide +kernel)) rfl <|
    (zj (hj 9) (by decide +kernel))
noncomputable def b_X9_tell_9 : zBl := fun jp K => oXast 10 zid <| oAld 0 <| oGetR 9 61 <| oAld 0 <| oGetI 9 58 <| oIld 3 <| oXast 10 zid <| oAld 0 <| oDup <| oGetI 9 58 <| oInt 2147483649 <| oB2 zadd <| oPutI 9 58 <| oAld 0 <| oGetI 9 58 <| oInt 2147483649 <| oB2 zsub <| oIret K
theorem s_X9_tell_9 (d : Nat) : zPb l G gh (d + 3) n_X9_tell p_X9_tell 69 b_X9_tell_9 := fun K jp hj =>
    z_iast (zd (i := .iastore) (n := 1) (by decide +kernel)) <|
    z_aload_n (n := 0) (i := 0) (zd (i := .aload_n 0) (n := 1) (by decide +kernel)) rfl <|
    z_getR (ci := 9) (j := 61) (idx := 137) (zd (i := .getfield 137) (n := 3) (by decide +kernel)) (by decide +kernel) (by decide +kernel) rfl g1189 <|
    z_aload_n (n := 0) (i := 0) (zd (i := .aload_n 0) (n := 1) (by decide +kernel)) rfl <|
    z_getI (ci := 9) (j := 58) (idx := 251) (zd (i := .getfield 251) (n := 3) (by decide +kernel)) (by decide +kernel) (by decide +kernel) rfl g1186 <|
    z_iload_n (n := 3) (i := 3) (zd (i := .iload_n 3) (n := 1) (by decide +kernel)) rfl <|
    z_iast (zd (i := .iastore) (n := 1) (by decide +kernel)) <|
    z_aload_n (n := 0) (i := 0) (zd (i := .aload_n 0) (n := 1) (by decide +kernel)) rfl <|
    z_dup (zd (i := .dup) (n := 1) (by decide +kernel)) <|
    z_getI (ci := 9) (j := 58) (idx := 251) (zd (i := .getfield 251) (n := 3) (by decide +kernel)) (by decide +kernel) (by decide +kernel) rfl g1186 <|
    z_iconst (n := 1) (zd (i := .iconst (1)) (n := 1) (by decide +kernel)) (by decide +kernel) <|
    z_iadd (zd (i := .iadd) (n := 1) (by decide +kernel)) <|
    z_putI (ci := 9) (j := 58) (idx := 251) (zd (i := .putfield 251) (n := 3) (by decide +kernel)) (by decide +kernel) (by decide +kernel) rfl g1186 (Or.inl rfl) <|
    z_aload_n (n := 0) (i := 0) (zd (i := .aload_n 0) (n := 1) (by decide +kernel)) rfl <|
    z_getI (ci := 9) (j := 58) (idx := 251) (zd (i := .getfield 251) (n := 3) (by decide +kernel)) (by decide +kernel) (by decide +kernel) rfl g1186 <|
    z_iconst (n := 1) (zd (i := .iconst (1)) (n := 1) (by decide +kernel)) (by decide +kernel) <|
    z_isub (zd (i := .isub) (n := 1) (by decide +kernel)) <|
    z_iret (zd (i := .ireturn) (n := 1) (by decide +kernel)) rfl
noncomputable def f_X9_tell : zMt := zmet 4 [b_X9_tell_0, b_X9_tell_1, b_X9_tell_2, b_X9_tell_3, b_X9_tell_4, b_X9_tell_5, b_X9_tell_6, b_X9_tell_7, b_X9_tell_8, b_X9_tell_9]
theorem c_X9_tell (d : Nat) : zC l G gh (d + 3) n_X9_tell f_X9_tell := zmet_ok (pcs := p_X9_tell) (by decide) rfl rfl ⟨s_X9_tell_0 d, s_X9_tell_1 d, s_X9_tell_2 d, s_X9_tell_3 d, s_X9_tell_4 d, s_X9_tell_5 d, s_X9_tell_6 d, s_X9_tell_7 d, s_X9_tell_8 d, s_X9_tell_9 d, trivial⟩
def n_X8_forget : qMn := (yX8_forget, cX8_forget, 2, (some Jvm.ClassFile.FieldType.int), 0, 0)
theorem to_X8_forget : qTo n_X8_forget 0 := ⟨g1033, g97, ⟨by decide, by decide, by decide +kernel⟩, by decide⟩
def p_X8_forget : List Nat := [0]
noncomputable def b_X8_forget_0 : zBl := fun jp K => oAld 0 <| oGetR 8 7 <| oGetI 7 0 <| oIst 1 <| oAld 0 <| oGetR 8 7 <| oInt 2147483648 <| oPutI 7 0 <| oIld 1 <| oIret K
theorem s_X8_forget_0 (d : Nat) : zPb l G gh (d + 1) n_X8_forget p_X8_forget 0 b_X8_forget_0 := fun K jp hj =>
    z_aload_n (n := 0) (i := 0) (zd (i := .aload_n 0) (n := 1) (by decide +kernel)) rfl <|
    z_getR (ci := 8) (j := 7) (idx := 51) (zd (i := .getfield 51) (n := 3) (by decide +kernel)) (by decide +kernel) (by decide +kernel) rfl g459 <|
    z_getI (ci := 7) (j := 0) (idx := 114) (zd (i := .getfield 114) (n := 3) (by decide +kernel)) (by decide +kernel) (by decide +kernel) rfl g430 <|
    z_istore_n (n := 1) (i := 1) (zd (i := .istore_n 1) (n := 1) (by decide +kernel)) rfl (by decide +kernel) <|
    z_aload_n (n := 0) (i := 0) (zd (i := .aload_n 0) (n := 1) (by decide +kernel)) rfl <|
    z_getR (ci := 8) (j := 7) (idx := 51) (zd (i := .getfield 51) (n := 3) (by decide +kernel)) (by decide +kernel) (by decide +kernel) rfl g459 <|
    z_iconst (n := 0) (zd (i := .iconst (0)) (n := 1) (by decide +kernel)) (by decide +kernel) <|
    z_putI (ci := 7) (j := 0) (idx := 114) (zd (i := .putfield 114) (n := 3) (by decide +kernel)) (by decide +kernel) (by decide +kernel) rfl g430 (Or.inl rfl) <|
    z_iload_n (n := 1) (i := 1) (zd (i := .iload_n 1) (n := 1) (by decide +kernel)) rfl <|
    z_iret (zd (i := .ireturn) (n := 1) (by decide +kernel)) rfl
noncomputable def f_X8_forget : zMt := zmet 2 [b_X8_forget_0]
theorem c_X8_forget (d : Nat) : zC l G gh (d + 1) n_X8_forget f_X8_forget := zmet_ok (pcs := p_X8_forget) (by decide) rfl rfl ⟨s_X8_forget_0 d, trivial⟩
def n_X9_forget : qMn := (yX9_forget, cX9_forget, 2, (some Jvm.ClassFile.FieldType.int), 0, 0)
theorem to_X9_forget : qTo n_X9_forget 0 := ⟨g1680, g110, ⟨by decide, by decide, by decide +kernel⟩, by decide⟩
def p_X9_forget : List Nat := [0]
noncomputable def b_X9_forget_0 : zBl := fun jp K => oAld 0 <| oGetI 9 58 <| oIst 1 <| oAld 0 <| oInt 2147483648 <| oPutI 9 58 <| oIld 1 <| oIret K
theorem s_X9_forget_0 (d : Nat) : zPb l G gh (d + 1) n_X9_forget p_X9_forget 0 b_X9_forget_0 := fun K jp hj =>
    z_aload_n (n := 0) (i := 0) (zd (i := .aload_n 0) (n := 1) (by decide +kernel)) rfl <|
    z_getI (ci := 9) (j := 58) (idx := 251) (zd (i := .getfield 251) (n := 3) (by decide +kernel)) (by decide +kernel) (by decide +kernel) rfl g1186 <|
    z_istore_n (n := 1) (i := 1) (zd (i := .istore_n 1) (n := 1) (by decide +kernel)) rfl (by decide +kernel) <|
    z_aload_n (n := 0) (i := 0) (zd (i := .aload_n 0) (n := 1) (by decide +kernel)) rfl <|
    z_iconst (n := 0) (zd (i := .iconst (0)) (n := 1) (by decide +kernel)) (by decide +kernel) <|
    z_putI (ci := 9) (j := 58) (idx := 251) (zd (i := .putfield 251) (n := 3) (by decide +kernel)) (by decide +kernel) (by decide +kernel) rfl g1186 (Or.inl rfl) <|
    z_iload_n (n := 1) (i := 1) (zd (i := .iload_n 1) (n := 1) (by decide +kernel)) rfl <|
    z_iret (zd (i := .ireturn) (n := 1) (by decide +kernel)) rfl
noncomputable def f_X9_forget : zMt := zmet 2 [b_X9_forget_0]
theorem c_X9_forget (d : Nat) : zC l G gh (d + 1) n_X9_forget f_X9_forget := zmet_ok (pcs := p_X9_forget) (by decide) rfl rfl ⟨s_X9_forget_0 d, trivial⟩
def n_X8_isKnown : qMn := (yX8_isKnown, cX8_isKnown, 2, (some Jvm.ClassFile.FieldType.boolean), 0, 0)
theorem to_X8_isKnown : qTo n_X8_isKnown 1 := ⟨g1041, g97, ⟨by decide, by decide, by decide +kernel⟩, by decide⟩
def p_X8_isKnown : List Nat := [0, 4, 15, 19, 20]
noncomputable def b_X8_isKnown_0 : zBl := fun jp K => oIld 1 <| oIf zlt zge (jp 3) (jp 1)
theorem s_X8_isKnown_0 (d : Nat) : zPb l G gh (d + 1) n_X8_isKnown p_X8_isKnown 0 b_X8_isKnown_0 := fun K jp hj =>
    z_iload_n (n := 1) (i := 1) (zd (i := .iload_n 1) (n := 1) (by decide +kernel)) rfl <|
    z_if_lt (off := 18) (tgt := 19) (zd (i := .ifCond .lt (18)) (n := 3) (by decide +kernel)) (by decide +kernel) (zj (hj 3) (by decide +kernel)) (zj (hj 1) (by decide +kernel))
noncomputable def b_X8_isKnown_1 : zBl := fun jp K => oIld 1 <| oAld 0 <| oGetR 8 7 <| oGetI 7 0 <| oIc zgt zle (jp 3) (jp 2)
theorem s_X8_isKnown_1 (d : Nat) : zPb l G gh (d + 1) n_X8_isKnown p_X8_isKnown 4 b_X8_isKnown_1 := fun K jp hj =>
    z_iload_n (n := 1) (i := 1) (zd (i := .iload_n 1) (n := 1) (by decide +kernel)) rfl <|
    z_aload_n (n := 0) (i := 0) (zd (i := .aload_n 0) (n := 1) (by decide +kernel)) rfl <|
    z_getR (ci := 8) (j := 7) (idx := 51) (zd (i := .getfield 51) (n := 3) (by decide +kernel)) (by decide +kernel) (by decide +kernel) rfl g459 <|
    z_getI (ci := 7) (j := 0) (idx := 114) (zd (i := .getfield 114) (n := 3) (by decide +kernel)) (by decide +kernel) (by decide +kernel) rfl g430 <|
    z_icmp_gt (off := 7) (tgt := 19) (zd (i := .if_icmp .gt (7)) (n := 3) (by decide +kernel)) (by decide +kernel) (zj (hj 3) (by decide +kernel)) (zj (hj 2) (by decide +kernel))
noncomputable def b_X8_isKnown_2 : zBl := fun jp K => oInt 2147483649 <| jp 4
theorem s_X8_isKnown_2 (d : Nat) : zPb l G gh (d + 1) n_X8_isKnown p_X8_isKnown 15 b_X8_isKnown_2 := fun K jp hj =>
    z_iconst (n := 1) (zd (i := .iconst (1)) (n := 1) (by decide +kernel)) (by decide +kernel) <|
    z_goto (off := 4) (tgt := 20) (zd (i := .goto (4)) (n := 3) (by decide +kernel)) (by decide +kernel) (zj (hj 4) (by decide +kernel))
noncomputable def b_X8_isKnown_3 : zBl := fun jp K => oInt 2147483648 <| jp 4
theorem s_X8_isKnown_3 (d : Nat) : zPb l G gh (d + 1) n_X8_isKnown p_X8_isKnown 19 b_X8_isKnown_3 := fun K jp hj =>
    z_iconst (n := 0) (zd (i := .iconst (0)) (n := 1) (by decide +kernel)) (by decide +kernel) <|
    (zj (hj 4) (by decide +kernel))
noncomputable def b_X8_isKnown_4 : zBl := fun jp K => oZret K
theorem s_X8_isKnown_4 (d : Nat) : zPb l G gh (d + 1) n_X8_isKnown p_X8_isKnown 20 b_X8_isKnown_4 := fun K jp hj =>
    z_zret (zd (i := .ireturn) (n := 1) (by decide +kernel)) rfl
noncomputable def f_X8_isKnown : zMt := zmet 2 [b_X8_isKnown_0, b_X8_isKnown_1, b_X8_isKnown_2, b_X8_isKnown_3, b_X8_isKnown_4]
theorem c_X8_isKnown (d : Nat) : zC l G gh (d + 1) n_X8_isKnown f_X8_isKnown := zmet_ok (pcs := p_X8_isKnown) (by decide) rfl rfl ⟨s_X8_isKnown_0 d, s_X8_isKnown_1 d, s_X8_isKnown_2 d, s_X8_isKnown_3 d, s_X8_isKnown_4 d, trivial⟩
def n_X7_sift : qMn := (yX7_sift, cX7_sift, 7, (some Jvm.ClassFile.FieldType.int), 0, 0)
theorem to_X7_sift : qTo n_X7_sift 2 := ⟨g1045, g109, ⟨by decide, by decide, by decide +kernel⟩, by decide⟩
def p_X7_sift : List Nat := [0, 2, 9, 22, 29, 115]
noncomputable def b_X7_sift_0 : zBl := fun jp K => oInt 2147483648 <| oIst 3 <| jp 1
theorem s_X7_sift_0 (d : Nat) : zPb l G gh (d + 1) n_X7_sift p_X7_sift 0 b_X7_sift_0 := fun K jp hj =>
    z_iconst (n := 0) (zd (i := .iconst (0)) (n := 1) (by decide +kernel)) (by decide +kernel) <|
    z_istore_n (n := 3) (i := 3) (zd (i := .istore_n 3) (n := 1) (by decide +kernel)) rfl (by decide +kernel) <|
    (zj (hj 1) (by decide +kernel))
noncomputable def b_X7_sift_1 : zBl := fun jp K => oIld 3 <| oInt 2147483828 <| oIc zge zlt (jp 3) (jp 2)
theorem s_X7_sift_1 (d : Nat) : zPb l G gh (d + 1) n_X7_sift p_X7_sift 2 b_X7_sift_1 := fun K jp hj =>
    z_iload_n (n := 3) (i := 3) (zd (i := .iload_n 3) (n := 1) (by decide +kernel)) rfl <|
    z_sipush (n := 180) (zd (i := .sipush (180)) (n := 3) (by decide +kernel)) (by decide +kernel) <|
    z_icmp_ge (off := 16) (tgt := 22) (zd (i := .if_icmp .ge (16)) (n := 3) (by decide +kernel)) (by decide +kernel) (zj (hj 3) (by decide +kernel)) (zj (hj 2) (by decide +kernel))
noncomputable def b_X7_sift_2 : zBl := fun jp K => oAld 0 <| oGetR 7 4 <| oIld 3 <| oInt 2147483649 <| oXast 12 znz1 <| oInc 3 2147483649 <| jp 1
theorem s_X7_sift_2 (d : Nat) : zPb l G gh (d + 1) n_X7_sift p_X7_sift 9 b_X7_sift_2 := fun K jp hj =>
    z_aload_n (n := 0) (i := 0) (zd (i := .aload_n 0) (n := 1) (by decide +kernel)) rfl <|
    z_getR (ci := 7) (j := 4) (idx := 25) (zd (i := .getfield 25) (n := 3) (by decide +kernel)) (by decide +kernel) (by decide +kernel) rfl g434 <|
    z_iload_n (n := 3) (i := 3) (zd (i := .iload_n 3) (n := 1) (by decide +kernel)) rfl <|
    z_iconst (n := 1) (zd (i := .iconst (1)) (n := 1) (by decide +kernel)) (by decide +kernel) <|
    z_zast (zd (i := .bastore) (n := 1) (by decide +kernel)) <|
    z_iinc (i := 3) (n := 1) (zd (i := .iinc 3 (1)) (n := 3) (by decide +kernel)) (by decide +kernel) (by decide +kernel) <|
    z_goto (off := -17) (tgt := 2) (zd (i := .goto (-17)) (n := 3) (by decide +kernel)) (by decide +kernel) (zj (hj 1) (by decide +kernel))
noncomputable def b_X7_sift_3 : zBl := fun jp K => oInt 2147483828 <| oIst 3 <| oInt 2147483648 <| oIst 4 <| jp 4
theorem s_X7_sift_3 (d : Nat) : zPb l G gh (d + 1) n_X7_sift p_X7_sift 22 b_X7_sift_3 := fun K jp hj =>
    z_sipush (n := 180) (zd (i := .sipush (180)) (n := 3) (by decide +kernel)) (by decide +kernel) <|
    z_istore_n (n := 3) (i := 3) (zd (i := .istore_n 3) (n := 1) (by decide +kernel)) rfl (by decide +kernel) <|
    z_iconst (n := 0) (zd (i := .iconst (0)) (n := 1) (by decide +kernel)) (by decide +kernel) <|
    z_istore (i := 4) (zd (i := .istore 4) (n := 2) (by decide +kernel)) (by decide +kernel) <|
    (zj (hj 4) (by decide +kernel))
noncomputable def b_X7_sift_4 : zBl := fun jp K => oIld 4 <| oIld 2 <| oIc zge zlt (jp 5) (oFail)
theorem s_X7_sift_4 (d : Nat) : zPb l G gh (d + 1) n_X7_sift p_X7_sift 29 b_X7_sift_4 := fun K jp hj =>
    z_iload (i := 4) (zd (i := .iload 4) (n := 2) (by decide +kernel)) <|
    z_iload_n (n := 2) (i := 2) (zd (i := .iload_n 2) (n := 1) (by decide +kernel)) rfl <|
    z_icmp_ge (off := 83) (tgt := 115) (zd (i := .if_icmp .ge (83)) (n := 3) (by decide +kernel)) (by decide +kernel) (zj (hj 5) (by decide +kernel)) z_fail
noncomputable def b_X7_sift_5 : zBl := fun jp K => oIld 3 <| oIret K
theorem s_X7_sift_5 (d : Nat) : zPb l G gh (d + 1) n_X7_sift p_X7_sift 115 b_X7_sift_5 := fun K jp hj =>
    z_iload_n (n := 3) (i := 3) (zd (i := .iload_n 3) (n := 1) (by decide +kernel)) rfl <|
    z_iret (zd (i := .ireturn) (n := 1) (by decide +kernel)) rfl
noncomputable def f_X7_sift : zMt := zmet 7 [b_X7_sift_0, b_X7_sift_1, b_X7_sift_2, b_X7_sift_3, b_X7_sift_4, b_X7_sift_5]
theorem c_X7_sift (d : Nat) : zC l G gh (d + 1) n_X7_sift f_X7_sift := zmet_ok (pcs := p_X7_sift) (by decide) rfl rfl ⟨s_X7_sift_0 d, s_X7_sift_1 d, s_X7_sift_2 d, s_X7_sift_3 d, s_X7_sift_4 d, s_X7_sift_5 d, trivial⟩
def n_X8_stands : qMn := (yX8_stands, cX8_stands, 2, (some Jvm.ClassFile.FieldType.int), 0, 0)
theorem to_X8_stands : qTo n_X8_stands 1 := ⟨g1037, g97, ⟨by decide, by decide, by decide +kernel⟩, by decide⟩
def p_X8_stands : List Nat := [0, 8, 23, 24]
noncomputable def b_X8_stands_0 : zBl := fun jp K => oAld 0 <| oIld 1 <| oCv 8 1 f_X8_isKnown <| oIf zeq zne (jp 2) (jp 1)
theorem s_X8_stands_0 (d : Nat) : zPb l G gh (d + 2) n_X8_stands p_X8_stands 0 b_X8_stands_0 := fun K jp hj =>
    z_aload_n (n := 0) (i := 0) (zd (i := .aload_n 0) (n := 1) (by decide +kernel)) rfl <|
    z_iload_n (n := 1) (i := 1) (zd (i := .iload_n 1) (n := 1) (by decide +kernel)) rfl <|
    z_callV (idx := 300) (ci := 8) (N := n_X8_isKnown) (zd (i := .invokevirtual 300) (n := 3) (by decide +kernel)) to_X8_isKnown g1038 g1040 g37 (by decide +kernel) rfl rfl rfl (c_X8_isKnown (l := l) (G := G) (gh := gh) d) <|
    z_if_eq (off := 18) (tgt := 23) (zd (i := .ifCond .eq (18)) (n := 3) (by decide +kernel)) (by decide +kernel) (zj (hj 2) (by decide +kernel)) (zj (hj 1) (by decide +kernel))
noncomputable def b_X8_stands_1 : zBl := fun jp K => oAld 0 <| oGetR 8 7 <| oAld 0 <| oGetR 8 12 <| oIld 1 <| oCv 7 2 f_X7_sift <| jp 3
theorem s_X8_stands_1 (d : Nat) : zPb l G gh (d + 2) n_X8_stands p_X8_stands 8 b_X8_stands_1 := fun K jp hj =>
    z_aload_n (n := 0) (i := 0) (zd (i := .aload_n 0) (n := 1) (by decide +kernel)) rfl <|
    z_getR (ci := 8) (j := 7) (idx := 51) (zd (i := .getfield 51) (n := 3) (by decide +kernel)) (by decide +kernel) (by decide +kernel) rfl g459 <|
    z_aload_n (n := 0) (i := 0) (zd (i := .aload_n 0) (n := 1) (by decide +kernel)) rfl <|
    z_getR (ci := 8) (j := 12) (idx := 71) (zd (i := .getfield 71) (n := 3) (by decide +kernel)) (by decide +kernel) (by decide +kernel) rfl g464 <|
    z_iload_n (n := 1) (i := 1) (zd (i := .iload_n 1) (n := 1) (by decide +kernel)) rfl <|
    z_callV (idx := 303) (ci := 7) (N := n_X7_sift) (zd (i := .invokevirtual 303) (n := 3) (by decide +kernel)) to_X7_sift g1042 g1043 g1044 (by decide +kernel) rfl rfl rfl (c_X7_sift (l := l) (G := G) (gh := gh) d) <|
    z_goto (off := 4) (tgt := 24) (zd (i := .goto (4)) (n := 3) (by decide +kernel)) (by decide +kernel) (zj (hj 3) (by decide +kernel))
noncomputable def b_X8_stands_2 : zBl := fun jp K => oInt 2147483647 <| jp 3
theorem s_X8_stands_2 (d : Nat) : zPb l G gh (d + 2) n_X8_stands p_X8_stands 23 b_X8_stands_2 := fun K jp hj =>
    z_iconst (n := -1) (zd (i := .iconst (-1)) (n := 1) (by decide +kernel)) (by decide +kernel) <|
    (zj (hj 3) (by decide +kernel))
noncomputable def b_X8_stands_3 : zBl := fun jp K => oIret K
theorem s_X8_stands_3 (d : Nat) : zPb l G gh (d + 2) n_X8_stands p_X8_stands 24 b_X8_stands_3 := fun K jp hj =>
    z_iret (zd (i := .ireturn) (n := 1) (by decide +kernel)) rfl
noncomputable def f_X8_stands : zMt := zmet 2 [b_X8_stands_0, b_X8_stands_1, b_X8_stands_2, b_X8_stands_3]
theorem c_X8_stands (d : Nat) : zC l G gh (d + 2) n_X8_stands f_X8_stands := zmet_ok (pcs := p_X8_stands) (by decide) rfl rfl ⟨s_X8_stands_0 d, s_X8_stands_1 d, s_X8_stands_2 d, s_X8_stands_3 d, trivial⟩
def n_X9_isSo : qMn := (yX9_isSo, cX9_isSo, 4, (some Jvm.ClassFile.FieldType.boolean), 0, 0)
theorem to_X9_isSo : qTo n_X9_isSo 2 := ⟨g1688, g110, ⟨by decide, by decide, by decide +kernel⟩, by decide⟩
def p_X9_isSo : List Nat := [0, 2, 58]
noncomputable def b_X9_isSo_0 : zBl := fun jp K => oInt 2147483648 <| oIst 3 <| jp 1
theorem s_X9_isSo_0 (d : Nat) : zPb l G gh (d + 1) n_X9_isSo p_X9_isSo 0 b_X9_isSo_0 := fun K jp hj =>
    z_iconst (n := 0) (zd (i := .iconst (0)) (n := 1) (by decide +kernel)) (by decide +kernel) <|
    z_istore_n (n := 3) (i := 3) (zd (i := .istore_n 3) (n := 1) (by decide +kernel)) rfl (by decide +kernel) <|
    (zj (hj 1) (by decide +kernel))
noncomputable def b_X9_isSo_1 : zBl := fun jp K => oIld 3 <| oIld 2 <| oIc zge zlt (jp 2) (oFail)
theorem s_X9_isSo_1 (d : Nat) : zPb l G gh (d + 1) n_X9_isSo p_X9_isSo 2 b_X9_isSo_1 := fun K jp hj =>
    z_iload_n (n := 3) (i := 3) (zd (i := .iload_n 3) (n := 1) (by decide +kernel)) rfl <|
    z_iload_n (n := 2) (i := 2) (zd (i := .iload_n 2) (n := 1) (by decide +kernel)) rfl <|
    z_icmp_ge (off := 54) (tgt := 58) (zd (i := .if_icmp .ge (54)) (n := 3) (by decide +kernel)) (by decide +kernel) (zj (hj 2) (by decide +kernel)) z_fail
noncomputable def b_X9_isSo_2 : zBl := fun jp K => oInt 2147483649 <| oZret K
theorem s_X9_isSo_2 (d : Nat) : zPb l G gh (d + 1) n_X9_isSo p_X9_isSo 58 b_X9_isSo_2 := fun K jp hj =>
    z_iconst (n := 1) (zd (i := .iconst (1)) (n := 1) (by decide +kernel)) (by decide +kernel) <|
    z_zret (zd (i := .ireturn) (n := 1) (by decide +kernel)) rfl
noncomputable def f_X9_isSo : zMt := zmet 4 [b_X9_isSo_0, b_X9_isSo_1, b_X9_isSo_2]
theorem c_X9_isSo (d : Nat) : zC l G gh (d + 1) n_X9_isSo f_X9_isSo := zmet_ok (pcs := p_X9_isSo) (by decide) rfl rfl ⟨s_X9_isSo_0 d, s_X9_isSo_1 d, s_X9_isSo_2 d, trivial⟩
def n_X9_stands : qMn := (yX9_stands, cX9_stands, 4, (some Jvm.ClassFile.FieldType.int), 0, 0)
theorem to_X9_stands : qTo n_X9_stands 1 := ⟨g1684, g110, ⟨by decide, by decide, by decide +kernel⟩, by decide⟩
def p_X9_stands : List Nat := [0, 12, 14, 18, 25, 34, 37, 43]
noncomputable def b_X9_stands_0 : zBl := fun jp K => oIld 1 <| oInt 2147483648 <| oAld 0 <| oGetI 9 58 <| oCs 3 f_X9_in <| oIf zne zeq (jp 2) (jp 1)
theorem s_X9_stands_0 (d : Nat) : zPb l G gh (d + 2) n_X9_stands p_X9_stands 0 b_X9_stands_0 := fun K jp hj =>
    z_iload_n (n := 1) (i := 1) (zd (i := .iload_n 1) (n := 1) (by decide +kernel)) rfl <|
    z_iconst (n := 0) (zd (i := .iconst (0)) (n := 1) (by decide +kernel)) (by decide +kernel) <|
    z_aload_n (n := 0) (i := 0) (zd (i := .aload_n 0) (n := 1) (by decide +kernel)) rfl <|
    z_getI (ci := 9) (j := 58) (idx := 251) (zd (i := .getfield 251) (n := 3) (by decide +kernel)) (by decide +kernel) (by decide +kernel) rfl g1186 <|
    z_callS (idx := 304) (N := n_X9_in) (zd (i := .invokestatic 304) (n := 3) (by decide +kernel)) to_X9_in g1442 g1443 rfl rfl (c_X9_in (l := l) (G := G) (gh := gh) d) <|
    z_if_ne (off := 5) (tgt := 14) (zd (i := .ifCond .ne (5)) (n := 3) (by decide +kernel)) (by decide +kernel) (zj (hj 2) (by decide +kernel)) (zj (hj 1) (by decide +kernel))
noncomputable def b_X9_stands_1 : zBl := fun jp K => oInt 2147483647 <| oIret K
theorem s_X9_stands_1 (d : Nat) : zPb l G gh (d + 2) n_X9_stands p_X9_stands 12 b_X9_stands_1 := fun K jp hj =>
    z_iconst (n := -1) (zd (i := .iconst (-1)) (n := 1) (by decide +kernel)) (by decide +kernel) <|
    z_iret (zd (i := .ireturn) (n := 1) (by decide +kernel)) rfl
noncomputable def b_X9_stands_2 : zBl := fun jp K => oInt 2147483648 <| oIst 2 <| oInt 2147483648 <| oIst 3 <| jp 3
theorem s_X9_stands_2 (d : Nat) : zPb l G gh (d + 2) n_X9_stands p_X9_stands 14 b_X9_stands_2 := fun K jp hj =>
    z_iconst (n := 0) (zd (i := .iconst (0)) (n := 1) (by decide +kernel)) (by decide +kernel) <|
    z_istore_n (n := 2) (i := 2) (zd (i := .istore_n 2) (n := 1) (by decide +kernel)) rfl (by decide +kernel) <|
    z_iconst (n := 0) (zd (i := .iconst (0)) (n := 1) (by decide +kernel)) (by decide +kernel) <|
    z_istore_n (n := 3) (i := 3) (zd (i := .istore_n 3) (n := 1) (by decide +kernel)) rfl (by decide +kernel) <|
    (zj (hj 3) (by decide +kernel))
noncomputable def b_X9_stands_3 : zBl := fun jp K => oIld 3 <| oInt 2147483828 <| oIc zge zlt (jp 7) (jp 4)
theorem s_X9_stands_3 (d : Nat) : zPb l G gh (d + 2) n_X9_stands p_X9_stands 18 b_X9_stands_3 := fun K jp hj =>
    z_iload_n (n := 3) (i := 3) (zd (i := .iload_n 3) (n := 1) (by decide +kernel)) rfl <|
    z_sipush (n := 180) (zd (i := .sipush (180)) (n := 3) (by decide +kernel)) (by decide +kernel) <|
    z_icmp_ge (off := 21) (tgt := 43) (zd (i := .if_icmp .ge (21)) (n := 3) (by decide +kernel)) (by decide +kernel) (zj (hj 7) (by decide +kernel)) (zj (hj 4) (by decide +kernel))
noncomputable def b_X9_stands_4 : zBl := fun jp K => oAld 0 <| oIld 3 <| oIld 1 <| oCv 9 2 f_X9_isSo <| oIf zeq zne (jp 6) (jp 5)
theorem s_X9_stands_4 (d : Nat) : zPb l G gh (d + 2) n_X9_stands p_X9_stands 25 b_X9_stands_4 := fun K jp hj =>
    z_aload_n (n := 0) (i := 0) (zd (i := .aload_n 0) (n := 1) (by decide +kernel)) rfl <|
    z_iload_n (n := 3) (i := 3) (zd (i := .iload_n 3) (n := 1) (by decide +kernel)) rfl <|
    z_iload_n (n := 1) (i := 1) (zd (i := .iload_n 1) (n := 1) (by decide +kernel)) rfl <|
    z_callV (idx := 428) (ci := 9) (N := n_X9_isSo) (zd (i := .invokevirtual 428) (n := 3) (by decide +kernel)) to_X9_isSo g1685 g1687 g94 (by decide +kernel) rfl rfl rfl (c_X9_isSo (l := l) (G := G) (gh := gh) d) <|
    z_if_eq (off := 6) (tgt := 37) (zd (i := .ifCond .eq (6)) (n := 3) (by decide +kernel)) (by decide +kernel) (zj (hj 6) (by decide +kernel)) (zj (hj 5) (by decide +kernel))
noncomputable def b_X9_stands_5 : zBl := fun jp K => oInc 2 2147483649 <| jp 6
theorem s_X9_stands_5 (d : Nat) : zPb l G gh (d + 2) n_X9_stands p_X9_stands 34 b_X9_stands_5 := fun K jp hj =>
    z_iinc (i := 2) (n := 1) (zd (i := .iinc 2 (1)) (n := 3) (by decide +kernel)) (by decide +kernel) (by decide +kernel) <|
    (zj (hj 6) (by decide +kernel))
noncomputable def b_X9_stands_6 : zBl := fun jp K => oInc 3 2147483649 <| jp 3
theorem s_X9_stands_6 (d : Nat) : zPb l G gh (d + 2) n_X9_stands p_X9_stands 37 b_X9_stands_6 := fun K jp hj =>
    z_iinc (i := 3) (n := 1) (zd (i := .iinc 3 (1)) (n := 3) (by decide +kernel)) (by decide +kernel) (by decide +kernel) <|
    z_goto (off := -22) (tgt := 18) (zd (i := .goto (-22)) (n := 3) (by decide +kernel)) (by decide +kernel) (zj (hj 3) (by decide +kernel))
noncomputable def b_X9_stands_7 : zBl := fun jp K => oIld 2 <| oIret K
theorem s_X9_stands_7 (d : Nat) : zPb l G gh (d + 2) n_X9_stands p_X9_stands 43 b_X9_stands_7 := fun K jp hj =>
    z_iload_n (n := 2) (i := 2) (zd (i := .iload_n 2) (n := 1) (by decide +kernel)) rfl <|
    z_iret (zd (i := .ireturn) (n := 1) (by decide +kernel)) rfl
noncomputable def f_X9_stands : zMt := zmet 4 [b_X9_stands_0, b_X9_stands_1, b_X9_stands_2, b_X9_stands_3, b_X9_stands_4, b_X9_stands_5, b_X9_stands_6, b_X9_stands_7]
theorem c_X9_stands (d : Nat) : zC l G gh (d + 2) n_X9_stands f_X9_stands := zmet_ok (pcs := p_X9_stands) (by decide) rfl rfl ⟨s_X9_stands_0 d, s_X9_stands_1 d, s_X9_stands_2 d, s_X9_stands_3 d, s_X9_stands_4 d, s_X9_stands_5 d, s_X9_stands_6 d, s_X9_stands_7 d, trivial⟩
def n_X7_xOf : qMn := (yX7_xOf, cX7_xOf, 1, (some Jvm.ClassFile.FieldType.int), 0, 0)
theorem to_X7_xOf : qTo n_X7_xOf 1 := ⟨g1053, g109, ⟨by decide, by decide, by decide +kernel⟩, by decide⟩
def p_X7_xOf : List Nat := [0]
noncomputable def b_X7_xOf_0 : zBl := fun jp K => oIld 0 <| oInt 2147483657 <| oB2z zidiv <| oIret K
theorem s_X7_xOf_0 (d : Nat) : zPb l G gh (d + 1) n_X7_xOf p_X7_xOf 0 b_X7_xOf_0 := fun K jp hj =>
    z_iload_n (n := 0) (i := 0) (zd (i := .iload_n 0) (n := 1) (by decide +kernel)) rfl <|
    z_bipush (n := 9) (zd (i := .bipush (9)) (n := 2) (by decide +kernel)) (by decide +kernel) <|
    z_idiv (zd (i := .idiv) (n := 1) (by decide +kernel)) <|
    z_iret (zd (i := .ireturn) (n := 1) (by decide +kernel)) rfl
noncomputable def f_X7_xOf : zMt := zmet 1 [b_X7_xOf_0]
theorem c_X7_xOf (d : Nat) : zC l G gh (d + 1) n_X7_xOf f_X7_xOf := zmet_ok (pcs := p_X7_xOf) (by decide) rfl rfl ⟨s_X7_xOf_0 d, trivial⟩
def n_X7_tallOf : qMn := (yX7_tallOf, cX7_tallOf, 1, (some Jvm.ClassFile.FieldType.int), 0, 0)
theorem to_X7_tallOf : qTo n_X7_tallOf 1 := ⟨g1056, g109, ⟨by decide, by decide, by decide +kernel⟩, by decide⟩
def p_X7_tallOf : List Nat := [0]
noncomputable def b_X7_tallOf_0 : zBl := fun jp K => oIld 0 <| oInt 2147483657 <| oB2z zirem <| oInt 2147483649 <| oB2 zadd <| oIret K
theorem s_X7_tallOf_0 (d : Nat) : zPb l G gh (d + 1) n_X7_tallOf p_X7_tallOf 0 b_X7_tallOf_0 := fun K jp hj =>
    z_iload_n (n := 0) (i := 0) (zd (i := .iload_n 0) (n := 1) (by decide +kernel)) rfl <|
    z_bipush (n := 9) (zd (i := .bipush (9)) (n := 2) (by decide +kernel)) (by decide +kernel) <|
    z_irem (zd (i := .irem) (n := 1) (by decide +kernel)) <|
    z_iconst (n := 1) (zd (i := .iconst (1)) (n := 1) (by decide +kernel)) (by decide +kernel) <|
    z_iadd (zd (i := .iadd) (n := 1) (by decide +kernel)) <|
    z_iret (zd (i := .ireturn) (n := 1) (by decide +kernel)) rfl
noncomputable def f_X7_tallOf : zMt := zmet 1 [b_X7_tallOf_0]
theorem c_X7_tallOf (d : Nat) : zC l G gh (d + 1) n_X7_tallOf f_X7_tallOf := zmet_ok (pcs := p_X7_tallOf) (by decide) rfl rfl ⟨s_X7_tallOf_0 d, trivial⟩
def n_X7_common : qMn := (yX7_common, cX7_common, 5, (some Jvm.ClassFile.FieldType.int), 0, 0)
theorem to_X7_common : qTo n_X7_common 1 := ⟨g1066, g109, ⟨by decide, by decide, by decide +kernel⟩, by decide⟩
def p_X7_common : List Nat := [0, 5, 12, 16, 23, 27, 38, 44, 50, 53, 62, 68]
noncomputable def b_X7_common_0 : zBl := fun jp K => oInt 2147483646 <| oIst 2 <| oInt 2147483648 <| oIst 3 <| jp 1
theorem s_X7_common_0 (d : Nat) : zPb l G gh (d + 2) n_X7_common p_X7_common 0 b_X7_common_0 := fun K jp hj =>
    z_bipush (n := -2) (zd (i := .bipush (-2)) (n := 2) (by decide +kernel)) (by decide +kernel) <|
    z_istore_n (n := 2) (i := 2) (zd (i := .istore_n 2) (n := 1) (by decide +kernel)) rfl (by decide +kernel) <|
    z_iconst (n := 0) (zd (i := .iconst (0)) (n := 1) (by decide +kernel)) (by decide +kernel) <|
    z_istore_n (n := 3) (i := 3) (zd (i := .istore_n 3) (n := 1) (by decide +kernel)) rfl (by decide +kernel) <|
    (zj (hj 1) (by decide +kernel))
noncomputable def b_X7_common_1 : zBl := fun jp K => oIld 3 <| oInt 2147483828 <| oIc zge zlt (oFail) (jp 2)
theorem s_X7_common_1 (d : Nat) : zPb l G gh (d + 2) n_X7_common p_X7_common 5 b_X7_common_1 := fun K jp hj =>
    z_iload_n (n := 3) (i := 3) (zd (i := .iload_n 3) (n := 1) (by decide +kernel)) rfl <|
    z_sipush (n := 180) (zd (i := .sipush (180)) (n := 3) (by decide +kernel)) (by decide +kernel) <|
    z_icmp_ge (off := 66) (tgt := 75) (zd (i := .if_icmp .ge (66)) (n := 3) (by decide +kernel)) (by decide +kernel) z_fail (zj (hj 2) (by decide +kernel))
noncomputable def b_X7_common_2 : zBl := fun jp K => oIld 1 <| oIf zeq zne (jp 4) (jp 3)
theorem s_X7_common_2 (d : Nat) : zPb l G gh (d + 2) n_X7_common p_X7_common 12 b_X7_common_2 := fun K jp hj =>
    z_iload_n (n := 1) (i := 1) (zd (i := .iload_n 1) (n := 1) (by decide +kernel)) rfl <|
    z_if_eq (off := 10) (tgt := 23) (zd (i := .ifCond .eq (10)) (n := 3) (by decide +kernel)) (by decide +kernel) (zj (hj 4) (by decide +kernel)) (zj (hj 3) (by decide +kernel))
noncomputable def b_X7_common_3 : zBl := fun jp K => oIld 3 <| oCs 1 f_X7_xOf <| jp 5
theorem s_X7_common_3 (d : Nat) : zPb l G gh (d + 2) n_X7_common p_X7_common 16 b_X7_common_3 := fun K jp hj =>
    z_iload_n (n := 3) (i := 3) (zd (i := .iload_n 3) (n := 1) (by decide +kernel)) rfl <|
    z_callS (idx := 46) (N := n_X7_xOf) (zd (i := .invokestatic 46) (n := 3) (by decide +kernel)) to_X7_xOf g1051 g1052 rfl rfl (c_X7_xOf (l := l) (G := G) (gh := gh) d) <|
    z_goto (off := 7) (tgt := 27) (zd (i := .goto (7)) (n := 3) (by decide +kernel)) (by decide +kernel) (zj (hj 5) (by decide +kernel))
noncomputable def b_X7_common_4 : zBl := fun jp K => oIld 3 <| oCs 1 f_X7_tallOf <| jp 5
theorem s_X7_common_4 (d : Nat) : zPb l G gh (d + 2) n_X7_common p_X7_common 23 b_X7_common_4 := fun K jp hj =>
    z_iload_n (n := 3) (i := 3) (zd (i := .iload_n 3) (n := 1) (by decide +kernel)) rfl <|
    z_callS (idx := 49) (N := n_X7_tallOf) (zd (i := .invokestatic 49) (n := 3) (by decide +kernel)) to_X7_tallOf g1054 g1055 rfl rfl (c_X7_tallOf (l := l) (G := G) (gh := gh) d) <|
    (zj (hj 5) (by decide +kernel))
noncomputable def b_X7_common_5 : zBl := fun jp K => oIst 4 <| oAld 0 <| oGetR 7 4 <| oIld 3 <| oXald 12 <| oIf zeq zne (jp 9) (jp 6)
theorem s_X7_common_5 (d : Nat) : zPb l G gh (d + 2) n_X7_common p_X7_common 27 b_X7_common_5 := fun K jp hj =>
    z_istore (i := 4) (zd (i := .istore 4) (n := 2) (by decide +kernel)) (by decide +kernel) <|
    z_aload_n (n := 0) (i := 0) (zd (i := .aload_n 0) (n := 1) (by decide +kernel)) rfl <|
    z_getR (ci := 7) (j := 4) (idx := 25) (zd (i := .getfield 25) (n := 3) (by decide +kernel)) (by decide +kernel) (by decide +kernel) rfl g434 <|
    z_iload_n (n := 3) (i := 3) (zd (i := .iload_n 3) (n := 1) (by decide +kernel)) rfl <|
    z_zald (zd (i := .baload) (n := 1) (by decide +kernel)) <|
    z_if_eq (off := 18) (tgt := 53) (zd (i := .ifCond .eq (18)) (n := 3) (by decide +kernel)) (by decide +kernel) (zj (hj 9) (by decide +kernel)) (zj (hj 6) (by decide +kernel))
noncomputable def b_X7_common_6 : zBl := fun jp K => oIld 2 <| oInt 2147483646 <| oIc zeq zne (jp 9) (jp 7)
theorem s_X7_common_6 (d : Nat) : zPb l G gh (d + 2) n_X7_common p_X7_common 38 b_X7_common_6 := fun K jp hj =>
    z_iload_n (n := 2) (i := 2) (zd (i := .iload_n 2) (n := 1) (by decide +kernel)) rfl <|
    z_bipush (n := -2) (zd (i := .bipush (-2)) (n := 2) (by decide +kernel)) (by decide +kernel) <|
    z_icmp_eq (off := 12) (tgt := 53) (zd (i := .if_icmp .eq (12)) (n := 3) (by decide +kernel)) (by decide +kernel) (zj (hj 9) (by decide +kernel)) (zj (hj 7) (by decide +kernel))
noncomputable def b_X7_common_7 : zBl := fun jp K => oIld 2 <| oIld 4 <| oIc zeq zne (jp 9) (jp 8)
theorem s_X7_common_7 (d : Nat) : zPb l G gh (d + 2) n_X7_common p_X7_common 44 b_X7_common_7 := fun K jp hj =>
    z_iload_n (n := 2) (i := 2) (zd (i := .iload_n 2) (n := 1) (by decide +kernel)) rfl <|
    z_iload (i := 4) (zd (i := .iload 4) (n := 2) (by decide +kernel)) <|
    z_icmp_eq (off := 6) (tgt := 53) (zd (i := .if_icmp .eq (6)) (n := 3) (by decide +kernel)) (by decide +kernel) (zj (hj 9) (by decide +kernel)) (zj (hj 8) (by decide +kernel))
noncomputable def b_X7_common_8 : zBl := fun jp K => oInt 2147483646 <| oIret K
theorem s_X7_common_8 (d : Nat) : zPb l G gh (d + 2) n_X7_common p_X7_common 50 b_X7_common_8 := fun K jp hj =>
    z_bipush (n := -2) (zd (i := .bipush (-2)) (n := 2) (by decide +kernel)) (by decide +kernel) <|
    z_iret (zd (i := .ireturn) (n := 1) (by decide +kernel)) rfl
noncomputable def b_X7_common_9 : zBl := fun jp K => oAld 0 <| oGetR 7 4 <| oIld 3 <| oXald 12 <| oIf zeq zne (oFail) (jp 10)
theorem s_X7_common_9 (d : Nat) : zPb l G gh (d + 2) n_X7_common p_X7_common 53 b_X7_common_9 := fun K jp hj =>
    z_aload_n (n := 0) (i := 0) (zd (i := .aload_n 0) (n := 1) (by decide +kernel)) rfl <|
    z_getR (ci := 7) (j := 4) (idx := 25) (zd (i := .getfield 25) (n := 3) (by decide +kernel)) (by decide +kernel) (by decide +kernel) rfl g434 <|
    z_iload_n (n := 3) (i := 3) (zd (i := .iload_n 3) (n := 1) (by decide +kernel)) rfl <|
    z_zald (zd (i := .baload) (n := 1) (by decide +kernel)) <|
    z_if_eq (off := 8) (tgt := 67) (zd (i := .ifCond .eq (8)) (n := 3) (by decide +kernel)) (by decide +kernel) z_fail (zj (hj 10) (by decide +kernel))
noncomputable def b_X7_common_10 : zBl := fun jp K => oIld 4 <| jp 11
theorem s_X7_common_10 (d : Nat) : zPb l G gh (d + 2) n_X7_common p_X7_common 62 b_X7_common_10 := fun K jp hj =>
    z_iload (i := 4) (zd (i := .iload 4) (n := 2) (by decide +kernel)) <|
    z_goto (off := 4) (tgt := 68) (zd (i := .goto (4)) (n := 3) (by decide +kernel)) (by decide +kernel) (zj (hj 11) (by decide +kernel))
noncomputable def b_X7_common_11 : zBl := fun jp K => oIst 2 <| oInc 3 2147483649 <| jp 1
theorem s_X7_common_11 (d : Nat) : zPb l G gh (d + 2) n_X7_common p_X7_common 68 b_X7_common_11 := fun K jp hj =>
    z_istore_n (n := 2) (i := 2) (zd (i := .istore_n 2) (n := 1) (by decide +kernel)) rfl (by decide +kernel) <|
    z_iinc (i := 3) (n := 1) (zd (i := .iinc 3 (1)) (n := 3) (by decide +kernel)) (by decide +kernel) (by decide +kernel) <|
    z_goto (off := -67) (tgt := 5) (zd (i := .goto (-67)) (n := 3) (by decide +kernel)) (by decide +kernel) (zj (hj 1) (by decide +kernel))
noncomputable def f_X7_common : zMt := zmet 5 [b_X7_common_0, b_X7_common_1, b_X7_common_2, b_X7_common_3, b_X7_common_4, b_X7_common_5, b_X7_common_6, b_X7_common_7, b_X7_common_8, b_X7_common_9, b_X7_common_10, b_X7_common_11]
theorem c_X7_common (d : Nat) : zC l G gh (d + 2) n_X7_common f_X7_common := zmet_ok (pcs := p_X7_common) (by decide) rfl rfl ⟨s_X7_common_0 d, s_X7_common_1 d, s_X7_common_2 d, s_X7_common_3 d, s_X7_common_4 d, s_X7_common_5 d, s_X7_common_6 d, s_X7_common_7 d, s_X7_common_8 d, s_X7_common_9 d, s_X7_common_10 d, s_X7_common_11 d, trivial⟩
def n_X8_sure : qMn := (yX8_sure, cX8_sure, 3, (some Jvm.ClassFile.FieldType.int), 0, 0)
theorem to_X8_sure : qTo n_X8_sure 2 := ⟨g1062, g97, ⟨by decide, by decide, by decide +kernel⟩, by decide⟩
def p_X8_sure : List Nat := [0, 8, 12, 17, 19, 40, 44, 45]
noncomputable def b_X8_sure_0 : zBl := fun jp K => oAld 0 <| oIld 1 <| oCv 8 1 f_X8_isKnown <| oIf zeq zne (jp 3) (jp 1)
theorem s_X8_sure_0 (d : Nat) : zPb l G gh (d + 3) n_X8_sure p_X8_sure 0 b_X8_sure_0 := fun K jp hj =>
    z_aload_n (n := 0) (i := 0) (zd (i := .aload_n 0) (n := 1) (by decide +kernel)) rfl <|
    z_iload_n (n := 1) (i := 1) (zd (i := .iload_n 1) (n := 1) (by decide +kernel)) rfl <|
    z_callV (idx := 300) (ci := 8) (N := n_X8_isKnown) (zd (i := .invokevirtual 300) (n := 3) (by decide +kernel)) to_X8_isKnown g1038 g1040 g37 (by decide +kernel) rfl rfl rfl (c_X8_isKnown (l := l) (G := G) (gh := gh) (d + 1)) <|
    z_if_eq (off := 12) (tgt := 17) (zd (i := .ifCond .eq (12)) (n := 3) (by decide +kernel)) (by decide +kernel) (zj (hj 3) (by decide +kernel)) (zj (hj 1) (by decide +kernel))
noncomputable def b_X8_sure_1 : zBl := fun jp K => oIld 2 <| oIf zlt zge (jp 3) (jp 2)
theorem s_X8_sure_1 (d : Nat) : zPb l G gh (d + 3) n_X8_sure p_X8_sure 8 b_X8_sure_1 := fun K jp hj =>
    z_iload_n (n := 2) (i := 2) (zd (i := .iload_n 2) (n := 1) (by decide +kernel)) rfl <|
    z_if_lt (off := 8) (tgt := 17) (zd (i := .ifCond .lt (8)) (n := 3) (by decide +kernel)) (by decide +kernel) (zj (hj 3) (by decide +kernel)) (zj (hj 2) (by decide +kernel))
noncomputable def b_X8_sure_2 : zBl := fun jp K => oIld 2 <| oInt 2147483649 <| oIc zle zgt (jp 4) (jp 3)
theorem s_X8_sure_2 (d : Nat) : zPb l G gh (d + 3) n_X8_sure p_X8_sure 12 b_X8_sure_2 := fun K jp hj =>
    z_iload_n (n := 2) (i := 2) (zd (i := .iload_n 2) (n := 1) (by decide +kernel)) rfl <|
    z_iconst (n := 1) (zd (i := .iconst (1)) (n := 1) (by decide +kernel)) (by decide +kernel) <|
    z_icmp_le (off := 5) (tgt := 19) (zd (i := .if_icmp .le (5)) (n := 3) (by decide +kernel)) (by decide +kernel) (zj (hj 4) (by decide +kernel)) (zj (hj 3) (by decide +kernel))
noncomputable def b_X8_sure_3 : zBl := fun jp K => oInt 2147483647 <| oIret K
theorem s_X8_sure_3 (d : Nat) : zPb l G gh (d + 3) n_X8_sure p_X8_sure 17 b_X8_sure_3 := fun K jp hj =>
    z_iconst (n := -1) (zd (i := .iconst (-1)) (n := 1) (by decide +kernel)) (by decide +kernel) <|
    z_iret (zd (i := .ireturn) (n := 1) (by decide +kernel)) rfl
noncomputable def b_X8_sure_4 : zBl := fun jp K => oAld 0 <| oGetR 8 7 <| oAld 0 <| oGetR 8 12 <| oIld 1 <| oCv 7 2 f_X7_sift <| oPop <| oAld 0 <| oGetR 8 7 <| oIld 2 <| oIf zne zeq (jp 6) (jp 5)
theorem s_X8_sure_4 (d : Nat) : zPb l G gh (d + 3) n_X8_sure p_X8_sure 19 b_X8_sure_4 := fun K jp hj =>
    z_aload_n (n := 0) (i := 0) (zd (i := .aload_n 0) (n := 1) (by decide +kernel)) rfl <|
    z_getR (ci := 8) (j := 7) (idx := 51) (zd (i := .getfield 51) (n := 3) (by decide +kernel)) (by decide +kernel) (by decide +kernel) rfl g459 <|
    z_aload_n (n := 0) (i := 0) (zd (i := .aload_n 0) (n := 1) (by decide +kernel)) rfl <|
    z_getR (ci := 8) (j := 12) (idx := 71) (zd (i := .getfield 71) (n := 3) (by decide +kernel)) (by decide +kernel) (by decide +kernel) rfl g464 <|
    z_iload_n (n := 1) (i := 1) (zd (i := .iload_n 1) (n := 1) (by decide +kernel)) rfl <|
    z_callV (idx := 303) (ci := 7) (N := n_X7_sift) (zd (i := .invokevirtual 303) (n := 3) (by decide +kernel)) to_X7_sift g1042 g1043 g1044 (by decide +kernel) rfl rfl rfl (c_X7_sift (l := l) (G := G) (gh := gh) (d + 1)) <|
    z_pop (zd (i := .pop) (n := 1) (by decide +kernel)) <|
    z_aload_n (n := 0) (i := 0) (zd (i := .aload_n 0) (n := 1) (by decide +kernel)) rfl <|
    z_getR (ci := 8) (j := 7) (idx := 51) (zd (i := .getfield 51) (n := 3) (by decide +kernel)) (by decide +kernel) (by decide +kernel) rfl g459 <|
    z_iload_n (n := 2) (i := 2) (zd (i := .iload_n 2) (n := 1) (by decide +kernel)) rfl <|
    z_if_ne (off := 7) (tgt := 44) (zd (i := .ifCond .ne (7)) (n := 3) (by decide +kernel)) (by decide +kernel) (zj (hj 6) (by decide +kernel)) (zj (hj 5) (by decide +kernel))
noncomputable def b_X8_sure_5 : zBl := fun jp K => oInt 2147483649 <| jp 7
theorem s_X8_sure_5 (d : Nat) : zPb l G gh (d + 3) n_X8_sure p_X8_sure 40 b_X8_sure_5 := fun K jp hj =>
    z_iconst (n := 1) (zd (i := .iconst (1)) (n := 1) (by decide +kernel)) (by decide +kernel) <|
    z_goto (off := 4) (tgt := 45) (zd (i := .goto (4)) (n := 3) (by decide +kernel)) (by decide +kernel) (zj (hj 7) (by decide +kernel))
noncomputable def b_X8_sure_6 : zBl := fun jp K => oInt 2147483648 <| jp 7
theorem s_X8_sure_6 (d : Nat) : zPb l G gh (d + 3) n_X8_sure p_X8_sure 44 b_X8_sure_6 := fun K jp hj =>
    z_iconst (n := 0) (zd (i := .iconst (0)) (n := 1) (by decide +kernel)) (by decide +kernel) <|
    (zj (hj 7) (by decide +kernel))
noncomputable def b_X8_sure_7 : zBl := fun jp K => oCv 7 1 f_X7_common <| oIret K
theorem s_X8_sure_7 (d : Nat) : zPb l G gh (d + 3) n_X8_sure p_X8_sure 45 b_X8_sure_7 := fun K jp hj =>
    z_callV (idx := 307) (ci := 7) (N := n_X7_common) (zd (i := .invokevirtual 307) (n := 3) (by decide +kernel)) to_X7_common g1063 g1064 g1065 (by decide +kernel) rfl rfl rfl (c_X7_common (l := l) (G := G) (gh := gh) d) <|
    z_iret (zd (i := .ireturn) (n := 1) (by decide +kernel)) rfl
noncomputable def f_X8_sure : zMt := zmet 3 [b_X8_sure_0, b_X8_sure_1, b_X8_sure_2, b_X8_sure_3, b_X8_sure_4, b_X8_sure_5, b_X8_sure_6, b_X8_sure_7]
theorem c_X8_sure (d : Nat) : zC l G gh (d + 3) n_X8_sure f_X8_sure := zmet_ok (pcs := p_X8_sure) (by decide) rfl rfl ⟨s_X8_sure_0 d, s_X8_sure_1 d, s_X8_sure_2 d, s_X8_sure_3 d, s_X8_sure_4 d, s_X8_sure_5 d, s_X8_sure_6 d, s_X8_sure_7 d, trivial⟩
end
