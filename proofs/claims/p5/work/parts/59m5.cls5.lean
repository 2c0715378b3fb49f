section
variable {l : Launch} {G : qG} {gh : zGh}
def n_X8_count : qMn := (yX8_count, cX8_count, 2, (some Jvm.ClassFile.FieldType.int), 0, 0)
theorem to_X8_count : qTo n_X8_count 1 := ⟨g1091, g97, ⟨by decide, by decide, by decide +kernel⟩, by decide⟩
def p_X8_count : List Nat := [0, 84, 92, 100, 108, 119, 130, 138, 149, 160, 171, 179, 187, 195, 200, 227, 231, 232, 233, 244, 259, 271]
noncomputable def b_X8_count_0 : zBl := fun jp K => oIld 1 <| oTab 2147483648 [jp 1, jp 2, jp 3, jp 4, jp 5, jp 6, jp 7, jp 8, jp 9, jp 10, jp 11, jp 12, jp 13, jp 14, jp 18, jp 19, jp 20] (jp 21)
theorem s_X8_count_0 (d : Nat) : zPb l G gh (d + 7) n_X8_count p_X8_count 0 b_X8_count_0 := fun K jp hj =>
    z_iload_n (n := 1) (i := 1) (zd (i := .iload_n 1) (n := 1) (by decide +kernel)) rfl <|
    z_table (v := 2147483648) (df := 271) (len := 83) (x := 0) (dflt := 270) (lo := 0) (hi := 16) (offs := #[83, 91, 99, 107, 118, 129, 137, 148, 159, 170, 178, 186, 194, 199, 232, 243, 258]) (tgts := [84, 92, 100, 108, 119, 130, 138, 149, 160, 171, 179, 187, 195, 200, 233, 244, 259]) (zd (i := .tableswitch (270) (0) (16) #[83, 91, 99, 107, 118, 129, 137, 148, 159, 170, 178, 186, 194, 199, 232, 243, 258]) (n := 83) (by decide +kernel)) (by decide +kernel) rfl rfl (by decide +kernel) (by decide +kernel) (by decide +kernel) ⟨(zj (hj 1) (by decide +kernel)), (zj (hj 2) (by decide +kernel)), (zj (hj 3) (by decide +kernel)), (zj (hj 4) (by decide +kernel)), (zj (hj 5) (by decide +kernel)), (zj (hj 6) (by decide +kernel)), (zj (hj 7) (by decide +kernel)), (zj (hj 8) (by decide +kernel)), (zj (hj 9) (by decide +kernel)), (zj (hj 10) (by decide +kernel)), (zj (hj 11) (by decide +kernel)), (zj (hj 12) (by decide +kernel)), (zj (hj 13) (by decide +kernel)), (zj (hj 14) (by decide +kernel)), (zj (hj 18) (by decide +kernel)), (zj (hj 19) (by decide +kernel)), (zj (hj 20) (by decide +kernel)), trivial⟩ (zj (hj 21) (by decide +kernel))
noncomputable def b_X8_count_1 : zBl := fun jp K => oAld 0 <| oGetR 8 12 <| oGetI 0 2 <| oIret K
theorem s_X8_count_1 (d : Nat) : zPb l G gh (d + 7) n_X8_count p_X8_count 84 b_X8_count_1 := fun K jp hj =>
    z_aload_n (n := 0) (i := 0) (zd (i := .aload_n 0) (n := 1) (by decide +kernel)) rfl <|
    z_getR (ci := 8) (j := 12) (idx := 71) (zd (i := .getfield 71) (n := 3) (by decide +kernel)) (by decide +kernel) (by decide +kernel) rfl g464 <|
    z_getI (ci := 0) (j := 2) (idx := 236) (zd (i := .getfield 236) (n := 3) (by decide +kernel)) (by decide +kernel) (by decide +kernel) rfl g280 <|
    z_iret (zd (i := .ireturn) (n := 1) (by decide +kernel)) rfl
noncomputable def b_X8_count_2 : zBl := fun jp K => oAld 0 <| oGetR 8 12 <| oGetI 0 5 <| oIret K
theorem s_X8_count_2 (d : Nat) : zPb l G gh (d + 7) n_X8_count p_X8_count 92 b_X8_count_2 := fun K jp hj =>
    z_aload_n (n := 0) (i := 0) (zd (i := .aload_n 0) (n := 1) (by decide +kernel)) rfl <|
    z_getR (ci := 8) (j := 12) (idx := 71) (zd (i := .getfield 71) (n := 3) (by decide +kernel)) (by decide +kernel) (by decide +kernel) rfl g464 <|
    z_getI (ci := 0) (j := 5) (idx := 230) (zd (i := .getfield 230) (n := 3) (by decide +kernel)) (by decide +kernel) (by decide +kernel) rfl g288 <|
    z_iret (zd (i := .ireturn) (n := 1) (by decide +kernel)) rfl
noncomputable def b_X8_count_3 : zBl := fun jp K => oAld 0 <| oGetR 8 2 <| oGetI 4 0 <| oIret K
theorem s_X8_count_3 (d : Nat) : zPb l G gh (d + 7) n_X8_count p_X8_count 100 b_X8_count_3 := fun K jp hj =>
    z_aload_n (n := 0) (i := 0) (zd (i := .aload_n 0) (n := 1) (by decide +kernel)) rfl <|
    z_getR (ci := 8) (j := 2) (idx := 26) (zd (i := .getfield 26) (n := 3) (by decide +kernel)) (by decide +kernel) (by decide +kernel) rfl g454 <|
    z_getI (ci := 4) (j := 0) (idx := 140) (zd (i := .getfield 140) (n := 3) (by decide +kernel)) (by decide +kernel) (by decide +kernel) rfl g368 <|
    z_iret (zd (i := .ireturn) (n := 1) (by decide +kernel)) rfl
noncomputable def b_X8_count_4 : zBl := fun jp K => oAld 0 <| oGetR 8 2 <| oGetI 4 0 <| oInt 2147483672 <| oB2z zirem <| oIret K
theorem s_X8_count_4 (d : Nat) : zPb l G gh (d + 7) n_X8_count p_X8_count 108 b_X8_count_4 := fun K jp hj =>
    z_aload_n (n := 0) (i := 0) (zd (i := .aload_n 0) (n := 1) (by decide +kernel)) rfl <|
    z_getR (ci := 8) (j := 2) (idx := 26) (zd (i := .getfield 26) (n := 3) (by decide +kernel)) (by decide +kernel) (by decide +kernel) rfl g454 <|
    z_getI (ci := 4) (j := 0) (idx := 140) (zd (i := .getfield 140) (n := 3) (by decide +kernel)) (by decide +kernel) (by decide +kernel) rfl g368 <|
    z_bipush (n := 24) (zd (i := .bipush (24)) (n := 2) (by decide +kernel)) (by decide +kernel) <|
    z_irem (zd (i := .irem) (n := 1) (by decide +kernel)) <|
    z_iret (zd (i := .ireturn) (n := 1) (by decide +kernel)) rfl
noncomputable def b_X8_count_5 : zBl := fun jp K => oAld 0 <| oGetR 8 2 <| oGetI 4 0 <| oInt 2147483672 <| oB2z zidiv <| oIret K
theorem s_X8_count_5 (d : Nat) : zPb l G gh (d + 7) n_X8_count p_X8_count 119 b_X8_count_5 := fun K jp hj =>
    z_aload_n (n := 0) (i := 0) (zd (i := .aload_n 0) (n := 1) (by decide +kernel)) rfl <|
    z_getR (ci := 8) (j := 2) (idx := 26) (zd (i := .getfield 26) (n := 3) (by decide +kernel)) (by decide +kernel) (by decide +kernel) rfl g454 <|
    z_getI (ci := 4) (j := 0) (idx := 140) (zd (i := .getfield 140) (n := 3) (by decide +kernel)) (by decide +kernel) (by decide +kernel) rfl g368 <|
    z_bipush (n := 24) (zd (i := .bipush (24)) (n := 2) (by decide +kernel)) (by decide +kernel) <|
    z_idiv (zd (i := .idiv) (n := 1) (by decide +kernel)) <|
    z_iret (zd (i := .ireturn) (n := 1) (by decide +kernel)) rfl
noncomputable def b_X8_count_6 : zBl := fun jp K => oAld 0 <| oGetR 8 2 <| oCv 4 0 gs_X4_loans <| oIret K
theorem s_X8_count_6 (d : Nat) : zPb l G gh (d + 7) n_X8_count p_X8_count 130 b_X8_count_6 := fun K jp hj =>
    z_aload_n (n := 0) (i := 0) (zd (i := .aload_n 0) (n := 1) (by decide +kernel)) rfl <|
    z_getR (ci := 8) (j := 2) (idx := 26) (zd (i := .getfield 26) (n := 3) (by decide +kernel)) (by decide +kernel) (by decide +kernel) rfl g454 <|
    z_callV (idx := 314) (ci := 4) (N := n_X4_loans) (zd (i := .invokevirtual 314) (n := 3) (by decide +kernel)) to_X4_loans g1092 g1093 g1094 (by decide +kernel) rfl rfl rfl (cs_X4_loans (l := l) (G := G) (gh := gh) (d + 5)) <|
    z_iret (zd (i := .ireturn) (n := 1) (by decide +kernel)) rfl
noncomputable def b_X8_count_7 : zBl := fun jp K => oAld 0 <| oGetR 8 2 <| oGetR 4 5 <| oCs 1 gs_X8_sum <| oIret K
theorem s_X8_count_7 (d : Nat) : zPb l G gh (d + 7) n_X8_count p_X8_count 138 b_X8_count_7 := fun K jp hj =>
    z_aload_n (n := 0) (i := 0) (zd (i := .aload_n 0) (n := 1) (by decide +kernel)) rfl <|
    z_getR (ci := 8) (j := 2) (idx := 26) (zd (i := .getfield 26) (n := 3) (by decide +kernel)) (by decide +kernel) (by decide +kernel) rfl g454 <|
    z_getR (ci := 4) (j := 5) (idx := 169) (zd (i := .getfield 169) (n := 3) (by decide +kernel)) (by decide +kernel) (by decide +kernel) rfl g383 <|
    z_callS (idx := 318) (N := n_X8_sum) (zd (i := .invokestatic 318) (n := 3) (by decide +kernel)) to_X8_sum g1096 g1097 rfl rfl (cs_X8_sum (l := l) (G := G) (gh := gh) (d + 5)) <|
    z_iret (zd (i := .ireturn) (n := 1) (by decide +kernel)) rfl
noncomputable def b_X8_count_8 : zBl := fun jp K => oAld 0 <| oGetR 8 2 <| oGetR 4 2 <| oCs 1 gs_X8_sum <| oIret K
theorem s_X8_count_8 (d : Nat) : zPb l G gh (d + 7) n_X8_count p_X8_count 149 b_X8_count_8 := fun K jp hj =>
    z_aload_n (n := 0) (i := 0) (zd (i := .aload_n 0) (n := 1) (by decide +kernel)) rfl <|
    z_getR (ci := 8) (j := 2) (idx := 26) (zd (i := .getfield 26) (n := 3) (by decide +kernel)) (by decide +kernel) (by decide +kernel) rfl g454 <|
    z_getR (ci := 4) (j := 2) (idx := 137) (zd (i := .getfield 137) (n := 3) (by decide +kernel)) (by decide +kernel) (by decide +kernel) rfl g374 <|
    z_callS (idx := 318) (N := n_X8_sum) (zd (i := .invokestatic 318) (n := 3) (by decide +kernel)) to_X8_sum g1096 g1097 rfl rfl (cs_X8_sum (l := l) (G := G) (gh := gh) (d + 5)) <|
    z_iret (zd (i := .ireturn) (n := 1) (by decide +kernel)) rfl
noncomputable def b_X8_count_9 : zBl := fun jp K => oAld 0 <| oGetR 8 2 <| oGetR 4 3 <| oCs 1 gs_X8_sum <| oIret K
theorem s_X8_count_9 (d : Nat) : zPb l G gh (d + 7) n_X8_count p_X8_count 160 b_X8_count_9 := fun K jp hj =>
    z_aload_n (n := 0) (i := 0) (zd (i := .aload_n 0) (n := 1) (by decide +kernel)) rfl <|
    z_getR (ci := 8) (j := 2) (idx := 26) (zd (i := .getfield 26) (n := 3) (by decide +kernel)) (by decide +kernel) (by decide +kernel) rfl g454 <|
    z_getR (ci := 4) (j := 3) (idx := 156) (zd (i := .getfield 156) (n := 3) (by decide +kernel)) (by decide +kernel) (by decide +kernel) rfl g377 <|
    z_callS (idx := 318) (N := n_X8_sum) (zd (i := .invokestatic 318) (n := 3) (by decide +kernel)) to_X8_sum g1096 g1097 rfl rfl (cs_X8_sum (l := l) (G := G) (gh := gh) (d + 5)) <|
    z_iret (zd (i := .ireturn) (n := 1) (by decide +kernel)) rfl
noncomputable def b_X8_count_10 : zBl := fun jp K => oAld 0 <| oGetR 8 0 <| oGetI 5 1 <| oIret K
theorem s_X8_count_10 (d : Nat) : zPb l G gh (d + 7) n_X8_count p_X8_count 171 b_X8_count_10 := fun K jp hj =>
    z_aload_n (n := 0) (i := 0) (zd (i := .aload_n 0) (n := 1) (by decide +kernel)) rfl <|
    z_getR (ci := 8) (j := 0) (idx := 12) (zd (i := .getfield 12) (n := 3) (by decide +kernel)) (by decide +kernel) (by decide +kernel) rfl g452 <|
    z_getI (ci := 5) (j := 1) (idx := 87) (zd (i := .getfield 87) (n := 3) (by decide +kernel)) (by decide +kernel) (by decide +kernel) rfl g131 <|
    z_iret (zd (i := .ireturn) (n := 1) (by decide +kernel)) rfl
noncomputable def b_X8_count_11 : zBl := fun jp K => oAld 0 <| oGetR 8 4 <| oGetI 3 2 <| oIret K
theorem s_X8_count_11 (d : Nat) : zPb l G gh (d + 7) n_X8_count p_X8_count 179 b_X8_count_11 := fun K jp hj =>
    z_aload_n (n := 0) (i := 0) (zd (i := .aload_n 0) (n := 1) (by decide +kernel)) rfl <|
    z_getR (ci := 8) (j := 4) (idx := 36) (zd (i := .getfield 36) (n := 3) (by decide +kernel)) (by decide +kernel) (by decide +kernel) rfl g456 <|
    z_getI (ci := 3) (j := 2) (idx := 322) (zd (i := .getfield 322) (n := 3) (by decide +kernel)) (by decide +kernel) (by decide +kernel) rfl g415 <|
    z_iret (zd (i := .ireturn) (n := 1) (by decide +kernel)) rfl
noncomputable def b_X8_count_12 : zBl := fun jp K => oAld 0 <| oGetR 8 7 <| oGetI 7 0 <| oIret K
theorem s_X8_count_12 (d : Nat) : zPb l G gh (d + 7) n_X8_count p_X8_count 187 b_X8_count_12 := fun K jp hj =>
    z_aload_n (n := 0) (i := 0) (zd (i := .aload_n 0) (n := 1) (by decide +kernel)) rfl <|
    z_getR (ci := 8) (j := 7) (idx := 51) (zd (i := .getfield 51) (n := 3) (by decide +kernel)) (by decide +kernel) (by decide +kernel) rfl g459 <|
    z_getI (ci := 7) (j := 0) (idx := 114) (zd (i := .getfield 114) (n := 3) (by decide +kernel)) (by decide +kernel) (by decide +kernel) rfl g430 <|
    z_iret (zd (i := .ireturn) (n := 1) (by decide +kernel)) rfl
noncomputable def b_X8_count_13 : zBl := fun jp K => oAld 0 <| oCv 8 0 gs_X8_heldSlots <| oIret K
theorem s_X8_count_13 (d : Nat) : zPb l G gh (d + 7) n_X8_count p_X8_count 195 b_X8_count_13 := fun K jp hj =>
    z_aload_n (n := 0) (i := 0) (zd (i := .aload_n 0) (n := 1) (by decide +kernel)) rfl <|
    z_callV (idx := 323) (ci := 8) (N := n_X8_heldSlots) (zd (i := .invokevirtual 323) (n := 3) (by decide +kernel)) to_X8_heldSlots g1099 g1101 g40 (by decide +kernel) rfl rfl rfl (cs_X8_heldSlots (l := l) (G := G) (gh := gh) (d + 5)) <|
    z_iret (zd (i := .ireturn) (n := 1) (by decide +kernel)) rfl
noncomputable def b_X8_count_14 : zBl := fun jp K => oAld 0 <| oGetR 8 2 <| oGetI 4 0 <| oAld 0 <| oGetR 8 12 <| oGetI 0 11 <| oAld 0 <| oGetR 8 12 <| oGetI 0 9 <| oCs 3 f_X0_isWind <| oIf zeq zne (jp 16) (jp 15)
theorem s_X8_count_14 (d : Nat) : zPb l G gh (d + 7) n_X8_count p_X8_count 200 b_X8_count_14 := fun K jp hj =>
    z_aload_n (n := 0) (i := 0) (zd (i := .aload_n 0) (n := 1) (by decide +kernel)) rfl <|
    z_getR (ci := 8) (j := 2) (idx := 26) (zd (i := .getfield 26) (n := 3) (by decide +kernel)) (by decide +kernel) (by decide +kernel) rfl g454 <|
    z_getI (ci := 4) (j := 0) (idx := 140) (zd (i := .getfield 140) (n := 3) (by decide +kernel)) (by decide +kernel) (by decide +kernel) rfl g368 <|
    z_aload_n (n := 0) (i := 0) (zd (i := .aload_n 0) (n := 1) (by decide +kernel)) rfl <|
    z_getR (ci := 8) (j := 12) (idx := 71) (zd (i := .getfield 71) (n := 3) (by decide +kernel)) (by decide +kernel) (by decide +kernel) rfl g464 <|
    z_getI (ci := 0) (j := 11) (idx := 210) (zd (i := .getfield 210) (n := 3) (by decide +kernel)) (by decide +kernel) (by decide +kernel) rfl g303 <|
    z_aload_n (n := 0) (i := 0) (zd (i := .aload_n 0) (n := 1) (by decide +kernel)) rfl <|
    z_getR (ci := 8) (j := 12) (idx := 71) (zd (i := .getfield 71) (n := 3) (by decide +kernel)) (by decide +kernel) (by decide +kernel) rfl g464 <|
    z_getI (ci := 0) (j := 9) (idx := 213) (zd (i := .getfield 213) (n := 3) (by decide +kernel)) (by decide +kernel) (by decide +kernel) rfl g297 <|
    z_callS (idx := 326) (N := n_X0_isWind) (zd (i := .invokestatic 326) (n := 3) (by decide +kernel)) to_X0_isWind g1103 g871 rfl rfl (c_X0_isWind (l := l) (G := G) (gh := gh) (d + 3)) <|
    z_if_eq (off := 7) (tgt := 231) (zd (i := .ifCond .eq (7)) (n := 3) (by decide +kernel)) (by decide +kernel) (zj (hj 16) (by decide +kernel)) (zj (hj 15) (by decide +kernel))
noncomputable def b_X8_count_15 : zBl := fun jp K => oInt 2147483649 <| jp 17
theorem s_X8_count_15 (d : Nat) : zPb l G gh (d + 7) n_X8_count p_X8_count 227 b_X8_count_15 := fun K jp hj =>
    z_iconst (n := 1) (zd (i := .iconst (1)) (n := 1) (by decide +kernel)) (by decide +kernel) <|
    z_goto (off := 4) (tgt := 232) (zd (i := .goto (4)) (n := 3) (by decide +kernel)) (by decide +kernel) (zj (hj 17) (by decide +kernel))
noncomputable def b_X8_count_16 : zBl := fun jp K => oInt 2147483648 <| jp 17
theorem s_X8_count_16 (d : Nat) : zPb l G gh (d + 7) n_X8_count p_X8_count 231 b_X8_count_16 := fun K jp hj =>
    z_iconst (n := 0) (zd (i := .iconst (0)) (n := 1) (by decide +kernel)) (by decide +kernel) <|
    (zj (hj 17) (by decide +kernel))
noncomputable def b_X8_count_17 : zBl := fun jp K => oIret K
theorem s_X8_count_17 (d : Nat) : zPb l G gh (d + 7) n_X8_count p_X8_count 232 b_X8_count_17 := fun K jp hj =>
    z_iret (zd (i := .ireturn) (n := 1) (by decide +kernel)) rfl
noncomputable def b_X8_count_18 : zBl := fun jp K => oAld 0 <| oGetR 8 2 <| oGetR 4 4 <| oCs 1 gs_X8_sum <| oIret K
theorem s_X8_count_18 (d : Nat) : zPb l G gh (d + 7) n_X8_count p_X8_count 233 b_X8_count_18 := fun K jp hj =>
    z_aload_n (n := 0) (i := 0) (zd (i := .aload_n 0) (n := 1) (by decide +kernel)) rfl <|
    z_getR (ci := 8) (j := 2) (idx := 26) (zd (i := .getfield 26) (n := 3) (by decide +kernel)) (by decide +kernel) (by decide +kernel) rfl g454 <|
    z_getR (ci := 4) (j := 4) (idx := 159) (zd (i := .getfield 159) (n := 3) (by decide +kernel)) (by decide +kernel) (by decide +kernel) rfl g380 <|
    z_callS (idx := 318) (N := n_X8_sum) (zd (i := .invokestatic 318) (n := 3) (by decide +kernel)) to_X8_sum g1096 g1097 rfl rfl (cs_X8_sum (l := l) (G := G) (gh := gh) (d + 5)) <|
    z_iret (zd (i := .ireturn) (n := 1) (by decide +kernel)) rfl
noncomputable def b_X8_count_19 : zBl := fun jp K => oAld 0 <| oGetR 8 12 <| oAld 0 <| oGetR 8 2 <| oGetI 4 0 <| oCv 0 1 f_X0_heat <| oIret K
theorem s_X8_count_19 (d : Nat) : zPb l G gh (d + 7) n_X8_count p_X8_count 244 b_X8_count_19 := fun K jp hj =>
    z_aload_n (n := 0) (i := 0) (zd (i := .aload_n 0) (n := 1) (by decide +kernel)) rfl <|
    z_getR (ci := 8) (j := 12) (idx := 71) (zd (i := .getfield 71) (n := 3) (by decide +kernel)) (by decide +kernel) (by decide +kernel) rfl g464 <|
    z_aload_n (n := 0) (i := 0) (zd (i := .aload_n 0) (n := 1) (by decide +kernel)) rfl <|
    z_getR (ci := 8) (j := 2) (idx := 26) (zd (i := .getfield 26) (n := 3) (by decide +kernel)) (by decide +kernel) (by decide +kernel) rfl g454 <|
    z_getI (ci := 4) (j := 0) (idx := 140) (zd (i := .getfield 140) (n := 3) (by decide +kernel)) (by decide +kernel) (by decide +kernel) rfl g368 <|
    z_callV (idx := 143) (ci := 0) (N := n_X0_heat) (zd (i := .invokevirtual 143) (n := 3) (by decide +kernel)) to_X0_heat g716 g717 g718 (by decide +kernel) rfl rfl rfl (c_X0_heat (l := l) (G := G) (gh := gh) (d + 2)) <|
    z_iret (zd (i := .ireturn) (n := 1) (by decide +kernel)) rfl
noncomputable def b_X8_count_20 : zBl := fun jp K => oAld 0 <| oAld 0 <| oGetR 8 2 <| oGetI 4 0 <| oCv 8 1 gs_X8_thingsSeen <| oIret K
theorem s_X8_count_20 (d : Nat) : zPb l G gh (d + 7) n_X8_count p_X8_count 259 b_X8_count_20 := fun K jp hj =>
    z_aload_n (n := 0) (i := 0) (zd (i := .aload_n 0) (n := 1) (by decide +kernel)) rfl <|
    z_aload_n (n := 0) (i := 0) (zd (i := .aload_n 0) (n := 1) (by decide +kernel)) rfl <|
    z_getR (ci := 8) (j := 2) (idx := 26) (zd (i := .getfield 26) (n := 3) (by decide +kernel)) (by decide +kernel) (by decide +kernel) rfl g454 <|
    z_getI (ci := 4) (j := 0) (idx := 140) (zd (i := .getfield 140) (n := 3) (by decide +kernel)) (by decide +kernel) (by decide +kernel) rfl g368 <|
    z_callV (idx := 294) (ci := 8) (N := n_X8_thingsSeen) (zd (i := .invokevirtual 294) (n := 3) (by decide +kernel)) to_X8_thingsSeen g1006 g1008 g36 (by decide +kernel) rfl rfl rfl (cs_X8_thingsSeen (l := l) (G := G) (gh := gh) (d)) <|
    z_iret (zd (i := .ireturn) (n := 1) (by decide +kernel)) rfl
noncomputable def b_X8_count_21 : zBl := fun jp K => oInt 2147483647 <| oIret K
theorem s_X8_count_21 (d : Nat) : zPb l G gh (d + 7) n_X8_count p_X8_count 271 b_X8_count_21 := fun K jp hj =>
    z_iconst (n := -1) (zd (i := .iconst (-1)) (n := 1) (by decide +kernel)) (by decide +kernel) <|
    z_iret (zd (i := .ireturn) (n := 1) (by decide +kernel)) rfl
noncomputable def t_X8_count : List zBl := [b_X8_count_0, b_X8_count_1, b_X8_count_2, b_X8_count_3, b_X8_count_4, b_X8_count_5, b_X8_count_6, b_X8_count_7, b_X8_count_8, b_X8_count_9, b_X8_count_10, b_X8_count_11, b_X8_count_12, b_X8_count_13, b_X8_count_14, b_X8_count_15, b_X8_count_16, b_X8_count_17, b_X8_count_18, b_X8_count_19, b_X8_count_20, b_X8_count_21]
theorem tt_X8_count (d : Nat) : zT (zPb l G gh (d + 7) n_X8_count p_X8_count) t_X8_count p_X8_count := ⟨s_X8_count_0 d, s_X8_count_1 d, s_X8_count_2 d, s_X8_count_3 d, s_X8_count_4 d, s_X8_count_5 d, s_X8_count_6 d, s_X8_count_7 d, s_X8_count_8 d, s_X8_count_9 d, s_X8_count_10 d, s_X8_count_11 d, s_X8_count_12 d, s_X8_count_13 d, s_X8_count_14 d, s_X8_count_15 d, s_X8_count_16 d, s_X8_count_17 d, s_X8_count_18 d, s_X8_count_19 d, s_X8_count_20 d, s_X8_count_21 d, trivial⟩
def q_X8_count_0 : List (Nat × Nat) := [(0, zk0), (1, zk14), (21, zk10), (22, zk12), (23, zk12), (24, zk12), (25, zk12), (26, zk11), (35, zk23), (248, zk13), (249, zk6), (259, zk20), (261, zk12), (262, zk12), (265, zk2), (266, zk18), (267, zk18), (268, zk19), (269, zk3), (270, zk7)]
noncomputable def al_X8_count_0 : zAq := [(some (.inl 8589934591), [(0, zk0), (1, zk14), (21, zk10), (22, zk12), (23, zk12), (24, zk12), (25, zk12), (26, zk11), (35, zk23), (248, zk13), (249, zk6), (259, zk20), (261, zk12), (262, zk12), (265, zk2), (266, zk18), (267, zk18), (268, zk19), (269, zk4), (270, zk9)])]
noncomputable def fm_X8_count_0 : List zFm := [(0, [], (fun vs => [.inr (.ref 0), .inl 8589934591]), (fun vs => zP q_X8_count_0), (fun vs => Nat.sub (Nat.add 0 0) 0))]
def bf_X8_count_0 : List Nat := []
theorem r_X8_count_0_0 : zbox [] (fun vs => zFrun (zpost (zAlq al_X8_count_0)) 1000 t_X8_count fm_X8_count_0 bf_X8_count_0 (0, vs)) = true := by decide +kernel
set_option maxRecDepth 100000 in
theorem x_X8_count_0 (d : Nat) : zS l G gh (d + 7) (zpost (zAlq al_X8_count_0)) n_X8_count (zn 0 p_X8_count 0) (zwc (0, [.inr (.ref 0), .inl 8589934591], zP q_X8_count_0) 0) := zentry (tt_X8_count d) fm_X8_count_0 bf_X8_count_0 1000 (by decide +kernel) rfl ⟨Nat.zero_lt_succ _, trivial⟩ (fun f hf => match f, hf with
  | 0, _ => fun vs hv => (zbox_t r_X8_count_0_0) vs hv
  | f + 1, h => absurd (show f + 1 < 1 from h) (Nat.not_lt.mpr (Nat.le_add_left 1 f)))
noncomputable def gs_X8_count_0 : zMt := zgq false [] 2 [.inr (.ref 0), .inl 8589934591] q_X8_count_0 al_X8_count_0
set_option maxRecDepth 100000 in
theorem cs_X8_count_0 (d : Nat) : zC l G gh (d + 7) n_X8_count gs_X8_count_0 := zgq_ok0 (pcs := p_X8_count) (by decide) rfl rfl (fun a ha => by simp only [al_X8_count_0, List.mem_cons, List.not_mem_nil, or_false] at ha; rcases ha with rfl <;> decide +kernel) (fun gh => x_X8_count_0 d) (by decide +kernel)
def q_X8_count_1 : List (Nat × Nat) := [(0, zk1), (1, zk14), (9, zk21), (11, zk12), (12, zk12), (15, zk5), (16, zk18), (17, zk18), (18, zk19), (19, zk3), (20, zk7), (21, zk10), (22, zk12), (23, zk12), (24, zk12), (25, zk12), (26, zk11), (35, zk23), (248, zk13), (249, zk6)]
noncomputable def al_X8_count_1 : zAq := [(some (.inl 8589934591), [(0, zk1), (1, zk14), (9, zk21), (11, zk12), (12, zk12), (15, zk5), (16, zk18), (17, zk18), (18, zk19), (19, zk4), (20, zk9), (21, zk10), (22, zk12), (23, zk12), (24, zk12), (25, zk12), (26, zk11), (35, zk23), (248, zk13), (249, zk6)])]
noncomputable def fm_X8_count_1 : List zFm := [(0, [], (fun vs => [.inr (.ref 0), .inl 8589934591]), (fun vs => zP q_X8_count_1), (fun vs => Nat.sub (Nat.add 0 0) 0))]
def bf_X8_count_1 : List Nat := []
theorem r_X8_count_1_0 : zbox [] (fun vs => zFrun (zpost (zAlq al_X8_count_1)) 1000 t_X8_count fm_X8_count_1 bf_X8_count_1 (0, vs)) = true := by decide +kernel
set_option maxRecDepth 100000 in
theorem x_X8_count_1 (d : Nat) : zS l G gh (d + 7) (zpost (zAlq al_X8_count_1)) n_X8_count (zn 0 p_X8_count 0) (zwc (0, [.inr (.ref 0), .inl 8589934591], zP q_X8_count_1) 0) := zentry (tt_X8_count d) fm_X8_count_1 bf_X8_count_1 1000 (by decide +kernel) rfl ⟨Nat.zero_lt_succ _, trivial⟩ (fun f hf => match f, hf with
  | 0, _ => fun vs hv => (zbox_t r_X8_count_1_0) vs hv
  | f + 1, h => absurd (show f + 1 < 1 from h) (Nat.not_lt.mpr (Nat.le_add_left 1 f)))
noncomputable def gs_X8_count_1 : zMt := zgq false [] 2 [.inr (.ref 0), .inl 8589934591] q_X8_count_1 al_X8_count_1
set_option maxRecDepth 100000 in
theorem cs_X8_count_1 (d : Nat) : zC l G gh (d + 7) n_X8_count gs_X8_count_1 := zgq_ok0 (pcs := p_X8_count) (by decide) rfl rfl (fun a ha => by simp only [al_X8_count_1, List.mem_cons, List.not_mem_nil, or_false] at ha; rcases ha with rfl <;> decide +kernel) (fun gh => x_X8_count_1 d) (by decide +kernel)
noncomputable def gs_X8_count : zMt := (zor gs_X8_count_0 gs_X8_count_1)
theorem cs_X8_count (d : Nat) : zC l G gh (d + 7) n_X8_count gs_X8_count := (zor_ok (cs_X8_count_0 d) (cs_X8_count_1 d))
end
