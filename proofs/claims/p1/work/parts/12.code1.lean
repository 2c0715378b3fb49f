section
variable {l : Launch} {G : qG} {gh : zGh}
def n_X5_hasRoom : qMn := (yX5_hasRoom, cX5_hasRoom, 2, (some Jvm.ClassFile.FieldType.boolean), 0, 0)
theorem to_X5_hasRoom : qTo n_X5_hasRoom 1 := ⟨g502, g98, ⟨by decide, by decide, by decide +kernel⟩, by decide⟩
def p_X5_hasRoom : List Nat := [0, 12, 17]
noncomputable def b_X5_hasRoom_0 : zBl := fun jp K => oAld 0 <| oGetI 5 1 <| oIld 1 <| oB2 zadd <| oInt 2147485648 <| oIc zgt zle (oFail) (jp 1)
theorem s_X5_hasRoom_0 (d : Nat) : zPb l G gh (d + 1) n_X5_hasRoom p_X5_hasRoom 0 b_X5_hasRoom_0 := fun K jp hj =>
    z_aload_n (n := 0) (i := 0) (zd (i := .aload_n 0) (n := 1) (by decide +kernel)) rfl <|
    z_getI (ci := 5) (j := 1) (idx := 15) (zd (i := .getfield 15) (n := 3) (by decide +kernel)) (by decide +kernel) (by decide +kernel) rfl g130 <|
    z_iload_n (n := 1) (i := 1) (zd (i := .iload_n 1) (n := 1) (by decide +kernel)) rfl <|
    z_iadd (zd (i := .iadd) (n := 1) (by decide +kernel)) <|
    z_sipush (n := 2000) (zd (i := .sipush (2000)) (n := 3) (by decide +kernel)) (by decide +kernel) <|
    z_icmp_gt (off := 7) (tgt := 16) (zd (i := .if_icmp .gt (7)) (n := 3) (by decide +kernel)) (by decide +kernel) z_fail (zj (hj 1) (by decide +kernel))
noncomputable def b_X5_hasRoom_1 : zBl := fun jp K => oInt 2147483649 <| jp 2
theorem s_X5_hasRoom_1 (d : Nat) : zPb l G gh (d + 1) n_X5_hasRoom p_X5_hasRoom 12 b_X5_hasRoom_1 := fun K jp hj =>
    z_iconst (n := 1) (zd (i := .iconst (1)) (n := 1) (by decide +kernel)) (by decide +kernel) <|
    z_goto (off := 4) (tgt := 17) (zd (i := .goto (4)) (n := 3) (by decide +kernel)) (by decide +kernel) (zj (hj 2) (by decide +kernel))
noncomputable def b_X5_hasRoom_2 : zBl := fun jp K => oZret K
theorem s_X5_hasRoom_2 (d : Nat) : zPb l G gh (d + 1) n_X5_hasRoom p_X5_hasRoom 17 b_X5_hasRoom_2 := fun K jp hj =>
    z_zret (zd (i := .ireturn) (n := 1) (by decide +kernel)) rfl
noncomputable def f_X5_hasRoom : zMt := zmet 2 [b_X5_hasRoom_0, b_X5_hasRoom_1, b_X5_hasRoom_2]
theorem c_X5_hasRoom (d : Nat) : zC l G gh (d + 1) n_X5_hasRoom f_X5_hasRoom := zmet_ok (pcs := p_X5_hasRoom) (by decide) rfl rfl ⟨s_X5_hasRoom_0 d, s_X5_hasRoom_1 d, s_X5_hasRoom_2 d, trivial⟩
def n_X5_putWord : qMn := (yX5_putWord, cX5_putWord, 3, none, 0, 0)
theorem to_X5_putWord : qTo n_X5_putWord 1 := ⟨g506, g98, ⟨by decide, by decide, by decide +kernel⟩, by decide⟩
def p_X5_putWord : List Nat := [0, 3, 7, 17, 46]
noncomputable def b_X5_putWord_0 : zBl := fun jp K => oInt 2147483672 <| oIst 2 <| jp 1
theorem s_X5_putWord_0 (d : Nat) : zPb l G gh (d + 1) n_X5_putWord p_X5_putWord 0 b_X5_putWord_0 := fun K jp hj =>
    z_bipush (n := 24) (zd (i := .bipush (24)) (n := 2) (by decide +kernel)) (by decide +kernel) <|
    z_istore_n (n := 2) (i := 2) (zd (i := .istore_n 2) (n := 1) (by decide +kernel)) rfl (by decide +kernel) <|
    (zj (hj 1) (by decide +kernel))
noncomputable def b_X5_putWord_1 : zBl := fun jp K => oIld 2 <| oIf zlt zge (jp 4) (jp 2)
theorem s_X5_putWord_1 (d : Nat) : zPb l G gh (d + 1) n_X5_putWord p_X5_putWord 3 b_X5_putWord_1 := fun K jp hj =>
    z_iload_n (n := 2) (i := 2) (zd (i := .iload_n 2) (n := 1) (by decide +kernel)) rfl <|
    z_if_lt (off := 42) (tgt := 46) (zd (i := .ifCond .lt (42)) (n := 3) (by decide +kernel)) (by decide +kernel) (zj (hj 4) (by decide +kernel)) (zj (hj 2) (by decide +kernel))
noncomputable def b_X5_putWord_2 : zBl := fun jp K => oAld 0 <| oGetI 5 1 <| oInt 2147485648 <| oIc zge zlt (jp 4) (jp 3)
theorem s_X5_putWord_2 (d : Nat) : zPb l G gh (d + 1) n_X5_putWord p_X5_putWord 7 b_X5_putWord_2 := fun K jp hj =>
    z_aload_n (n := 0) (i := 0) (zd (i := .aload_n 0) (n := 1) (by decide +kernel)) rfl <|
    z_getI (ci := 5) (j := 1) (idx := 15) (zd (i := .getfield 15) (n := 3) (by decide +kernel)) (by decide +kernel) (by decide +kernel) rfl g130 <|
    z_sipush (n := 2000) (zd (i := .sipush (2000)) (n := 3) (by decide +kernel)) (by decide +kernel) <|
    z_icmp_ge (off := 32) (tgt := 46) (zd (i := .if_icmp .ge (32)) (n := 3) (by decide +kernel)) (by decide +kernel) (zj (hj 4) (by decide +kernel)) (zj (hj 3) (by decide +kernel))
noncomputable def b_X5_putWord_3 : zBl := fun jp K => oAld 0 <| oGetR 5 0 <| oAld 0 <| oGetI 5 1 <| oIld 1 <| oIld 2 <| oB2 zishr <| oU zi2b <| oXast 11 znb <| oAld 0 <| oDup <| oGetI 5 1 <| oInt 2147483649 <| oB2 zadd <| oPutI 5 1 <| oInc 2 2147483640 <| jp 1
theorem s_X5_putWord_3 (d : Nat) : zPb l G gh (d + 1) n_X5_putWord p_X5_putWord 17 b_X5_putWord_3 := fun K jp hj =>
    z_aload_n (n := 0) (i := 0) (zd (i := .aload_n 0) (n := 1) (by decide +kernel)) rfl <|
    z_getR (ci := 5) (j := 0) (idx := 11) (zd (i := .getfield 11) (n := 3) (by decide +kernel)) (by decide +kernel) (by decide +kernel) rfl g129 <|
    z_aload_n (n := 0) (i := 0) (zd (i := .aload_n 0) (n := 1) (by decide +kernel)) rfl <|
    z_getI (ci := 5) (j := 1) (idx := 15) (zd (i := .getfield 15) (n := 3) (by decide +kernel)) (by decide +kernel) (by decide +kernel) rfl g130 <|
    z_iload_n (n := 1) (i := 1) (zd (i := .iload_n 1) (n := 1) (by decide +kernel)) rfl <|
    z_iload_n (n := 2) (i := 2) (zd (i := .iload_n 2) (n := 1) (by decide +kernel)) rfl <|
    z_ishr (zd (i := .ishr) (n := 1) (by decide +kernel)) <|
    z_i2b (zd (i := .i2b) (n := 1) (by decide +kernel)) <|
    z_bast (zd (i := .bastore) (n := 1) (by decide +kernel)) <|
    z_aload_n (n := 0) (i := 0) (zd (i := .aload_n 0) (n := 1) (by decide +kernel)) rfl <|
    z_dup (zd (i := .dup) (n := 1) (by decide +kernel)) <|
    z_getI (ci := 5) (j := 1) (idx := 15) (zd (i := .getfield 15) (n := 3) (by decide +kernel)) (by decide +kernel) (by decide +kernel) rfl g130 <|
    z_iconst (n := 1) (zd (i := .iconst (1)) (n := 1) (by decide +kernel)) (by decide +kernel) <|
    z_iadd (zd (i := .iadd) (n := 1) (by decide +kernel)) <|
    z_putI (ci := 5) (j := 1) (idx := 15) (zd (i := .putfield 15) (n := 3) (by decide +kernel)) (by decide +kernel) (by decide +kernel) rfl g130 (Or.inl rfl) <|
    z_iinc (i := 2) (n := -8) (zd (i := .iinc 2 (-8)) (n := 3) (by decide +kernel)) (by decide +kernel) (by decide +kernel) <|
    z_goto (off := -40) (tgt := 3) (zd (i := .goto (-40)) (n := 3) (by decide +kernel)) (by decide +kernel) (zj (hj 1) (by decide +kernel))
noncomputable def b_X5_putWord_4 : zBl := fun jp K => oVret K
theorem s_X5_putWord_4 (d : Nat) : zPb l G gh (d + 1) n_X5_putWord p_X5_putWord 46 b_X5_putWord_4 := fun K jp hj =>
    z_vret (zd (i := .return_) (n := 1) (by decide +kernel)) rfl
noncomputable def f_X5_putWord : zMt := zmet 3 [b_X5_putWord_0, b_X5_putWord_1, b_X5_putWord_2, b_X5_putWord_3, b_X5_putWord_4]
theorem c_X5_putWord (d : Nat) : zC l G gh (d + 1) n_X5_putWord f_X5_putWord := zmet_ok (pcs := p_X5_putWord) (by decide) rfl rfl ⟨s_X5_putWord_0 d, s_X5_putWord_1 d, s_X5_putWord_2 d, s_X5_putWord_3 d, s_X5_putWord_4 d, trivial⟩
def n_X8_feed : qMn := (yX8_feed, cX8_feed, 6, (some Jvm.ClassFile.FieldType.int), 0, 0)
theorem to_X8_feed : qTo n_X8_feed 5 := ⟨g498, g97, ⟨by decide, by decide, by decide +kernel⟩, by decide⟩
def p_X8_feed : List Nat := [0, 14]
noncomputable def b_X8_feed_0 : zBl := fun jp K => oAld 0 <| oGetR 8 0 <| oInt 2147483668 <| oCv 5 1 f_X5_hasRoom <| oIf zne zeq (jp 1) (oFail)
theorem s_X8_feed_0 (d : Nat) : zPb l G gh (d + 2) n_X8_feed p_X8_feed 0 b_X8_feed_0 := fun K jp hj =>
    z_aload_n (n := 0) (i := 0) (zd (i := .aload_n 0) (n := 1) (by decide +kernel)) rfl <|
    z_getR (ci := 8) (j := 0) (idx := 12) (zd (i := .getfield 12) (n := 3) (by decide +kernel)) (by decide +kernel) (by decide +kernel) rfl g452 <|
    z_bipush (n := 20) (zd (i := .bipush (20)) (n := 2) (by decide +kernel)) (by decide +kernel) <|
    z_callV (idx := 79) (ci := 5) (N := n_X5_hasRoom) (zd (i := .invokevirtual 79) (n := 3) (by decide +kernel)) to_X5_hasRoom g499 g500 g501 (by decide +kernel) rfl rfl rfl (c_X5_hasRoom (l := l) (G := G) (gh := gh) d) <|
    z_if_ne (off := 5) (tgt := 14) (zd (i := .ifCond .ne (5)) (n := 3) (by decide +kernel)) (by decide +kernel) (zj (hj 1) (by decide +kernel)) z_fail
noncomputable def b_X8_feed_1 : zBl := fun jp K => oAld 0 <| oGetR 8 0 <| oIld 1 <| oCv 5 1 f_X5_putWord <| oAld 0 <| oGetR 8 0 <| oIld 2 <| oCv 5 1 f_X5_putWord <| oAld 0 <| oGetR 8 0 <| oIld 3 <| oCv 5 1 f_X5_putWord <| oAld 0 <| oGetR 8 0 <| oIld 4 <| oCv 5 1 f_X5_putWord <| oAld 0 <| oGetR 8 0 <| oIld 5 <| oCv 5 1 f_X5_putWord <| oAld 0 <| oGetR 8 0 <| oGetI 5 1 <| oIret K
theorem s_X8_feed_1 (d : Nat) : zPb l G gh (d + 2) n_X8_feed p_X8_feed 14 b_X8_feed_1 := fun K jp hj =>
    z_aload_n (n := 0) (i := 0) (zd (i := .aload_n 0) (n := 1) (by decide +kernel)) rfl <|
    z_getR (ci := 8) (j := 0) (idx := 12) (zd (i := .getfield 12) (n := 3) (by decide +kernel)) (by decide +kernel) (by decide +kernel) rfl g452 <|
    z_iload_n (n := 1) (i := 1) (zd (i := .iload_n 1) (n := 1) (by decide +kernel)) rfl <|
    z_callV (idx := 83) (ci := 5) (N := n_X5_putWord) (zd (i := .invokevirtual 83) (n := 3) (by decide +kernel)) to_X5_putWord g503 g504 g505 (by decide +kernel) rfl rfl rfl (c_X5_putWord (l := l) (G := G) (gh := gh) d) <|
    z_aload_n (n := 0) (i := 0) (zd (i := .aload_n 0) (n := 1) (by decide +kernel)) rfl <|
    z_getR (ci := 8) (j := 0) (idx := 12) (zd (i := .getfield 12) (n := 3) (by decide +kernel)) (by decide +kernel) (by decide +kernel) rfl g452 <|
    z_iload_n (n := 2) (i := 2) (zd (i := .iload_n 2) (n := 1) (by decide +kernel)) rfl <|
    z_callV (idx := 83) (ci := 5) (N := n_X5_putWord) (zd (i := .invokevirtual 83) (n := 3) (by decide +kernel)) to_X5_putWord g503 g504 g505 (by decide +kernel) rfl rfl rfl (c_X5_putWord (l := l) (G := G) (gh := gh) d) <|
    z_aload_n (n := 0) (i := 0) (zd (i := .aload_n 0) (n := 1) (by decide +kernel)) rfl <|
    z_getR (ci := 8) (j := 0) (idx := 12) (zd (i := .getfield 12) (n := 3) (by decide +kernel)) (by decide +kernel) (by decide +kernel) rfl g452 <|
    z_iload_n (n := 3) (i := 3) (zd (i := .iload_n 3) (n := 1) (by decide +kernel)) rfl <|
    z_callV (idx := 83) (ci := 5) (N := n_X5_putWord) (zd (i := .invokevirtual 83) (n := 3) (by decide +kernel)) to_X5_putWord g503 g504 g505 (by decide +kernel) rfl rfl rfl (c_X5_putWord (l := l) (G := G) (gh := gh) d) <|
    z_aload_n (n := 0) (i := 0) (zd (i := .aload_n 0) (n := 1) (by decide +kernel)) rfl <|
    z_getR (ci := 8) (j := 0) (idx := 12) (zd (i := .getfield 12) (n := 3) (by decide +kernel)) (by decide +kernel) (by decide +kernel) rfl g452 <|
    z_iload (i := 4) (zd (i := .iload 4) (n := 2) (by decide +kernel)) <|
    z_callV (idx := 83) (ci := 5) (N := n_X5_putWord) (zd (i := .invokevirtual 83) (n := 3) (by decide +kernel)) to_X5_putWord g503 g504 g505 (by decide +kernel) rfl rfl rfl (c_X5_putWord (l := l) (G := G) (gh := gh) d) <|
    z_aload_n (n := 0) (i := 0) (zd (i := .aload_n 0) (n := 1) (by decide +kernel)) rfl <|
    z_getR (ci := 8) (j := 0) (idx := 12) (zd (i := .getfield 12) (n := 3) (by decide +kernel)) (by decide +kernel) (by decide +kernel) rfl g452 <|
    z_iload (i := 5) (zd (i := .iload 5) (n := 2) (by decide +kernel)) <|
    z_callV (idx := 83) (ci := 5) (N := n_X5_putWord) (zd (i := .invokevirtual 83) (n := 3) (by decide +kernel)) to_X5_putWord g503 g504 g505 (by decide +kernel) rfl rfl rfl (c_X5_putWord (l := l) (G := G) (gh := gh) d) <|
    z_aload_n (n := 0) (i := 0) (zd (i := .aload_n 0) (n := 1) (by decide +kernel)) rfl <|
    z_getR (ci := 8) (j := 0) (idx := 12) (zd (i := .getfield 12) (n := 3) (by decide +kernel)) (by decide +kernel) (by decide +kernel) rfl g452 <|
    z_getI (ci := 5) (j := 1) (idx := 87) (zd (i := .getfield 87) (n := 3) (by decide +kernel)) (by decide +kernel) (by decide +kernel) rfl g131 <|
    z_iret (zd (i := .ireturn) (n := 1) (by decide +kernel)) rfl
noncomputable def f_X8_feed : zMt := zmet 6 [b_X8_feed_0, b_X8_feed_1]
theorem c_X8_feed (d : Nat) : zC l G gh (d + 2) n_X8_feed f_X8_feed := zmet_ok (pcs := p_X8_feed) (by decide) rfl rfl ⟨s_X8_feed_0 d, s_X8_feed_1 d, trivial⟩
def n_X9_put : qMn := (yX9_put, cX9_put, 3, none, 0, 0)
theorem to_X9_put : qTo n_X9_put 1 := ⟨g1331, g110, ⟨by decide, by decide, by decide +kernel⟩, by decide⟩
def p_X9_put : List Nat := [0, 3, 7, 36]
noncomputable def b_X9_put_0 : zBl := fun jp K => oInt 2147483672 <| oIst 2 <| jp 1
theorem s_X9_put_0 (d : Nat) : zPb l G gh (d + 1) n_X9_put p_X9_put 0 b_X9_put_0 := fun K jp hj =>
    z_bipush (n := 24) (zd (i := .bipush (24)) (n := 2) (by decide +kernel)) (by decide +kernel) <|
    z_istore_n (n := 2) (i := 2) (zd (i := .istore_n 2) (n := 1) (by decide +kernel)) rfl (by decide +kernel) <|
    (zj (hj 1) (by decide +kernel))
noncomputable def b_X9_put_1 : zBl := fun jp K => oIld 2 <| oIf zlt zge (jp 3) (jp 2)
theorem s_X9_put_1 (d : Nat) : zPb l G gh (d + 1) n_X9_put p_X9_put 3 b_X9_put_1 := fun K jp hj =>
    z_iload_n (n := 2) (i := 2) (zd (i := .iload_n 2) (n := 1) (by decide +kernel)) rfl <|
    z_if_lt (off := 32) (tgt := 36) (zd (i := .ifCond .lt (32)) (n := 3) (by decide +kernel)) (by decide +kernel) (zj (hj 3) (by decide +kernel)) (zj (hj 2) (by decide +kernel))
noncomputable def b_X9_put_2 : zBl := fun jp K => oAld 0 <| oGetR 9 1 <| oAld 0 <| oGetI 9 2 <| oIld 1 <| oIld 2 <| oB2 zishr <| oU zi2b <| oXast 11 znb <| oAld 0 <| oDup <| oGetI 9 2 <| oInt 2147483649 <| oB2 zadd <| oPutI 9 2 <| oInc 2 2147483640 <| jp 1
theorem s_X9_put_2 (d : Nat) : zPb l G gh (d + 1) n_X9_put p_X9_put 7 b_X9_put_2 := fun K jp hj =>
    z_aload_n (n := 0) (i := 0) (zd (i := .aload_n 0) (n := 1) (by decide +kernel)) rfl <|
    z_getR (ci := 9) (j := 1) (idx := 13) (zd (i := .getfield 13) (n := 3) (by decide +kernel)) (by decide +kernel) (by decide +kernel) rfl g1129 <|
    z_aload_n (n := 0) (i := 0) (zd (i := .aload_n 0) (n := 1) (by decide +kernel)) rfl <|
    z_getI (ci := 9) (j := 2) (idx := 167) (zd (i := .getfield 167) (n := 3) (by decide +kernel)) (by decide +kernel) (by decide +kernel) rfl g1130 <|
    z_iload_n (n := 1) (i := 1) (zd (i := .iload_n 1) (n := 1) (by decide +kernel)) rfl <|
    z_iload_n (n := 2) (i := 2) (zd (i := .iload_n 2) (n := 1) (by decide +kernel)) rfl <|
    z_ishr (zd (i := .ishr) (n := 1) (by decide +kernel)) <|
    z_i2b (zd (i := .i2b) (n := 1) (by decide +kernel)) <|
    z_bast (zd (i := .bastore) (n := 1) (by decide +kernel)) <|
    z_aload_n (n := 0) (i := 0) (zd (i := .aload_n 0) (n := 1) (by decide +kernel)) rfl <|
    z_dup (zd (i := .dup) (n := 1) (by decide +kernel)) <|
    z_getI (ci := 9) (j := 2) (idx := 167) (zd (i := .getfield 167) (n := 3) (by decide +kernel)) (by decide +kernel) (by decide +kernel) rfl g1130 <|
    z_iconst (n := 1) (zd (i := .iconst (1)) (n := 1) (by decide +kernel)) (by decide +kernel) <|
    z_iadd (zd (i := .iadd) (n := 1) (by decide +kernel)) <|
    z_putI (ci := 9) (j := 2) (idx := 167) (zd (i := .putfield 167) (n := 3) (by decide +kernel)) (by decide +kernel) (by decide +kernel) rfl g1130 (Or.inl rfl) <|
    z_iinc (i := 2) (n := -8) (zd (i := .iinc 2 (-8)) (n := 3) (by decide +kernel)) (by decide +kernel) (by decide +kernel) <|
    z_goto (off := -30) (tgt := 3) (zd (i := .goto (-30)) (n := 3) (by decide +kernel)) (by decide +kernel) (zj (hj 1) (by decide +kernel))
noncomputable def b_X9_put_3 : zBl := fun jp K => oVret K
theorem s_X9_put_3 (d : Nat) : zPb l G gh (d + 1) n_X9_put p_X9_put 36 b_X9_put_3 := fun K jp hj =>
    z_vret (zd (i := .return_) (n := 1) (by decide +kernel)) rfl
noncomputable def f_X9_put : zMt := zmet 3 [b_X9_put_0, b_X9_put_1, b_X9_put_2, b_X9_put_3]
theorem c_X9_put (d : Nat) : zC l G gh (d + 1) n_X9_put f_X9_put := zmet_ok (pcs := p_X9_put) (by decide) rfl rfl ⟨s_X9_put_0 d, s_X9_put_1 d, s_X9_put_2 d, s_X9_put_3 d, trivial⟩
def n_X9_feed : qMn := (yX9_feed, cX9_feed, 6, (some Jvm.ClassFile.FieldType.int), 0, 0)
theorem to_X9_feed : qTo n_X9_feed 5 := ⟨g1327, g110, ⟨by decide, by decide, by decide +kernel⟩, by decide⟩
def p_X9_feed : List Nat := [0, 15]
noncomputable def b_X9_feed_0 : zBl := fun jp K => oAld 0 <| oGetI 9 2 <| oInt 2147483668 <| oB2 zadd <| oInt 2147485648 <| oIc zle zgt (jp 1) (oFail)
theorem s_X9_feed_0 (d : Nat) : zPb l G gh (d + 2) n_X9_feed p_X9_feed 0 b_X9_feed_0 := fun K jp hj =>
    z_aload_n (n := 0) (i := 0) (zd (i := .aload_n 0) (n := 1) (by decide +kernel)) rfl <|
    z_getI (ci := 9) (j := 2) (idx := 167) (zd (i := .getfield 167) (n := 3) (by decide +kernel)) (by decide +kernel) (by decide +kernel) rfl g1130 <|
    z_bipush (n := 20) (zd (i := .bipush (20)) (n := 2) (by decide +kernel)) (by decide +kernel) <|
    z_iadd (zd (i := .iadd) (n := 1) (by decide +kernel)) <|
    z_sipush (n := 2000) (zd (i := .sipush (2000)) (n := 3) (by decide +kernel)) (by decide +kernel) <|
    z_icmp_le (off := 5) (tgt := 15) (zd (i := .if_icmp .le (5)) (n := 3) (by decide +kernel)) (by decide +kernel) (zj (hj 1) (by decide +kernel)) z_fail
noncomputable def b_X9_feed_1 : zBl := fun jp K => oAld 0 <| oIld 1 <| oCv 9 1 f_X9_put <| oAld 0 <| oIld 2 <| oCv 9 1 f_X9_put <| oAld 0 <| oIld 3 <| oCv 9 1 f_X9_put <| oAld 0 <| oIld 4 <| oCv 9 1 f_X9_put <| oAld 0 <| oIld 5 <| oCv 9 1 f_X9_put <| oAld 0 <| oGetI 9 2 <| oIret K
theorem s_X9_feed_1 (d : Nat) : zPb l G gh (d + 2) n_X9_feed p_X9_feed 15 b_X9_feed_1 := fun K jp hj =>
    z_aload_n (n := 0) (i := 0) (zd (i := .aload_n 0) (n := 1) (by decide +kernel)) rfl <|
    z_iload_n (n := 1) (i := 1) (zd (i := .iload_n 1) (n := 1) (by decide +kernel)) rfl <|
    z_callV (idx := 170) (ci := 9) (N := n_X9_put) (zd (i := .invokevirtual 170) (n := 3) (by decide +kernel)) to_X9_put g1328 g1330 g44 (by decide +kernel) rfl rfl rfl (c_X9_put (l := l) (G := G) (gh := gh) d) <|
    z_aload_n (n := 0) (i := 0) (zd (i := .aload_n 0) (n := 1) (by decide +kernel)) rfl <|
    z_iload_n (n := 2) (i := 2) (zd (i := .iload_n 2) (n := 1) (by decide +kernel)) rfl <|
    z_callV (idx := 170) (ci := 9) (N := n_X9_put) (zd (i := .invokevirtual 170) (n := 3) (by decide +kernel)) to_X9_put g1328 g1330 g44 (by decide +kernel) rfl rfl rfl (c_X9_put (l := l) (G := G) (gh := gh) d) <|
    z_aload_n (n := 0) (i := 0) (zd (i := .aload_n 0) (n := 1) (by decide +kernel)) rfl <|
    z_iload_n (n := 3) (i := 3) (zd (i := .iload_n 3) (n := 1) (by decide +kernel)) rfl <|
    z_callV (idx := 170) (ci := 9) (N := n_X9_put) (zd (i := .invokevirtual 170) (n := 3) (by decide +kernel)) to_X9_put g1328 g1330 g44 (by decide +kernel) rfl rfl rfl (c_X9_put (l := l) (G := G) (gh := gh) d) <|
    z_aload_n (n := 0) (i := 0) (zd (i := .aload_n 0) (n := 1) (by decide +kernel)) rfl <|
    z_iload (i := 4) (zd (i := .iload 4) (n := 2) (by decide +kernel)) <|
    z_callV (idx := 170) (ci := 9) (N := n_X9_put) (zd (i := .invokevirtual 170) (n := 3) (by decide +kernel)) to_X9_put g1328 g1330 g44 (by decide +kernel) rfl rfl rfl (c_X9_put (l := l) (G := G) (gh := gh) d) <|
    z_aload_n (n := 0) (i := 0) (zd (i := .aload_n 0) (n := 1) (by decide +kernel)) rfl <|
    z_iload (i := 5) (zd (i := .iload 5) (n := 2) (by decide +kernel)) <|
    z_callV (idx := 170) (ci := 9) (N := n_X9_put) (zd (i := .invokevirtual 170) (n := 3) (by decide +kernel)) to_X9_put g1328 g1330 g44 (by decide +kernel) rfl rfl rfl (c_X9_put (l := l) (G := G) (gh := gh) d) <|
    z_aload_n (n := 0) (i := 0) (zd (i := .aload_n 0) (n := 1) (by decide +kernel)) rfl <|
    z_getI (ci := 9) (j := 2) (idx := 167) (zd (i := .getfield 167) (n := 3) (by decide +kernel)) (by decide +kernel) (by decide +kernel) rfl g1130 <|
    z_iret (zd (i := .ireturn) (n := 1) (by decide +kernel)) rfl
noncomputable def f_X9_feed : zMt := zmet 6 [b_X9_feed_0, b_X9_feed_1]
theorem c_X9_feed (d : Nat) : zC l G gh (d + 2) n_X9_feed f_X9_feed := zmet_ok (pcs := p_X9_feed) (by decide) rfl rfl ⟨s_X9_feed_0 d, s_X9_feed_1 d, trivial⟩
def n_X5_drop : qMn := (yX5_drop, cX5_drop, 2, (some Jvm.ClassFile.FieldType.boolean), 0, 0)
theorem to_X5_drop : qTo n_X5_drop 1 := ⟨g514, g98, ⟨by decide, by decide, by decide +kernel⟩, by decide⟩
def p_X5_drop : List Nat := [0, 4, 12, 14]
noncomputable def b_X5_drop_0 : zBl := fun jp K => oIld 1 <| oIf zlt zge (jp 2) (jp 1)
theorem s_X5_drop_0 (d : Nat) : zPb l G gh (d + 1) n_X5_drop p_X5_drop 0 b_X5_drop_0 := fun K jp hj =>
    z_iload_n (n := 1) (i := 1) (zd (i := .iload_n 1) (n := 1) (by decide +kernel)) rfl <|
    z_if_lt (off := 11) (tgt := 12) (zd (i := .ifCond .lt (11)) (n := 3) (by decide +kernel)) (by decide +kernel) (zj (hj 2) (by decide +kernel)) (zj (hj 1) (by decide +kernel))
noncomputable def b_X5_drop_1 : zBl := fun jp K => oIld 1 <| oAld 0 <| oGetI 5 1 <| oIc zle zgt (jp 3) (jp 2)
theorem s_X5_drop_1 (d : Nat) : zPb l G gh (d + 1) n_X5_drop p_X5_drop 4 b_X5_drop_1 := fun K jp hj =>
    z_iload_n (n := 1) (i := 1) (zd (i := .iload_n 1) (n := 1) (by decide +kernel)) rfl <|
    z_aload_n (n := 0) (i := 0) (zd (i := .aload_n 0) (n := 1) (by decide +kernel)) rfl <|
    z_getI (ci := 5) (j := 1) (idx := 15) (zd (i := .getfield 15) (n := 3) (by decide +kernel)) (by decide +kernel) (by decide +kernel) rfl g130 <|
    z_icmp_le (off := 5) (tgt := 14) (zd (i := .if_icmp .le (5)) (n := 3) (by decide +kernel)) (by decide +kernel) (zj (hj 3) (by decide +kernel)) (zj (hj 2) (by decide +kernel))
noncomputable def b_X5_drop_2 : zBl := fun jp K => oInt 2147483648 <| oZret K
theorem s_X5_drop_2 (d : Nat) : zPb l G gh (d + 1) n_X5_drop p_X5_drop 12 b_X5_drop_2 := fun K jp hj =>
    z_iconst (n := 0) (zd (i := .iconst (0)) (n := 1) (by decide +kernel)) (by decide +kernel) <|
    z_zret (zd (i := .ireturn) (n := 1) (by decide +kernel)) rfl
noncomputable def b_X5_drop_3 : zBl := fun jp K => oAld 0 <| oDup <| oGetI 5 1 <| oIld 1 <| oB2 zsub <| oPutI 5 1 <| oInt 2147483649 <| oZret K
theorem s_X5_drop_3 (d : Nat) : zPb l G gh (d + 1) n_X5_drop p_X5_drop 14 b_X5_drop_3 := fun K jp hj =>
    z_aload_n (n := 0) (i := 0) (zd (i := .aload_n 0) (n := 1) (by decide +kernel)) rfl <|
    z_dup (zd (i := .dup) (n := 1) (by decide +kernel)) <|
    z_getI (ci := 5) (j := 1) (idx := 15) (zd (i := .getfield 15) (n := 3) (by decide +kernel)) (by decide +kernel) (by decide +kernel) rfl g130 <|
    z_iload_n (n := 1) (i := 1) (zd (i := .iload_n 1) (n := 1) (by decide +kernel)) rfl <|
    z_isub (zd (i := .isub) (n := 1) (by decide +kernel)) <|
    z_putI (ci := 5) (j := 1) (idx := 15) (zd (i := .putfield 15) (n := 3) (by decide +kernel)) (by decide +kernel) (by decide +kernel) rfl g130 (Or.inl rfl) <|
    z_iconst (n := 1) (zd (i := .iconst (1)) (n := 1) (by decide +kernel)) (by decide +kernel) <|
    z_zret (zd (i := .ireturn) (n := 1) (by decide +kernel)) rfl
noncomputable def f_X5_drop : zMt := zmet 2 [b_X5_drop_0, b_X5_drop_1, b_X5_drop_2, b_X5_drop_3]
theorem c_X5_drop (d : Nat) : zC l G gh (d + 1) n_X5_drop f_X5_drop := zmet_ok (pcs := p_X5_drop) (by decide) rfl rfl ⟨s_X5_drop_0 d, s_X5_drop_1 d, s_X5_drop_2 d, s_X5_drop_3 d, trivial⟩
def n_X8_back : qMn := (yX8_back, cX8_back, 2, (some Jvm.ClassFile.FieldType.int), 0, 0)
theorem to_X8_back : qTo n_X8_back 1 := ⟨g510, g97, ⟨by decide, by decide, by decide +kernel⟩, by decide⟩
def p_X8_back : List Nat := [0, 11, 21, 22]
noncomputable def b_X8_back_0 : zBl := fun jp K => oAld 0 <| oGetR 8 0 <| oIld 1 <| oCv 5 1 f_X5_drop <| oIf zeq zne (jp 2) (jp 1)
theorem s_X8_back_0 (d : Nat) : zPb l G gh (d + 2) n_X8_back p_X8_back 0 b_X8_back_0 := fun K jp hj =>
    z_aload_n (n := 0) (i := 0) (zd (i := .aload_n 0) (n := 1) (by decide +kernel)) rfl <|
    z_getR (ci := 8) (j := 0) (idx := 12) (zd (i := .getfield 12) (n := 3) (by decide +kernel)) (by decide +kernel) (by decide +kernel) rfl g452 <|
    z_iload_n (n := 1) (i := 1) (zd (i := .iload_n 1) (n := 1) (by decide +kernel)) rfl <|
    z_callV (idx := 90) (ci := 5) (N := n_X5_drop) (zd (i := .invokevirtual 90) (n := 3) (by decide +kernel)) to_X5_drop g511 g512 g513 (by decide +kernel) rfl rfl rfl (c_X5_drop (l := l) (G := G) (gh := gh) d) <|
    z_if_eq (off := 13) (tgt := 21) (zd (i := .ifCond .eq (13)) (n := 3) (by decide +kernel)) (by decide +kernel) (zj (hj 2) (by decide +kernel)) (zj (hj 1) (by decide +kernel))
noncomputable def b_X8_back_1 : zBl := fun jp K => oAld 0 <| oGetR 8 0 <| oGetI 5 1 <| jp 3
theorem s_X8_back_1 (d : Nat) : zPb l G gh (d + 2) n_X8_back p_X8_back 11 b_X8_back_1 := fun K jp hj =>
    z_aload_n (n := 0) (i := 0) (zd (i := .aload_n 0) (n := 1) (by decide +kernel)) rfl <|
    z_getR (ci := 8) (j := 0) (idx := 12) (zd (i := .getfield 12) (n := 3) (by decide +kernel)) (by decide +kernel) (by decide +kernel) rfl g452 <|
    z_getI (ci := 5) (j := 1) (idx := 87) (zd (i := .getfield 87) (n := 3) (by decide +kernel)) (by decide +kernel) (by decide +kernel) rfl g131 <|
    z_goto (off := 4) (tgt := 22) (zd (i := .goto (4)) (n := 3) (by decide +kernel)) (by decide +kernel) (zj (hj 3) (by decide +kernel))
noncomputable def b_X8_back_2 : zBl := fun jp K => oInt 2147483647 <| jp 3
theorem s_X8_back_2 (d : Nat) : zPb l G gh (d + 2) n_X8_back p_X8_back 21 b_X8_back_2 := fun K jp hj =>
    z_iconst (n := -1) (zd (i := .iconst (-1)) (n := 1) (by decide +kernel)) (by decide +kernel) <|
    (zj (hj 3) (by decide +kernel))
noncomputable def b_X8_back_3 : zBl := fun jp K => oIret K
theorem s_X8_back_3 (d : Nat) : zPb l G gh (d + 2) n_X8_back p_X8_back 22 b_X8_back_3 := fun K jp hj =>
    z_iret (zd (i := .ireturn) (n := 1) (by decide +kernel)) rfl
noncomputable def f_X8_back : zMt := zmet 2 [b_X8_back_0, b_X8_back_1, b_X8_back_2, b_X8_back_3]
theorem c_X8_back (d : Nat) : zC l G gh (d + 2) n_X8_back f_X8_back := zmet_ok (pcs := p_X8_back) (by decide) rfl rfl ⟨s_X8_back_0 d, s_X8_back_1 d, s_X8_back_2 d, s_X8_back_3 d, trivial⟩
def n_X9_back : qMn := (yX9_back, cX9_back, 2, (some Jvm.ClassFile.FieldType.int), 0, 0)
theorem to_X9_back : qTo n_X9_back 1 := ⟨g1335, g110, ⟨by decide, by decide, by decide +kernel⟩, by decide⟩
def p_X9_back : List Nat := [0, 4, 12, 14]
noncomputable def b_X9_back_0 : zBl := fun jp K => oIld 1 <| oIf zlt zge (jp 2) (jp 1)
theorem s_X9_back_0 (d : Nat) : zPb l G gh (d + 1) n_X9_back p_X9_back 0 b_X9_back_0 := fun K jp hj =>
    z_iload_n (n := 1) (i := 1) (zd (i := .iload_n 1) (n := 1) (by decide +kernel)) rfl <|
    z_if_lt (off := 11) (tgt := 12) (zd (i := .ifCond .lt (11)) (n := 3) (by decide +kernel)) (by decide +kernel) (zj (hj 2) (by decide +kernel)) (zj (hj 1) (by decide +kernel))
noncomputable def b_X9_back_1 : zBl := fun jp K => oIld 1 <| oAld 0 <| oGetI 9 2 <| oIc zle zgt (jp 3) (jp 2)
theorem s_X9_back_1 (d : Nat) : zPb l G gh (d + 1) n_X9_back p_X9_back 4 b_X9_back_1 := fun K jp hj =>
    z_iload_n (n := 1) (i := 1) (zd (i := .iload_n 1) (n := 1) (by decide +kernel)) rfl <|
    z_aload_n (n := 0) (i := 0) (zd (i := .aload_n 0) (n := 1) (by decide +kernel)) rfl <|
    z_getI (ci := 9) (j := 2) (idx := 167) (zd (i := .getfield 167) (n := 3) (by decide +kernel)) (by decide +kernel) (by decide +kernel) rfl g1130 <|
    z_icmp_le (off := 5) (tgt := 14) (zd (i := .if_icmp .le (5)) (n := 3) (by decide +kernel)) (by decide +kernel) (zj (hj 3) (by decide +kernel)) (zj (hj 2) (by decide +kernel))
noncomputable def b_X9_back_2 : zBl := fun jp K => oInt 2147483647 <| oIret K
theorem s_X9_back_2 (d : Nat) : zPb l G gh (d + 1) n_X9_back p_X9_back 12 b_X9_back_2 := fun K jp hj =>
    z_iconst (n := -1) (zd (i := .iconst (-1)) (n := 1) (by decide +kernel)) (by decide +kernel) <|
    z_iret (zd (i := .ireturn) (n := 1) (by decide +kernel)) rfl
noncomputable def b_X9_back_3 : zBl := fun jp K => oAld 0 <| oDup <| oGetI 9 2 <| oIld 1 <| oB2 zsub <| oPutI 9 2 <| oAld 0 <| oGetI 9 2 <| oIret K
theorem s_X9_back_3 (d : Nat) : zPb l G gh (d + 1) n_X9_back p_X9_back 14 b_X9_back_3 := fun K jp hj =>
    z_aload_n (n := 0) (i := 0) (zd (i := .aload_n 0) (n := 1) (by decide +kernel)) rfl <|
    z_dup (zd (i := .dup) (n := 1) (by decide +kernel)) <|
    z_getI (ci := 9) (j := 2) (idx := 167) (zd (i := .getfield 167) (n := 3) (by decide +kernel)) (by decide +kernel) (by decide +kernel) rfl g1130 <|
    z_iload_n (n := 1) (i := 1) (zd (i := .iload_n 1) (n := 1) (by decide +kernel)) rfl <|
    z_isub (zd (i := .isub) (n := 1) (by decide +kernel)) <|
    z_putI (ci := 9) (j := 2) (idx := 167) (zd (i := .putfield 167) (n := 3) (by decide +kernel)) (by decide +kernel) (by decide +kernel) rfl g1130 (Or.inl rfl) <|
    z_aload_n (n := 0) (i := 0) (zd (i := .aload_n 0) (n := 1) (by decide +kernel)) rfl <|
    z_getI (ci := 9) (j := 2) (idx := 167) (zd (i := .getfield 167) (n := 3) (by decide +kernel)) (by decide +kernel) (by decide +kernel) rfl g1130 <|
    z_iret (zd (i := .ireturn) (n := 1) (by decide +kernel)) rfl
noncomputable def f_X9_back : zMt := zmet 2 [b_X9_back_0, b_X9_back_1, b_X9_back_2, b_X9_back_3]
theorem c_X9_back (d : Nat) : zC l G gh (d + 1) n_X9_back f_X9_back := zmet_ok (pcs := p_X9_back) (by decide) rfl rfl ⟨s_X9_back_0 d, s_X9_back_1 d, s_X9_back_2 d, s_X9_back_3 d, trivial⟩
def n_X6_skipBlanks : qMn := (yX6_skipBlanks, cX6_skipBlanks, 2, none, 0, 0)
theorem to_X6_skipBlanks : qTo n_X6_skipBlanks 1 := ⟨g531, g100, ⟨by decide, by decide, by decide +kernel⟩, by decide⟩
def p_X6_skipBlanks : List Nat := [0, 38]
noncomputable def b_X6_skipBlanks_0 : zBl := fun jp K => oAld 0 <| oGetI 6 4 <| oAld 1 <| oGetI 5 1 <| oIc zge zlt (jp 1) (oFail)
theorem s_X6_skipBlanks_0 (d : Nat) : zPb l G gh (d + 1) n_X6_skipBlanks p_X6_skipBlanks 0 b_X6_skipBlanks_0 := fun K jp hj =>
    z_aload_n (n := 0) (i := 0) (zd (i := .aload_n 0) (n := 1) (by decide +kernel)) rfl <|
    z_getI (ci := 6) (j := 4) (idx := 25) (zd (i := .getfield 25) (n := 3) (by decide +kernel)) (by decide +kernel) (by decide +kernel) rfl g211 <|
    z_aload_n (n := 1) (i := 1) (zd (i := .aload_n 1) (n := 1) (by decide +kernel)) rfl <|
    z_getI (ci := 5) (j := 1) (idx := 76) (zd (i := .getfield 76) (n := 3) (by decide +kernel)) (by decide +kernel) (by decide +kernel) rfl g132 <|
    z_icmp_ge (off := 30) (tgt := 38) (zd (i := .if_icmp .ge (30)) (n := 3) (by decide +kernel)) (by decide +kernel) (zj (hj 1) (by decide +kernel)) z_fail
noncomputable def b_X6_skipBlanks_1 : zBl := fun jp K => oVret K
theorem s_X6_skipBlanks_1 (d : Nat) : zPb l G gh (d + 1) n_X6_skipBlanks p_X6_skipBlanks 38 b_X6_skipBlanks_1 := fun K jp hj =>
    z_vret (zd (i := .return_) (n := 1) (by decide +kernel)) rfl
noncomputable def f_X6_skipBlanks : zMt := zmet 2 [b_X6_skipBlanks_0, b_X6_skipBlanks_1]
theorem c_X6_skipBlanks (d : Nat) : zC l G gh (d + 1) n_X6_skipBlanks f_X6_skipBlanks := zmet_ok (pcs := p_X6_skipBlanks) (by decide) rfl rfl ⟨s_X6_skipBlanks_0 d, s_X6_skipBlanks_1 d, trivial⟩
def n_X5_byteAt : qMn := (yX5_byteAt, cX5_byteAt, 2, (some Jvm.ClassFile.FieldType.int), 0, 0)
theorem to_X5_byteAt : qTo n_X5_byteAt 1 := ⟨g535, g98, ⟨by decide, by decide, by decide +kernel⟩, by decide⟩
def p_X5_byteAt : List Nat := [0, 4, 25, 26]
noncomputable def b_X5_byteAt_0 : zBl := fun jp K => oIld 1 <| oIf zlt zge (jp 2) (jp 1)
theorem s_X5_byteAt_0 (d : Nat) : zPb l G gh (d + 1) n_X5_byteAt p_X5_byteAt 0 b_X5_byteAt_0 := fun K jp hj =>
    z_iload_n (n := 1) (i := 1) (zd (i := .iload_n 1) (n := 1) (by decide +kernel)) rfl <|
    z_if_lt (off := 24) (tgt := 25) (zd (i := .ifCond .lt (24)) (n := 3) (by decide +kernel)) (by decide +kernel) (zj (hj 2) (by decide +kernel)) (zj (hj 1) (by decide +kernel))
noncomputable def b_X5_byteAt_1 : zBl := fun jp K => oIld 1 <| oAld 0 <| oGetI 5 1 <| oIc zge zlt (jp 2) (oFail)
theorem s_X5_byteAt_1 (d : Nat) : zPb l G gh (d + 1) n_X5_byteAt p_X5_byteAt 4 b_X5_byteAt_1 := fun K jp hj =>
    z_iload_n (n := 1) (i := 1) (zd (i := .iload_n 1) (n := 1) (by decide +kernel)) rfl <|
    z_aload_n (n := 0) (i := 0) (zd (i := .aload_n 0) (n := 1) (by decide +kernel)) rfl <|
    z_getI (ci := 5) (j := 1) (idx := 15) (zd (i := .getfield 15) (n := 3) (by decide +kernel)) (by decide +kernel) (by decide +kernel) rfl g130 <|
    z_icmp_ge (off := 16) (tgt := 25) (zd (i := .if_icmp .ge (16)) (n := 3) (by decide +kernel)) (by decide +kernel) (zj (hj 2) (by decide +kernel)) z_fail
noncomputable def b_X5_byteAt_2 : zBl := fun jp K => oInt 2147483647 <| jp 3
theorem s_X5_byteAt_2 (d : Nat) : zPb l G gh (d + 1) n_X5_byteAt p_X5_byteAt 25 b_X5_byteAt_2 := fun K jp hj =>
    z_iconst (n := -1) (zd (i := .iconst (-1)) (n := 1) (by decide +kernel)) (by decide +kernel) <|
    (zj (hj 3) (by decide +kernel))
noncomputable def b_X5_byteAt_3 : zBl := fun jp K => oIret K
theorem s_X5_byteAt_3 (d : Nat) : zPb l G gh (d + 1) n_X5_byteAt p_X5_byteAt 26 b_X5_byteAt_3 := fun K jp hj =>
    z_iret (zd (i := .ireturn) (n := 1) (by decide +kernel)) rfl
noncomputable def f_X5_byteAt : zMt := zmet 2 [b_X5_byteAt_0, b_X5_byteAt_1, b_X5_byteAt_2, b_X5_byteAt_3]
theorem c_X5_byteAt (d : Nat) : zC l G gh (d + 1) n_X5_byteAt f_X5_byteAt := zmet_ok (pcs := p_X5_byteAt) (by decide) rfl rfl ⟨s_X5_byteAt_0 d, s_X5_byteAt_1 d, s_X5_byteAt_2 d, s_X5_byteAt_3 d, trivial⟩
def n_X6_scan : qMn := (yX6_scan, cX6_scan, 4, none, 0, 0)
theorem to_X6_scan : qTo n_X6_scan 1 := ⟨g527, g100, ⟨by decide, by decide, by decide +kernel⟩, by decide⟩
def p_X6_scan : List Nat := [0, 7, 14, 43, 116, 122]
noncomputable def b_X6_scan_0 : zBl := fun jp K => oAld 0 <| oInt 2147483648 <| oPutI 6 4 <| oInt 2147483648 <| oIst 2 <| jp 1
theorem s_X6_scan_0 (d : Nat) : zPb l G gh (d + 2) n_X6_scan p_X6_scan 0 b_X6_scan_0 := fun K jp hj =>
    z_aload_n (n := 0) (i := 0) (zd (i := .aload_n 0) (n := 1) (by decide +kernel)) rfl <|
    z_iconst (n := 0) (zd (i := .iconst (0)) (n := 1) (by decide +kernel)) (by decide +kernel) <|
    z_putI (ci := 6) (j := 4) (idx := 25) (zd (i := .putfield 25) (n := 3) (by decide +kernel)) (by decide +kernel) (by decide +kernel) rfl g211 (Or.inl rfl) <|
    z_iconst (n := 0) (zd (i := .iconst (0)) (n := 1) (by decide +kernel)) (by decide +kernel) <|
    z_istore_n (n := 2) (i := 2) (zd (i := .istore_n 2) (n := 1) (by decide +kernel)) rfl (by decide +kernel) <|
    (zj (hj 1) (by decide +kernel))
noncomputable def b_X6_scan_1 : zBl := fun jp K => oIld 2 <| oInt 2147484048 <| oIc zgt zle (jp 5) (jp 2)
theorem s_X6_scan_1 (d : Nat) : zPb l G gh (d + 2) n_X6_scan p_X6_scan 7 b_X6_scan_1 := fun K jp hj =>
    z_iload_n (n := 2) (i := 2) (zd (i := .iload_n 2) (n := 1) (by decide +kernel)) rfl <|
    z_sipush (n := 400) (zd (i := .sipush (400)) (n := 3) (by decide +kernel)) (by decide +kernel) <|
    z_icmp_gt (off := 111) (tgt := 122) (zd (i := .if_icmp .gt (111)) (n := 3) (by decide +kernel)) (by decide +kernel) (zj (hj 5) (by decide +kernel)) (zj (hj 2) (by decide +kernel))
noncomputable def b_X6_scan_2 : zBl := fun jp K => oAld 0 <| oAld 1 <| oCv 6 1 f_X6_skipBlanks <| oAld 0 <| oGetR 6 2 <| oIld 2 <| oAld 0 <| oGetI 6 4 <| oXast 10 zid <| oAld 1 <| oAld 0 <| oGetI 6 4 <| oCv 5 1 f_X5_byteAt <| oIst 3 <| oIld 3 <| oInt 2147483647 <| oIc zne zeq (oFail) (jp 3)
theorem s_X6_scan_2 (d : Nat) : zPb l G gh (d + 2) n_X6_scan p_X6_scan 14 b_X6_scan_2 := fun K jp hj =>
    z_aload_n (n := 0) (i := 0) (zd (i := .aload_n 0) (n := 1) (by decide +kernel)) rfl <|
    z_aload_n (n := 1) (i := 1) (zd (i := .aload_n 1) (n := 1) (by decide +kernel)) rfl <|
    z_callV (idx := 47) (ci := 6) (N := n_X6_skipBlanks) (zd (i := .invokevirtual 47) (n := 3) (by decide +kernel)) to_X6_skipBlanks g528 g530 g1 (by decide +kernel) rfl rfl rfl (c_X6_skipBlanks (l := l) (G := G) (gh := gh) d) <|
    z_aload_n (n := 0) (i := 0) (zd (i := .aload_n 0) (n := 1) (by decide +kernel)) rfl <|
    z_getR (ci := 6) (j := 2) (idx := 19) (zd (i := .getfield 19) (n := 3) (by decide +kernel)) (by decide +kernel) (by decide +kernel) rfl g207 <|
    z_iload_n (n := 2) (i := 2) (zd (i := .iload_n 2) (n := 1) (by decide +kernel)) rfl <|
    z_aload_n (n := 0) (i := 0) (zd (i := .aload_n 0) (n := 1) (by decide +kernel)) rfl <|
    z_getI (ci := 6) (j := 4) (idx := 25) (zd (i := .getfield 25) (n := 3) (by decide +kernel)) (by decide +kernel) (by decide +kernel) rfl g211 <|
    z_iast (zd (i := .iastore) (n := 1) (by decide +kernel)) <|
    z_aload_n (n := 1) (i := 1) (zd (i := .aload_n 1) (n := 1) (by decide +kernel)) rfl <|
    z_aload_n (n := 0) (i := 0) (zd (i := .aload_n 0) (n := 1) (by decide +kernel)) rfl <|
    z_getI (ci := 6) (j := 4) (idx := 25) (zd (i := .getfield 25) (n := 3) (by decide +kernel)) (by decide +kernel) (by decide +kernel) rfl g211 <|
    z_callV (idx := 51) (ci := 5) (N := n_X5_byteAt) (zd (i := .invokevirtual 51) (n := 3) (by decide +kernel)) to_X5_byteAt g532 g533 g534 (by decide +kernel) rfl rfl rfl (c_X5_byteAt (l := l) (G := G) (gh := gh) d) <|
    z_istore_n (n := 3) (i := 3) (zd (i := .istore_n 3) (n := 1) (by decide +kernel)) rfl (by decide +kernel) <|
    z_iload_n (n := 3) (i := 3) (zd (i := .iload_n 3) (n := 1) (by decide +kernel)) rfl <|
    z_iconst (n := -1) (zd (i := .iconst (-1)) (n := 1) (by decide +kernel)) (by decide +kernel) <|
    z_icmp_ne (off := 13) (tgt := 53) (zd (i := .if_icmp .ne (13)) (n := 3) (by decide +kernel)) (by decide +kernel) z_fail (zj (hj 3) (by decide +kernel))
noncomputable def b_X6_scan_3 : zBl := fun jp K => oAld 0 <| oGetR 6 1 <| oIld 2 <| oInt 2147483648 <| oXast 10 zid <| jp 4
theorem s_X6_scan_3 (d : Nat) : zPb l G gh (d + 2) n_X6_scan p_X6_scan 43 b_X6_scan_3 := fun K jp hj =>
    z_aload_n (n := 0) (i := 0) (zd (i := .aload_n 0) (n := 1) (by decide +kernel)) rfl <|
    z_getR (ci := 6) (j := 1) (idx := 15) (zd (i := .getfield 15) (n := 3) (by decide +kernel)) (by decide +kernel) (by decide +kernel) rfl g205 <|
    z_iload_n (n := 2) (i := 2) (zd (i := .iload_n 2) (n := 1) (by decide +kernel)) rfl <|
    z_iconst (n := 0) (zd (i := .iconst (0)) (n := 1) (by decide +kernel)) (by decide +kernel) <|
    z_iast (zd (i := .iastore) (n := 1) (by decide +kernel)) <|
    z_goto (off := 66) (tgt := 116) (zd (i := .goto (66)) (n := 3) (by decide +kernel)) (by decide +kernel) (zj (hj 4) (by decide +kernel))
noncomputable def b_X6_scan_4 : zBl := fun jp K => oInc 2 2147483649 <| jp 1
theorem s_X6_scan_4 (d : Nat) : zPb l G gh (d + 2) n_X6_scan p_X6_scan 116 b_X6_scan_4 := fun K jp hj =>
    z_iinc (i := 2) (n := 1) (zd (i := .iinc 2 (1)) (n := 3) (by decide +kernel)) (by decide +kernel) (by decide +kernel) <|
    z_goto (off := -112) (tgt := 7) (zd (i := .goto (-112)) (n := 3) (by decide +kernel)) (by decide +kernel) (zj (hj 1) (by decide +kernel))
noncomputable def b_X6_scan_5 : zBl := fun jp K => oVret K
theorem s_X6_scan_5 (d : Nat) : zPb l G gh (d + 2) n_X6_scan p_X6_scan 122 b_X6_scan_5 := fun K jp hj =>
    z_vret (zd (i := .return_) (n := 1) (by decide +kernel)) rfl
noncomputable def f_X6_scan : zMt := zmet 4 [b_X6_scan_0, b_X6_scan_1, b_X6_scan_2, b_X6_scan_3, b_X6_scan_4, b_X6_scan_5]
theorem c_X6_scan (d : Nat) : zC l G gh (d + 2) n_X6_scan f_X6_scan := zmet_ok (pcs := p_X6_scan) (by decide) rfl rfl ⟨s_X6_scan_0 d, s_X6_scan_1 d, s_X6_scan_2 d, s_X6_scan_3 d, s_X6_scan_4 d, s_X6_scan_5 d, trivial⟩
def n_X1_parse : qMn := (yX1_parse, cX1_parse, 3, (some Jvm.ClassFile.FieldType.int), 0, 0)
theorem to_X1_parse : qTo n_X1_parse 1 := ⟨g522, g99, ⟨by decide, by decide, by decide +kernel⟩, by decide⟩
def p_X1_parse : List Nat := [0, 58, 65, 72, 89, 96, 119]
noncomputable def b_X1_parse_0 : zBl := fun jp K => oAld 0 <| oInt 2147483648 <| oPutI 1 4 <| oAld 0 <| oInt 2147483647 <| oPutI 1 5 <| oAld 0 <| oInt 2147483648 <| oPutI 1 6 <| oAld 0 <| oInt 2147483647 <| oPutI 1 7 <| oAld 0 <| oGetR 1 1 <| oCv 0 0 f_X0_clear <| oAld 0 <| oGetR 1 0 <| oAld 1 <| oCv 6 1 f_X6_scan <| oAld 0 <| oInt 2147483648 <| oPutI 1 2 <| oAld 0 <| oAld 0 <| oGetR 1 0 <| oGetR 6 1 <| oAld 0 <| oGetI 1 2 <| oXald 10 <| oPutI 1 3 <| oInt 2147483648 <| oIst 2 <| jp 1
theorem s_X1_parse_0 (d : Nat) : zPb l G gh (d + 5) n_X1_parse p_X1_parse 0 b_X1_parse_0 := fun K jp hj =>
    z_aload_n (n := 0) (i := 0) (zd (i := .aload_n 0) (n := 1) (by decide +kernel)) rfl <|
    z_iconst (n := 0) (zd (i := .iconst (0)) (n := 1) (by decide +kernel)) (by decide +kernel) <|
    z_putI (ci := 1) (j := 4) (idx := 32) (zd (i := .putfield 32) (n := 3) (by decide +kernel)) (by decide +kernel) (by decide +kernel) rfl g339 (Or.inl rfl) <|
    z_aload_n (n := 0) (i := 0) (zd (i := .aload_n 0) (n := 1) (by decide +kernel)) rfl <|
    z_iconst (n := -1) (zd (i := .iconst (-1)) (n := 1) (by decide +kernel)) (by decide +kernel) <|
    z_putI (ci := 1) (j := 5) (idx := 35) (zd (i := .putfield 35) (n := 3) (by decide +kernel)) (by decide +kernel) (by decide +kernel) rfl g340 (Or.inl rfl) <|
    z_aload_n (n := 0) (i := 0) (zd (i := .aload_n 0) (n := 1) (by decide +kernel)) rfl <|
    z_iconst (n := 0) (zd (i := .iconst (0)) (n := 1) (by decide +kernel)) (by decide +kernel) <|
    z_putI (ci := 1) (j := 6) (idx := 38) (zd (i := .putfield 38) (n := 3) (by decide +kernel)) (by decide +kernel) (by decide +kernel) rfl g342 (Or.inl rfl) <|
    z_aload_n (n := 0) (i := 0) (zd (i := .aload_n 0) (n := 1) (by decide +kernel)) rfl <|
    z_iconst (n := -1) (zd (i := .iconst (-1)) (n := 1) (by decide +kernel)) (by decide +kernel) <|
    z_putI (ci := 1) (j := 7) (idx := 41) (zd (i := .putfield 41) (n := 3) (by decide +kernel)) (by decide +kernel) (by decide +kernel) rfl g343 (Or.inl rfl) <|
    z_aload_n (n := 0) (i := 0) (zd (i := .aload_n 0) (n := 1) (by decide +kernel)) rfl <|
    z_getR (ci := 1) (j := 1) (idx := 21) (zd (i := .getfield 21) (n := 3) (by decide +kernel)) (by decide +kernel) (by decide +kernel) rfl g336 <|
    z_callV (idx := 44) (ci := 0) (N := n_X0_clear) (zd (i := .invokevirtual 44) (n := 3) (by decide +kernel)) to_X0_clear g523 g257 g258 (by decide +kernel) rfl rfl rfl (c_X0_clear (l := l) (G := G) (gh := gh) d) <|
    z_aload_n (n := 0) (i := 0) (zd (i := .aload_n 0) (n := 1) (by decide +kernel)) rfl <|
    z_getR (ci := 1) (j := 0) (idx := 12) (zd (i := .getfield 12) (n := 3) (by decide +kernel)) (by decide +kernel) (by decide +kernel) rfl g335 <|
    z_aload_n (n := 1) (i := 1) (zd (i := .aload_n 1) (n := 1) (by decide +kernel)) rfl <|
    z_callV (idx := 47) (ci := 6) (N := n_X6_scan) (zd (i := .invokevirtual 47) (n := 3) (by decide +kernel)) to_X6_scan g524 g525 g526 (by decide +kernel) rfl rfl rfl (c_X6_scan (l := l) (G := G) (gh := gh) (d + 2)) <|
    z_aload_n (n := 0) (i := 0) (zd (i := .aload_n 0) (n := 1) (by decide +kernel)) rfl <|
    z_iconst (n := 0) (zd (i := .iconst (0)) (n := 1) (by decide +kernel)) (by decide +kernel) <|
    z_putI (ci := 1) (j := 2) (idx := 25) (zd (i := .putfield 25) (n := 3) (by decide +kernel)) (by decide +kernel) (by decide +kernel) rfl g337 (Or.inl rfl) <|
    z_aload_n (n := 0) (i := 0) (zd (i := .aload_n 0) (n := 1) (by decide +kernel)) rfl <|
    z_aload_n (n := 0) (i := 0) (zd (i := .aload_n 0) (n := 1) (by decide +kernel)) rfl <|
    z_getR (ci := 1) (j := 0) (idx := 12) (zd (i := .getfield 12) (n := 3) (by decide +kernel)) (by decide +kernel) (by decide +kernel) rfl g335 <|
    z_getR (ci := 6) (j := 1) (idx := 51) (zd (i := .getfield 51) (n := 3) (by decide +kernel)) (by decide +kernel) (by decide +kernel) rfl g206 <|
    z_aload_n (n := 0) (i := 0) (zd (i := .aload_n 0) (n := 1) (by decide +kernel)) rfl <|
    z_getI (ci := 1) (j := 2) (idx := 25) (zd (i := .getfield 25) (n := 3) (by decide +kernel)) (by decide +kernel) (by decide +kernel) rfl g337 <|
    z_iald (zd (i := .iaload) (n := 1) (by decide +kernel)) <|
    z_putI (ci := 1) (j := 3) (idx := 29) (zd (i := .putfield 29) (n := 3) (by decide +kernel)) (by decide +kernel) (by decide +kernel) rfl g338 (Or.inl rfl) <|
    z_iconst (n := 0) (zd (i := .iconst (0)) (n := 1) (by decide +kernel)) (by decide +kernel) <|
    z_istore_n (n := 2) (i := 2) (zd (i := .istore_n 2) (n := 1) (by decide +kernel)) rfl (by decide +kernel) <|
    (zj (hj 1) (by decide +kernel))
noncomputable def b_X1_parse_1 : zBl := fun jp K => oIld 2 <| oInt 2147484048 <| oIc zgt zle (jp 4) (jp 2)
theorem s_X1_parse_1 (d : Nat) : zPb l G gh (d + 5) n_X1_parse p_X1_parse 58 b_X1_parse_1 := fun K jp hj =>
    z_iload_n (n := 2) (i := 2) (zd (i := .iload_n 2) (n := 1) (by decide +kernel)) rfl <|
    z_sipush (n := 400) (zd (i := .sipush (400)) (n := 3) (by decide +kernel)) (by decide +kernel) <|
    z_icmp_gt (off := 27) (tgt := 89) (zd (i := .if_icmp .gt (27)) (n := 3) (by decide +kernel)) (by decide +kernel) (zj (hj 4) (by decide +kernel)) (zj (hj 2) (by decide +kernel))
noncomputable def b_X1_parse_2 : zBl := fun jp K => oAld 0 <| oGetI 1 4 <| oIf zne zeq (jp 4) (jp 3)
theorem s_X1_parse_2 (d : Nat) : zPb l G gh (d + 5) n_X1_parse p_X1_parse 65 b_X1_parse_2 := fun K jp hj =>
    z_aload_n (n := 0) (i := 0) (zd (i := .aload_n 0) (n := 1) (by decide +kernel)) rfl <|
    z_getI (ci := 1) (j := 4) (idx := 32) (zd (i := .getfield 32) (n := 3) (by decide +kernel)) (by decide +kernel) (by decide +kernel) rfl g339 <|
    z_if_ne (off := 20) (tgt := 89) (zd (i := .ifCond .ne (20)) (n := 3) (by decide +kernel)) (by decide +kernel) (zj (hj 4) (by decide +kernel)) (zj (hj 3) (by decide +kernel))
noncomputable def b_X1_parse_3 : zBl := fun jp K => oAld 0 <| oGetI 1 3 <| oIf zeq zne (jp 4) (oFail)
theorem s_X1_parse_3 (d : Nat) : zPb l G gh (d + 5) n_X1_parse p_X1_parse 72 b_X1_parse_3 := fun K jp hj =>
    z_aload_n (n := 0) (i := 0) (zd (i := .aload_n 0) (n := 1) (by decide +kernel)) rfl <|
    z_getI (ci := 1) (j := 3) (idx := 29) (zd (i := .getfield 29) (n := 3) (by decide +kernel)) (by decide +kernel) (by decide +kernel) rfl g338 <|
    z_if_eq (off := 13) (tgt := 89) (zd (i := .ifCond .eq (13)) (n := 3) (by decide +kernel)) (by decide +kernel) (zj (hj 4) (by decide +kernel)) z_fail
noncomputable def b_X1_parse_4 : zBl := fun jp K => oAld 0 <| oGetI 1 4 <| oIf zne zeq (jp 6) (jp 5)
theorem s_X1_parse_4 (d : Nat) : zPb l G gh (d + 5) n_X1_parse p_X1_parse 89 b_X1_parse_4 := fun K jp hj =>
    z_aload_n (n := 0) (i := 0) (zd (i := .aload_n 0) (n := 1) (by decide +kernel)) rfl <|
    z_getI (ci := 1) (j := 4) (idx := 32) (zd (i := .getfield 32) (n := 3) (by decide +kernel)) (by decide +kernel) (by decide +kernel) rfl g339 <|
    z_if_ne (off := 26) (tgt := 119) (zd (i := .ifCond .ne (26)) (n := 3) (by decide +kernel)) (by decide +kernel) (zj (hj 6) (by decide +kernel)) (zj (hj 5) (by decide +kernel))
noncomputable def b_X1_parse_5 : zBl := fun jp K => oAld 0 <| oGetI 1 6 <| oIf zeq zne (jp 6) (oFail)
theorem s_X1_parse_5 (d : Nat) : zPb l G gh (d + 5) n_X1_parse p_X1_parse 96 b_X1_parse_5 := fun K jp hj =>
    z_aload_n (n := 0) (i := 0) (zd (i := .aload_n 0) (n := 1) (by decide +kernel)) rfl <|
    z_getI (ci := 1) (j := 6) (idx := 38) (zd (i := .getfield 38) (n := 3) (by decide +kernel)) (by decide +kernel) (by decide +kernel) rfl g342 <|
    z_if_eq (off := 19) (tgt := 119) (zd (i := .ifCond .eq (19)) (n := 3) (by decide +kernel)) (by decide +kernel) (zj (hj 6) (by decide +kernel)) z_fail
noncomputable def b_X1_parse_6 : zBl := fun jp K => oAld 0 <| oGetI 1 4 <| oIret K
theorem s_X1_parse_6 (d : Nat) : zPb l G gh (d + 5) n_X1_parse p_X1_parse 119 b_X1_parse_6 := fun K jp hj =>
    z_aload_n (n := 0) (i := 0) (zd (i := .aload_n 0) (n := 1) (by decide +kernel)) rfl <|
    z_getI (ci := 1) (j := 4) (idx := 32) (zd (i := .getfield 32) (n := 3) (by decide +kernel)) (by decide +kernel) (by decide +kernel) rfl g339 <|
    z_iret (zd (i := .ireturn) (n := 1) (by decide +kernel)) rfl
noncomputable def f_X1_parse : zMt := zmet 3 [b_X1_parse_0, b_X1_parse_1, b_X1_parse_2, b_X1_parse_3, b_X1_parse_4, b_X1_parse_5, b_X1_parse_6]
theorem c_X1_parse (d : Nat) : zC l G gh (d + 5) n_X1_parse f_X1_parse := zmet_ok (pcs := p_X1_parse) (by decide) rfl rfl ⟨s_X1_parse_0 d, s_X1_parse_1 d, s_X1_parse_2 d, s_X1_parse_3 d, s_X1_parse_4 d, s_X1_parse_5 d, s_X1_parse_6 d, trivial⟩
def n_X1_handOver : qMn := (yX1_handOver, cX1_handOver, 3, (some (Jvm.ClassFile.FieldType.object "MirageLoans$Flat")), 0, 0)
theorem to_X1_handOver : qTo n_X1_handOver 1 := ⟨g679, g99, ⟨by decide, by decide, by decide +kernel⟩, by decide⟩
def p_X1_handOver : List Nat := [0]
noncomputable def b_X1_handOver_0 : zBl := fun jp K => oAld 0 <| oGetR 1 1 <| oAst 2 <| oAld 0 <| oAld 1 <| oPutR 1 1 <| oAld 2 <| oAret K
theorem s_X1_handOver_0 (d : Nat) : zPb l G gh (d + 1) n_X1_handOver p_X1_handOver 0 b_X1_handOver_0 := fun K jp hj =>
    z_aload_n (n := 0) (i := 0) (zd (i := .aload_n 0) (n := 1) (by decide +kernel)) rfl <|
    z_getR (ci := 1) (j := 1) (idx := 21) (zd (i := .getfield 21) (n := 3) (by decide +kernel)) (by decide +kernel) (by decide +kernel) rfl g336 <|
    z_astore_n (n := 2) (i := 2) (zd (i := .astore_n 2) (n := 1) (by decide +kernel)) rfl (by decide +kernel) <|
    z_aload_n (n := 0) (i := 0) (zd (i := .aload_n 0) (n := 1) (by decide +kernel)) rfl <|
    z_aload_n (n := 1) (i := 1) (zd (i := .aload_n 1) (n := 1) (by decide +kernel)) rfl <|
    z_putR (ci := 1) (j := 1) (idx := 21) (zd (i := .putfield 21) (n := 3) (by decide +kernel)) (by decide +kernel) (by decide +kernel) (fun r => by cases r <;> rfl) (fun r => by cases r <;> rfl) rfl g336 (Or.inl rfl) <|
    z_aload_n (n := 2) (i := 2) (zd (i := .aload_n 2) (n := 1) (by decide +kernel)) rfl <|
    z_aret (zd (i := .areturn) (n := 1) (by decide +kernel)) rfl
noncomputable def f_X1_handOver : zMt := zmet 3 [b_X1_handOver_0]
theorem c_X1_handOver (d : Nat) : zC l G gh (d + 1) n_X1_handOver f_X1_handOver := zmet_ok (pcs := p_X1_handOver) (by decide) rfl rfl ⟨s_X1_handOver_0 d, trivial⟩
def n_X4_end : qMn := (yX4_end, cX4_end, 2, none, 0, 0)
theorem to_X4_end : qTo n_X4_end 1 := ⟨g695, g107, ⟨by decide, by decide, by decide +kernel⟩, by decide⟩
def p_X4_end : List Nat := [0]
noncomputable def b_X4_end_0 : zBl := fun jp K => oAld 0 <| oGetR 4 5 <| oIld 1 <| oInt 2147483648 <| oXast 10 zid <| oAld 0 <| oGetR 4 6 <| oIld 1 <| oInt 2147483648 <| oXast 10 zid <| oVret K
theorem s_X4_end_0 (d : Nat) : zPb l G gh (d + 1) n_X4_end p_X4_end 0 b_X4_end_0 := fun K jp hj =>
    z_aload_n (n := 0) (i := 0) (zd (i := .aload_n 0) (n := 1) (by decide +kernel)) rfl <|
    z_getR (ci := 4) (j := 5) (idx := 28) (zd (i := .getfield 28) (n := 3) (by decide +kernel)) (by decide +kernel) (by decide +kernel) rfl g382 <|
    z_iload_n (n := 1) (i := 1) (zd (i := .iload_n 1) (n := 1) (by decide +kernel)) rfl <|
    z_iconst (n := 0) (zd (i := .iconst (0)) (n := 1) (by decide +kernel)) (by decide +kernel) <|
    z_iast (zd (i := .iastore) (n := 1) (by decide +kernel)) <|
    z_aload_n (n := 0) (i := 0) (zd (i := .aload_n 0) (n := 1) (by decide +kernel)) rfl <|
    z_getR (ci := 4) (j := 6) (idx := 31) (zd (i := .getfield 31) (n := 3) (by decide +kernel)) (by decide +kernel) (by decide +kernel) rfl g385 <|
    z_iload_n (n := 1) (i := 1) (zd (i := .iload_n 1) (n := 1) (by decide +kernel)) rfl <|
    z_iconst (n := 0) (zd (i := .iconst (0)) (n := 1) (by decide +kernel)) (by decide +kernel) <|
    z_iast (zd (i := .iastore) (n := 1) (by decide +kernel)) <|
    z_vret (zd (i := .return_) (n := 1) (by decide +kernel)) rfl
noncomputable def f_X4_end : zMt := zmet 2 [b_X4_end_0]
theorem c_X4_end (d : Nat) : zC l G gh (d + 1) n_X4_end f_X4_end := zmet_ok (pcs := p_X4_end) (by decide) rfl rfl ⟨s_X4_end_0 d, trivial⟩
def n_X4_keepOnly : qMn := (yX4_keepOnly, cX4_keepOnly, 3, none, 0, 0)
theorem to_X4_keepOnly : qTo n_X4_keepOnly 1 := ⟨g691, g107, ⟨by decide, by decide, by decide +kernel⟩, by decide⟩
def p_X4_keepOnly : List Nat := [0, 2, 11, 16, 21, 27]
noncomputable def b_X4_keepOnly_0 : zBl := fun jp K => oInt 2147483648 <| oIst 2 <| jp 1
theorem s_X4_keepOnly_0 (d : Nat) : zPb l G gh (d + 2) n_X4_keepOnly p_X4_keepOnly 0 b_X4_keepOnly_0 := fun K jp hj =>
    z_iconst (n := 0) (zd (i := .iconst (0)) (n := 1) (by decide +kernel)) (by decide +kernel) <|
    z_istore_n (n := 2) (i := 2) (zd (i := .istore_n 2) (n := 1) (by decide +kernel)) rfl (by decide +kernel) <|
    (zj (hj 1) (by decide +kernel))
noncomputable def b_X4_keepOnly_1 : zBl := fun jp K => oIld 2 <| oAld 0 <| oGetR 4 5 <| oAlen <| oIc zge zlt (jp 5) (jp 2)
theorem s_X4_keepOnly_1 (d : Nat) : zPb l G gh (d + 2) n_X4_keepOnly p_X4_keepOnly 2 b_X4_keepOnly_1 := fun K jp hj =>
    z_iload_n (n := 2) (i := 2) (zd (i := .iload_n 2) (n := 1) (by decide +kernel)) rfl <|
    z_aload_n (n := 0) (i := 0) (zd (i := .aload_n 0) (n := 1) (by decide +kernel)) rfl <|
    z_getR (ci := 4) (j := 5) (idx := 28) (zd (i := .getfield 28) (n := 3) (by decide +kernel)) (by decide +kernel) (by decide +kernel) rfl g382 <|
    z_alen (zd (i := .arraylength) (n := 1) (by decide +kernel)) <|
    z_icmp_ge (off := 19) (tgt := 27) (zd (i := .if_icmp .ge (19)) (n := 3) (by decide +kernel)) (by decide +kernel) (zj (hj 5) (by decide +kernel)) (zj (hj 2) (by decide +kernel))
noncomputable def b_X4_keepOnly_2 : zBl := fun jp K => oIld 2 <| oIld 1 <| oIc zeq zne (jp 4) (jp 3)
theorem s_X4_keepOnly_2 (d : Nat) : zPb l G gh (d + 2) n_X4_keepOnly p_X4_keepOnly 11 b_X4_keepOnly_2 := fun K jp hj =>
    z_iload_n (n := 2) (i := 2) (zd (i := .iload_n 2) (n := 1) (by decide +kernel)) rfl <|
    z_iload_n (n := 1) (i := 1) (zd (i := .iload_n 1) (n := 1) (by decide +kernel)) rfl <|
    z_icmp_eq (off := 8) (tgt := 21) (zd (i := .if_icmp .eq (8)) (n := 3) (by decide +kernel)) (by decide +kernel) (zj (hj 4) (by decide +kernel)) (zj (hj 3) (by decide +kernel))
noncomputable def b_X4_keepOnly_3 : zBl := fun jp K => oAld 0 <| oIld 2 <| oCv 4 1 f_X4_end <| jp 4
theorem s_X4_keepOnly_3 (d : Nat) : zPb l G gh (d + 2) n_X4_keepOnly p_X4_keepOnly 16 b_X4_keepOnly_3 := fun K jp hj =>
    z_aload_n (n := 0) (i := 0) (zd (i := .aload_n 0) (n := 1) (by decide +kernel)) rfl <|
    z_iload_n (n := 2) (i := 2) (zd (i := .iload_n 2) (n := 1) (by decide +kernel)) rfl <|
    z_callV (idx := 56) (ci := 4) (N := n_X4_end) (zd (i := .invokevirtual 56) (n := 3) (by decide +kernel)) to_X4_end g692 g693 g694 (by decide +kernel) rfl rfl rfl (c_X4_end (l := l) (G := G) (gh := gh) d) <|
    (zj (hj 4) (by decide +kernel))
noncomputable def b_X4_keepOnly_4 : zBl := fun jp K => oInc 2 2147483649 <| jp 1
theorem s_X4_keepOnly_4 (d : Nat) : zPb l G gh (d + 2) n_X4_keepOnly p_X4_keepOnly 21 b_X4_keepOnly_4 := fun K jp hj =>
    z_iinc (i := 2) (n := 1) (zd (i := .iinc 2 (1)) (n := 3) (by decide +kernel)) (by decide +kernel) (by decide +kernel) <|
    z_goto (off := -22) (tgt := 2) (zd (i := .goto (-22)) (n := 3) (by decide +kernel)) (by decide +kernel) (zj (hj 1) (by decide +kernel))
noncomputable def b_X4_keepOnly_5 : zBl := fun jp K => oVret K
theorem s_X4_keepOnly_5 (d : Nat) : zPb l G gh (d + 2) n_X4_keepOnly p_X4_keepOnly 27 b_X4_keepOnly_5 := fun K jp hj =>
    z_vret (zd (i := .return_) (n := 1) (by decide +kernel)) rfl
noncomputable def f_X4_keepOnly : zMt := zmet 3 [b_X4_keepOnly_0, b_X4_keepOnly_1, b_X4_keepOnly_2, b_X4_keepOnly_3, b_X4_keepOnly_4, b_X4_keepOnly_5]
theorem c_X4_keepOnly (d : Nat) : zC l G gh (d + 2) n_X4_keepOnly f_X4_keepOnly := zmet_ok (pcs := p_X4_keepOnly) (by decide) rfl rfl ⟨s_X4_keepOnly_0 d, s_X4_keepOnly_1 d, s_X4_keepOnly_2 d, s_X4_keepOnly_3 d, s_X4_keepOnly_4 d, s_X4_keepOnly_5 d, trivial⟩
def n_X4_begin : qMn := (yX4_begin, cX4_begin, 3, none, 0, 0)
theorem to_X4_begin : qTo n_X4_begin 1 := ⟨g687, g107, ⟨by decide, by decide, by decide +kernel⟩, by decide⟩
def p_X4_begin : List Nat := [0, 10, 16, 38, 39, 62, 63, 84]
noncomputable def b_X4_begin_0 : zBl := fun jp K => oAld 0 <| oAld 1 <| oGetI 0 10 <| oPutI 4 0 <| oInt 2147483648 <| oIst 2 <| jp 1
theorem s_X4_begin_0 (d : Nat) : zPb l G gh (d + 3) n_X4_begin p_X4_begin 0 b_X4_begin_0 := fun K jp hj =>
    z_aload_n (n := 0) (i := 0) (zd (i := .aload_n 0) (n := 1) (by decide +kernel)) rfl <|
    z_aload_n (n := 1) (i := 1) (zd (i := .aload_n 1) (n := 1) (by decide +kernel)) rfl <|
    z_getI (ci := 0) (j := 10) (idx := 34) (zd (i := .getfield 34) (n := 3) (by decide +kernel)) (by decide +kernel) (by decide +kernel) rfl g299 <|
    z_putI (ci := 4) (j := 0) (idx := 9) (zd (i := .putfield 9) (n := 3) (by decide +kernel)) (by decide +kernel) (by decide +kernel) rfl g367 (Or.inl rfl) <|
    z_iconst (n := 0) (zd (i := .iconst (0)) (n := 1) (by decide +kernel)) (by decide +kernel) <|
    z_istore_n (n := 2) (i := 2) (zd (i := .istore_n 2) (n := 1) (by decide +kernel)) rfl (by decide +kernel) <|
    (zj (hj 1) (by decide +kernel))
noncomputable def b_X4_begin_1 : zBl := fun jp K => oIld 2 <| oInt 2147483654 <| oIc zge zlt (jp 7) (jp 2)
theorem s_X4_begin_1 (d : Nat) : zPb l G gh (d + 3) n_X4_begin p_X4_begin 10 b_X4_begin_1 := fun K jp hj =>
    z_iload_n (n := 2) (i := 2) (zd (i := .iload_n 2) (n := 1) (by decide +kernel)) rfl <|
    z_bipush (n := 6) (zd (i := .bipush (6)) (n := 2) (by decide +kernel)) (by decide +kernel) <|
    z_icmp_ge (off := 71) (tgt := 84) (zd (i := .if_icmp .ge (71)) (n := 3) (by decide +kernel)) (by decide +kernel) (zj (hj 7) (by decide +kernel)) (zj (hj 2) (by decide +kernel))
noncomputable def b_X4_begin_2 : zBl := fun jp K => oAld 0 <| oGetR 4 1 <| oIld 2 <| oIld 2 <| oAld 1 <| oGetI 0 5 <| oIc zge zlt (jp 3) (oFail)
theorem s_X4_begin_2 (d : Nat) : zPb l G gh (d + 3) n_X4_begin p_X4_begin 16 b_X4_begin_2 := fun K jp hj =>
    z_aload_n (n := 0) (i := 0) (zd (i := .aload_n 0) (n := 1) (by decide +kernel)) rfl <|
    z_getR (ci := 4) (j := 1) (idx := 15) (zd (i := .getfield 15) (n := 3) (by decide +kernel)) (by decide +kernel) (by decide +kernel) rfl g370 <|
    z_iload_n (n := 2) (i := 2) (zd (i := .iload_n 2) (n := 1) (by decide +kernel)) rfl <|
    z_iload_n (n := 2) (i := 2) (zd (i := .iload_n 2) (n := 1) (by decide +kernel)) rfl <|
    z_aload_n (n := 1) (i := 1) (zd (i := .aload_n 1) (n := 1) (by decide +kernel)) rfl <|
    z_getI (ci := 0) (j := 5) (idx := 39) (zd (i := .getfield 39) (n := 3) (by decide +kernel)) (by decide +kernel) (by decide +kernel) rfl g286 <|
    z_icmp_ge (off := 12) (tgt := 38) (zd (i := .if_icmp .ge (12)) (n := 3) (by decide +kernel)) (by decide +kernel) (zj (hj 3) (by decide +kernel)) z_fail
noncomputable def b_X4_begin_3 : zBl := fun jp K => oInt 2147483648 <| jp 4
theorem s_X4_begin_3 (d : Nat) : zPb l G gh (d + 3) n_X4_begin p_X4_begin 38 b_X4_begin_3 := fun K jp hj =>
    z_iconst (n := 0) (zd (i := .iconst (0)) (n := 1) (by decide +kernel)) (by decide +kernel) <|
    (zj (hj 4) (by decide +kernel))
noncomputable def b_X4_begin_4 : zBl := fun jp K => oXast 10 zid <| oAld 0 <| oGetR 4 2 <| oIld 2 <| oIld 2 <| oAld 1 <| oGetI 0 5 <| oIc zge zlt (jp 5) (oFail)
theorem s_X4_begin_4 (d : Nat) : zPb l G gh (d + 3) n_X4_begin p_X4_begin 39 b_X4_begin_4 := fun K jp hj =>
    z_iast (zd (i := .iastore) (n := 1) (by decide +kernel)) <|
    z_aload_n (n := 0) (i := 0) (zd (i := .aload_n 0) (n := 1) (by decide +kernel)) rfl <|
    z_getR (ci := 4) (j := 2) (idx := 19) (zd (i := .getfield 19) (n := 3) (by decide +kernel)) (by decide +kernel) (by decide +kernel) rfl g373 <|
    z_iload_n (n := 2) (i := 2) (zd (i := .iload_n 2) (n := 1) (by decide +kernel)) rfl <|
    z_iload_n (n := 2) (i := 2) (zd (i := .iload_n 2) (n := 1) (by decide +kernel)) rfl <|
    z_aload_n (n := 1) (i := 1) (zd (i := .aload_n 1) (n := 1) (by decide +kernel)) rfl <|
    z_getI (ci := 0) (j := 5) (idx := 39) (zd (i := .getfield 39) (n := 3) (by decide +kernel)) (by decide +kernel) (by decide +kernel) rfl g286 <|
    z_icmp_ge (off := 12) (tgt := 62) (zd (i := .if_icmp .ge (12)) (n := 3) (by decide +kernel)) (by decide +kernel) (zj (hj 5) (by decide +kernel)) z_fail
noncomputable def b_X4_begin_5 : zBl := fun jp K => oInt 2147483648 <| jp 6
theorem s_X4_begin_5 (d : Nat) : zPb l G gh (d + 3) n_X4_begin p_X4_begin 62 b_X4_begin_5 := fun K jp hj =>
    z_iconst (n := 0) (zd (i := .iconst (0)) (n := 1) (by decide +kernel)) (by decide +kernel) <|
    (zj (hj 6) (by decide +kernel))
noncomputable def b_X4_begin_6 : zBl := fun jp K => oXast 10 zid <| oAld 0 <| oGetR 4 3 <| oIld 2 <| oInt 2147483648 <| oXast 10 zid <| oAld 0 <| oGetR 4 4 <| oIld 2 <| oInt 2147483648 <| oXast 10 zid <| oInc 2 2147483649 <| jp 1
theorem s_X4_begin_6 (d : Nat) : zPb l G gh (d + 3) n_X4_begin p_X4_begin 63 b_X4_begin_6 := fun K jp hj =>
    z_iast (zd (i := .iastore) (n := 1) (by decide +kernel)) <|
    z_aload_n (n := 0) (i := 0) (zd (i := .aload_n 0) (n := 1) (by decide +kernel)) rfl <|
    z_getR (ci := 4) (j := 3) (idx := 22) (zd (i := .getfield 22) (n := 3) (by decide +kernel)) (by decide +kernel) (by decide +kernel) rfl g376 <|
    z_iload_n (n := 2) (i := 2) (zd (i := .iload_n 2) (n := 1) (by decide +kernel)) rfl <|
    z_iconst (n := 0) (zd (i := .iconst (0)) (n := 1) (by decide +kernel)) (by decide +kernel) <|
    z_iast (zd (i := .iastore) (n := 1) (by decide +kernel)) <|
    z_aload_n (n := 0) (i := 0) (zd (i := .aload_n 0) (n := 1) (by decide +kernel)) rfl <|
    z_getR (ci := 4) (j := 4) (idx := 25) (zd (i := .getfield 25) (n := 3) (by decide +kernel)) (by decide +kernel) (by decide +kernel) rfl g379 <|
    z_iload_n (n := 2) (i := 2) (zd (i := .iload_n 2) (n := 1) (by decide +kernel)) rfl <|
    z_iconst (n := 0) (zd (i := .iconst (0)) (n := 1) (by decide +kernel)) (by decide +kernel) <|
    z_iast (zd (i := .iastore) (n := 1) (by decide +kernel)) <|
    z_iinc (i := 2) (n := 1) (zd (i := .iinc 2 (1)) (n := 3) (by decide +kernel)) (by decide +kernel) (by decide +kernel) <|
    z_goto (off := -71) (tgt := 10) (zd (i := .goto (-71)) (n := 3) (by decide +kernel)) (by decide +kernel) (zj (hj 1) (by decide +kernel))
noncomputable def b_X4_begin_7 : zBl := fun jp K => oAld 0 <| oInt 2147483647 <| oCv 4 1 f_X4_keepOnly <| oVret K
theorem s_X4_begin_7 (d : Nat) : zPb l G gh (d + 3) n_X4_begin p_X4_begin 84 b_X4_begin_7 := fun K jp hj =>
    z_aload_n (n := 0) (i := 0) (zd (i := .aload_n 0) (n := 1) (by decide +kernel)) rfl <|
    z_iconst (n := -1) (zd (i := .iconst (-1)) (n := 1) (by decide +kernel)) (by decide +kernel) <|
    z_callV (idx := 46) (ci := 4) (N := n_X4_keepOnly) (zd (i := .invokevirtual 46) (n := 3) (by decide +kernel)) to_X4_keepOnly g688 g689 g690 (by decide +kernel) rfl rfl rfl (c_X4_keepOnly (l := l) (G := G) (gh := gh) d) <|
    z_vret (zd (i := .return_) (n := 1) (by decide +kernel)) rfl
noncomputable def f_X4_begin : zMt := zmet 3 [b_X4_begin_0, b_X4_begin_1, b_X4_begin_2, b_X4_begin_3, b_X4_begin_4, b_X4_begin_5, b_X4_begin_6, b_X4_begin_7]
theorem c_X4_begin (d : Nat) : zC l G gh (d + 3) n_X4_begin f_X4_begin := zmet_ok (pcs := p_X4_begin) (by decide) rfl rfl ⟨s_X4_begin_0 d, s_X4_begin_1 d, s_X4_begin_2 d, s_X4_begin_3 d, s_X4_begin_4 d, s_X4_begin_5 d, s_X4_begin_6 d, s_X4_begin_7 d, trivial⟩
def n_X3_clear : qMn := (yX3_clear, cX3_clear, 1, none, 0, 0)
theorem to_X3_clear : qTo n_X3_clear 0 := ⟨g699, g108, ⟨by decide, by decide, by decide +kernel⟩, by decide⟩
def p_X3_clear : List Nat := [0]
noncomputable def b_X3_clear_0 : zBl := fun jp K => oAld 0 <| oInt 2147483648 <| oPutI 3 2 <| oVret K
theorem s_X3_clear_0 (d : Nat) : zPb l G gh (d + 1) n_X3_clear p_X3_clear 0 b_X3_clear_0 := fun K jp hj =>
    z_aload_n (n := 0) (i := 0) (zd (i := .aload_n 0) (n := 1) (by decide +kernel)) rfl <|
    z_iconst (n := 0) (zd (i := .iconst (0)) (n := 1) (by decide +kernel)) (by decide +kernel) <|
    z_putI (ci := 3) (j := 2) (idx := 19) (zd (i := .putfield 19) (n := 3) (by decide +kernel)) (by decide +kernel) (by decide +kernel) rfl g414 (Or.inl rfl) <|
    z_vret (zd (i := .return_) (n := 1) (by decide +kernel)) rfl
noncomputable def f_X3_clear : zMt := zmet 1 [b_X3_clear_0]
theorem c_X3_clear (d : Nat) : zC l G gh (d + 1) n_X3_clear f_X3_clear := zmet_ok (pcs := p_X3_clear) (by decide) rfl rfl ⟨s_X3_clear_0 d, trivial⟩
def n_X8_beginAnew : qMn := (yX8_beginAnew, cX8_beginAnew, 2, none, 0, 0)
theorem to_X8_beginAnew : qTo n_X8_beginAnew 0 := ⟨g683, g97, ⟨by decide, by decide, by decide +kernel⟩, by decide⟩
def p_X8_beginAnew : List Nat := [0, 28, 33, 46]
noncomputable def b_X8_beginAnew_0 : zBl := fun jp K => oAld 0 <| oGetR 8 2 <| oAld 0 <| oGetR 8 12 <| oCv 4 1 f_X4_begin <| oAld 0 <| oGetR 8 4 <| oCv 3 0 f_X3_clear <| oAld 0 <| oGetR 8 7 <| oInt 2147483648 <| oPutI 7 0 <| oInt 2147483648 <| oIst 1 <| jp 1
theorem s_X8_beginAnew_0 (d : Nat) : zPb l G gh (d + 4) n_X8_beginAnew p_X8_beginAnew 0 b_X8_beginAnew_0 := fun K jp hj =>
    z_aload_n (n := 0) (i := 0) (zd (i := .aload_n 0) (n := 1) (by decide +kernel)) rfl <|
    z_getR (ci := 8) (j := 2) (idx := 26) (zd (i := .getfield 26) (n := 3) (by decide +kernel)) (by decide +kernel) (by decide +kernel) rfl g454 <|
    z_aload_n (n := 0) (i := 0) (zd (i := .aload_n 0) (n := 1) (by decide +kernel)) rfl <|
    z_getR (ci := 8) (j := 12) (idx := 71) (zd (i := .getfield 71) (n := 3) (by decide +kernel)) (by decide +kernel) (by decide +kernel) rfl g464 <|
    z_callV (idx := 107) (ci := 4) (N := n_X4_begin) (zd (i := .invokevirtual 107) (n := 3) (by decide +kernel)) to_X4_begin g684 g685 g686 (by decide +kernel) rfl rfl rfl (c_X4_begin (l := l) (G := G) (gh := gh) d) <|
    z_aload_n (n := 0) (i := 0) (zd (i := .aload_n 0) (n := 1) (by decide +kernel)) rfl <|
    z_getR (ci := 8) (j := 4) (idx := 36) (zd (i := .getfield 36) (n := 3) (by decide +kernel)) (by decide +kernel) (by decide +kernel) rfl g456 <|
    z_callV (idx := 111) (ci := 3) (N := n_X3_clear) (zd (i := .invokevirtual 111) (n := 3) (by decide +kernel)) to_X3_clear g696 g697 g698 (by decide +kernel) rfl rfl rfl (c_X3_clear (l := l) (G := G) (gh := gh) (d + 2)) <|
    z_aload_n (n := 0) (i := 0) (zd (i := .aload_n 0) (n := 1) (by decide +kernel)) rfl <|
    z_getR (ci := 8) (j := 7) (idx := 51) (zd (i := .getfield 51) (n := 3) (by decide +kernel)) (by decide +kernel) (by decide +kernel) rfl g459 <|
    z_iconst (n := 0) (zd (i := .iconst (0)) (n := 1) (by decide +kernel)) (by decide +kernel) <|
    z_putI (ci := 7) (j := 0) (idx := 114) (zd (i := .putfield 114) (n := 3) (by decide +kernel)) (by decide +kernel) (by decide +kernel) rfl g430 (Or.inl rfl) <|
    z_iconst (n := 0) (zd (i := .iconst (0)) (n := 1) (by decide +kernel)) (by decide +kernel) <|
    z_istore_n (n := 1) (i := 1) (zd (i := .istore_n 1) (n := 1) (by decide +kernel)) rfl (by decide +kernel) <|
    (zj (hj 1) (by decide +kernel))
noncomputable def b_X8_beginAnew_1 : zBl := fun jp K => oIld 1 <| oInt 2147483651 <| oIc zge zlt (jp 3) (jp 2)
theorem s_X8_beginAnew_1 (d : Nat) : zPb l G gh (d + 4) n_X8_beginAnew p_X8_beginAnew 28 b_X8_beginAnew_1 := fun K jp hj =>
    z_iload_n (n := 1) (i := 1) (zd (i := .iload_n 1) (n := 1) (by decide +kernel)) rfl <|
    z_iconst (n := 3) (zd (i := .iconst (3)) (n := 1) (by decide +kernel)) (by decide +kernel) <|
    z_icmp_ge (off := 16) (tgt := 46) (zd (i := .if_icmp .ge (16)) (n := 3) (by decide +kernel)) (by decide +kernel) (zj (hj 3) (by decide +kernel)) (zj (hj 2) (by decide +kernel))
noncomputable def b_X8_beginAnew_2 : zBl := fun jp K => oAld 0 <| oGetR 8 6 <| oIld 1 <| oInt 2147483648 <| oXast 12 znz1 <| oInc 1 2147483649 <| jp 1
theorem s_X8_beginAnew_2 (d : Nat) : zPb l G gh (d + 4) n_X8_beginAnew p_X8_beginAnew 33 b_X8_beginAnew_2 := fun K jp hj =>
    z_aload_n (n := 0) (i := 0) (zd (i := .aload_n 0) (n := 1) (by decide +kernel)) rfl <|
    z_getR (ci := 8) (j := 6) (idx := 44) (zd (i := .getfield 44) (n := 3) (by decide +kernel)) (by decide +kernel) (by decide +kernel) rfl g458 <|
    z_iload_n (n := 1) (i := 1) (zd (i := .iload_n 1) (n := 1) (by decide +kernel)) rfl <|
    z_iconst (n := 0) (zd (i := .iconst (0)) (n := 1) (by decide +kernel)) (by decide +kernel) <|
    z_zast (zd (i := .bastore) (n := 1) (by decide +kernel)) <|
    z_iinc (i := 1) (n := 1) (zd (i := .iinc 1 (1)) (n := 3) (by decide +kernel)) (by decide +kernel) (by decide +kernel) <|
    z_goto (off := -15) (tgt := 28) (zd (i := .goto (-15)) (n := 3) (by decide +kernel)) (by decide +kernel) (zj (hj 1) (by decide +kernel))
noncomputable def b_X8_beginAnew_3 : zBl := fun jp K => oVret K
theorem s_X8_beginAnew_3 (d : Nat) : zPb l G gh (d + 4) n_X8_beginAnew p_X8_beginAnew 46 b_X8_beginAnew_3 := fun K jp hj =>
    z_vret (zd (i := .return_) (n := 1) (by decide +kernel)) rfl
noncomputable def f_X8_beginAnew : zMt := zmet 2 [b_X8_beginAnew_0, b_X8_beginAnew_1, b_X8_beginAnew_2, b_X8_beginAnew_3]
theorem c_X8_beginAnew (d : Nat) : zC l G gh (d + 4) n_X8_beginAnew f_X8_beginAnew := zmet_ok (pcs := p_X8_beginAnew) (by decide) rfl rfl ⟨s_X8_beginAnew_0 d, s_X8_beginAnew_1 d, s_X8_beginAnew_2 d, s_X8_beginAnew_3 d, trivial⟩
def n_X8_read : qMn := (yX8_read, cX8_read, 2, (some Jvm.ClassFile.FieldType.int), 0, 0)
theorem to_X8_read : qTo n_X8_read 0 := ⟨g518, g97, ⟨by decide, by decide, by decide +kernel⟩, by decide⟩
def p_X8_read : List Nat := [0, 42, 61]
noncomputable def b_X8_read_0 : zBl := fun jp K => oAld 0 <| oGetR 8 1 <| oAld 0 <| oGetR 8 0 <| oCv 1 1 f_X1_parse <| oIst 1 <| oAld 0 <| oAld 0 <| oGetR 8 1 <| oGetI 1 5 <| oPutI 8 13 <| oAld 0 <| oGetR 8 0 <| oAld 0 <| oGetR 8 0 <| oGetI 5 1 <| oCv 5 1 f_X5_drop <| oPop <| oIld 1 <| oIf zne zeq (jp 2) (jp 1)
theorem s_X8_read_0 (d : Nat) : zPb l G gh (d + 6) n_X8_read p_X8_read 0 b_X8_read_0 := fun K jp hj =>
    z_aload_n (n := 0) (i := 0) (zd (i := .aload_n 0) (n := 1) (by decide +kernel)) rfl <|
    z_getR (ci := 8) (j := 1) (idx := 19) (zd (i := .getfield 19) (n := 3) (by decide +kernel)) (by decide +kernel) (by decide +kernel) rfl g453 <|
    z_aload_n (n := 0) (i := 0) (zd (i := .aload_n 0) (n := 1) (by decide +kernel)) rfl <|
    z_getR (ci := 8) (j := 0) (idx := 12) (zd (i := .getfield 12) (n := 3) (by decide +kernel)) (by decide +kernel) (by decide +kernel) rfl g452 <|
    z_callV (idx := 93) (ci := 1) (N := n_X1_parse) (zd (i := .invokevirtual 93) (n := 3) (by decide +kernel)) to_X1_parse g519 g520 g521 (by decide +kernel) rfl rfl rfl (c_X1_parse (l := l) (G := G) (gh := gh) d) <|
    z_istore_n (n := 1) (i := 1) (zd (i := .istore_n 1) (n := 1) (by decide +kernel)) rfl (by decide +kernel) <|
    z_aload_n (n := 0) (i := 0) (zd (i := .aload_n 0) (n := 1) (by decide +kernel)) rfl <|
    z_aload_n (n := 0) (i := 0) (zd (i := .aload_n 0) (n := 1) (by decide +kernel)) rfl <|
    z_getR (ci := 8) (j := 1) (idx := 19) (zd (i := .getfield 19) (n := 3) (by decide +kernel)) (by decide +kernel) (by decide +kernel) rfl g453 <|
    z_getI (ci := 1) (j := 5) (idx := 97) (zd (i := .getfield 97) (n := 3) (by decide +kernel)) (by decide +kernel) (by decide +kernel) rfl g341 <|
    z_putI (ci := 8) (j := 13) (idx := 75) (zd (i := .putfield 75) (n := 3) (by decide +kernel)) (by decide +kernel) (by decide +kernel) rfl g465 (Or.inl rfl) <|
    z_aload_n (n := 0) (i := 0) (zd (i := .aload_n 0) (n := 1) (by decide +kernel)) rfl <|
    z_getR (ci := 8) (j := 0) (idx := 12) (zd (i := .getfield 12) (n := 3) (by decide +kernel)) (by decide +kernel) (by decide +kernel) rfl g452 <|
    z_aload_n (n := 0) (i := 0) (zd (i := .aload_n 0) (n := 1) (by decide +kernel)) rfl <|
    z_getR (ci := 8) (j := 0) (idx := 12) (zd (i := .getfield 12) (n := 3) (by decide +kernel)) (by decide +kernel) (by decide +kernel) rfl g452 <|
    z_getI (ci := 5) (j := 1) (idx := 87) (zd (i := .getfield 87) (n := 3) (by decide +kernel)) (by decide +kernel) (by decide +kernel) rfl g131 <|
    z_callV (idx := 90) (ci := 5) (N := n_X5_drop) (zd (i := .invokevirtual 90) (n := 3) (by decide +kernel)) to_X5_drop g511 g512 g513 (by decide +kernel) rfl rfl rfl (c_X5_drop (l := l) (G := G) (gh := gh) (d + 4)) <|
    z_pop (zd (i := .pop) (n := 1) (by decide +kernel)) <|
    z_iload_n (n := 1) (i := 1) (zd (i := .iload_n 1) (n := 1) (by decide +kernel)) rfl <|
    z_if_ne (off := 22) (tgt := 61) (zd (i := .ifCond .ne (22)) (n := 3) (by decide +kernel)) (by decide +kernel) (zj (hj 2) (by decide +kernel)) (zj (hj 1) (by decide +kernel))
noncomputable def b_X8_read_1 : zBl := fun jp K => oAld 0 <| oAld 0 <| oGetR 8 1 <| oAld 0 <| oGetR 8 12 <| oCv 1 1 f_X1_handOver <| oPutR 8 12 <| oAld 0 <| oCv 8 0 f_X8_beginAnew <| jp 2
theorem s_X8_read_1 (d : Nat) : zPb l G gh (d + 6) n_X8_read p_X8_read 42 b_X8_read_1 := fun K jp hj =>
    z_aload_n (n := 0) (i := 0) (zd (i := .aload_n 0) (n := 1) (by decide +kernel)) rfl <|
    z_aload_n (n := 0) (i := 0) (zd (i := .aload_n 0) (n := 1) (by decide +kernel)) rfl <|
    z_getR (ci := 8) (j := 1) (idx := 19) (zd (i := .getfield 19) (n := 3) (by decide +kernel)) (by decide +kernel) (by decide +kernel) rfl g453 <|
    z_aload_n (n := 0) (i := 0) (zd (i := .aload_n 0) (n := 1) (by decide +kernel)) rfl <|
    z_getR (ci := 8) (j := 12) (idx := 71) (zd (i := .getfield 71) (n := 3) (by decide +kernel)) (by decide +kernel) (by decide +kernel) rfl g464 <|
    z_callV (idx := 100) (ci := 1) (N := n_X1_handOver) (zd (i := .invokevirtual 100) (n := 3) (by decide +kernel)) to_X1_handOver g676 g677 g678 (by decide +kernel) rfl rfl rfl (c_X1_handOver (l := l) (G := G) (gh := gh) (d + 4)) <|
    z_putR (ci := 8) (j := 12) (idx := 71) (zd (i := .putfield 71) (n := 3) (by decide +kernel)) (by decide +kernel) (by decide +kernel) (fun r => by cases r <;> rfl) (fun r => by cases r <;> rfl) rfl g464 (Or.inl rfl) <|
    z_aload_n (n := 0) (i := 0) (zd (i := .aload_n 0) (n := 1) (by decide +kernel)) rfl <|
    z_callV (idx := 104) (ci := 8) (N := n_X8_beginAnew) (zd (i := .invokevirtual 104) (n := 3) (by decide +kernel)) to_X8_beginAnew g680 g682 g16 (by decide +kernel) rfl rfl rfl (c_X8_beginAnew (l := l) (G := G) (gh := gh) (d + 1)) <|
    (zj (hj 2) (by decide +kernel))
noncomputable def b_X8_read_2 : zBl := fun jp K => oIld 1 <| oIret K
theorem s_X8_read_2 (d : Nat) : zPb l G gh (d + 6) n_X8_read p_X8_read 61 b_X8_read_2 := fun K jp hj =>
    z_iload_n (n := 1) (i := 1) (zd (i := .iload_n 1) (n := 1) (by decide +kernel)) rfl <|
    z_iret (zd (i := .ireturn) (n := 1) (by decide +kernel)) rfl
noncomputable def f_X8_read : zMt := zmet 2 [b_X8_read_0, b_X8_read_1, b_X8_read_2]
theorem c_X8_read (d : Nat) : zC l G gh (d + 6) n_X8_read f_X8_read := zmet_ok (pcs := p_X8_read) (by decide) rfl rfl ⟨s_X8_read_0 d, s_X8_read_1 d, s_X8_read_2 d, trivial⟩
def n_X9_byteAt : qMn := (yX9_byteAt, cX9_byteAt, 2, (some Jvm.ClassFile.FieldType.int), 0, 0)
theorem to_X9_byteAt : qTo n_X9_byteAt 1 := ⟨g1347, g110, ⟨by decide, by decide, by decide +kernel⟩, by decide⟩
def p_X9_byteAt : List Nat := [0, 21, 22]
noncomputable def b_X9_byteAt_0 : zBl := fun jp K => oIld 1 <| oAld 0 <| oGetI 9 4 <| oIc zge zlt (jp 1) (oFail)
theorem s_X9_byteAt_0 (d : Nat) : zPb l G gh (d + 1) n_X9_byteAt p_X9_byteAt 0 b_X9_byteAt_0 := fun K jp hj =>
    z_iload_n (n := 1) (i := 1) (zd (i := .iload_n 1) (n := 1) (by decide +kernel)) rfl <|
    z_aload_n (n := 0) (i := 0) (zd (i := .aload_n 0) (n := 1) (by decide +kernel)) rfl <|
    z_getI (ci := 9) (j := 4) (idx := 173) (zd (i := .getfield 173) (n := 3) (by decide +kernel)) (by decide +kernel) (by decide +kernel) rfl g1132 <|
    z_icmp_ge (off := 16) (tgt := 21) (zd (i := .if_icmp .ge (16)) (n := 3) (by decide +kernel)) (by decide +kernel) (zj (hj 1) (by decide +kernel)) z_fail
noncomputable def b_X9_byteAt_1 : zBl := fun jp K => oInt 2147483648 <| jp 2
theorem s_X9_byteAt_1 (d : Nat) : zPb l G gh (d + 1) n_X9_byteAt p_X9_byteAt 21 b_X9_byteAt_1 := fun K jp hj =>
    z_iconst (n := 0) (zd (i := .iconst (0)) (n := 1) (by decide +kernel)) (by decide +kernel) <|
    (zj (hj 2) (by decide +kernel))
noncomputable def b_X9_byteAt_2 : zBl := fun jp K => oIret K
theorem s_X9_byteAt_2 (d : Nat) : zPb l G gh (d + 1) n_X9_byteAt p_X9_byteAt 22 b_X9_byteAt_2 := fun K jp hj =>
    z_iret (zd (i := .ireturn) (n := 1) (by decide +kernel)) rfl
noncomputable def f_X9_byteAt : zMt := zmet 2 [b_X9_byteAt_0, b_X9_byteAt_1, b_X9_byteAt_2]
theorem c_X9_byteAt (d : Nat) : zC l G gh (d + 1) n_X9_byteAt f_X9_byteAt := zmet_ok (pcs := p_X9_byteAt) (by decide) rfl rfl ⟨s_X9_byteAt_0 d, s_X9_byteAt_1 d, s_X9_byteAt_2 d, trivial⟩
def n_X9_token : qMn := (yX9_token, cX9_token, 6, none, 0, 0)
theorem to_X9_token : qTo n_X9_token 4 := ⟨g1351, g110, ⟨by decide, by decide, by decide +kernel⟩, by decide⟩
def p_X9_token : List Nat := [0]
noncomputable def b_X9_token_0 : zBl := fun jp K => oAld 0 <| oGetR 9 5 <| oAld 0 <| oGetI 9 10 <| oIld 1 <| oXast 10 zid <| oAld 0 <| oGetR 9 6 <| oAld 0 <| oGetI 9 10 <| oIld 2 <| oXast 10 zid <| oAld 0 <| oGetR 9 7 <| oAld 0 <| oGetI 9 10 <| oIld 3 <| oXast 10 zid <| oAld 0 <| oGetR 9 8 <| oAld 0 <| oGetI 9 10 <| oLld 4 <| oLast <| oAld 0 <| oDup <| oGetI 9 10 <| oInt 2147483649 <| oB2 zadd <| oPutI 9 10 <| oVret K
theorem s_X9_token_0 (d : Nat) : zPb l G gh (d + 1) n_X9_token p_X9_token 0 b_X9_token_0 := fun K jp hj =>
    z_aload_n (n := 0) (i := 0) (zd (i := .aload_n 0) (n := 1) (by decide +kernel)) rfl <|
    z_getR (ci := 9) (j := 5) (idx := 20) (zd (i := .getfield 20) (n := 3) (by decide +kernel)) (by decide +kernel) (by decide +kernel) rfl g1133 <|
    z_aload_n (n := 0) (i := 0) (zd (i := .aload_n 0) (n := 1) (by decide +kernel)) rfl <|
    z_getI (ci := 9) (j := 10) (idx := 178) (zd (i := .getfield 178) (n := 3) (by decide +kernel)) (by decide +kernel) (by decide +kernel) rfl g1138 <|
    z_iload_n (n := 1) (i := 1) (zd (i := .iload_n 1) (n := 1) (by decide +kernel)) rfl <|
    z_iast (zd (i := .iastore) (n := 1) (by decide +kernel)) <|
    z_aload_n (n := 0) (i := 0) (zd (i := .aload_n 0) (n := 1) (by decide +kernel)) rfl <|
    z_getR (ci := 9) (j := 6) (idx := 24) (zd (i := .getfield 24) (n := 3) (by decide +kernel)) (by decide +kernel) (by decide +kernel) rfl g1134 <|
    z_aload_n (n := 0) (i := 0) (zd (i := .aload_n 0) (n := 1) (by decide +kernel)) rfl <|
    z_getI (ci := 9) (j := 10) (idx := 178) (zd (i := .getfield 178) (n := 3) (by decide +kernel)) (by decide +kernel) (by decide +kernel) rfl g1138 <|
    z_iload_n (n := 2) (i := 2) (zd (i := .iload_n 2) (n := 1) (by decide +kernel)) rfl <|
    z_iast (zd (i := .iastore) (n := 1) (by decide +kernel)) <|
    z_aload_n (n := 0) (i := 0) (zd (i := .aload_n 0) (n := 1) (by decide +kernel)) rfl <|
    z_getR (ci := 9) (j := 7) (idx := 27) (zd (i := .getfield 27) (n := 3) (by decide +kernel)) (by decide +kernel) (by decide +kernel) rfl g1135 <|
    z_aload_n (n := 0) (i := 0) (zd (i := .aload_n 0) (n := 1) (by decide +kernel)) rfl <|
    z_getI (ci := 9) (j := 10) (idx := 178) (zd (i := .getfield 178) (n := 3) (by decide +kernel)) (by decide +kernel) (by decide +kernel) rfl g1138 <|
    z_iload_n (n := 3) (i := 3) (zd (i := .iload_n 3) (n := 1) (by decide +kernel)) rfl <|
    z_iast (zd (i := .iastore) (n := 1) (by decide +kernel)) <|
    z_aload_n (n := 0) (i := 0) (zd (i := .aload_n 0) (n := 1) (by decide +kernel)) rfl <|
    z_getR (ci := 9) (j := 8) (idx := 30) (zd (i := .getfield 30) (n := 3) (by decide +kernel)) (by decide +kernel) (by decide +kernel) rfl g1136 <|
    z_aload_n (n := 0) (i := 0) (zd (i := .aload_n 0) (n := 1) (by decide +kernel)) rfl <|
    z_getI (ci := 9) (j := 10) (idx := 178) (zd (i := .getfield 178) (n := 3) (by decide +kernel)) (by decide +kernel) (by decide +kernel) rfl g1138 <|
    z_lload (i := 4) (zd (i := .lload 4) (n := 2) (by decide +kernel)) <|
    z_last (zd (i := .lastore) (n := 1) (by decide +kernel)) <|
    z_aload_n (n := 0) (i := 0) (zd (i := .aload_n 0) (n := 1) (by decide +kernel)) rfl <|
    z_dup (zd (i := .dup) (n := 1) (by decide +kernel)) <|
    z_getI (ci := 9) (j := 10) (idx := 178) (zd (i := .getfield 178) (n := 3) (by decide +kernel)) (by decide +kernel) (by decide +kernel) rfl g1138 <|
    z_iconst (n := 1) (zd (i := .iconst (1)) (n := 1) (by decide +kernel)) (by decide +kernel) <|
    z_iadd (zd (i := .iadd) (n := 1) (by decide +kernel)) <|
    z_putI (ci := 9) (j := 10) (idx := 178) (zd (i := .putfield 178) (n := 3) (by decide +kernel)) (by decide +kernel) (by decide +kernel) rfl g1138 (Or.inl rfl) <|
    z_vret (zd (i := .return_) (n := 1) (by decide +kernel)) rfl
noncomputable def f_X9_token : zMt := zmet 6 [b_X9_token_0]
theorem c_X9_token (d : Nat) : zC l G gh (d + 1) n_X9_token f_X9_token := zmet_ok (pcs := p_X9_token) (by decide) rfl rfl ⟨s_X9_token_0 d, trivial⟩
def n_X9_cut : qMn := (yX9_cut, cX9_cut, 8, none, 0, 0)
theorem to_X9_cut : qTo n_X9_cut 0 := ⟨g1343, g110, ⟨by decide, by decide, by decide +kernel⟩, by decide⟩
def p_X9_cut : List Nat := [0, 7, 17, 31]
noncomputable def b_X9_cut_0 : zBl := fun jp K => oAld 0 <| oInt 2147483648 <| oPutI 9 10 <| oInt 2147483648 <| oIst 1 <| jp 1
theorem s_X9_cut_0 (d : Nat) : zPb l G gh (d + 2) n_X9_cut p_X9_cut 0 b_X9_cut_0 := fun K jp hj =>
    z_aload_n (n := 0) (i := 0) (zd (i := .aload_n 0) (n := 1) (by decide +kernel)) rfl <|
    z_iconst (n := 0) (zd (i := .iconst (0)) (n := 1) (by decide +kernel)) (by decide +kernel) <|
    z_putI (ci := 9) (j := 10) (idx := 178) (zd (i := .putfield 178) (n := 3) (by decide +kernel)) (by decide +kernel) (by decide +kernel) rfl g1138 (Or.inl rfl) <|
    z_iconst (n := 0) (zd (i := .iconst (0)) (n := 1) (by decide +kernel)) (by decide +kernel) <|
    z_istore_n (n := 1) (i := 1) (zd (i := .istore_n 1) (n := 1) (by decide +kernel)) rfl (by decide +kernel) <|
    (zj (hj 1) (by decide +kernel))
noncomputable def b_X9_cut_1 : zBl := fun jp K => oAld 0 <| oGetI 9 10 <| oInt 2147484048 <| oIc zgt zle (oFail) (jp 2)
theorem s_X9_cut_1 (d : Nat) : zPb l G gh (d + 2) n_X9_cut p_X9_cut 7 b_X9_cut_1 := fun K jp hj =>
    z_aload_n (n := 0) (i := 0) (zd (i := .aload_n 0) (n := 1) (by decide +kernel)) rfl <|
    z_getI (ci := 9) (j := 10) (idx := 178) (zd (i := .getfield 178) (n := 3) (by decide +kernel)) (by decide +kernel) (by decide +kernel) rfl g1138 <|
    z_sipush (n := 400) (zd (i := .sipush (400)) (n := 3) (by decide +kernel)) (by decide +kernel) <|
    z_icmp_gt (off := 280) (tgt := 294) (zd (i := .if_icmp .gt (280)) (n := 3) (by decide +kernel)) (by decide +kernel) z_fail (zj (hj 2) (by decide +kernel))
noncomputable def b_X9_cut_2 : zBl := fun jp K => oAld 0 <| oIld 1 <| oCv 9 1 f_X9_byteAt <| oIst 2 <| oIld 1 <| oAld 0 <| oGetI 9 4 <| oIc zlt zge (oFail) (jp 3)
theorem s_X9_cut_2 (d : Nat) : zPb l G gh (d + 2) n_X9_cut p_X9_cut 17 b_X9_cut_2 := fun K jp hj =>
    z_aload_n (n := 0) (i := 0) (zd (i := .aload_n 0) (n := 1) (by decide +kernel)) rfl <|
    z_iload_n (n := 1) (i := 1) (zd (i := .iload_n 1) (n := 1) (by decide +kernel)) rfl <|
    z_callV (idx := 181) (ci := 9) (N := n_X9_byteAt) (zd (i := .invokevirtual 181) (n := 3) (by decide +kernel)) to_X9_byteAt g1344 g1346 g46 (by decide +kernel) rfl rfl rfl (c_X9_byteAt (l := l) (G := G) (gh := gh) d) <|
    z_istore_n (n := 2) (i := 2) (zd (i := .istore_n 2) (n := 1) (by decide +kernel)) rfl (by decide +kernel) <|
    z_iload_n (n := 1) (i := 1) (zd (i := .iload_n 1) (n := 1) (by decide +kernel)) rfl <|
    z_aload_n (n := 0) (i := 0) (zd (i := .aload_n 0) (n := 1) (by decide +kernel)) rfl <|
    z_getI (ci := 9) (j := 4) (idx := 173) (zd (i := .getfield 173) (n := 3) (by decide +kernel)) (by decide +kernel) (by decide +kernel) rfl g1132 <|
    z_icmp_lt (off := 15) (tgt := 43) (zd (i := .if_icmp .lt (15)) (n := 3) (by decide +kernel)) (by decide +kernel) z_fail (zj (hj 3) (by decide +kernel))
noncomputable def b_X9_cut_3 : zBl := fun jp K => oAld 0 <| oInt 2147483648 <| oAld 0 <| oGetI 9 4 <| oInt 2147483648 <| oLng 0 <| oCv 9 4 f_X9_token <| oVret K
theorem s_X9_cut_3 (d : Nat) : zPb l G gh (d + 2) n_X9_cut p_X9_cut 31 b_X9_cut_3 := fun K jp hj =>
    z_aload_n (n := 0) (i := 0) (zd (i := .aload_n 0) (n := 1) (by decide +kernel)) rfl <|
    z_iconst (n := 0) (zd (i := .iconst (0)) (n := 1) (by decide +kernel)) (by decide +kernel) <|
    z_aload_n (n := 0) (i := 0) (zd (i := .aload_n 0) (n := 1) (by decide +kernel)) rfl <|
    z_getI (ci := 9) (j := 4) (idx := 173) (zd (i := .getfield 173) (n := 3) (by decide +kernel)) (by decide +kernel) (by decide +kernel) rfl g1132 <|
    z_iconst (n := 0) (zd (i := .iconst (0)) (n := 1) (by decide +kernel)) (by decide +kernel) <|
    z_lconst (n := 0) (zd (i := .lconst 0) (n := 1) (by decide +kernel)) rfl <|
    z_callV (idx := 185) (ci := 9) (N := n_X9_token) (zd (i := .invokevirtual 185) (n := 3) (by decide +kernel)) to_X9_token g1348 g1350 g47 (by decide +kernel) rfl rfl rfl (c_X9_token (l := l) (G := G) (gh := gh) d) <|
    z_vret (zd (i := .return_) (n := 1) (by decide +kernel)) rfl
noncomputable def f_X9_cut : zMt := zmet 8 [b_X9_cut_0, b_X9_cut_1, b_X9_cut_2, b_X9_cut_3]
theorem c_X9_cut (d : Nat) : zC l G gh (d + 2) n_X9_cut f_X9_cut := zmet_ok (pcs := p_X9_cut) (by decide) rfl rfl ⟨s_X9_cut_0 d, s_X9_cut_1 d, s_X9_cut_2 d, s_X9_cut_3 d, trivial⟩
def n_X9_is : qMn := (yX9_is, cX9_is, 2, (some Jvm.ClassFile.FieldType.boolean), 0, 0)
theorem to_X9_is : qTo n_X9_is 1 := ⟨g1365, g110, ⟨by decide, by decide, by decide +kernel⟩, by decide⟩
def p_X9_is : List Nat := [0, 7, 20, 25]
noncomputable def b_X9_is_0 : zBl := fun jp K => oAld 0 <| oGetI 9 13 <| oIf zne zeq (oFail) (jp 1)
theorem s_X9_is_0 (d : Nat) : zPb l G gh (d + 1) n_X9_is p_X9_is 0 b_X9_is_0 := fun K jp hj =>
    z_aload_n (n := 0) (i := 0) (zd (i := .aload_n 0) (n := 1) (by decide +kernel)) rfl <|
    z_getI (ci := 9) (j := 13) (idx := 200) (zd (i := .getfield 200) (n := 3) (by decide +kernel)) (by decide +kernel) (by decide +kernel) rfl g1141 <|
    z_if_ne (off := 20) (tgt := 24) (zd (i := .ifCond .ne (20)) (n := 3) (by decide +kernel)) (by decide +kernel) z_fail (zj (hj 1) (by decide +kernel))
noncomputable def b_X9_is_1 : zBl := fun jp K => oAld 0 <| oGetR 9 5 <| oAld 0 <| oGetI 9 11 <| oXald 10 <| oIld 1 <| oIc zne zeq (oFail) (jp 2)
theorem s_X9_is_1 (d : Nat) : zPb l G gh (d + 1) n_X9_is p_X9_is 7 b_X9_is_1 := fun K jp hj =>
    z_aload_n (n := 0) (i := 0) (zd (i := .aload_n 0) (n := 1) (by decide +kernel)) rfl <|
    z_getR (ci := 9) (j := 5) (idx := 20) (zd (i := .getfield 20) (n := 3) (by decide +kernel)) (by decide +kernel) (by decide +kernel) rfl g1133 <|
    z_aload_n (n := 0) (i := 0) (zd (i := .aload_n 0) (n := 1) (by decide +kernel)) rfl <|
    z_getI (ci := 9) (j := 11) (idx := 203) (zd (i := .getfield 203) (n := 3) (by decide +kernel)) (by decide +kernel) (by decide +kernel) rfl g1139 <|
    z_iald (zd (i := .iaload) (n := 1) (by decide +kernel)) <|
    z_iload_n (n := 1) (i := 1) (zd (i := .iload_n 1) (n := 1) (by decide +kernel)) rfl <|
    z_icmp_ne (off := 7) (tgt := 24) (zd (i := .if_icmp .ne (7)) (n := 3) (by decide +kernel)) (by decide +kernel) z_fail (zj (hj 2) (by decide +kernel))
noncomputable def b_X9_is_2 : zBl := fun jp K => oInt 2147483649 <| jp 3
theorem s_X9_is_2 (d : Nat) : zPb l G gh (d + 1) n_X9_is p_X9_is 20 b_X9_is_2 := fun K jp hj =>
    z_iconst (n := 1) (zd (i := .iconst (1)) (n := 1) (by decide +kernel)) (by decide +kernel) <|
    z_goto (off := 4) (tgt := 25) (zd (i := .goto (4)) (n := 3) (by decide +kernel)) (by decide +kernel) (zj (hj 3) (by decide +kernel))
noncomputable def b_X9_is_3 : zBl := fun jp K => oZret K
theorem s_X9_is_3 (d : Nat) : zPb l G gh (d + 1) n_X9_is p_X9_is 25 b_X9_is_3 := fun K jp hj =>
    z_zret (zd (i := .ireturn) (n := 1) (by decide +kernel)) rfl
noncomputable def f_X9_is : zMt := zmet 2 [b_X9_is_0, b_X9_is_1, b_X9_is_2, b_X9_is_3]
theorem c_X9_is (d : Nat) : zC l G gh (d + 1) n_X9_is f_X9_is := zmet_ok (pcs := p_X9_is) (by decide) rfl rfl ⟨s_X9_is_0 d, s_X9_is_1 d, s_X9_is_2 d, s_X9_is_3 d, trivial⟩
def n_X9_read : qMn := (yX9_read, cX9_read, 2, (some Jvm.ClassFile.FieldType.int), 0, 0)
theorem to_X9_read : qTo n_X9_read 0 := ⟨g1339, g110, ⟨by decide, by decide, by decide +kernel⟩, by decide⟩
def p_X9_read : List Nat := [0, 10, 36, 100, 112, 119, 134, 149, 163, 164, 179, 191, 219, 224, 237]
noncomputable def b_X9_read_0 : zBl := fun jp K => oAld 0 <| oAld 0 <| oGetI 9 2 <| oPutI 9 4 <| oInt 2147483648 <| oIst 1 <| jp 1
theorem s_X9_read_0 (d : Nat) : zPb l G gh (d + 3) n_X9_read p_X9_read 0 b_X9_read_0 := fun K jp hj =>
    z_aload_n (n := 0) (i := 0) (zd (i := .aload_n 0) (n := 1) (by decide +kernel)) rfl <|
    z_aload_n (n := 0) (i := 0) (zd (i := .aload_n 0) (n := 1) (by decide +kernel)) rfl <|
    z_getI (ci := 9) (j := 2) (idx := 167) (zd (i := .getfield 167) (n := 3) (by decide +kernel)) (by decide +kernel) (by decide +kernel) rfl g1130 <|
    z_putI (ci := 9) (j := 4) (idx := 173) (zd (i := .putfield 173) (n := 3) (by decide +kernel)) (by decide +kernel) (by decide +kernel) rfl g1132 (Or.inl rfl) <|
    z_iconst (n := 0) (zd (i := .iconst (0)) (n := 1) (by decide +kernel)) (by decide +kernel) <|
    z_istore_n (n := 1) (i := 1) (zd (i := .istore_n 1) (n := 1) (by decide +kernel)) rfl (by decide +kernel) <|
    (zj (hj 1) (by decide +kernel))
noncomputable def b_X9_read_1 : zBl := fun jp K => oIld 1 <| oAld 0 <| oGetI 9 4 <| oIc zge zlt (jp 2) (oFail)
theorem s_X9_read_1 (d : Nat) : zPb l G gh (d + 3) n_X9_read p_X9_read 10 b_X9_read_1 := fun K jp hj =>
    z_iload_n (n := 1) (i := 1) (zd (i := .iload_n 1) (n := 1) (by decide +kernel)) rfl <|
    z_aload_n (n := 0) (i := 0) (zd (i := .aload_n 0) (n := 1) (by decide +kernel)) rfl <|
    z_getI (ci := 9) (j := 4) (idx := 173) (zd (i := .getfield 173) (n := 3) (by decide +kernel)) (by decide +kernel) (by decide +kernel) rfl g1132 <|
    z_icmp_ge (off := 21) (tgt := 36) (zd (i := .if_icmp .ge (21)) (n := 3) (by decide +kernel)) (by decide +kernel) (zj (hj 2) (by decide +kernel)) z_fail
noncomputable def b_X9_read_2 : zBl := fun jp K => oAld 0 <| oInt 2147483648 <| oPutI 9 2 <| oAld 0 <| oCv 9 0 f_X9_cut <| oAld 0 <| oInt 2147483648 <| oPutI 9 11 <| oAld 0 <| oInt 2147483648 <| oPutI 9 12 <| oAld 0 <| oInt 2147483648 <| oPutI 9 13 <| oAld 0 <| oInt 2147483648 <| oPutI 9 15 <| oAld 0 <| oInt 2147483649 <| oAld 0 <| oGetI 9 18 <| oB2 zsub <| oPutI 9 19 <| oAld 0 <| oInt 2147483648 <| oPutI 9 20 <| oAld 0 <| oAld 0 <| oGetI 9 19 <| oCv 9 1 f_X9_plain <| oAld 0 <| oInt 2147483778 <| oAld 0 <| oGetI 9 19 <| oB2 zimul <| oPutI 9 34 <| jp 3
theorem s_X9_read_2 (d : Nat) : zPb l G gh (d + 3) n_X9_read p_X9_read 36 b_X9_read_2 := fun K jp hj =>
    z_aload_n (n := 0) (i := 0) (zd (i := .aload_n 0) (n := 1) (by decide +kernel)) rfl <|
    z_iconst (n := 0) (zd (i := .iconst (0)) (n := 1) (by decide +kernel)) (by decide +kernel) <|
    z_putI (ci := 9) (j := 2) (idx := 167) (zd (i := .putfield 167) (n := 3) (by decide +kernel)) (by decide +kernel) (by decide +kernel) rfl g1130 (Or.inl rfl) <|
    z_aload_n (n := 0) (i := 0) (zd (i := .aload_n 0) (n := 1) (by decide +kernel)) rfl <|
    z_callV (idx := 224) (ci := 9) (N := n_X9_cut) (zd (i := .invokevirtual 224) (n := 3) (by decide +kernel)) to_X9_cut g1340 g1342 g45 (by decide +kernel) rfl rfl rfl (c_X9_cut (l := l) (G := G) (gh := gh) d) <|
    z_aload_n (n := 0) (i := 0) (zd (i := .aload_n 0) (n := 1) (by decide +kernel)) rfl <|
    z_iconst (n := 0) (zd (i := .iconst (0)) (n := 1) (by decide +kernel)) (by decide +kernel) <|
    z_putI (ci := 9) (j := 11) (idx := 203) (zd (i := .putfield 203) (n := 3) (by decide +kernel)) (by decide +kernel) (by decide +kernel) rfl g1139 (Or.inl rfl) <|
    z_aload_n (n := 0) (i := 0) (zd (i := .aload_n 0) (n := 1) (by decide +kernel)) rfl <|
    z_iconst (n := 0) (zd (i := .iconst (0)) (n := 1) (by decide +kernel)) (by decide +kernel) <|
    z_putI (ci := 9) (j := 12) (idx := 227) (zd (i := .putfield 227) (n := 3) (by decide +kernel)) (by decide +kernel) (by decide +kernel) rfl g1140 (Or.inl rfl) <|
    z_aload_n (n := 0) (i := 0) (zd (i := .aload_n 0) (n := 1) (by decide +kernel)) rfl <|
    z_iconst (n := 0) (zd (i := .iconst (0)) (n := 1) (by decide +kernel)) (by decide +kernel) <|
    z_putI (ci := 9) (j := 13) (idx := 200) (zd (i := .putfield 200) (n := 3) (by decide +kernel)) (by decide +kernel) (by decide +kernel) rfl g1141 (Or.inl rfl) <|
    z_aload_n (n := 0) (i := 0) (zd (i := .aload_n 0) (n := 1) (by decide +kernel)) rfl <|
    z_iconst (n := 0) (zd (i := .iconst (0)) (n := 1) (by decide +kernel)) (by decide +kernel) <|
    z_putI (ci := 9) (j := 15) (idx := 209) (zd (i := .putfield 209) (n := 3) (by decide +kernel)) (by decide +kernel) (by decide +kernel) rfl g1143 (Or.inl rfl) <|
    z_aload_n (n := 0) (i := 0) (zd (i := .aload_n 0) (n := 1) (by decide +kernel)) rfl <|
    z_iconst (n := 1) (zd (i := .iconst (1)) (n := 1) (by decide +kernel)) (by decide +kernel) <|
    z_aload_n (n := 0) (i := 0) (zd (i := .aload_n 0) (n := 1) (by decide +kernel)) rfl <|
    z_getI (ci := 9) (j := 18) (idx := 230) (zd (i := .getfield 230) (n := 3) (by decide +kernel)) (by decide +kernel) (by decide +kernel) rfl g1146 <|
    z_isub (zd (i := .isub) (n := 1) (by decide +kernel)) <|
    z_putI (ci := 9) (j := 19) (idx := 233) (zd (i := .putfield 233) (n := 3) (by decide +kernel)) (by decide +kernel) (by decide +kernel) rfl g1147 (Or.inl rfl) <|
    z_aload_n (n := 0) (i := 0) (zd (i := .aload_n 0) (n := 1) (by decide +kernel)) rfl <|
    z_iconst (n := 0) (zd (i := .iconst (0)) (n := 1) (by decide +kernel)) (by decide +kernel) <|
    z_putI (ci := 9) (j := 20) (idx := 236) (zd (i := .putfield 236) (n := 3) (by decide +kernel)) (by decide +kernel) (by decide +kernel) rfl g1148 (Or.inl rfl) <|
    z_aload_n (n := 0) (i := 0) (zd (i := .aload_n 0) (n := 1) (by decide +kernel)) rfl <|
    z_aload_n (n := 0) (i := 0) (zd (i := .aload_n 0) (n := 1) (by decide +kernel)) rfl <|
    z_getI (ci := 9) (j := 19) (idx := 233) (zd (i := .getfield 233) (n := 3) (by decide +kernel)) (by decide +kernel) (by decide +kernel) rfl g1147 <|
    z_callV (idx := 149) (ci := 9) (N := n_X9_plain) (zd (i := .invokevirtual 149) (n := 3) (by decide +kernel)) to_X9_plain g1110 g1112 g41 (by decide +kernel) rfl rfl rfl (c_X9_plain (l := l) (G := G) (gh := gh) (d + 1)) <|
    z_aload_n (n := 0) (i := 0) (zd (i := .aload_n 0) (n := 1) (by decide +kernel)) rfl <|
    z_sipush (n := 130) (zd (i := .sipush (130)) (n := 3) (by decide +kernel)) (by decide +kernel) <|
    z_aload_n (n := 0) (i := 0) (zd (i := .aload_n 0) (n := 1) (by decide +kernel)) rfl <|
    z_getI (ci := 9) (j := 19) (idx := 233) (zd (i := .getfield 233) (n := 3) (by decide +kernel)) (by decide +kernel) (by decide +kernel) rfl g1147 <|
    z_imul (zd (i := .imul) (n := 1) (by decide +kernel)) <|
    z_putI (ci := 9) (j := 34) (idx := 239) (zd (i := .putfield 239) (n := 3) (by decide +kernel)) (by decide +kernel) (by decide +kernel) rfl g1162 (Or.inl rfl) <|
    (zj (hj 3) (by decide +kernel))
noncomputable def b_X9_read_3 : zBl := fun jp K => oAld 0 <| oInt 2147484068 <| oAld 0 <| oGetI 9 19 <| oB2 zimul <| oPutI 9 40 <| jp 4
theorem s_X9_read_3 (d : Nat) : zPb l G gh (d + 3) n_X9_read p_X9_read 100 b_X9_read_3 := fun K jp hj =>
    z_aload_n (n := 0) (i := 0) (zd (i := .aload_n 0) (n := 1) (by decide +kernel)) rfl <|
    z_sipush (n := 420) (zd (i := .sipush (420)) (n := 3) (by decide +kernel)) (by decide +kernel) <|
    z_aload_n (n := 0) (i := 0) (zd (i := .aload_n 0) (n := 1) (by decide +kernel)) rfl <|
    z_getI (ci := 9) (j := 19) (idx := 233) (zd (i := .getfield 233) (n := 3) (by decide +kernel)) (by decide +kernel) (by decide +kernel) rfl g1147 <|
    z_imul (zd (i := .imul) (n := 1) (by decide +kernel)) <|
    z_putI (ci := 9) (j := 40) (idx := 242) (zd (i := .putfield 242) (n := 3) (by decide +kernel)) (by decide +kernel) (by decide +kernel) rfl g1168 (Or.inl rfl) <|
    (zj (hj 4) (by decide +kernel))
noncomputable def b_X9_read_4 : zBl := fun jp K => oAld 0 <| oGetI 9 13 <| oIf zne zeq (jp 6) (jp 5)
theorem s_X9_read_4 (d : Nat) : zPb l G gh (d + 3) n_X9_read p_X9_read 112 b_X9_read_4 := fun K jp hj =>
    z_aload_n (n := 0) (i := 0) (zd (i := .aload_n 0) (n := 1) (by decide +kernel)) rfl <|
    z_getI (ci := 9) (j := 13) (idx := 200) (zd (i := .getfield 200) (n := 3) (by decide +kernel)) (by decide +kernel) (by decide +kernel) rfl g1141 <|
    z_if_ne (off := 18) (tgt := 134) (zd (i := .ifCond .ne (18)) (n := 3) (by decide +kernel)) (by decide +kernel) (zj (hj 6) (by decide +kernel)) (zj (hj 5) (by decide +kernel))
noncomputable def b_X9_read_5 : zBl := fun jp K => oAld 0 <| oInt 2147483648 <| oCv 9 1 f_X9_is <| oIf zne zeq (jp 6) (oFail)
theorem s_X9_read_5 (d : Nat) : zPb l G gh (d + 3) n_X9_read p_X9_read 119 b_X9_read_5 := fun K jp hj =>
    z_aload_n (n := 0) (i := 0) (zd (i := .aload_n 0) (n := 1) (by decide +kernel)) rfl <|
    z_iconst (n := 0) (zd (i := .iconst (0)) (n := 1) (by decide +kernel)) (by decide +kernel) <|
    z_callV (idx := 218) (ci := 9) (N := n_X9_is) (zd (i := .invokevirtual 218) (n := 3) (by decide +kernel)) to_X9_is g1362 g1364 g49 (by decide +kernel) rfl rfl rfl (c_X9_is (l := l) (G := G) (gh := gh) (d + 1)) <|
    z_if_ne (off := 10) (tgt := 134) (zd (i := .ifCond .ne (10)) (n := 3) (by decide +kernel)) (by decide +kernel) (zj (hj 6) (by decide +kernel)) z_fail
noncomputable def b_X9_read_6 : zBl := fun jp K => oAld 0 <| oAld 0 <| oGetI 9 13 <| oIf zle zgt (jp 7) (oFail)
theorem s_X9_read_6 (d : Nat) : zPb l G gh (d + 3) n_X9_read p_X9_read 134 b_X9_read_6 := fun K jp hj =>
    z_aload_n (n := 0) (i := 0) (zd (i := .aload_n 0) (n := 1) (by decide +kernel)) rfl <|
    z_aload_n (n := 0) (i := 0) (zd (i := .aload_n 0) (n := 1) (by decide +kernel)) rfl <|
    z_getI (ci := 9) (j := 13) (idx := 200) (zd (i := .getfield 200) (n := 3) (by decide +kernel)) (by decide +kernel) (by decide +kernel) rfl g1141 <|
    z_if_le (off := 10) (tgt := 149) (zd (i := .ifCond .le (10)) (n := 3) (by decide +kernel)) (by decide +kernel) (zj (hj 7) (by decide +kernel)) z_fail
noncomputable def b_X9_read_7 : zBl := fun jp K => oAld 0 <| oGetI 9 15 <| oIf zle zgt (jp 8) (oFail)
theorem s_X9_read_7 (d : Nat) : zPb l G gh (d + 3) n_X9_read p_X9_read 149 b_X9_read_7 := fun K jp hj =>
    z_aload_n (n := 0) (i := 0) (zd (i := .aload_n 0) (n := 1) (by decide +kernel)) rfl <|
    z_getI (ci := 9) (j := 15) (idx := 209) (zd (i := .getfield 209) (n := 3) (by decide +kernel)) (by decide +kernel) (by decide +kernel) rfl g1143 <|
    z_if_le (off := 10) (tgt := 163) (zd (i := .ifCond .le (10)) (n := 3) (by decide +kernel)) (by decide +kernel) (zj (hj 8) (by decide +kernel)) z_fail
noncomputable def b_X9_read_8 : zBl := fun jp K => oInt 2147483647 <| jp 9
theorem s_X9_read_8 (d : Nat) : zPb l G gh (d + 3) n_X9_read p_X9_read 163 b_X9_read_8 := fun K jp hj =>
    z_iconst (n := -1) (zd (i := .iconst (-1)) (n := 1) (by decide +kernel)) (by decide +kernel) <|
    (zj (hj 9) (by decide +kernel))
noncomputable def b_X9_read_9 : zBl := fun jp K => oPutI 9 17 <| oAld 0 <| oGetI 9 13 <| oIf zle zgt (jp 10) (oFail)
theorem s_X9_read_9 (d : Nat) : zPb l G gh (d + 3) n_X9_read p_X9_read 164 b_X9_read_9 := fun K jp hj =>
    z_putI (ci := 9) (j := 17) (idx := 37) (zd (i := .putfield 37) (n := 3) (by decide +kernel)) (by decide +kernel) (by decide +kernel) rfl g1145 (Or.inl rfl) <|
    z_aload_n (n := 0) (i := 0) (zd (i := .aload_n 0) (n := 1) (by decide +kernel)) rfl <|
    z_getI (ci := 9) (j := 13) (idx := 200) (zd (i := .getfield 200) (n := 3) (by decide +kernel)) (by decide +kernel) (by decide +kernel) rfl g1141 <|
    z_if_le (off := 8) (tgt := 179) (zd (i := .ifCond .le (8)) (n := 3) (by decide +kernel)) (by decide +kernel) (zj (hj 10) (by decide +kernel)) z_fail
noncomputable def b_X9_read_10 : zBl := fun jp K => oAld 0 <| oGetI 9 15 <| oIf zle zgt (jp 11) (oFail)
theorem s_X9_read_10 (d : Nat) : zPb l G gh (d + 3) n_X9_read p_X9_read 179 b_X9_read_10 := fun K jp hj =>
    z_aload_n (n := 0) (i := 0) (zd (i := .aload_n 0) (n := 1) (by decide +kernel)) rfl <|
    z_getI (ci := 9) (j := 15) (idx := 209) (zd (i := .getfield 209) (n := 3) (by decide +kernel)) (by decide +kernel) (by decide +kernel) rfl g1143 <|
    z_if_le (off := 8) (tgt := 191) (zd (i := .ifCond .le (8)) (n := 3) (by decide +kernel)) (by decide +kernel) (zj (hj 11) (by decide +kernel)) z_fail
noncomputable def b_X9_read_11 : zBl := fun jp K => oAld 0 <| oAld 0 <| oGetI 9 19 <| oPutI 9 18 <| oAld 0 <| oCv 9 0 f_X9_begins <| oAld 0 <| oCv 9 0 f_X9_keepsRow <| oAld 0 <| oInt 2147483648 <| oPutI 9 51 <| oAld 0 <| oInt 2147483648 <| oPutI 9 58 <| oInt 2147483648 <| oIst 1 <| jp 12
theorem s_X9_read_11 (d : Nat) : zPb l G gh (d + 3) n_X9_read p_X9_read 191 b_X9_read_11 := fun K jp hj =>
    z_aload_n (n := 0) (i := 0) (zd (i := .aload_n 0) (n := 1) (by decide +kernel)) rfl <|
    z_aload_n (n := 0) (i := 0) (zd (i := .aload_n 0) (n := 1) (by decide +kernel)) rfl <|
    z_getI (ci := 9) (j := 19) (idx := 233) (zd (i := .getfield 233) (n := 3) (by decide +kernel)) (by decide +kernel) (by decide +kernel) rfl g1147 <|
    z_putI (ci := 9) (j := 18) (idx := 230) (zd (i := .putfield 230) (n := 3) (by decide +kernel)) (by decide +kernel) (by decide +kernel) rfl g1146 (Or.inl rfl) <|
    z_aload_n (n := 0) (i := 0) (zd (i := .aload_n 0) (n := 1) (by decide +kernel)) rfl <|
    z_callV (idx := 161) (ci := 9) (N := n_X9_begins) (zd (i := .invokevirtual 161) (n := 3) (by decide +kernel)) to_X9_begins g1121 g1123 g42 (by decide +kernel) rfl rfl rfl (c_X9_begins (l := l) (G := G) (gh := gh) (d + 1)) <|
    z_aload_n (n := 0) (i := 0) (zd (i := .aload_n 0) (n := 1) (by decide +kernel)) rfl <|
    z_callV (idx := 164) (ci := 9) (N := n_X9_keepsRow) (zd (i := .invokevirtual 164) (n := 3) (by decide +kernel)) to_X9_keepsRow g1125 g1127 g43 (by decide +kernel) rfl rfl rfl (c_X9_keepsRow (l := l) (G := G) (gh := gh) (d + 1)) <|
    z_aload_n (n := 0) (i := 0) (zd (i := .aload_n 0) (n := 1) (by decide +kernel)) rfl <|
    z_iconst (n := 0) (zd (i := .iconst (0)) (n := 1) (by decide +kernel)) (by decide +kernel) <|
    z_putI (ci := 9) (j := 51) (idx := 248) (zd (i := .putfield 248) (n := 3) (by decide +kernel)) (by decide +kernel) (by decide +kernel) rfl g1179 (Or.inl rfl) <|
    z_aload_n (n := 0) (i := 0) (zd (i := .aload_n 0) (n := 1) (by decide +kernel)) rfl <|
    z_iconst (n := 0) (zd (i := .iconst (0)) (n := 1) (by decide +kernel)) (by decide +kernel) <|
    z_putI (ci := 9) (j := 58) (idx := 251) (zd (i := .putfield 251) (n := 3) (by decide +kernel)) (by decide +kernel) (by decide +kernel) rfl g1186 (Or.inl rfl) <|
    z_iconst (n := 0) (zd (i := .iconst (0)) (n := 1) (by decide +kernel)) (by decide +kernel) <|
    z_istore_n (n := 1) (i := 1) (zd (i := .istore_n 1) (n := 1) (by decide +kernel)) rfl (by decide +kernel) <|
    (zj (hj 12) (by decide +kernel))
noncomputable def b_X9_read_12 : zBl := fun jp K => oIld 1 <| oInt 2147483651 <| oIc zge zlt (jp 14) (jp 13)
theorem s_X9_read_12 (d : Nat) : zPb l G gh (d + 3) n_X9_read p_X9_read 219 b_X9_read_12 := fun K jp hj =>
    z_iload_n (n := 1) (i := 1) (zd (i := .iload_n 1) (n := 1) (by decide +kernel)) rfl <|
    z_iconst (n := 3) (zd (i := .iconst (3)) (n := 1) (by decide +kernel)) (by decide +kernel) <|
    z_icmp_ge (off := 16) (tgt := 237) (zd (i := .if_icmp .ge (16)) (n := 3) (by decide +kernel)) (by decide +kernel) (zj (hj 14) (by decide +kernel)) (zj (hj 13) (by decide +kernel))
noncomputable def b_X9_read_13 : zBl := fun jp K => oAld 0 <| oGetR 9 63 <| oIld 1 <| oInt 2147483648 <| oXast 12 znz1 <| oInc 1 2147483649 <| jp 12
theorem s_X9_read_13 (d : Nat) : zPb l G gh (d + 3) n_X9_read p_X9_read 224 b_X9_read_13 := fun K jp hj =>
    z_aload_n (n := 0) (i := 0) (zd (i := .aload_n 0) (n := 1) (by decide +kernel)) rfl <|
    z_getR (ci := 9) (j := 63) (idx := 143) (zd (i := .getfield 143) (n := 3) (by decide +kernel)) (by decide +kernel) (by decide +kernel) rfl g1191 <|
    z_iload_n (n := 1) (i := 1) (zd (i := .iload_n 1) (n := 1) (by decide +kernel)) rfl <|
    z_iconst (n := 0) (zd (i := .iconst (0)) (n := 1) (by decide +kernel)) (by decide +kernel) <|
    z_zast (zd (i := .bastore) (n := 1) (by decide +kernel)) <|
    z_iinc (i := 1) (n := 1) (zd (i := .iinc 1 (1)) (n := 3) (by decide +kernel)) (by decide +kernel) (by decide +kernel) <|
    z_goto (off := -15) (tgt := 219) (zd (i := .goto (-15)) (n := 3) (by decide +kernel)) (by decide +kernel) (zj (hj 12) (by decide +kernel))
noncomputable def b_X9_read_14 : zBl := fun jp K => oInt 2147483648 <| oIret K
theorem s_X9_read_14 (d : Nat) : zPb l G gh (d + 3) n_X9_read p_X9_read 237 b_X9_read_14 := fun K jp hj =>
    z_iconst (n := 0) (zd (i := .iconst (0)) (n := 1) (by decide +kernel)) (by decide +kernel) <|
    z_iret (zd (i := .ireturn) (n := 1) (by decide +kernel)) rfl
noncomputable def f_X9_read : zMt := zmet 2 [b_X9_read_0, b_X9_read_1, b_X9_read_2, b_X9_read_3, b_X9_read_4, b_X9_read_5, b_X9_read_6, b_X9_read_7, b_X9_read_8, b_X9_read_9, b_X9_read_10, b_X9_read_11, b_X9_read_12, b_X9_read_13, b_X9_read_14]
theorem c_X9_read (d : Nat) : zC l G gh (d + 3) n_X9_read f_X9_read := zmet_ok (pcs := p_X9_read) (by decide) rfl rfl ⟨s_X9_read_0 d, s_X9_read_1 d, s_X9_read_2 d, s_X9_read_3 d, s_X9_read_4 d, s_X9_read_5 d, s_X9_read_6 d, s_X9_read_7 d, s_X9_read_8 d, s_X9_read_9 d, s_X9_read_10 d, s_X9_read_11 d, s_X9_read_12 d, s_X9_read_13 d, s_X9_read_14 d, trivial⟩
def n_X8_place : qMn := (yX8_place, cX8_place, 1, (some Jvm.ClassFile.FieldType.int), 0, 0)
theorem to_X8_place : qTo n_X8_place 0 := ⟨g703, g97, ⟨by decide, by decide, by decide +kernel⟩, by decide⟩
def p_X8_place : List Nat := [0]
noncomputable def b_X8_place_0 : zBl := fun jp K => oAld 0 <| oGetI 8 13 <| oIret K
theorem s_X8_place_0 (d : Nat) : zPb l G gh (d + 1) n_X8_place p_X8_place 0 b_X8_place_0 := fun K jp hj =>
    z_aload_n (n := 0) (i := 0) (zd (i := .aload_n 0) (n := 1) (by decide +kernel)) rfl <|
    z_getI (ci := 8) (j := 13) (idx := 75) (zd (i := .getfield 75) (n := 3) (by decide +kernel)) (by decide +kernel) (by decide +kernel) rfl g465 <|
    z_iret (zd (i := .ireturn) (n := 1) (by decide +kernel)) rfl
noncomputable def f_X8_place : zMt := zmet 1 [b_X8_place_0]
theorem c_X8_place (d : Nat) : zC l G gh (d + 1) n_X8_place f_X8_place := zmet_ok (pcs := p_X8_place) (by decide) rfl rfl ⟨s_X8_place_0 d, trivial⟩
def n_X9_place : qMn := (yX9_place, cX9_place, 1, (some Jvm.ClassFile.FieldType.int), 0, 0)
theorem to_X9_place : qTo n_X9_place 0 := ⟨g1433, g110, ⟨by decide, by decide, by decide +kernel⟩, by decide⟩
def p_X9_place : List Nat := [0]
noncomputable def b_X9_place_0 : zBl := fun jp K => oAld 0 <| oGetI 9 17 <| oIret K
theorem s_X9_place_0 (d : Nat) : zPb l G gh (d + 1) n_X9_place p_X9_place 0 b_X9_place_0 := fun K jp hj =>
    z_aload_n (n := 0) (i := 0) (zd (i := .aload_n 0) (n := 1) (by decide +kernel)) rfl <|
    z_getI (ci := 9) (j := 17) (idx := 37) (zd (i := .getfield 37) (n := 3) (by decide +kernel)) (by decide +kernel) (by decide +kernel) rfl g1145 <|
    z_iret (zd (i := .ireturn) (n := 1) (by decide +kernel)) rfl
noncomputable def f_X9_place : zMt := zmet 1 [b_X9_place_0]
theorem c_X9_place (d : Nat) : zC l G gh (d + 1) n_X9_place f_X9_place := zmet_ok (pcs := p_X9_place) (by decide) rfl rfl ⟨s_X9_place_0 d, trivial⟩
def n_X8_isThing : qMn := (yX8_isThing, cX8_isThing, 2, (some Jvm.ClassFile.FieldType.boolean), 0, 0)
theorem to_X8_isThing : qTo n_X8_isThing 1 := ⟨g711, g97, ⟨by decide, by decide, by decide +kernel⟩, by decide⟩
def p_X8_isThing : List Nat := [0, 4, 19, 20]
noncomputable def b_X8_isThing_0 : zBl := fun jp K => oIld 1 <| oIf zlt zge (jp 2) (jp 1)
theorem s_X8_isThing_0 (d : Nat) : zPb l G gh (d + 1) n_X8_isThing p_X8_isThing 0 b_X8_isThing_0 := fun K jp hj =>
    z_iload_n (n := 1) (i := 1) (zd (i := .iload_n 1) (n := 1) (by decide +kernel)) rfl <|
    z_if_lt (off := 18) (tgt := 19) (zd (i := .ifCond .lt (18)) (n := 3) (by decide +kernel)) (by decide +kernel) (zj (hj 2) (by decide +kernel)) (zj (hj 1) (by decide +kernel))
noncomputable def b_X8_isThing_1 : zBl := fun jp K => oIld 1 <| oAld 0 <| oGetR 8 12 <| oGetI 0 2 <| oIc zge zlt (jp 2) (oFail)
theorem s_X8_isThing_1 (d : Nat) : zPb l G gh (d + 1) n_X8_isThing p_X8_isThing 4 b_X8_isThing_1 := fun K jp hj =>
    z_iload_n (n := 1) (i := 1) (zd (i := .iload_n 1) (n := 1) (by decide +kernel)) rfl <|
    z_aload_n (n := 0) (i := 0) (zd (i := .aload_n 0) (n := 1) (by decide +kernel)) rfl <|
    z_getR (ci := 8) (j := 12) (idx := 71) (zd (i := .getfield 71) (n := 3) (by decide +kernel)) (by decide +kernel) (by decide +kernel) rfl g464 <|
    z_getI (ci := 0) (j := 2) (idx := 236) (zd (i := .getfield 236) (n := 3) (by decide +kernel)) (by decide +kernel) (by decide +kernel) rfl g280 <|
    z_icmp_ge (off := 7) (tgt := 19) (zd (i := .if_icmp .ge (7)) (n := 3) (by decide +kernel)) (by decide +kernel) (zj (hj 2) (by decide +kernel)) z_fail
noncomputable def b_X8_isThing_2 : zBl := fun jp K => oInt 2147483648 <| jp 3
theorem s_X8_isThing_2 (d : Nat) : zPb l G gh (d + 1) n_X8_isThing p_X8_isThing 19 b_X8_isThing_2 := fun K jp hj =>
    z_iconst (n := 0) (zd (i := .iconst (0)) (n := 1) (by decide +kernel)) (by decide +kernel) <|
    (zj (hj 3) (by decide +kernel))
noncomputable def b_X8_isThing_3 : zBl := fun jp K => oZret K
theorem s_X8_isThing_3 (d : Nat) : zPb l G gh (d + 1) n_X8_isThing p_X8_isThing 20 b_X8_isThing_3 := fun K jp hj =>
    z_zret (zd (i := .ireturn) (n := 1) (by decide +kernel)) rfl
noncomputable def f_X8_isThing : zMt := zmet 2 [b_X8_isThing_0, b_X8_isThing_1, b_X8_isThing_2, b_X8_isThing_3]
theorem c_X8_isThing (d : Nat) : zC l G gh (d + 1) n_X8_isThing f_X8_isThing := zmet_ok (pcs := p_X8_isThing) (by decide) rfl rfl ⟨s_X8_isThing_0 d, s_X8_isThing_1 d, s_X8_isThing_2 d, s_X8_isThing_3 d, trivial⟩
def n_X8_thing : qMn := (yX8_thing, cX8_thing, 3, (some Jvm.ClassFile.FieldType.int), 0, 0)
theorem to_X8_thing : qTo n_X8_thing 2 := ⟨g707, g97, ⟨by decide, by decide, by decide +kernel⟩, by decide⟩
def p_X8_thing : List Nat := [0, 8]
noncomputable def b_X8_thing_0 : zBl := fun jp K => oAld 0 <| oIld 1 <| oCv 8 1 f_X8_isThing <| oIf zne zeq (oFail) (jp 1)
theorem s_X8_thing_0 (d : Nat) : zPb l G gh (d + 2) n_X8_thing p_X8_thing 0 b_X8_thing_0 := fun K jp hj =>
    z_aload_n (n := 0) (i := 0) (zd (i := .aload_n 0) (n := 1) (by decide +kernel)) rfl <|
    z_iload_n (n := 1) (i := 1) (zd (i := .iload_n 1) (n := 1) (by decide +kernel)) rfl <|
    z_callV (idx := 115) (ci := 8) (N := n_X8_isThing) (zd (i := .invokevirtual 115) (n := 3) (by decide +kernel)) to_X8_isThing g708 g710 g17 (by decide +kernel) rfl rfl rfl (c_X8_isThing (l := l) (G := G) (gh := gh) d) <|
    z_if_ne (off := 5) (tgt := 10) (zd (i := .ifCond .ne (5)) (n := 3) (by decide +kernel)) (by decide +kernel) z_fail (zj (hj 1) (by decide +kernel))
noncomputable def b_X8_thing_1 : zBl := fun jp K => oInt 2147483647 <| oIret K
theorem s_X8_thing_1 (d : Nat) : zPb l G gh (d + 2) n_X8_thing p_X8_thing 8 b_X8_thing_1 := fun K jp hj =>
    z_iconst (n := -1) (zd (i := .iconst (-1)) (n := 1) (by decide +kernel)) (by decide +kernel) <|
    z_iret (zd (i := .ireturn) (n := 1) (by decide +kernel)) rfl
noncomputable def f_X8_thing : zMt := zmet 3 [b_X8_thing_0, b_X8_thing_1]
theorem c_X8_thing (d : Nat) : zC l G gh (d + 2) n_X8_thing f_X8_thing := zmet_ok (pcs := p_X8_thing) (by decide) rfl rfl ⟨s_X8_thing_0 d, s_X8_thing_1 d, trivial⟩
def n_X9_in : qMn := (yX9_in, cX9_in, 3, (some Jvm.ClassFile.FieldType.boolean), 0, 0)
theorem to_X9_in : qTo n_X9_in 3 := ⟨g1444, g110, ⟨by decide, by decide, by decide +kernel⟩, by decide⟩
def p_X9_in : List Nat := [0, 5, 10, 14, 15]
noncomputable def b_X9_in_0 : zBl := fun jp K => oIld 0 <| oIld 1 <| oIc zlt zge (jp 3) (jp 1)
theorem s_X9_in_0 (d : Nat) : zPb l G gh (d + 1) n_X9_in p_X9_in 0 b_X9_in_0 := fun K jp hj =>
    z_iload_n (n := 0) (i := 0) (zd (i := .iload_n 0) (n := 1) (by decide +kernel)) rfl <|
    z_iload_n (n := 1) (i := 1) (zd (i := .iload_n 1) (n := 1) (by decide +kernel)) rfl <|
    z_icmp_lt (off := 12) (tgt := 14) (zd (i := .if_icmp .lt (12)) (n := 3) (by decide +kernel)) (by decide +kernel) (zj (hj 3) (by decide +kernel)) (zj (hj 1) (by decide +kernel))
noncomputable def b_X9_in_1 : zBl := fun jp K => oIld 0 <| oIld 2 <| oIc zgt zle (jp 3) (jp 2)
theorem s_X9_in_1 (d : Nat) : zPb l G gh (d + 1) n_X9_in p_X9_in 5 b_X9_in_1 := fun K jp hj =>
    z_iload_n (n := 0) (i := 0) (zd (i := .iload_n 0) (n := 1) (by decide +kernel)) rfl <|
    z_iload_n (n := 2) (i := 2) (zd (i := .iload_n 2) (n := 1) (by decide +kernel)) rfl <|
    z_icmp_gt (off := 7) (tgt := 14) (zd (i := .if_icmp .gt (7)) (n := 3) (by decide +kernel)) (by decide +kernel) (zj (hj 3) (by decide +kernel)) (zj (hj 2) (by decide +kernel))
noncomputable def b_X9_in_2 : zBl := fun jp K => oInt 2147483649 <| jp 4
theorem s_X9_in_2 (d : Nat) : zPb l G gh (d + 1) n_X9_in p_X9_in 10 b_X9_in_2 := fun K jp hj =>
    z_iconst (n := 1) (zd (i := .iconst (1)) (n := 1) (by decide +kernel)) (by decide +kernel) <|
    z_goto (off := 4) (tgt := 15) (zd (i := .goto (4)) (n := 3) (by decide +kernel)) (by decide +kernel) (zj (hj 4) (by decide +kernel))
noncomputable def b_X9_in_3 : zBl := fun jp K => oInt 2147483648 <| jp 4
theorem s_X9_in_3 (d : Nat) : zPb l G gh (d + 1) n_X9_in p_X9_in 14 b_X9_in_3 := fun K jp hj =>
    z_iconst (n := 0) (zd (i := .iconst (0)) (n := 1) (by decide +kernel)) (by decide +kernel) <|
    (zj (hj 4) (by decide +kernel))
noncomputable def b_X9_in_4 : zBl := fun jp K => oZret K
theorem s_X9_in_4 (d : Nat) : zPb l G gh (d + 1) n_X9_in p_X9_in 15 b_X9_in_4 := fun K jp hj =>
    z_zret (zd (i := .ireturn) (n := 1) (by decide +kernel)) rfl
noncomputable def f_X9_in : zMt := zmet 3 [b_X9_in_0, b_X9_in_1, b_X9_in_2, b_X9_in_3, b_X9_in_4]
theorem c_X9_in (d : Nat) : zC l G gh (d + 1) n_X9_in f_X9_in := zmet_ok (pcs := p_X9_in) (by decide) rfl rfl ⟨s_X9_in_0 d, s_X9_in_1 d, s_X9_in_2 d, s_X9_in_3 d, s_X9_in_4 d, trivial⟩
def n_X9_isThing : qMn := (yX9_isThing, cX9_isThing, 2, (some Jvm.ClassFile.FieldType.boolean), 0, 0)
theorem to_X9_isThing : qTo n_X9_isThing 1 := ⟨g1441, g110, ⟨by decide, by decide, by decide +kernel⟩, by decide⟩
def p_X9_isThing : List Nat := [0]
noncomputable def b_X9_isThing_0 : zBl := fun jp K => oIld 1 <| oInt 2147483648 <| oAld 0 <| oGetR 9 22 <| oAld 0 <| oGetI 9 18 <| oXald 10 <| oInt 2147483649 <| oB2 zsub <| oCs 3 f_X9_in <| oZret K
theorem s_X9_isThing_0 (d : Nat) : zPb l G gh (d + 2) n_X9_isThing p_X9_isThing 0 b_X9_isThing_0 := fun K jp hj =>
    z_iload_n (n := 1) (i := 1) (zd (i := .iload_n 1) (n := 1) (by decide +kernel)) rfl <|
    z_iconst (n := 0) (zd (i := .iconst (0)) (n := 1) (by decide +kernel)) (by decide +kernel) <|
    z_aload_n (n := 0) (i := 0) (zd (i := .aload_n 0) (n := 1) (by decide +kernel)) rfl <|
    z_getR (ci := 9) (j := 22) (idx := 43) (zd (i := .getfield 43) (n := 3) (by decide +kernel)) (by decide +kernel) (by decide +kernel) rfl g1150 <|
    z_aload_n (n := 0) (i := 0) (zd (i := .aload_n 0) (n := 1) (by decide +kernel)) rfl <|
    z_getI (ci := 9) (j := 18) (idx := 230) (zd (i := .getfield 230) (n := 3) (by decide +kernel)) (by decide +kernel) (by decide +kernel) rfl g1146 <|
    z_iald (zd (i := .iaload) (n := 1) (by decide +kernel)) <|
    z_iconst (n := 1) (zd (i := .iconst (1)) (n := 1) (by decide +kernel)) (by decide +kernel) <|
    z_isub (zd (i := .isub) (n := 1) (by decide +kernel)) <|
    z_callS (idx := 304) (N := n_X9_in) (zd (i := .invokestatic 304) (n := 3) (by decide +kernel)) to_X9_in g1442 g1443 rfl rfl (c_X9_in (l := l) (G := G) (gh := gh) d) <|
    z_zret (zd (i := .ireturn) (n := 1) (by decide +kernel)) rfl
noncomputable def f_X9_isThing : zMt := zmet 2 [b_X9_isThing_0]
theorem c_X9_isThing (d : Nat) : zC l G gh (d + 2) n_X9_isThing f_X9_isThing := zmet_ok (pcs := p_X9_isThing) (by decide) rfl rfl ⟨s_X9_isThing_0 d, trivial⟩
def n_X9_thing : qMn := (yX9_thing, cX9_thing, 5, (some Jvm.ClassFile.FieldType.int), 0, 0)
theorem to_X9_thing : qTo n_X9_thing 2 := ⟨g1437, g110, ⟨by decide, by decide, by decide +kernel⟩, by decide⟩
def p_X9_thing : List Nat := [0, 8]
noncomputable def b_X9_thing_0 : zBl := fun jp K => oAld 0 <| oIld 1 <| oCv 9 1 f_X9_isThing <| oIf zne zeq (oFail) (jp 1)
theorem s_X9_thing_0 (d : Nat) : zPb l G gh (d + 3) n_X9_thing p_X9_thing 0 b_X9_thing_0 := fun K jp hj =>
    z_aload_n (n := 0) (i := 0) (zd (i := .aload_n 0) (n := 1) (by decide +kernel)) rfl <|
    z_iload_n (n := 1) (i := 1) (zd (i := .iload_n 1) (n := 1) (by decide +kernel)) rfl <|
    z_callV (idx := 372) (ci := 9) (N := n_X9_isThing) (zd (i := .invokevirtual 372) (n := 3) (by decide +kernel)) to_X9_isThing g1438 g1440 g66 (by decide +kernel) rfl rfl rfl (c_X9_isThing (l := l) (G := G) (gh := gh) d) <|
    z_if_ne (off := 5) (tgt := 10) (zd (i := .ifCond .ne (5)) (n := 3) (by decide +kernel)) (by decide +kernel) z_fail (zj (hj 1) (by decide +kernel))
noncomputable def b_X9_thing_1 : zBl := fun jp K => oInt 2147483647 <| oIret K
theorem s_X9_thing_1 (d : Nat) : zPb l G gh (d + 3) n_X9_thing p_X9_thing 8 b_X9_thing_1 := fun K jp hj =>
    z_iconst (n := -1) (zd (i := .iconst (-1)) (n := 1) (by decide +kernel)) (by decide +kernel) <|
    z_iret (zd (i := .ireturn) (n := 1) (by decide +kernel)) rfl
noncomputable def f_X9_thing : zMt := zmet 5 [b_X9_thing_0, b_X9_thing_1]
theorem c_X9_thing (d : Nat) : zC l G gh (d + 3) n_X9_thing f_X9_thing := zmet_ok (pcs := p_X9_thing) (by decide) rfl rfl ⟨s_X9_thing_0 d, s_X9_thing_1 d, trivial⟩
def n_X8_isSeat : qMn := (yX8_isSeat, cX8_isSeat, 2, (some Jvm.ClassFile.FieldType.boolean), 0, 0)
theorem to_X8_isSeat : qTo n_X8_isSeat 1 := ⟨g774, g97, ⟨by decide, by decide, by decide +kernel⟩, by decide⟩
def p_X8_isSeat : List Nat := [0, 4, 19, 20]
noncomputable def b_X8_isSeat_0 : zBl := fun jp K => oIld 1 <| oIf zlt zge (jp 2) (jp 1)
theorem s_X8_isSeat_0 (d : Nat) : zPb l G gh (d + 1) n_X8_isSeat p_X8_isSeat 0 b_X8_isSeat_0 := fun K jp hj =>
    z_iload_n (n := 1) (i := 1) (zd (i := .iload_n 1) (n := 1) (by decide +kernel)) rfl <|
    z_if_lt (off := 18) (tgt := 19) (zd (i := .ifCond .lt (18)) (n := 3) (by decide +kernel)) (by decide +kernel) (zj (hj 2) (by decide +kernel)) (zj (hj 1) (by decide +kernel))
noncomputable def b_X8_isSeat_1 : zBl := fun jp K => oIld 1 <| oAld 0 <| oGetR 8 12 <| oGetI 0 5 <| oIc zge zlt (jp 2) (oFail)
theorem s_X8_isSeat_1 (d : Nat) : zPb l G gh (d + 1) n_X8_isSeat p_X8_isSeat 4 b_X8_isSeat_1 := fun K jp hj =>
    z_iload_n (n := 1) (i := 1) (zd (i := .iload_n 1) (n := 1) (by decide +kernel)) rfl <|
    z_aload_n (n := 0) (i := 0) (zd (i := .aload_n 0) (n := 1) (by decide +kernel)) rfl <|
    z_getR (ci := 8) (j := 12) (idx := 71) (zd (i := .getfield 71) (n := 3) (by decide +kernel)) (by decide +kernel) (by decide +kernel) rfl g464 <|
    z_getI (ci := 0) (j := 5) (idx := 230) (zd (i := .getfield 230) (n := 3) (by decide +kernel)) (by decide +kernel) (by decide +kernel) rfl g288 <|
    z_icmp_ge (off := 7) (tgt := 19) (zd (i := .if_icmp .ge (7)) (n := 3) (by decide +kernel)) (by decide +kernel) (zj (hj 2) (by decide +kernel)) z_fail
noncomputable def b_X8_isSeat_2 : zBl := fun jp K => oInt 2147483648 <| jp 3
theorem s_X8_isSeat_2 (d : Nat) : zPb l G gh (d + 1) n_X8_isSeat p_X8_isSeat 19 b_X8_isSeat_2 := fun K jp hj =>
    z_iconst (n := 0) (zd (i := .iconst (0)) (n := 1) (by decide +kernel)) (by decide +kernel) <|
    (zj (hj 3) (by decide +kernel))
noncomputable def b_X8_isSeat_3 : zBl := fun jp K => oZret K
theorem s_X8_isSeat_3 (d : Nat) : zPb l G gh (d + 1) n_X8_isSeat p_X8_isSeat 20 b_X8_isSeat_3 := fun K jp hj =>
    z_zret (zd (i := .ireturn) (n := 1) (by decide +kernel)) rfl
noncomputable def f_X8_isSeat : zMt := zmet 2 [b_X8_isSeat_0, b_X8_isSeat_1, b_X8_isSeat_2, b_X8_isSeat_3]
theorem c_X8_isSeat (d : Nat) : zC l G gh (d + 1) n_X8_isSeat f_X8_isSeat := zmet_ok (pcs := p_X8_isSeat) (by decide) rfl rfl ⟨s_X8_isSeat_0 d, s_X8_isSeat_1 d, s_X8_isSeat_2 d, s_X8_isSeat_3 d, trivial⟩
def n_X8_seat : qMn := (yX8_seat, cX8_seat, 3, (some Jvm.ClassFile.FieldType.int), 0, 0)
theorem to_X8_seat : qTo n_X8_seat 2 := ⟨g770, g97, ⟨by decide, by decide, by decide +kernel⟩, by decide⟩
def p_X8_seat : List Nat := [0, 8]
noncomputable def b_X8_seat_0 : zBl := fun jp K => oAld 0 <| oIld 1 <| oCv 8 1 f_X8_isSeat <| oIf zne zeq (oFail) (jp 1)
theorem s_X8_seat_0 (d : Nat) : zPb l G gh (d + 2) n_X8_seat p_X8_seat 0 b_X8_seat_0 := fun K jp hj =>
    z_aload_n (n := 0) (i := 0) (zd (i := .aload_n 0) (n := 1) (by decide +kernel)) rfl <|
    z_iload_n (n := 1) (i := 1) (zd (i := .iload_n 1) (n := 1) (by decide +kernel)) rfl <|
    z_callV (idx := 131) (ci := 8) (N := n_X8_isSeat) (zd (i := .invokevirtual 131) (n := 3) (by decide +kernel)) to_X8_isSeat g771 g773 g23 (by decide +kernel) rfl rfl rfl (c_X8_isSeat (l := l) (G := G) (gh := gh) d) <|
    z_if_ne (off := 5) (tgt := 10) (zd (i := .ifCond .ne (5)) (n := 3) (by decide +kernel)) (by decide +kernel) z_fail (zj (hj 1) (by decide +kernel))
noncomputable def b_X8_seat_1 : zBl := fun jp K => oInt 2147483647 <| oIret K
theorem s_X8_seat_1 (d : Nat) : zPb l G gh (d + 2) n_X8_seat p_X8_seat 8 b_X8_seat_1 := fun K jp hj =>
    z_iconst (n := -1) (zd (i := .iconst (-1)) (n := 1) (by decide +kernel)) (by decide +kernel) <|
    z_iret (zd (i := .ireturn) (n := 1) (by decide +kernel)) rfl
noncomputable def f_X8_seat : zMt := zmet 3 [b_X8_seat_0, b_X8_seat_1]
theorem c_X8_seat (d : Nat) : zC l G gh (d + 2) n_X8_seat f_X8_seat := zmet_ok (pcs := p_X8_seat) (by decide) rfl rfl ⟨s_X8_seat_0 d, s_X8_seat_1 d, trivial⟩
def n_X9_isSeat : qMn := (yX9_isSeat, cX9_isSeat, 2, (some Jvm.ClassFile.FieldType.boolean), 0, 0)
theorem to_X9_isSeat : qTo n_X9_isSeat 1 := ⟨g1490, g110, ⟨by decide, by decide, by decide +kernel⟩, by decide⟩
def p_X9_isSeat : List Nat := [0]
noncomputable def b_X9_isSeat_0 : zBl := fun jp K => oIld 1 <| oInt 2147483648 <| oAld 0 <| oGetR 9 25 <| oAld 0 <| oGetI 9 18 <| oXald 10 <| oInt 2147483649 <| oB2 zsub <| oCs 3 f_X9_in <| oZret K
theorem s_X9_isSeat_0 (d : Nat) : zPb l G gh (d + 2) n_X9_isSeat p_X9_isSeat 0 b_X9_isSeat_0 := fun K jp hj =>
    z_iload_n (n := 1) (i := 1) (zd (i := .iload_n 1) (n := 1) (by decide +kernel)) rfl <|
    z_iconst (n := 0) (zd (i := .iconst (0)) (n := 1) (by decide +kernel)) (by decide +kernel) <|
    z_aload_n (n := 0) (i := 0) (zd (i := .aload_n 0) (n := 1) (by decide +kernel)) rfl <|
    z_getR (ci := 9) (j := 25) (idx := 52) (zd (i := .getfield 52) (n := 3) (by decide +kernel)) (by decide +kernel) (by decide +kernel) rfl g1153 <|
    z_aload_n (n := 0) (i := 0) (zd (i := .aload_n 0) (n := 1) (by decide +kernel)) rfl <|
    z_getI (ci := 9) (j := 18) (idx := 230) (zd (i := .getfield 230) (n := 3) (by decide +kernel)) (by decide +kernel) (by decide +kernel) rfl g1146 <|
    z_iald (zd (i := .iaload) (n := 1) (by decide +kernel)) <|
    z_iconst (n := 1) (zd (i := .iconst (1)) (n := 1) (by decide +kernel)) (by decide +kernel) <|
    z_isub (zd (i := .isub) (n := 1) (by decide +kernel)) <|
    z_callS (idx := 304) (N := n_X9_in) (zd (i := .invokestatic 304) (n := 3) (by decide +kernel)) to_X9_in g1442 g1443 rfl rfl (c_X9_in (l := l) (G := G) (gh := gh) d) <|
    z_zret (zd (i := .ireturn) (n := 1) (by decide +kernel)) rfl
noncomputable def f_X9_isSeat : zMt := zmet 2 [b_X9_isSeat_0]
theorem c_X9_isSeat (d : Nat) : zC l G gh (d + 2) n_X9_isSeat f_X9_isSeat := zmet_ok (pcs := p_X9_isSeat) (by decide) rfl rfl ⟨s_X9_isSeat_0 d, trivial⟩
def n_X9_seat : qMn := (yX9_seat, cX9_seat, 5, (some Jvm.ClassFile.FieldType.int), 0, 0)
theorem to_X9_seat : qTo n_X9_seat 2 := ⟨g1486, g110, ⟨by decide, by decide, by decide +kernel⟩, by decide⟩
def p_X9_seat : List Nat := [0, 8]
noncomputable def b_X9_seat_0 : zBl := fun jp K => oAld 0 <| oIld 1 <| oCv 9 1 f_X9_isSeat <| oIf zne zeq (oFail) (jp 1)
theorem s_X9_seat_0 (d : Nat) : zPb l G gh (d + 3) n_X9_seat p_X9_seat 0 b_X9_seat_0 := fun K jp hj =>
    z_aload_n (n := 0) (i := 0) (zd (i := .aload_n 0) (n := 1) (by decide +kernel)) rfl <|
    z_iload_n (n := 1) (i := 1) (zd (i := .iload_n 1) (n := 1) (by decide +kernel)) rfl <|
    z_callV (idx := 378) (ci := 9) (N := n_X9_isSeat) (zd (i := .invokevirtual 378) (n := 3) (by decide +kernel)) to_X9_isSeat g1487 g1489 g75 (by decide +kernel) rfl rfl rfl (c_X9_isSeat (l := l) (G := G) (gh := gh) d) <|
    z_if_ne (off := 5) (tgt := 10) (zd (i := .ifCond .ne (5)) (n := 3) (by decide +kernel)) (by decide +kernel) z_fail (zj (hj 1) (by decide +kernel))
noncomputable def b_X9_seat_1 : zBl := fun jp K => oInt 2147483647 <| oIret K
theorem s_X9_seat_1 (d : Nat) : zPb l G gh (d + 3) n_X9_seat p_X9_seat 8 b_X9_seat_1 := fun K jp hj =>
    z_iconst (n := -1) (zd (i := .iconst (-1)) (n := 1) (by decide +kernel)) (by decide +kernel) <|
    z_iret (zd (i := .ireturn) (n := 1) (by decide +kernel)) rfl
noncomputable def f_X9_seat : zMt := zmet 5 [b_X9_seat_0, b_X9_seat_1]
theorem c_X9_seat (d : Nat) : zC l G gh (d + 3) n_X9_seat f_X9_seat := zmet_ok (pcs := p_X9_seat) (by decide) rfl rfl ⟨s_X9_seat_0 d, s_X9_seat_1 d, trivial⟩
def n_X8_isPair : qMn := (yX8_isPair, cX8_isPair, 3, (some Jvm.ClassFile.FieldType.boolean), 0, 0)
theorem to_X8_isPair : qTo n_X8_isPair 2 := ⟨g800, g97, ⟨by decide, by decide, by decide +kernel⟩, by decide⟩
def p_X8_isPair : List Nat := [0, 20, 21]
noncomputable def b_X8_isPair_0 : zBl := fun jp K => oAld 0 <| oIld 1 <| oCv 8 1 f_X8_isSeat <| oIf zeq zne (jp 1) (oFail)
theorem s_X8_isPair_0 (d : Nat) : zPb l G gh (d + 2) n_X8_isPair p_X8_isPair 0 b_X8_isPair_0 := fun K jp hj =>
    z_aload_n (n := 0) (i := 0) (zd (i := .aload_n 0) (n := 1) (by decide +kernel)) rfl <|
    z_iload_n (n := 1) (i := 1) (zd (i := .iload_n 1) (n := 1) (by decide +kernel)) rfl <|
    z_callV (idx := 131) (ci := 8) (N := n_X8_isSeat) (zd (i := .invokevirtual 131) (n := 3) (by decide +kernel)) to_X8_isSeat g771 g773 g23 (by decide +kernel) rfl rfl rfl (c_X8_isSeat (l := l) (G := G) (gh := gh) d) <|
    z_if_eq (off := 15) (tgt := 20) (zd (i := .ifCond .eq (15)) (n := 3) (by decide +kernel)) (by decide +kernel) (zj (hj 1) (by decide +kernel)) z_fail
noncomputable def b_X8_isPair_1 : zBl := fun jp K => oInt 2147483648 <| jp 2
theorem s_X8_isPair_1 (d : Nat) : zPb l G gh (d + 2) n_X8_isPair p_X8_isPair 20 b_X8_isPair_1 := fun K jp hj =>
    z_iconst (n := 0) (zd (i := .iconst (0)) (n := 1) (by decide +kernel)) (by decide +kernel) <|
    (zj (hj 2) (by decide +kernel))
noncomputable def b_X8_isPair_2 : zBl := fun jp K => oZret K
theorem s_X8_isPair_2 (d : Nat) : zPb l G gh (d + 2) n_X8_isPair p_X8_isPair 21 b_X8_isPair_2 := fun K jp hj =>
    z_zret (zd (i := .ireturn) (n := 1) (by decide +kernel)) rfl
noncomputable def f_X8_isPair : zMt := zmet 3 [b_X8_isPair_0, b_X8_isPair_1, b_X8_isPair_2]
theorem c_X8_isPair (d : Nat) : zC l G gh (d + 2) n_X8_isPair f_X8_isPair := zmet_ok (pcs := p_X8_isPair) (by decide) rfl rfl ⟨s_X8_isPair_0 d, s_X8_isPair_1 d, s_X8_isPair_2 d, trivial⟩
def n_X8_loan : qMn := (yX8_loan, cX8_loan, 5, (some Jvm.ClassFile.FieldType.int), 0, 0)
theorem to_X8_loan : qTo n_X8_loan 3 := ⟨g796, g97, ⟨by decide, by decide, by decide +kernel⟩, by decide⟩
def p_X8_loan : List Nat := [0, 18]
noncomputable def b_X8_loan_0 : zBl := fun jp K => oAld 0 <| oIld 1 <| oIld 2 <| oCv 8 2 f_X8_isPair <| oIf zeq zne (jp 1) (oFail)
theorem s_X8_loan_0 (d : Nat) : zPb l G gh (d + 3) n_X8_loan p_X8_loan 0 b_X8_loan_0 := fun K jp hj =>
    z_aload_n (n := 0) (i := 0) (zd (i := .aload_n 0) (n := 1) (by decide +kernel)) rfl <|
    z_iload_n (n := 1) (i := 1) (zd (i := .iload_n 1) (n := 1) (by decide +kernel)) rfl <|
    z_iload_n (n := 2) (i := 2) (zd (i := .iload_n 2) (n := 1) (by decide +kernel)) rfl <|
    z_callV (idx := 162) (ci := 8) (N := n_X8_isPair) (zd (i := .invokevirtual 162) (n := 3) (by decide +kernel)) to_X8_isPair g797 g799 g26 (by decide +kernel) rfl rfl rfl (c_X8_isPair (l := l) (G := G) (gh := gh) d) <|
    z_if_eq (off := 12) (tgt := 18) (zd (i := .ifCond .eq (12)) (n := 3) (by decide +kernel)) (by decide +kernel) (zj (hj 1) (by decide +kernel)) z_fail
noncomputable def b_X8_loan_1 : zBl := fun jp K => oInt 2147483647 <| oIret K
theorem s_X8_loan_1 (d : Nat) : zPb l G gh (d + 3) n_X8_loan p_X8_loan 18 b_X8_loan_1 := fun K jp hj =>
    z_iconst (n := -1) (zd (i := .iconst (-1)) (n := 1) (by decide +kernel)) (by decide +kernel) <|
    z_iret (zd (i := .ireturn) (n := 1) (by decide +kernel)) rfl
noncomputable def f_X8_loan : zMt := zmet 5 [b_X8_loan_0, b_X8_loan_1]
theorem c_X8_loan (d : Nat) : zC l G gh (d + 3) n_X8_loan f_X8_loan := zmet_ok (pcs := p_X8_loan) (by decide) rfl rfl ⟨s_X8_loan_0 d, s_X8_loan_1 d, trivial⟩
def n_X9_loan : qMn := (yX9_loan, cX9_loan, 4, (some Jvm.ClassFile.FieldType.int), 0, 0)
theorem to_X9_loan : qTo n_X9_loan 3 := ⟨g1502, g110, ⟨by decide, by decide, by decide +kernel⟩, by decide⟩
def p_X9_loan : List Nat := [0, 25]
noncomputable def b_X9_loan_0 : zBl := fun jp K => oAld 0 <| oIld 1 <| oCv 9 1 f_X9_isSeat <| oIf zeq zne (jp 1) (oFail)
theorem s_X9_loan_0 (d : Nat) : zPb l G gh (d + 3) n_X9_loan p_X9_loan 0 b_X9_loan_0 := fun K jp hj =>
    z_aload_n (n := 0) (i := 0) (zd (i := .aload_n 0) (n := 1) (by decide +kernel)) rfl <|
    z_iload_n (n := 1) (i := 1) (zd (i := .iload_n 1) (n := 1) (by decide +kernel)) rfl <|
    z_callV (idx := 378) (ci := 9) (N := n_X9_isSeat) (zd (i := .invokevirtual 378) (n := 3) (by decide +kernel)) to_X9_isSeat g1487 g1489 g75 (by decide +kernel) rfl rfl rfl (c_X9_isSeat (l := l) (G := G) (gh := gh) d) <|
    z_if_eq (off := 20) (tgt := 25) (zd (i := .ifCond .eq (20)) (n := 3) (by decide +kernel)) (by decide +kernel) (zj (hj 1) (by decide +kernel)) z_fail
noncomputable def b_X9_loan_1 : zBl := fun jp K => oInt 2147483647 <| oIret K
theorem s_X9_loan_1 (d : Nat) : zPb l G gh (d + 3) n_X9_loan p_X9_loan 25 b_X9_loan_1 := fun K jp hj =>
    z_iconst (n := -1) (zd (i := .iconst (-1)) (n := 1) (by decide +kernel)) (by decide +kernel) <|
    z_iret (zd (i := .ireturn) (n := 1) (by decide +kernel)) rfl
noncomputable def f_X9_loan : zMt := zmet 4 [b_X9_loan_0, b_X9_loan_1]
theorem c_X9_loan (d : Nat) : zC l G gh (d + 3) n_X9_loan f_X9_loan := zmet_ok (pcs := p_X9_loan) (by decide) rfl rfl ⟨s_X9_loan_0 d, s_X9_loan_1 d, trivial⟩
def n_X8_isX : qMn := (yX8_isX, cX8_isX, 1, (some Jvm.ClassFile.FieldType.boolean), 0, 0)
theorem to_X8_isX : qTo n_X8_isX 1 := ⟨g807, g97, ⟨by decide, by decide, by decide +kernel⟩, by decide⟩
def p_X8_isX : List Nat := [0, 4, 10, 14, 15]
noncomputable def b_X8_isX_0 : zBl := fun jp K => oIld 0 <| oIf zlt zge (jp 3) (jp 1)
theorem s_X8_isX_0 (d : Nat) : zPb l G gh (d + 1) n_X8_isX p_X8_isX 0 b_X8_isX_0 := fun K jp hj =>
    z_iload_n (n := 0) (i := 0) (zd (i := .iload_n 0) (n := 1) (by decide +kernel)) rfl <|
    z_if_lt (off := 13) (tgt := 14) (zd (i := .ifCond .lt (13)) (n := 3) (by decide +kernel)) (by decide +kernel) (zj (hj 3) (by decide +kernel)) (zj (hj 1) (by decide +kernel))
noncomputable def b_X8_isX_1 : zBl := fun jp K => oIld 0 <| oInt 2147483668 <| oIc zge zlt (jp 3) (jp 2)
theorem s_X8_isX_1 (d : Nat) : zPb l G gh (d + 1) n_X8_isX p_X8_isX 4 b_X8_isX_1 := fun K jp hj =>
    z_iload_n (n := 0) (i := 0) (zd (i := .iload_n 0) (n := 1) (by decide +kernel)) rfl <|
    z_bipush (n := 20) (zd (i := .bipush (20)) (n := 2) (by decide +kernel)) (by decide +kernel) <|
    z_icmp_ge (off := 7) (tgt := 14) (zd (i := .if_icmp .ge (7)) (n := 3) (by decide +kernel)) (by decide +kernel) (zj (hj 3) (by decide +kernel)) (zj (hj 2) (by decide +kernel))
noncomputable def b_X8_isX_2 : zBl := fun jp K => oInt 2147483649 <| jp 4
theorem s_X8_isX_2 (d : Nat) : zPb l G gh (d + 1) n_X8_isX p_X8_isX 10 b_X8_isX_2 := fun K jp hj =>
    z_iconst (n := 1) (zd (i := .iconst (1)) (n := 1) (by decide +kernel)) (by decide +kernel) <|
    z_goto (off := 4) (tgt := 15) (zd (i := .goto (4)) (n := 3) (by decide +kernel)) (by decide +kernel) (zj (hj 4) (by decide +kernel))
noncomputable def b_X8_isX_3 : zBl := fun jp K => oInt 2147483648 <| jp 4
theorem s_X8_isX_3 (d : Nat) : zPb l G gh (d + 1) n_X8_isX p_X8_isX 14 b_X8_isX_3 := fun K jp hj =>
    z_iconst (n := 0) (zd (i := .iconst (0)) (n := 1) (by decide +kernel)) (by decide +kernel) <|
    (zj (hj 4) (by decide +kernel))
noncomputable def b_X8_isX_4 : zBl := fun jp K => oZret K
theorem s_X8_isX_4 (d : Nat) : zPb l G gh (d + 1) n_X8_isX p_X8_isX 15 b_X8_isX_4 := fun K jp hj =>
    z_zret (zd (i := .ireturn) (n := 1) (by decide +kernel)) rfl
noncomputable def f_X8_isX : zMt := zmet 1 [b_X8_isX_0, b_X8_isX_1, b_X8_isX_2, b_X8_isX_3, b_X8_isX_4]
theorem c_X8_isX (d : Nat) : zC l G gh (d + 1) n_X8_isX f_X8_isX := zmet_ok (pcs := p_X8_isX) (by decide) rfl rfl ⟨s_X8_isX_0 d, s_X8_isX_1 d, s_X8_isX_2 d, s_X8_isX_3 d, s_X8_isX_4 d, trivial⟩
def n_X2_clearVars : qMn := (yX2_clearVars, cX2_clearVars, 3, none, 0, 0)
theorem to_X2_clearVars : qTo n_X2_clearVars 1 := ⟨g727, g106, ⟨by decide, by decide, by decide +kernel⟩, by decide⟩
def p_X2_clearVars : List Nat := [0, 2, 8, 21]
noncomputable def b_X2_clearVars_0 : zBl := fun jp K => oInt 2147483648 <| oIst 2 <| jp 1
theorem s_X2_clearVars_0 (d : Nat) : zPb l G gh (d + 1) n_X2_clearVars p_X2_clearVars 0 b_X2_clearVars_0 := fun K jp hj =>
    z_iconst (n := 0) (zd (i := .iconst (0)) (n := 1) (by decide +kernel)) (by decide +kernel) <|
    z_istore_n (n := 2) (i := 2) (zd (i := .istore_n 2) (n := 1) (by decide +kernel)) rfl (by decide +kernel) <|
    (zj (hj 1) (by decide +kernel))
noncomputable def b_X2_clearVars_1 : zBl := fun jp K => oIld 2 <| oInt 2147483657 <| oIc zge zlt (jp 3) (jp 2)
theorem s_X2_clearVars_1 (d : Nat) : zPb l G gh (d + 1) n_X2_clearVars p_X2_clearVars 2 b_X2_clearVars_1 := fun K jp hj =>
    z_iload_n (n := 2) (i := 2) (zd (i := .iload_n 2) (n := 1) (by decide +kernel)) rfl <|
    z_bipush (n := 9) (zd (i := .bipush (9)) (n := 2) (by decide +kernel)) (by decide +kernel) <|
    z_icmp_ge (off := 16) (tgt := 21) (zd (i := .if_icmp .ge (16)) (n := 3) (by decide +kernel)) (by decide +kernel) (zj (hj 3) (by decide +kernel)) (zj (hj 2) (by decide +kernel))
noncomputable def b_X2_clearVars_2 : zBl := fun jp K => oAld 0 <| oGetR 2 4 <| oIld 2 <| oInt 2147483648 <| oXast 10 zid <| oInc 2 2147483649 <| jp 1
theorem s_X2_clearVars_2 (d : Nat) : zPb l G gh (d + 1) n_X2_clearVars p_X2_clearVars 8 b_X2_clearVars_2 := fun K jp hj =>
    z_aload_n (n := 0) (i := 0) (zd (i := .aload_n 0) (n := 1) (by decide +kernel)) rfl <|
    z_getR (ci := 2) (j := 4) (idx := 25) (zd (i := .getfield 25) (n := 3) (by decide +kernel)) (by decide +kernel) (by decide +kernel) rfl g241 <|
    z_iload_n (n := 2) (i := 2) (zd (i := .iload_n 2) (n := 1) (by decide +kernel)) rfl <|
    z_iconst (n := 0) (zd (i := .iconst (0)) (n := 1) (by decide +kernel)) (by decide +kernel) <|
    z_iast (zd (i := .iastore) (n := 1) (by decide +kernel)) <|
    z_iinc (i := 2) (n := 1) (zd (i := .iinc 2 (1)) (n := 3) (by decide +kernel)) (by decide +kernel) (by decide +kernel) <|
    z_goto (off := -16) (tgt := 2) (zd (i := .goto (-16)) (n := 3) (by decide +kernel)) (by decide +kernel) (zj (hj 1) (by decide +kernel))
noncomputable def b_X2_clearVars_3 : zBl := fun jp K => oAld 0 <| oGetR 2 4 <| oInt 2147483648 <| oIld 1 <| oInt 2147483672 <| oB2z zirem <| oXast 10 zid <| oAld 0 <| oGetR 2 4 <| oInt 2147483649 <| oIld 1 <| oInt 2147483672 <| oB2z zidiv <| oXast 10 zid <| oVret K
theorem s_X2_clearVars_3 (d : Nat) : zPb l G gh (d + 1) n_X2_clearVars p_X2_clearVars 21 b_X2_clearVars_3 := fun K jp hj =>
    z_aload_n (n := 0) (i := 0) (zd (i := .aload_n 0) (n := 1) (by decide +kernel)) rfl <|
    z_getR (ci := 2) (j := 4) (idx := 25) (zd (i := .getfield 25) (n := 3) (by decide +kernel)) (by decide +kernel) (by decide +kernel) rfl g241 <|
    z_iconst (n := 0) (zd (i := .iconst (0)) (n := 1) (by decide +kernel)) (by decide +kernel) <|
    z_iload_n (n := 1) (i := 1) (zd (i := .iload_n 1) (n := 1) (by decide +kernel)) rfl <|
    z_bipush (n := 24) (zd (i := .bipush (24)) (n := 2) (by decide +kernel)) (by decide +kernel) <|
    z_irem (zd (i := .irem) (n := 1) (by decide +kernel)) <|
    z_iast (zd (i := .iastore) (n := 1) (by decide +kernel)) <|
    z_aload_n (n := 0) (i := 0) (zd (i := .aload_n 0) (n := 1) (by decide +kernel)) rfl <|
    z_getR (ci := 2) (j := 4) (idx := 25) (zd (i := .getfield 25) (n := 3) (by decide +kernel)) (by decide +kernel) (by decide +kernel) rfl g241 <|
    z_iconst (n := 1) (zd (i := .iconst (1)) (n := 1) (by decide +kernel)) (by decide +kernel) <|
    z_iload_n (n := 1) (i := 1) (zd (i := .iload_n 1) (n := 1) (by decide +kernel)) rfl <|
    z_bipush (n := 24) (zd (i := .bipush (24)) (n := 2) (by decide +kernel)) (by decide +kernel) <|
    z_idiv (zd (i := .idiv) (n := 1) (by decide +kernel)) <|
    z_iast (zd (i := .iastore) (n := 1) (by decide +kernel)) <|
    z_vret (zd (i := .return_) (n := 1) (by decide +kernel)) rfl
noncomputable def f_X2_clearVars : zMt := zmet 3 [b_X2_clearVars_0, b_X2_clearVars_1, b_X2_clearVars_2, b_X2_clearVars_3]
theorem c_X2_clearVars (d : Nat) : zC l G gh (d + 1) n_X2_clearVars f_X2_clearVars := zmet_ok (pcs := p_X2_clearVars) (by decide) rfl rfl ⟨s_X2_clearVars_0 d, s_X2_clearVars_1 d, s_X2_clearVars_2 d, s_X2_clearVars_3 d, trivial⟩
def n_X2_variable : qMn := (yX2_variable, cX2_variable, 2, (some Jvm.ClassFile.FieldType.int), 0, 0)
theorem to_X2_variable : qTo n_X2_variable 1 := ⟨g735, g106, ⟨by decide, by decide, by decide +kernel⟩, by decide⟩
def p_X2_variable : List Nat := [0, 4, 10, 20]
noncomputable def b_X2_variable_0 : zBl := fun jp K => oIld 1 <| oIf zlt zge (oFail) (jp 1)
theorem s_X2_variable_0 (d : Nat) : zPb l G gh (d + 1) n_X2_variable p_X2_variable 0 b_X2_variable_0 := fun K jp hj =>
    z_iload_n (n := 1) (i := 1) (zd (i := .iload_n 1) (n := 1) (by decide +kernel)) rfl <|
    z_if_lt (off := 18) (tgt := 19) (zd (i := .ifCond .lt (18)) (n := 3) (by decide +kernel)) (by decide +kernel) z_fail (zj (hj 1) (by decide +kernel))
noncomputable def b_X2_variable_1 : zBl := fun jp K => oIld 1 <| oInt 2147483657 <| oIc zge zlt (oFail) (jp 2)
theorem s_X2_variable_1 (d : Nat) : zPb l G gh (d + 1) n_X2_variable p_X2_variable 4 b_X2_variable_1 := fun K jp hj =>
    z_iload_n (n := 1) (i := 1) (zd (i := .iload_n 1) (n := 1) (by decide +kernel)) rfl <|
    z_bipush (n := 9) (zd (i := .bipush (9)) (n := 2) (by decide +kernel)) (by decide +kernel) <|
    z_icmp_ge (off := 12) (tgt := 19) (zd (i := .if_icmp .ge (12)) (n := 3) (by decide +kernel)) (by decide +kernel) z_fail (zj (hj 2) (by decide +kernel))
noncomputable def b_X2_variable_2 : zBl := fun jp K => oAld 0 <| oGetR 2 4 <| oIld 1 <| oXald 10 <| jp 3
theorem s_X2_variable_2 (d : Nat) : zPb l G gh (d + 1) n_X2_variable p_X2_variable 10 b_X2_variable_2 := fun K jp hj =>
    z_aload_n (n := 0) (i := 0) (zd (i := .aload_n 0) (n := 1) (by decide +kernel)) rfl <|
    z_getR (ci := 2) (j := 4) (idx := 25) (zd (i := .getfield 25) (n := 3) (by decide +kernel)) (by decide +kernel) (by decide +kernel) rfl g241 <|
    z_iload_n (n := 1) (i := 1) (zd (i := .iload_n 1) (n := 1) (by decide +kernel)) rfl <|
    z_iald (zd (i := .iaload) (n := 1) (by decide +kernel)) <|
    z_goto (off := 4) (tgt := 20) (zd (i := .goto (4)) (n := 3) (by decide +kernel)) (by decide +kernel) (zj (hj 3) (by decide +kernel))
noncomputable def b_X2_variable_3 : zBl := fun jp K => oIret K
theorem s_X2_variable_3 (d : Nat) : zPb l G gh (d + 1) n_X2_variable p_X2_variable 20 b_X2_variable_3 := fun K jp hj =>
    z_iret (zd (i := .ireturn) (n := 1) (by decide +kernel)) rfl
noncomputable def f_X2_variable : zMt := zmet 2 [b_X2_variable_0, b_X2_variable_1, b_X2_variable_2, b_X2_variable_3]
theorem c_X2_variable (d : Nat) : zC l G gh (d + 1) n_X2_variable f_X2_variable := zmet_ok (pcs := p_X2_variable) (by decide) rfl rfl ⟨s_X2_variable_0 d, s_X2_variable_1 d, s_X2_variable_2 d, s_X2_variable_3 d, trivial⟩
def n_X2_joined : qMn := (yX2_joined, cX2_joined, 3, (some Jvm.ClassFile.FieldType.int), 0, 0)
theorem to_X2_joined : qTo n_X2_joined 3 := ⟨g739, g106, ⟨by decide, by decide, by decide +kernel⟩, by decide⟩
def p_X2_joined : List Nat := [0, 32]
noncomputable def b_X2_joined_0 : zBl := fun jp K => oIld 0 <| oTab 2147483650 [oFail, jp 1, oFail] (oFail)
theorem s_X2_joined_0 (d : Nat) : zPb l G gh (d + 1) n_X2_joined p_X2_joined 0 b_X2_joined_0 := fun K jp hj =>
    z_iload_n (n := 0) (i := 0) (zd (i := .iload_n 0) (n := 1) (by decide +kernel)) rfl <|
    z_table (v := 2147483650) (df := 40) (len := 27) (x := 2) (dflt := 39) (lo := 2) (hi := 4) (offs := #[27, 31, 35]) (tgts := [28, 32, 36]) (zd (i := .tableswitch (39) (2) (4) #[27, 31, 35]) (n := 27) (by decide +kernel)) (by decide +kernel) rfl rfl (by decide +kernel) (by decide +kernel) (by decide +kernel) ⟨z_fail, (zj (hj 1) (by decide +kernel)), z_fail, trivial⟩ z_fail
noncomputable def b_X2_joined_1 : zBl := fun jp K => oIld 1 <| oIld 2 <| oB2 zsub <| oIret K
theorem s_X2_joined_1 (d : Nat) : zPb l G gh (d + 1) n_X2_joined p_X2_joined 32 b_X2_joined_1 := fun K jp hj =>
    z_iload_n (n := 1) (i := 1) (zd (i := .iload_n 1) (n := 1) (by decide +kernel)) rfl <|
    z_iload_n (n := 2) (i := 2) (zd (i := .iload_n 2) (n := 1) (by decide +kernel)) rfl <|
    z_isub (zd (i := .isub) (n := 1) (by decide +kernel)) <|
    z_iret (zd (i := .ireturn) (n := 1) (by decide +kernel)) rfl
noncomputable def f_X2_joined : zMt := zmet 3 [b_X2_joined_0, b_X2_joined_1]
theorem c_X2_joined (d : Nat) : zC l G gh (d + 1) n_X2_joined f_X2_joined := zmet_ok (pcs := p_X2_joined) (by decide) rfl rfl ⟨s_X2_joined_0 d, s_X2_joined_1 d, trivial⟩
def n_X2_reckon : qMn := (yX2_reckon, cX2_reckon, 6, (some Jvm.ClassFile.FieldType.int), 0, 0)
theorem to_X2_reckon : qTo n_X2_reckon 1 := ⟨g731, g106, ⟨by decide, by decide, by decide +kernel⟩, by decide⟩
def p_X2_reckon : List Nat := [0, 9, 13, 21, 46, 54, 64, 69, 75, 82, 89, 93, 105, 106, 111, 130, 171, 199]
noncomputable def b_X2_reckon_0 : zBl := fun jp K => oInt 2147483648 <| oIst 2 <| oAld 0 <| oGetR 2 3 <| oIld 1 <| oXald 10 <| oIst 3 <| jp 1
theorem s_X2_reckon_0 (d : Nat) : zPb l G gh (d + 2) n_X2_reckon p_X2_reckon 0 b_X2_reckon_0 := fun K jp hj =>
    z_iconst (n := 0) (zd (i := .iconst (0)) (n := 1) (by decide +kernel)) (by decide +kernel) <|
    z_istore_n (n := 2) (i := 2) (zd (i := .istore_n 2) (n := 1) (by decide +kernel)) rfl (by decide +kernel) <|
    z_aload_n (n := 0) (i := 0) (zd (i := .aload_n 0) (n := 1) (by decide +kernel)) rfl <|
    z_getR (ci := 2) (j := 3) (idx := 22) (zd (i := .getfield 22) (n := 3) (by decide +kernel)) (by decide +kernel) (by decide +kernel) rfl g240 <|
    z_iload_n (n := 1) (i := 1) (zd (i := .iload_n 1) (n := 1) (by decide +kernel)) rfl <|
    z_iald (zd (i := .iaload) (n := 1) (by decide +kernel)) <|
    z_istore_n (n := 3) (i := 3) (zd (i := .istore_n 3) (n := 1) (by decide +kernel)) rfl (by decide +kernel) <|
    (zj (hj 1) (by decide +kernel))
noncomputable def b_X2_reckon_1 : zBl := fun jp K => oIld 3 <| oIf zlt zge (oFail) (jp 2)
theorem s_X2_reckon_1 (d : Nat) : zPb l G gh (d + 2) n_X2_reckon p_X2_reckon 9 b_X2_reckon_1 := fun K jp hj =>
    z_iload_n (n := 3) (i := 3) (zd (i := .iload_n 3) (n := 1) (by decide +kernel)) rfl <|
    z_if_lt (off := 192) (tgt := 202) (zd (i := .ifCond .lt (192)) (n := 3) (by decide +kernel)) (by decide +kernel) z_fail (zj (hj 2) (by decide +kernel))
noncomputable def b_X2_reckon_2 : zBl := fun jp K => oIld 3 <| oAld 0 <| oGetI 2 2 <| oIc zge zlt (oFail) (jp 3)
theorem s_X2_reckon_2 (d : Nat) : zPb l G gh (d + 2) n_X2_reckon p_X2_reckon 13 b_X2_reckon_2 := fun K jp hj =>
    z_iload_n (n := 3) (i := 3) (zd (i := .iload_n 3) (n := 1) (by decide +kernel)) rfl <|
    z_aload_n (n := 0) (i := 0) (zd (i := .aload_n 0) (n := 1) (by decide +kernel)) rfl <|
    z_getI (ci := 2) (j := 2) (idx := 18) (zd (i := .getfield 18) (n := 3) (by decide +kernel)) (by decide +kernel) (by decide +kernel) rfl g239 <|
    z_icmp_ge (off := 184) (tgt := 202) (zd (i := .if_icmp .ge (184)) (n := 3) (by decide +kernel)) (by decide +kernel) z_fail (zj (hj 3) (by decide +kernel))
noncomputable def b_X2_reckon_3 : zBl := fun jp K => oAld 0 <| oGetR 2 0 <| oIld 3 <| oXald 10 <| oIst 4 <| oAld 0 <| oGetR 2 1 <| oIld 3 <| oXald 10 <| oIst 5 <| oInc 3 2147483649 <| oIld 4 <| oInt 2147483649 <| oIc zgt zle (jp 9) (jp 4)
theorem s_X2_reckon_3 (d : Nat) : zPb l G gh (d + 2) n_X2_reckon p_X2_reckon 21 b_X2_reckon_3 := fun K jp hj =>
    z_aload_n (n := 0) (i := 0) (zd (i := .aload_n 0) (n := 1) (by decide +kernel)) rfl <|
    z_getR (ci := 2) (j := 0) (idx := 11) (zd (i := .getfield 11) (n := 3) (by decide +kernel)) (by decide +kernel) (by decide +kernel) rfl g237 <|
    z_iload_n (n := 3) (i := 3) (zd (i := .iload_n 3) (n := 1) (by decide +kernel)) rfl <|
    z_iald (zd (i := .iaload) (n := 1) (by decide +kernel)) <|
    z_istore (i := 4) (zd (i := .istore 4) (n := 2) (by decide +kernel)) (by decide +kernel) <|
    z_aload_n (n := 0) (i := 0) (zd (i := .aload_n 0) (n := 1) (by decide +kernel)) rfl <|
    z_getR (ci := 2) (j := 1) (idx := 15) (zd (i := .getfield 15) (n := 3) (by decide +kernel)) (by decide +kernel) (by decide +kernel) rfl g238 <|
    z_iload_n (n := 3) (i := 3) (zd (i := .iload_n 3) (n := 1) (by decide +kernel)) rfl <|
    z_iald (zd (i := .iaload) (n := 1) (by decide +kernel)) <|
    z_istore (i := 5) (zd (i := .istore 5) (n := 2) (by decide +kernel)) (by decide +kernel) <|
    z_iinc (i := 3) (n := 1) (zd (i := .iinc 3 (1)) (n := 3) (by decide +kernel)) (by decide +kernel) (by decide +kernel) <|
    z_iload (i := 4) (zd (i := .iload 4) (n := 2) (by decide +kernel)) <|
    z_iconst (n := 1) (zd (i := .iconst (1)) (n := 1) (by decide +kernel)) (by decide +kernel) <|
    z_icmp_gt (off := 39) (tgt := 82) (zd (i := .if_icmp .gt (39)) (n := 3) (by decide +kernel)) (by decide +kernel) (zj (hj 9) (by decide +kernel)) (zj (hj 4) (by decide +kernel))
noncomputable def b_X2_reckon_4 : zBl := fun jp K => oIld 2 <| oInt 2147483668 <| oIc zlt zge (jp 5) (oFail)
theorem s_X2_reckon_4 (d : Nat) : zPb l G gh (d + 2) n_X2_reckon p_X2_reckon 46 b_X2_reckon_4 := fun K jp hj =>
    z_iload_n (n := 2) (i := 2) (zd (i := .iload_n 2) (n := 1) (by decide +kernel)) rfl <|
    z_bipush (n := 20) (zd (i := .bipush (20)) (n := 2) (by decide +kernel)) (by decide +kernel) <|
    z_icmp_lt (off := 5) (tgt := 54) (zd (i := .if_icmp .lt (5)) (n := 3) (by decide +kernel)) (by decide +kernel) (zj (hj 5) (by decide +kernel)) z_fail
noncomputable def b_X2_reckon_5 : zBl := fun jp K => oAld 0 <| oGetR 2 5 <| oIld 2 <| oIld 4 <| oIf zne zeq (jp 7) (jp 6)
theorem s_X2_reckon_5 (d : Nat) : zPb l G gh (d + 2) n_X2_reckon p_X2_reckon 54 b_X2_reckon_5 := fun K jp hj =>
    z_aload_n (n := 0) (i := 0) (zd (i := .aload_n 0) (n := 1) (by decide +kernel)) rfl <|
    z_getR (ci := 2) (j := 5) (idx := 28) (zd (i := .getfield 28) (n := 3) (by decide +kernel)) (by decide +kernel) (by decide +kernel) rfl g242 <|
    z_iload_n (n := 2) (i := 2) (zd (i := .iload_n 2) (n := 1) (by decide +kernel)) rfl <|
    z_iload (i := 4) (zd (i := .iload 4) (n := 2) (by decide +kernel)) <|
    z_if_ne (off := 8) (tgt := 69) (zd (i := .ifCond .ne (8)) (n := 3) (by decide +kernel)) (by decide +kernel) (zj (hj 7) (by decide +kernel)) (zj (hj 6) (by decide +kernel))
noncomputable def b_X2_reckon_6 : zBl := fun jp K => oIld 5 <| jp 8
theorem s_X2_reckon_6 (d : Nat) : zPb l G gh (d + 2) n_X2_reckon p_X2_reckon 64 b_X2_reckon_6 := fun K jp hj =>
    z_iload (i := 5) (zd (i := .iload 5) (n := 2) (by decide +kernel)) <|
    z_goto (off := 9) (tgt := 75) (zd (i := .goto (9)) (n := 3) (by decide +kernel)) (by decide +kernel) (zj (hj 8) (by decide +kernel))
noncomputable def b_X2_reckon_7 : zBl := fun jp K => oAld 0 <| oIld 5 <| oCv 2 1 f_X2_variable <| jp 8
theorem s_X2_reckon_7 (d : Nat) : zPb l G gh (d + 2) n_X2_reckon p_X2_reckon 69 b_X2_reckon_7 := fun K jp hj =>
    z_aload_n (n := 0) (i := 0) (zd (i := .aload_n 0) (n := 1) (by decide +kernel)) rfl <|
    z_iload (i := 5) (zd (i := .iload 5) (n := 2) (by decide +kernel)) <|
    z_callV (idx := 67) (ci := 2) (N := n_X2_variable) (zd (i := .invokevirtual 67) (n := 3) (by decide +kernel)) to_X2_variable g732 g734 g21 (by decide +kernel) rfl rfl rfl (c_X2_variable (l := l) (G := G) (gh := gh) d) <|
    (zj (hj 8) (by decide +kernel))
noncomputable def b_X2_reckon_8 : zBl := fun jp K => oXast 10 zid <| oInc 2 2147483649 <| jp 17
theorem s_X2_reckon_8 (d : Nat) : zPb l G gh (d + 2) n_X2_reckon p_X2_reckon 75 b_X2_reckon_8 := fun K jp hj =>
    z_iast (zd (i := .iastore) (n := 1) (by decide +kernel)) <|
    z_iinc (i := 2) (n := 1) (zd (i := .iinc 2 (1)) (n := 3) (by decide +kernel)) (by decide +kernel) (by decide +kernel) <|
    z_goto (off := 120) (tgt := 199) (zd (i := .goto (120)) (n := 3) (by decide +kernel)) (by decide +kernel) (zj (hj 17) (by decide +kernel))
noncomputable def b_X2_reckon_9 : zBl := fun jp K => oIld 4 <| oInt 2147483655 <| oIc zne zeq (jp 13) (jp 10)
theorem s_X2_reckon_9 (d : Nat) : zPb l G gh (d + 2) n_X2_reckon p_X2_reckon 82 b_X2_reckon_9 := fun K jp hj =>
    z_iload (i := 4) (zd (i := .iload 4) (n := 2) (by decide +kernel)) <|
    z_bipush (n := 7) (zd (i := .bipush (7)) (n := 2) (by decide +kernel)) (by decide +kernel) <|
    z_icmp_ne (off := 20) (tgt := 106) (zd (i := .if_icmp .ne (20)) (n := 3) (by decide +kernel)) (by decide +kernel) (zj (hj 13) (by decide +kernel)) (zj (hj 10) (by decide +kernel))
noncomputable def b_X2_reckon_10 : zBl := fun jp K => oIld 2 <| oIf zle zgt (oFail) (jp 11)
theorem s_X2_reckon_10 (d : Nat) : zPb l G gh (d + 2) n_X2_reckon p_X2_reckon 89 b_X2_reckon_10 := fun K jp hj =>
    z_iload_n (n := 2) (i := 2) (zd (i := .iload_n 2) (n := 1) (by decide +kernel)) rfl <|
    z_if_le (off := 14) (tgt := 104) (zd (i := .ifCond .le (14)) (n := 3) (by decide +kernel)) (by decide +kernel) z_fail (zj (hj 11) (by decide +kernel))
noncomputable def b_X2_reckon_11 : zBl := fun jp K => oAld 0 <| oGetR 2 5 <| oIld 2 <| oInt 2147483649 <| oB2 zsub <| oXald 10 <| jp 12
theorem s_X2_reckon_11 (d : Nat) : zPb l G gh (d + 2) n_X2_reckon p_X2_reckon 93 b_X2_reckon_11 := fun K jp hj =>
    z_aload_n (n := 0) (i := 0) (zd (i := .aload_n 0) (n := 1) (by decide +kernel)) rfl <|
    z_getR (ci := 2) (j := 5) (idx := 28) (zd (i := .getfield 28) (n := 3) (by decide +kernel)) (by decide +kernel) (by decide +kernel) rfl g242 <|
    z_iload_n (n := 2) (i := 2) (zd (i := .iload_n 2) (n := 1) (by decide +kernel)) rfl <|
    z_iconst (n := 1) (zd (i := .iconst (1)) (n := 1) (by decide +kernel)) (by decide +kernel) <|
    z_isub (zd (i := .isub) (n := 1) (by decide +kernel)) <|
    z_iald (zd (i := .iaload) (n := 1) (by decide +kernel)) <|
    z_goto (off := 4) (tgt := 105) (zd (i := .goto (4)) (n := 3) (by decide +kernel)) (by decide +kernel) (zj (hj 12) (by decide +kernel))
noncomputable def b_X2_reckon_12 : zBl := fun jp K => oIret K
theorem s_X2_reckon_12 (d : Nat) : zPb l G gh (d + 2) n_X2_reckon p_X2_reckon 105 b_X2_reckon_12 := fun K jp hj =>
    z_iret (zd (i := .ireturn) (n := 1) (by decide +kernel)) rfl
noncomputable def b_X2_reckon_13 : zBl := fun jp K => oIld 2 <| oInt 2147483650 <| oIc zlt zge (oFail) (jp 14)
theorem s_X2_reckon_13 (d : Nat) : zPb l G gh (d + 2) n_X2_reckon p_X2_reckon 106 b_X2_reckon_13 := fun K jp hj =>
    z_iload_n (n := 2) (i := 2) (zd (i := .iload_n 2) (n := 1) (by decide +kernel)) rfl <|
    z_iconst (n := 2) (zd (i := .iconst (2)) (n := 1) (by decide +kernel)) (by decide +kernel) <|
    z_icmp_lt (off := 20) (tgt := 128) (zd (i := .if_icmp .lt (20)) (n := 3) (by decide +kernel)) (by decide +kernel) z_fail (zj (hj 14) (by decide +kernel))
noncomputable def b_X2_reckon_14 : zBl := fun jp K => oIld 4 <| oInt 2147483653 <| oIc zne zeq (jp 15) (oFail)
theorem s_X2_reckon_14 (d : Nat) : zPb l G gh (d + 2) n_X2_reckon p_X2_reckon 111 b_X2_reckon_14 := fun K jp hj =>
    z_iload (i := 4) (zd (i := .iload 4) (n := 2) (by decide +kernel)) <|
    z_iconst (n := 5) (zd (i := .iconst (5)) (n := 1) (by decide +kernel)) (by decide +kernel) <|
    z_icmp_ne (off := 16) (tgt := 130) (zd (i := .if_icmp .ne (16)) (n := 3) (by decide +kernel)) (by decide +kernel) (zj (hj 15) (by decide +kernel)) z_fail
noncomputable def b_X2_reckon_15 : zBl := fun jp K => oInc 2 2147483646 <| oIld 4 <| oInt 2147483654 <| oIc zne zeq (jp 16) (oFail)
theorem s_X2_reckon_15 (d : Nat) : zPb l G gh (d + 2) n_X2_reckon p_X2_reckon 130 b_X2_reckon_15 := fun K jp hj =>
    z_iinc (i := 2) (n := -2) (zd (i := .iinc 2 (-2)) (n := 3) (by decide +kernel)) (by decide +kernel) (by decide +kernel) <|
    z_iload (i := 4) (zd (i := .iload 4) (n := 2) (by decide +kernel)) <|
    z_bipush (n := 6) (zd (i := .bipush (6)) (n := 2) (by decide +kernel)) (by decide +kernel) <|
    z_icmp_ne (off := 34) (tgt := 171) (zd (i := .if_icmp .ne (34)) (n := 3) (by decide +kernel)) (by decide +kernel) (zj (hj 16) (by decide +kernel)) z_fail
noncomputable def b_X2_reckon_16 : zBl := fun jp K => oAld 0 <| oGetR 2 5 <| oIld 2 <| oIld 4 <| oAld 0 <| oGetR 2 5 <| oIld 2 <| oXald 10 <| oAld 0 <| oGetR 2 5 <| oIld 2 <| oInt 2147483649 <| oB2 zadd <| oXald 10 <| oCs 3 f_X2_joined <| oXast 10 zid <| oInc 2 2147483649 <| jp 17
theorem s_X2_reckon_16 (d : Nat) : zPb l G gh (d + 2) n_X2_reckon p_X2_reckon 171 b_X2_reckon_16 := fun K jp hj =>
    z_aload_n (n := 0) (i := 0) (zd (i := .aload_n 0) (n := 1) (by decide +kernel)) rfl <|
    z_getR (ci := 2) (j := 5) (idx := 28) (zd (i := .getfield 28) (n := 3) (by decide +kernel)) (by decide +kernel) (by decide +kernel) rfl g242 <|
    z_iload_n (n := 2) (i := 2) (zd (i := .iload_n 2) (n := 1) (by decide +kernel)) rfl <|
    z_iload (i := 4) (zd (i := .iload 4) (n := 2) (by decide +kernel)) <|
    z_aload_n (n := 0) (i := 0) (zd (i := .aload_n 0) (n := 1) (by decide +kernel)) rfl <|
    z_getR (ci := 2) (j := 5) (idx := 28) (zd (i := .getfield 28) (n := 3) (by decide +kernel)) (by decide +kernel) (by decide +kernel) rfl g242 <|
    z_iload_n (n := 2) (i := 2) (zd (i := .iload_n 2) (n := 1) (by decide +kernel)) rfl <|
    z_iald (zd (i := .iaload) (n := 1) (by decide +kernel)) <|
    z_aload_n (n := 0) (i := 0) (zd (i := .aload_n 0) (n := 1) (by decide +kernel)) rfl <|
    z_getR (ci := 2) (j := 5) (idx := 28) (zd (i := .getfield 28) (n := 3) (by decide +kernel)) (by decide +kernel) (by decide +kernel) rfl g242 <|
    z_iload_n (n := 2) (i := 2) (zd (i := .iload_n 2) (n := 1) (by decide +kernel)) rfl <|
    z_iconst (n := 1) (zd (i := .iconst (1)) (n := 1) (by decide +kernel)) (by decide +kernel) <|
    z_iadd (zd (i := .iadd) (n := 1) (by decide +kernel)) <|
    z_iald (zd (i := .iaload) (n := 1) (by decide +kernel)) <|
    z_callS (idx := 73) (N := n_X2_joined) (zd (i := .invokestatic 73) (n := 3) (by decide +kernel)) to_X2_joined g737 g738 rfl rfl (c_X2_joined (l := l) (G := G) (gh := gh) d) <|
    z_iast (zd (i := .iastore) (n := 1) (by decide +kernel)) <|
    z_iinc (i := 2) (n := 1) (zd (i := .iinc 2 (1)) (n := 3) (by decide +kernel)) (by decide +kernel) (by decide +kernel) <|
    (zj (hj 17) (by decide +kernel))
noncomputable def b_X2_reckon_17 : zBl := fun jp K => jp 1
theorem s_X2_reckon_17 (d : Nat) : zPb l G gh (d + 2) n_X2_reckon p_X2_reckon 199 b_X2_reckon_17 := fun K jp hj =>
    z_goto (off := -190) (tgt := 9) (zd (i := .goto (-190)) (n := 3) (by decide +kernel)) (by decide +kernel) (zj (hj 1) (by decide +kernel))
noncomputable def f_X2_reckon : zMt := zmet 6 [b_X2_reckon_0, b_X2_reckon_1, b_X2_reckon_2, b_X2_reckon_3, b_X2_reckon_4, b_X2_reckon_5, b_X2_reckon_6, b_X2_reckon_7, b_X2_reckon_8, b_X2_reckon_9, b_X2_reckon_10, b_X2_reckon_11, b_X2_reckon_12, b_X2_reckon_13, b_X2_reckon_14, b_X2_reckon_15, b_X2_reckon_16, b_X2_reckon_17]
theorem c_X2_reckon (d : Nat) : zC l G gh (d + 2) n_X2_reckon f_X2_reckon := zmet_ok (pcs := p_X2_reckon) (by decide) rfl rfl ⟨s_X2_reckon_0 d, s_X2_reckon_1 d, s_X2_reckon_2 d, s_X2_reckon_3 d, s_X2_reckon_4 d, s_X2_reckon_5 d, s_X2_reckon_6 d, s_X2_reckon_7 d, s_X2_reckon_8 d, s_X2_reckon_9 d, s_X2_reckon_10 d, s_X2_reckon_11 d, s_X2_reckon_12 d, s_X2_reckon_13 d, s_X2_reckon_14 d, s_X2_reckon_15 d, s_X2_reckon_16 d, s_X2_reckon_17 d, trivial⟩
def n_X8_within : qMn := (yX8_within, cX8_within, 3, (some Jvm.ClassFile.FieldType.int), 0, 0)
theorem to_X8_within : qTo n_X8_within 3 := ⟨g742, g97, ⟨by decide, by decide, by decide +kernel⟩, by decide⟩
def p_X8_within : List Nat := [0]
noncomputable def b_X8_within_0 : zBl := fun jp K => oIld 0 <| oIld 1 <| oIld 2 <| oM2 zmin <| oM2 zmax <| oIret K
theorem s_X8_within_0 (d : Nat) : zPb l G gh (d + 1) n_X8_within p_X8_within 0 b_X8_within_0 := fun K jp hj =>
    z_iload_n (n := 0) (i := 0) (zd (i := .iload_n 0) (n := 1) (by decide +kernel)) rfl <|
    z_iload_n (n := 1) (i := 1) (zd (i := .iload_n 1) (n := 1) (by decide +kernel)) rfl <|
    z_iload_n (n := 2) (i := 2) (zd (i := .iload_n 2) (n := 1) (by decide +kernel)) rfl <|
    z_min (idx := 330) (zd (i := .invokestatic 330) (n := 3) (by decide +kernel)) g743 g578 g111 g579 <|
    z_max (idx := 333) (zd (i := .invokestatic 333) (n := 3) (by decide +kernel)) g744 g575 g111 g576 <|
    z_iret (zd (i := .ireturn) (n := 1) (by decide +kernel)) rfl
noncomputable def f_X8_within : zMt := zmet 3 [b_X8_within_0]
theorem c_X8_within (d : Nat) : zC l G gh (d + 1) n_X8_within f_X8_within := zmet_ok (pcs := p_X8_within) (by decide) rfl rfl ⟨s_X8_within_0 d, trivial⟩
def n_X2_heat : qMn := (yX2_heat, cX2_heat, 2, (some Jvm.ClassFile.FieldType.int), 0, 0)
theorem to_X2_heat : qTo n_X2_heat 1 := ⟨g723, g106, ⟨by decide, by decide, by decide +kernel⟩, by decide⟩
def p_X2_heat : List Nat := [0]
noncomputable def b_X2_heat_0 : zBl := fun jp K => oAld 0 <| oIld 1 <| oCv 2 1 f_X2_clearVars <| oInt 2147483648 <| oAld 0 <| oInt 2147483648 <| oCv 2 1 f_X2_reckon <| oInt 2147483747 <| oCs 3 f_X8_within <| oIret K
theorem s_X2_heat_0 (d : Nat) : zPb l G gh (d + 3) n_X2_heat p_X2_heat 0 b_X2_heat_0 := fun K jp hj =>
    z_aload_n (n := 0) (i := 0) (zd (i := .aload_n 0) (n := 1) (by decide +kernel)) rfl <|
    z_iload_n (n := 1) (i := 1) (zd (i := .iload_n 1) (n := 1) (by decide +kernel)) rfl <|
    z_callV (idx := 43) (ci := 2) (N := n_X2_clearVars) (zd (i := .invokevirtual 43) (n := 3) (by decide +kernel)) to_X2_clearVars g724 g726 g19 (by decide +kernel) rfl rfl rfl (c_X2_clearVars (l := l) (G := G) (gh := gh) (d + 1)) <|
    z_iconst (n := 0) (zd (i := .iconst (0)) (n := 1) (by decide +kernel)) (by decide +kernel) <|
    z_aload_n (n := 0) (i := 0) (zd (i := .aload_n 0) (n := 1) (by decide +kernel)) rfl <|
    z_iconst (n := 0) (zd (i := .iconst (0)) (n := 1) (by decide +kernel)) (by decide +kernel) <|
    z_callV (idx := 46) (ci := 2) (N := n_X2_reckon) (zd (i := .invokevirtual 46) (n := 3) (by decide +kernel)) to_X2_reckon g728 g730 g20 (by decide +kernel) rfl rfl rfl (c_X2_reckon (l := l) (G := G) (gh := gh) d) <|
    z_bipush (n := 99) (zd (i := .bipush (99)) (n := 2) (by decide +kernel)) (by decide +kernel) <|
    z_callSN (idx := 50) (N := n_X8_within) (host := "MirageLoans") (zd (i := .invokestatic 50) (n := 3) (by decide +kernel)) to_X8_within (by decide +kernel) g741 rfl rfl (c_X8_within (l := l) (G := G) (gh := gh) (d + 1)) <|
    z_iret (zd (i := .ireturn) (n := 1) (by decide +kernel)) rfl
noncomputable def f_X2_heat : zMt := zmet 2 [b_X2_heat_0]
theorem c_X2_heat (d : Nat) : zC l G gh (d + 3) n_X2_heat f_X2_heat := zmet_ok (pcs := p_X2_heat) (by decide) rfl rfl ⟨s_X2_heat_0 d, trivial⟩
def n_X0_heat : qMn := (yX0_heat, cX0_heat, 2, (some Jvm.ClassFile.FieldType.int), 0, 0)
theorem to_X0_heat : qTo n_X0_heat 1 := ⟨g719, g105, ⟨by decide, by decide, by decide +kernel⟩, by decide⟩
def p_X0_heat : List Nat := [0]
noncomputable def b_X0_heat_0 : zBl := fun jp K => oAld 0 <| oGetR 0 12 <| oIld 1 <| oCv 2 1 f_X2_heat <| oIret K
theorem s_X0_heat_0 (d : Nat) : zPb l G gh (d + 4) n_X0_heat p_X0_heat 0 b_X0_heat_0 := fun K jp hj =>
    z_aload_n (n := 0) (i := 0) (zd (i := .aload_n 0) (n := 1) (by decide +kernel)) rfl <|
    z_getR (ci := 0) (j := 12) (idx := 53) (zd (i := .getfield 53) (n := 3) (by decide +kernel)) (by decide +kernel) (by decide +kernel) rfl g304 <|
    z_iload_n (n := 1) (i := 1) (zd (i := .iload_n 1) (n := 1) (by decide +kernel)) rfl <|
    z_callV (idx := 61) (ci := 2) (N := n_X2_heat) (zd (i := .invokevirtual 61) (n := 3) (by decide +kernel)) to_X2_heat g720 g721 g722 (by decide +kernel) rfl rfl rfl (c_X2_heat (l := l) (G := G) (gh := gh) d) <|
    z_iret (zd (i := .ireturn) (n := 1) (by decide +kernel)) rfl
noncomputable def f_X0_heat : zMt := zmet 2 [b_X0_heat_0]
theorem c_X0_heat (d : Nat) : zC l G gh (d + 4) n_X0_heat f_X0_heat := zmet_ok (pcs := p_X0_heat) (by decide) rfl rfl ⟨s_X0_heat_0 d, trivial⟩
def n_X2_interest : qMn := (yX2_interest, cX2_interest, 4, (some Jvm.ClassFile.FieldType.int), 0, 0)
theorem to_X2_interest : qTo n_X2_interest 3 := ⟨g827, g106, ⟨by decide, by decide, by decide +kernel⟩, by decide⟩
def p_X2_interest : List Nat := [0]
noncomputable def b_X2_interest_0 : zBl := fun jp K => oAld 0 <| oIld 1 <| oCv 2 1 f_X2_clearVars <| oAld 0 <| oGetR 2 4 <| oInt 2147483650 <| oIld 2 <| oXast 10 zid <| oAld 0 <| oGetR 2 4 <| oInt 2147483654 <| oIld 3 <| oXast 10 zid <| oInt 2147483648 <| oAld 0 <| oInt 2147483652 <| oCv 2 1 f_X2_reckon <| oInt 2147483747 <| oCs 3 f_X8_within <| oIret K
theorem s_X2_interest_0 (d : Nat) : zPb l G gh (d + 3) n_X2_interest p_X2_interest 0 b_X2_interest_0 := fun K jp hj =>
    z_aload_n (n := 0) (i := 0) (zd (i := .aload_n 0) (n := 1) (by decide +kernel)) rfl <|
    z_iload_n (n := 1) (i := 1) (zd (i := .iload_n 1) (n := 1) (by decide +kernel)) rfl <|
    z_callV (idx := 43) (ci := 2) (N := n_X2_clearVars) (zd (i := .invokevirtual 43) (n := 3) (by decide +kernel)) to_X2_clearVars g724 g726 g19 (by decide +kernel) rfl rfl rfl (c_X2_clearVars (l := l) (G := G) (gh := gh) (d + 1)) <|
    z_aload_n (n := 0) (i := 0) (zd (i := .aload_n 0) (n := 1) (by decide +kernel)) rfl <|
    z_getR (ci := 2) (j := 4) (idx := 25) (zd (i := .getfield 25) (n := 3) (by decide +kernel)) (by decide +kernel) (by decide +kernel) rfl g241 <|
    z_iconst (n := 2) (zd (i := .iconst (2)) (n := 1) (by decide +kernel)) (by decide +kernel) <|
    z_iload_n (n := 2) (i := 2) (zd (i := .iload_n 2) (n := 1) (by decide +kernel)) rfl <|
    z_iast (zd (i := .iastore) (n := 1) (by decide +kernel)) <|
    z_aload_n (n := 0) (i := 0) (zd (i := .aload_n 0) (n := 1) (by decide +kernel)) rfl <|
    z_getR (ci := 2) (j := 4) (idx := 25) (zd (i := .getfield 25) (n := 3) (by decide +kernel)) (by decide +kernel) (by decide +kernel) rfl g241 <|
    z_bipush (n := 6) (zd (i := .bipush (6)) (n := 2) (by decide +kernel)) (by decide +kernel) <|
    z_iload_n (n := 3) (i := 3) (zd (i := .iload_n 3) (n := 1) (by decide +kernel)) rfl <|
    z_iast (zd (i := .iastore) (n := 1) (by decide +kernel)) <|
    z_iconst (n := 0) (zd (i := .iconst (0)) (n := 1) (by decide +kernel)) (by decide +kernel) <|
    z_aload_n (n := 0) (i := 0) (zd (i := .aload_n 0) (n := 1) (by decide +kernel)) rfl <|
    z_iconst (n := 4) (zd (i := .iconst (4)) (n := 1) (by decide +kernel)) (by decide +kernel) <|
    z_callV (idx := 46) (ci := 2) (N := n_X2_reckon) (zd (i := .invokevirtual 46) (n := 3) (by decide +kernel)) to_X2_reckon g728 g730 g20 (by decide +kernel) rfl rfl rfl (c_X2_reckon (l := l) (G := G) (gh := gh) d) <|
    z_bipush (n := 99) (zd (i := .bipush (99)) (n := 2) (by decide +kernel)) (by decide +kernel) <|
    z_callSN (idx := 50) (N := n_X8_within) (host := "MirageLoans") (zd (i := .invokestatic 50) (n := 3) (by decide +kernel)) to_X8_within (by decide +kernel) g741 rfl rfl (c_X8_within (l := l) (G := G) (gh := gh) (d + 1)) <|
    z_iret (zd (i := .ireturn) (n := 1) (by decide +kernel)) rfl
noncomputable def f_X2_interest : zMt := zmet 4 [b_X2_interest_0]
theorem c_X2_interest (d : Nat) : zC l G gh (d + 3) n_X2_interest f_X2_interest := zmet_ok (pcs := p_X2_interest) (by decide) rfl rfl ⟨s_X2_interest_0 d, trivial⟩
def n_X8_tells : qMn := (yX8_tells, cX8_tells, 8, (some Jvm.ClassFile.FieldType.int), 0, 0)
theorem to_X8_tells : qTo n_X8_tells 4 := ⟨g804, g97, ⟨by decide, by decide, by decide +kernel⟩, by decide⟩
def p_X8_tells : List Nat := [0, 5, 10, 14, 15, 22, 27, 31, 32, 39, 46, 54, 59, 64, 72, 75, 124, 167, 189]
noncomputable def b_X8_tells_0 : zBl := fun jp K => oIld 1 <| oInt 2147483649 <| oIc zeq zne (jp 2) (jp 1)
theorem s_X8_tells_0 (d : Nat) : zPb l G gh (d + 5) n_X8_tells p_X8_tells 0 b_X8_tells_0 := fun K jp hj =>
    z_iload_n (n := 1) (i := 1) (zd (i := .iload_n 1) (n := 1) (by decide +kernel)) rfl <|
    z_iconst (n := 1) (zd (i := .iconst (1)) (n := 1) (by decide +kernel)) (by decide +kernel) <|
    z_icmp_eq (off := 8) (tgt := 10) (zd (i := .if_icmp .eq (8)) (n := 3) (by decide +kernel)) (by decide +kernel) (zj (hj 2) (by decide +kernel)) (zj (hj 1) (by decide +kernel))
noncomputable def b_X8_tells_1 : zBl := fun jp K => oIld 1 <| oInt 2147483650 <| oIc zne zeq (jp 3) (jp 2)
theorem s_X8_tells_1 (d : Nat) : zPb l G gh (d + 5) n_X8_tells p_X8_tells 5 b_X8_tells_1 := fun K jp hj =>
    z_iload_n (n := 1) (i := 1) (zd (i := .iload_n 1) (n := 1) (by decide +kernel)) rfl <|
    z_iconst (n := 2) (zd (i := .iconst (2)) (n := 1) (by decide +kernel)) (by decide +kernel) <|
    z_icmp_ne (off := 7) (tgt := 14) (zd (i := .if_icmp .ne (7)) (n := 3) (by decide +kernel)) (by decide +kernel) (zj (hj 3) (by decide +kernel)) (zj (hj 2) (by decide +kernel))
noncomputable def b_X8_tells_2 : zBl := fun jp K => oInt 2147483649 <| jp 4
theorem s_X8_tells_2 (d : Nat) : zPb l G gh (d + 5) n_X8_tells p_X8_tells 10 b_X8_tells_2 := fun K jp hj =>
    z_iconst (n := 1) (zd (i := .iconst (1)) (n := 1) (by decide +kernel)) (by decide +kernel) <|
    z_goto (off := 4) (tgt := 15) (zd (i := .goto (4)) (n := 3) (by decide +kernel)) (by decide +kernel) (zj (hj 4) (by decide +kernel))
noncomputable def b_X8_tells_3 : zBl := fun jp K => oInt 2147483648 <| jp 4
theorem s_X8_tells_3 (d : Nat) : zPb l G gh (d + 5) n_X8_tells p_X8_tells 14 b_X8_tells_3 := fun K jp hj =>
    z_iconst (n := 0) (zd (i := .iconst (0)) (n := 1) (by decide +kernel)) (by decide +kernel) <|
    (zj (hj 4) (by decide +kernel))
noncomputable def b_X8_tells_4 : zBl := fun jp K => oIst 5 <| oIld 1 <| oInt 2147483650 <| oIc zeq zne (jp 6) (jp 5)
theorem s_X8_tells_4 (d : Nat) : zPb l G gh (d + 5) n_X8_tells p_X8_tells 15 b_X8_tells_4 := fun K jp hj =>
    z_istore (i := 5) (zd (i := .istore 5) (n := 2) (by decide +kernel)) (by decide +kernel) <|
    z_iload_n (n := 1) (i := 1) (zd (i := .iload_n 1) (n := 1) (by decide +kernel)) rfl <|
    z_iconst (n := 2) (zd (i := .iconst (2)) (n := 1) (by decide +kernel)) (by decide +kernel) <|
    z_icmp_eq (off := 8) (tgt := 27) (zd (i := .if_icmp .eq (8)) (n := 3) (by decide +kernel)) (by decide +kernel) (zj (hj 6) (by decide +kernel)) (zj (hj 5) (by decide +kernel))
noncomputable def b_X8_tells_5 : zBl := fun jp K => oIld 1 <| oInt 2147483651 <| oIc zne zeq (jp 7) (jp 6)
theorem s_X8_tells_5 (d : Nat) : zPb l G gh (d + 5) n_X8_tells p_X8_tells 22 b_X8_tells_5 := fun K jp hj =>
    z_iload_n (n := 1) (i := 1) (zd (i := .iload_n 1) (n := 1) (by decide +kernel)) rfl <|
    z_iconst (n := 3) (zd (i := .iconst (3)) (n := 1) (by decide +kernel)) (by decide +kernel) <|
    z_icmp_ne (off := 7) (tgt := 31) (zd (i := .if_icmp .ne (7)) (n := 3) (by decide +kernel)) (by decide +kernel) (zj (hj 7) (by decide +kernel)) (zj (hj 6) (by decide +kernel))
noncomputable def b_X8_tells_6 : zBl := fun jp K => oInt 2147483649 <| jp 8
theorem s_X8_tells_6 (d : Nat) : zPb l G gh (d + 5) n_X8_tells p_X8_tells 27 b_X8_tells_6 := fun K jp hj =>
    z_iconst (n := 1) (zd (i := .iconst (1)) (n := 1) (by decide +kernel)) (by decide +kernel) <|
    z_goto (off := 4) (tgt := 32) (zd (i := .goto (4)) (n := 3) (by decide +kernel)) (by decide +kernel) (zj (hj 8) (by decide +kernel))
noncomputable def b_X8_tells_7 : zBl := fun jp K => oInt 2147483648 <| jp 8
theorem s_X8_tells_7 (d : Nat) : zPb l G gh (d + 5) n_X8_tells p_X8_tells 31 b_X8_tells_7 := fun K jp hj =>
    z_iconst (n := 0) (zd (i := .iconst (0)) (n := 1) (by decide +kernel)) (by decide +kernel) <|
    (zj (hj 8) (by decide +kernel))
noncomputable def b_X8_tells_8 : zBl := fun jp K => oIst 6 <| oIld 5 <| oIf zeq zne (jp 11) (jp 9)
theorem s_X8_tells_8 (d : Nat) : zPb l G gh (d + 5) n_X8_tells p_X8_tells 32 b_X8_tells_8 := fun K jp hj =>
    z_istore (i := 6) (zd (i := .istore 6) (n := 2) (by decide +kernel)) (by decide +kernel) <|
    z_iload (i := 5) (zd (i := .iload 5) (n := 2) (by decide +kernel)) <|
    z_if_eq (off := 18) (tgt := 54) (zd (i := .ifCond .eq (18)) (n := 3) (by decide +kernel)) (by decide +kernel) (zj (hj 11) (by decide +kernel)) (zj (hj 9) (by decide +kernel))
noncomputable def b_X8_tells_9 : zBl := fun jp K => oIld 2 <| oCs 1 f_X8_isX <| oIf zeq zne (jp 14) (jp 10)
theorem s_X8_tells_9 (d : Nat) : zPb l G gh (d + 5) n_X8_tells p_X8_tells 39 b_X8_tells_9 := fun K jp hj =>
    z_iload_n (n := 2) (i := 2) (zd (i := .iload_n 2) (n := 1) (by decide +kernel)) rfl <|
    z_callS (idx := 175) (N := n_X8_isX) (zd (i := .invokestatic 175) (n := 3) (by decide +kernel)) to_X8_isX g805 g806 rfl rfl (c_X8_isX (l := l) (G := G) (gh := gh) (d + 3)) <|
    z_if_eq (off := 29) (tgt := 72) (zd (i := .ifCond .eq (29)) (n := 3) (by decide +kernel)) (by decide +kernel) (zj (hj 14) (by decide +kernel)) (zj (hj 10) (by decide +kernel))
noncomputable def b_X8_tells_10 : zBl := fun jp K => oAld 0 <| oIld 3 <| oCv 8 1 f_X8_isThing <| oIf zeq zne (jp 14) (jp 11)
theorem s_X8_tells_10 (d : Nat) : zPb l G gh (d + 5) n_X8_tells p_X8_tells 46 b_X8_tells_10 := fun K jp hj =>
    z_aload_n (n := 0) (i := 0) (zd (i := .aload_n 0) (n := 1) (by decide +kernel)) rfl <|
    z_iload_n (n := 3) (i := 3) (zd (i := .iload_n 3) (n := 1) (by decide +kernel)) rfl <|
    z_callV (idx := 115) (ci := 8) (N := n_X8_isThing) (zd (i := .invokevirtual 115) (n := 3) (by decide +kernel)) to_X8_isThing g708 g710 g17 (by decide +kernel) rfl rfl rfl (c_X8_isThing (l := l) (G := G) (gh := gh) (d + 3)) <|
    z_if_eq (off := 21) (tgt := 72) (zd (i := .ifCond .eq (21)) (n := 3) (by decide +kernel)) (by decide +kernel) (zj (hj 14) (by decide +kernel)) (zj (hj 11) (by decide +kernel))
noncomputable def b_X8_tells_11 : zBl := fun jp K => oIld 6 <| oIf zeq zne (jp 15) (jp 12)
theorem s_X8_tells_11 (d : Nat) : zPb l G gh (d + 5) n_X8_tells p_X8_tells 54 b_X8_tells_11 := fun K jp hj =>
    z_iload (i := 6) (zd (i := .iload 6) (n := 2) (by decide +kernel)) <|
    z_if_eq (off := 19) (tgt := 75) (zd (i := .ifCond .eq (19)) (n := 3) (by decide +kernel)) (by decide +kernel) (zj (hj 15) (by decide +kernel)) (zj (hj 12) (by decide +kernel))
noncomputable def b_X8_tells_12 : zBl := fun jp K => oIld 4 <| oIf zlt zge (jp 14) (jp 13)
theorem s_X8_tells_12 (d : Nat) : zPb l G gh (d + 5) n_X8_tells p_X8_tells 59 b_X8_tells_12 := fun K jp hj =>
    z_iload (i := 4) (zd (i := .iload 4) (n := 2) (by decide +kernel)) <|
    z_if_lt (off := 11) (tgt := 72) (zd (i := .ifCond .lt (11)) (n := 3) (by decide +kernel)) (by decide +kernel) (zj (hj 14) (by decide +kernel)) (zj (hj 13) (by decide +kernel))
noncomputable def b_X8_tells_13 : zBl := fun jp K => oIld 4 <| oInt 2147484647 <| oIc zle zgt (jp 15) (jp 14)
theorem s_X8_tells_13 (d : Nat) : zPb l G gh (d + 5) n_X8_tells p_X8_tells 64 b_X8_tells_13 := fun K jp hj =>
    z_iload (i := 4) (zd (i := .iload 4) (n := 2) (by decide +kernel)) <|
    z_sipush (n := 999) (zd (i := .sipush (999)) (n := 3) (by decide +kernel)) (by decide +kernel) <|
    z_icmp_le (off := 6) (tgt := 75) (zd (i := .if_icmp .le (6)) (n := 3) (by decide +kernel)) (by decide +kernel) (zj (hj 15) (by decide +kernel)) (zj (hj 14) (by decide +kernel))
noncomputable def b_X8_tells_14 : zBl := fun jp K => oInt 2147483548 <| oIret K
theorem s_X8_tells_14 (d : Nat) : zPb l G gh (d + 5) n_X8_tells p_X8_tells 72 b_X8_tells_14 := fun K jp hj =>
    z_bipush (n := -100) (zd (i := .bipush (-100)) (n := 2) (by decide +kernel)) (by decide +kernel) <|
    z_iret (zd (i := .ireturn) (n := 1) (by decide +kernel)) rfl
noncomputable def b_X8_tells_15 : zBl := fun jp K => oAld 0 <| oGetR 8 12 <| oAld 0 <| oGetR 8 2 <| oGetI 4 0 <| oCv 0 1 f_X0_heat <| oIst 7 <| oIld 1 <| oTab 2147483648 [jp 16, oFail, oFail, jp 17] (jp 18)
theorem s_X8_tells_15 (d : Nat) : zPb l G gh (d + 5) n_X8_tells p_X8_tells 75 b_X8_tells_15 := fun K jp hj =>
    z_aload_n (n := 0) (i := 0) (zd (i := .aload_n 0) (n := 1) (by decide +kernel)) rfl <|
    z_getR (ci := 8) (j := 12) (idx := 71) (zd (i := .getfield 71) (n := 3) (by decide +kernel)) (by decide +kernel) (by decide +kernel) rfl g464 <|
    z_aload_n (n := 0) (i := 0) (zd (i := .aload_n 0) (n := 1) (by decide +kernel)) rfl <|
    z_getR (ci := 8) (j := 2) (idx := 26) (zd (i := .getfield 26) (n := 3) (by decide +kernel)) (by decide +kernel) (by decide +kernel) rfl g454 <|
    z_getI (ci := 4) (j := 0) (idx := 140) (zd (i := .getfield 140) (n := 3) (by decide +kernel)) (by decide +kernel) (by decide +kernel) rfl g368 <|
    z_callV (idx := 143) (ci := 0) (N := n_X0_heat) (zd (i := .invokevirtual 143) (n := 3) (by decide +kernel)) to_X0_heat g716 g717 g718 (by decide +kernel) rfl rfl rfl (c_X0_heat (l := l) (G := G) (gh := gh) d) <|
    z_istore (i := 7) (zd (i := .istore 7) (n := 2) (by decide +kernel)) (by decide +kernel) <|
    z_iload_n (n := 1) (i := 1) (zd (i := .iload_n 1) (n := 1) (by decide +kernel)) rfl <|
    z_table (v := 2147483648) (df := 189) (len := 32) (x := 0) (dflt := 97) (lo := 0) (hi := 3) (offs := #[32, 35, 54, 75]) (tgts := [124, 127, 146, 167]) (zd (i := .tableswitch (97) (0) (3) #[32, 35, 54, 75]) (n := 32) (by decide +kernel)) (by decide +kernel) rfl rfl (by decide +kernel) (by decide +kernel) (by decide +kernel) ⟨(zj (hj 16) (by decide +kernel)), z_fail, z_fail, (zj (hj 17) (by decide +kernel)), trivial⟩ (zj (hj 18) (by decide +kernel))
noncomputable def b_X8_tells_16 : zBl := fun jp K => oIld 7 <| oIret K
theorem s_X8_tells_16 (d : Nat) : zPb l G gh (d + 5) n_X8_tells p_X8_tells 124 b_X8_tells_16 := fun K jp hj =>
    z_iload (i := 7) (zd (i := .iload 7) (n := 2) (by decide +kernel)) <|
    z_iret (zd (i := .ireturn) (n := 1) (by decide +kernel)) rfl
noncomputable def b_X8_tells_17 : zBl := fun jp K => oAld 0 <| oGetR 8 12 <| oGetR 0 12 <| oAld 0 <| oGetR 8 2 <| oGetI 4 0 <| oIld 7 <| oIld 4 <| oCv 2 3 f_X2_interest <| oIret K
theorem s_X8_tells_17 (d : Nat) : zPb l G gh (d + 5) n_X8_tells p_X8_tells 167 b_X8_tells_17 := fun K jp hj =>
    z_aload_n (n := 0) (i := 0) (zd (i := .aload_n 0) (n := 1) (by decide +kernel)) rfl <|
    z_getR (ci := 8) (j := 12) (idx := 71) (zd (i := .getfield 71) (n := 3) (by decide +kernel)) (by decide +kernel) (by decide +kernel) rfl g464 <|
    z_getR (ci := 0) (j := 12) (idx := 186) (zd (i := .getfield 186) (n := 3) (by decide +kernel)) (by decide +kernel) (by decide +kernel) rfl g306 <|
    z_aload_n (n := 0) (i := 0) (zd (i := .aload_n 0) (n := 1) (by decide +kernel)) rfl <|
    z_getR (ci := 8) (j := 2) (idx := 26) (zd (i := .getfield 26) (n := 3) (by decide +kernel)) (by decide +kernel) (by decide +kernel) rfl g454 <|
    z_getI (ci := 4) (j := 0) (idx := 140) (zd (i := .getfield 140) (n := 3) (by decide +kernel)) (by decide +kernel) (by decide +kernel) rfl g368 <|
    z_iload (i := 7) (zd (i := .iload 7) (n := 2) (by decide +kernel)) <|
    z_iload (i := 4) (zd (i := .iload 4) (n := 2) (by decide +kernel)) <|
    z_callV (idx := 190) (ci := 2) (N := n_X2_interest) (zd (i := .invokevirtual 190) (n := 3) (by decide +kernel)) to_X2_interest g824 g825 g826 (by decide +kernel) rfl rfl rfl (c_X2_interest (l := l) (G := G) (gh := gh) (d + 1)) <|
    z_iret (zd (i := .ireturn) (n := 1) (by decide +kernel)) rfl
noncomputable def b_X8_tells_18 : zBl := fun jp K => oInt 2147483548 <| oIret K
theorem s_X8_tells_18 (d : Nat) : zPb l G gh (d + 5) n_X8_tells p_X8_tells 189 b_X8_tells_18 := fun K jp hj =>
    z_bipush (n := -100) (zd (i := .bipush (-100)) (n := 2) (by decide +kernel)) (by decide +kernel) <|
    z_iret (zd (i := .ireturn) (n := 1) (by decide +kernel)) rfl
noncomputable def f_X8_tells : zMt := zmet 8 [b_X8_tells_0, b_X8_tells_1, b_X8_tells_2, b_X8_tells_3, b_X8_tells_4, b_X8_tells_5, b_X8_tells_6, b_X8_tells_7, b_X8_tells_8, b_X8_tells_9, b_X8_tells_10, b_X8_tells_11, b_X8_tells_12, b_X8_tells_13, b_X8_tells_14, b_X8_tells_15, b_X8_tells_16, b_X8_tells_17, b_X8_tells_18]
theorem c_X8_tells (d : Nat) : zC l G gh (d + 5) n_X8_tells f_X8_tells := zmet_ok (pcs := p_X8_tells) (by decide) rfl rfl ⟨s_X8_tells_0 d, s_X8_tells_1 d, s_X8_tells_2 d, s_X8_tells_3 d, s_X8_tells_4 d, s_X8_tells_5 d, s_X8_tells_6 d, s_X8_tells_7 d, s_X8_tells_8 d, s_X8_tells_9 d, s_X8_tells_10 d, s_X8_tells_11 d, s_X8_tells_12 d, s_X8_tells_13 d, s_X8_tells_14 d, s_X8_tells_15 d, s_X8_tells_16 d, s_X8_tells_17 d, s_X8_tells_18 d, trivial⟩
end
