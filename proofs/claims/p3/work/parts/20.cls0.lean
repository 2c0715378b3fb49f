section
variable {l : Launch} {G : qG} {gh : zGh}
def n_X5_hasRoom : qMn := (yX5_hasRoom, cX5_hasRoom, 2, (some Jvm.ClassFile.FieldType.boolean), 0, 0)
theorem to_X5_hasRoom : qTo n_X5_hasRoom 1 := ⟨g502, g98, ⟨by decide, by decide, by decide +kernel⟩, by decide⟩
def p_X5_hasRoom : List Nat := [0, 12, 16, 17]
noncomputable def b_X5_hasRoom_0 : zBl := fun jp K => oAld 0 <| oGetI 5 1 <| oIld 1 <| oB2 zadd <| oInt 2147485648 <| oIc zgt zle (jp 2) (jp 1)
theorem s_X5_hasRoom_0 (d : Nat) : zPb l G gh (d + 1) n_X5_hasRoom p_X5_hasRoom 0 b_X5_hasRoom_0 := fun K jp hj =>
    z_aload_n (n := 0) (i := 0) (zd (i := .aload_n 0) (n := 1) (by decide +kernel)) rfl <|
    z_getI (ci := 5) (j := 1) (idx := 15) (zd (i := .getfield 15) (n := 3) (by decide +kernel)) (by decide +kernel) (by decide +kernel) rfl g130 <|
    z_iload_n (n := 1) (i := 1) (zd (i := .iload_n 1) (n := 1) (by decide +kernel)) rfl <|
    z_iadd (zd (i := .iadd) (n := 1) (by decide +kernel)) <|
    z_sipush (n := 2000) (zd (i := .sipush (2000)) (n := 3) (by decide +kernel)) (by decide +kernel) <|
    z_icmp_gt (off := 7) (tgt := 16) (zd (i := .if_icmp .gt (7)) (n := 3) (by decide +kernel)) (by decide +kernel) (zj (hj 2) (by decide +kernel)) (zj (hj 1) (by decide +kernel))
noncomputable def b_X5_hasRoom_1 : zBl := fun jp K => oInt 2147483649 <| jp 3
theorem s_X5_hasRoom_1 (d : Nat) : zPb l G gh (d + 1) n_X5_hasRoom p_X5_hasRoom 12 b_X5_hasRoom_1 := fun K jp hj =>
    z_iconst (n := 1) (zd (i := .iconst (1)) (n := 1) (by decide +kernel)) (by decide +kernel) <|
    z_goto (off := 4) (tgt := 17) (zd (i := .goto (4)) (n := 3) (by decide +kernel)) (by decide +kernel) (zj (hj 3) (by decide +kernel))
noncomputable def b_X5_hasRoom_2 : zBl := fun jp K => oInt 2147483648 <| jp 3
theorem s_X5_hasRoom_2 (d : Nat) : zPb l G gh (d + 1) n_X5_hasRoom p_X5_hasRoom 16 b_X5_hasRoom_2 := fun K jp hj =>
    z_iconst (n := 0) (zd (i := .iconst (0)) (n := 1) (by decide +kernel)) (by decide +kernel) <|
    (zj (hj 3) (by decide +kernel))
noncomputable def b_X5_hasRoom_3 : zBl := fun jp K => oZret K
theorem s_X5_hasRoom_3 (d : Nat) : zPb l G gh (d + 1) n_X5_hasRoom p_X5_hasRoom 17 b_X5_hasRoom_3 := fun K jp hj =>
    z_zret (zd (i := .ireturn) (n := 1) (by decide +kernel)) rfl
noncomputable def t_X5_hasRoom : List zBl := [b_X5_hasRoom_0, b_X5_hasRoom_1, b_X5_hasRoom_2, b_X5_hasRoom_3]
theorem tt_X5_hasRoom (d : Nat) : zT (zPb l G gh (d + 1) n_X5_hasRoom p_X5_hasRoom) t_X5_hasRoom p_X5_hasRoom := ⟨s_X5_hasRoom_0 d, s_X5_hasRoom_1 d, s_X5_hasRoom_2 d, s_X5_hasRoom_3 d, trivial⟩
noncomputable def f_X5_hasRoom : zMt := zmet 2 t_X5_hasRoom
theorem c_X5_hasRoom (d : Nat) : zC l G gh (d + 1) n_X5_hasRoom f_X5_hasRoom := zmet_ok (pcs := p_X5_hasRoom) (by decide) rfl rfl (tt_X5_hasRoom d)
def n_X5_putWord : qMn := (yX5_putWord, cX5_putWord, 3, none, 0, 0)
theorem to_X5_putWord : qTo n_X5_putWord 1 := ⟨g506, g98, ⟨by decide, by decide, by decide +kernel⟩, by decide⟩
def p_X5_putWord : List Nat := [0, 3, 7, 17, 46]
noncomputable def b_X5_putWord_0 : zBl := fun jp K => oInt 2147483672 <| oIst 2 <| jp 1
theorem s_X5_putWord_0 (d : Nat) : zPb l G gh (d + 1) n_X5_putWord p_X5_putWord 0 b_X5_putWord_0 := fun K jp hj =>
    z_bipush (n := 24) (zd (i := .bipush (24)) (n := 2) (by decide +kernel)) (by decide +kernel) <|
    z_istore_n (n := 2) (i := 2) (zd (i := .istore_n 2) (n := 1) (by decide +kernel)) rfl (by decide +kernel) <|
    (zj (hj 1) (by decide +kernel))
noncomputable def b_X5_putWord_1 : zBl := fun jp K => oNLC 2 2147483648 zltN zgeN zn1_lt zn1_ge (jp 4) (jp 2)
theorem s_X5_putWord_1 (d : Nat) : zPb l G gh (d + 1) n_X5_putWord p_X5_putWord 3 b_X5_putWord_1 := fun K jp hj =>
    z_nL0_lt (i := 2) (a1 := 1) (off := 42) (tgt := 46) (zLd_n (n := 2) (i := 2) (zd (i := .iload_n 2) (n := 1) (by decide +kernel)) rfl) (zd (i := .ifCond .lt (42)) (n := 3) (by decide +kernel)) (by decide +kernel) (zj (hj 4) (by decide +kernel)) (zj (hj 2) (by decide +kernel))
noncomputable def b_X5_putWord_2 : zBl := fun jp K => oNFC 0 5 1 2147485648 zgeN zltN zn1_ge zn1_lt (jp 4) (jp 3)
theorem s_X5_putWord_2 (d : Nat) : zPb l G gh (d + 1) n_X5_putWord p_X5_putWord 7 b_X5_putWord_2 := fun K jp hj =>
    z_nFC_ge (r := 0) (ci := 5) (j := 1) (c0 := 2147485648) (a1 := 4) (a2 := 3) (off := 32) (tgt := 46) (zFd_n (n := 0) (r := 0) (ci := 5) (j := 1) (idx := 15) (zd (i := .aload_n 0) (n := 1) (by decide +kernel)) rfl (zd (i := .getfield 15) (n := 3) (by decide +kernel)) (by decide +kernel) (by decide +kernel) rfl g130) (by decide +kernel) rfl (zCn_s (n := 2000) (zd (i := .sipush (2000)) (n := 3) (by decide +kernel)) (by decide +kernel)) (zd (i := .if_icmp .ge (32)) (n := 3) (by decide +kernel)) (by decide +kernel) (zj (hj 4) (by decide +kernel)) (zj (hj 3) (by decide +kernel))
noncomputable def b_X5_putWord_3 : zBl := fun jp K => oAld 0 <| oGetR 5 0 <| oAld 0 <| oGetI 5 1 <| oIld 1 <| oIld 2 <| oB2 zishr <| oU zi2b <| oXast 11 znb <| oAld 0 <| oDup <| oGetI 5 1 <| oInt 2147483649 <| oB2 zadd <| oPutI 5 1 <| oInc 2 2147483640 <| jp 1
theorem s_X5_putWord_3 (d : Nat) : zPb l G gh (d + 1) n_X5_putWord p_X5_putWord 17 b_X5_putWord_3 := fun K jp hj =>
    z_aload_n (n := 0) (i := 0) (zd (i := .aload_n 0) (n := 1) (by decide +kernel)) rfl <|
    z_getR (ci := 5) (j := 0) (idx := 11) (zd (i := .getfield 11) (n := 3) (by decide +kernel)) (by decide +kernel) (by decide +kernel) rfl g129 <|
    z_aload_n (n := 0) (i := 0) (zd (i := .aload_n 0) (n := 1) (by decide +kernel)) rfl <|
    z_getI (ci := 5) (j := 1) (idx := 15) (zd (i := .getfield 15) (n := 3) (by decide +kernel)) (by decide +kernel) (by decide +kernel) rfl g130 <|
    z_iload_n (n := 1) (i := 1) (zd (i := .iload_n 1) (n := 1) (by decide +kernel)) rfl <|
    z_iload_n (n := 2) (i := 2) (zd (i := .iload_n 2) (n := 1) (by decide +kernel)) rfl <|
    z_ishr (zd (i := .ishr) (n := 1) (by decide +kernel)) <|
    z_i2b (zd (i := .i2b) (n := 1) (by decide +kernel)) <|
    z_bast (zd (i := .bastore) (n := 1) (by decide +kernel)) <|
    z_aload_n (n := 0) (i := 0) (zd (i := .aload_n 0) (n := 1) (by decide +kernel)) rfl <|
    z_dup (zd (i := .dup) (n := 1) (by decide +kernel)) <|
    z_getI (ci := 5) (j := 1) (idx := 15) (zd (i := .getfield 15) (n := 3) (by decide +kernel)) (by decide +kernel) (by decide +kernel) rfl g130 <|
    z_iconst (n := 1) (zd (i := .iconst (1)) (n := 1) (by decide +kernel)) (by decide +kernel) <|
    z_iadd (zd (i := .iadd) (n := 1) (by decide +kernel)) <|
    z_putI (ci := 5) (j := 1) (idx := 15) (zd (i := .putfield 15) (n := 3) (by decide +kernel)) (by decide +kernel) (by decide +kernel) rfl g130 (Or.inl rfl) <|
    z_iinc (i := 2) (n := -8) (zd (i := .iinc 2 (-8)) (n := 3) (by decide +kernel)) (by decide +kernel) (by decide +kernel) <|
    z_goto (off := -40) (tgt := 3) (zd (i := .goto (-40)) (n := 3) (by decide +kernel)) (by decide +kernel) (zj (hj 1) (by decide +kernel))
noncomputable def b_X5_putWord_4 : zBl := fun jp K => oVret K
theorem s_X5_putWord_4 (d : Nat) : zPb l G gh (d + 1) n_X5_putWord p_X5_putWord 46 b_X5_putWord_4 := fun K jp hj =>
    z_vret (zd (i := .return_) (n := 1) (by decide +kernel)) rfl
noncomputable def t_X5_putWord : List zBl := [b_X5_putWord_0, b_X5_putWord_1, b_X5_putWord_2, b_X5_putWord_3, b_X5_putWord_4]
theorem tt_X5_putWord (d : Nat) : zT (zPb l G gh (d + 1) n_X5_putWord p_X5_putWord) t_X5_putWord p_X5_putWord := ⟨s_X5_putWord_0 d, s_X5_putWord_1 d, s_X5_putWord_2 d, s_X5_putWord_3 d, s_X5_putWord_4 d, trivial⟩
noncomputable def f_X5_putWord : zMt := zmet 3 t_X5_putWord
theorem c_X5_putWord (d : Nat) : zC l G gh (d + 1) n_X5_putWord f_X5_putWord := zmet_ok (pcs := p_X5_putWord) (by decide) rfl rfl (tt_X5_putWord d)
def n_X5_drop : qMn := (yX5_drop, cX5_drop, 2, (some Jvm.ClassFile.FieldType.boolean), 0, 0)
theorem to_X5_drop : qTo n_X5_drop 1 := ⟨g514, g98, ⟨by decide, by decide, by decide +kernel⟩, by decide⟩
def p_X5_drop : List Nat := [0, 4, 12, 14]
noncomputable def b_X5_drop_0 : zBl := fun jp K => oNLC 1 2147483648 zltN zgeN zn1_lt zn1_ge (jp 2) (jp 1)
theorem s_X5_drop_0 (d : Nat) : zPb l G gh (d + 1) n_X5_drop p_X5_drop 0 b_X5_drop_0 := fun K jp hj =>
    z_nL0_lt (i := 1) (a1 := 1) (off := 11) (tgt := 12) (zLd_n (n := 1) (i := 1) (zd (i := .iload_n 1) (n := 1) (by decide +kernel)) rfl) (zd (i := .ifCond .lt (11)) (n := 3) (by decide +kernel)) (by decide +kernel) (zj (hj 2) (by decide +kernel)) (zj (hj 1) (by decide +kernel))
noncomputable def bx_drop : zBl := fun _ K => fun lv st ce sl t A => zR (zn zdum lv 0) (fun a => zI (zn zdum lv 1) (fun c => bif Nat.beq (ztag (zcell A a)) 5 then (bif Nat.ble 2147483648 (zlo c) then zE st (bif K (some (.inl 2147483648)) t A then K (some (.inl 2147483649)) t (zput A a (zupd (zcf 5 1 (zcell A a)) 1 (Nat.xor (zmkc 2147483648 (zhi (Nat.xor (zraw (zcell A a) 1) 2147483648))) 2147483648))) else false) else false) else false))
theorem sx_drop (d : Nat) : zPb l G gh (d + 1) n_X5_drop p_X5_drop 4 bx_drop := by
  intro K jp hj lv st ce sl t A h lv' st' I L R hl hs hm
  obtain ⟨v0, k0, z0⟩ := zgl_get hl (zRn h)
  obtain ⟨a, rfl, h⟩ := zR_t h z0
  obtain ⟨v1, k1, z1⟩ := zgl_get hl (zI_nd h)
  obtain ⟨c, x, rfl, hx, h⟩ := zI_t h z1
  obtain ⟨b1, h⟩ := zand h
  obtain ⟨b2, h⟩ := zand h
  obtain ⟨rfl, h⟩ := zE_t h hs
  obtain ⟨h3, h4⟩ := zand h
  obtain ⟨f1, f2, f3, f4, f5⟩ := zM_at hm.1 b1 (by omega)
  have g4 := (f5 1).1 (zkd_I (by decide) rfl)
  have hx0 : 2147483648 ≤ zb x := Nat.le_trans (Nat.le_of_ble_eq_true b2) hx.1
  refine q_iload_n (n := 1) (zd (by decide +kernel)) rfl k1 (q_aload_n (n := 0) (zd (by decide +kernel)) rfl k0 rfl (q_getf (ci := 5) (j := 1) (zd (i := .getfield 15) (n := 3) (by decide +kernel)) f2 f3 (by decide) (by decide) g130 ?_))
  refine q_icmp_le (off := 5) (tgt := 14) (zd (by decide +kernel)) (by decide) (fun hle => ?_) (fun _ => q_iconst (n := 0) (zd (by decide +kernel)) rfl (q_iret (zd (by decide +kernel)) rfl rfl hm.2.1 hm.2.2 ⟨some (.inl 2147483648), A, ⟨_, rfl, zin0⟩, hm.1, h3⟩))
  refine q_aload_n (n := 0) (zd (by decide +kernel)) rfl k0 rfl (q_dup (zd (by decide +kernel)) rfl (q_getf (ci := 5) (j := 1) (zd (i := .getfield 15) (n := 3) (by decide +kernel)) f2 f3 (by decide) (by decide) g130 (q_iload_n (n := 1) (zd (by decide +kernel)) rfl k1 (q_isub (zd (by decide +kernel)) (q_puti (ci := 5) (j := 1) (zd (i := .putfield 15) (n := 3) (by decide +kernel)) f2 f3 (by decide) (by decide) g130 (Or.inl rfl) rfl rfl rfl ?_)))))
  refine q_iconst (n := 1) (zd (by decide +kernel)) rfl (q_iret (zd (by decide +kernel)) rfl rfl hm.2.1 hm.2.2 ⟨some (.inl 2147483649), _, ⟨_, rfl, zin_eq (by decide)⟩, zM_setF hm.1 f1 (zkd_I (by decide) rfl) ?_ ?_, h4⟩)
  · exact zmkc_ble (Nat.le_of_ble_eq_true rfl) (zhi_lt _)
  · have hle2 := zle_iff.mp hle
    have e1 := zb_int x
    have e2 := zb_int (I a 1)
    have e3 := zb_int (I a 1 - x)
    have l1 := zb_lt x
    have l2 := zb_lt (I a 1)
    rw [Int32.toInt_sub, Int.bmod_def] at e3
    have g5 := g4.2
    refine zmkc_in (zhi_lt _) ?_ ?_ <;> split at e3 <;> omega
noncomputable def b_X5_drop_2 : zBl := fun jp K => oInt 2147483648 <| oZret K
theorem s_X5_drop_2 (d : Nat) : zPb l G gh (d + 1) n_X5_drop p_X5_drop 12 b_X5_drop_2 := fun K jp hj =>
    z_iconst (n := 0) (zd (i := .iconst (0)) (n := 1) (by decide +kernel)) (by decide +kernel) <|
    z_zret (zd (i := .ireturn) (n := 1) (by decide +kernel)) rfl
noncomputable def t_X5_drop : List zBl := [b_X5_drop_0, bx_drop, b_X5_drop_2, zfl]
theorem tt_X5_drop (d : Nat) : zT (zPb l G gh (d + 1) n_X5_drop p_X5_drop) t_X5_drop p_X5_drop := ⟨s_X5_drop_0 d, sx_drop d, s_X5_drop_2 d, (fun _ _ _ => z_fail), trivial⟩
noncomputable def f_X5_drop : zMt := zmet 2 t_X5_drop
theorem c_X5_drop (d : Nat) : zC l G gh (d + 1) n_X5_drop f_X5_drop := zmet_ok (pcs := p_X5_drop) (by decide) rfl rfl (tt_X5_drop d)
def n_X2_open : qMn := (yX2_open, cX2_open, 2, none, 0, 0)
theorem to_X2_open : qTo n_X2_open 1 := ⟨g271, g106, ⟨by decide, by decide, by decide +kernel⟩, by decide⟩
def p_X2_open : List Nat := [0, 4, 9, 19]
noncomputable def b_X2_open_0 : zBl := fun jp K => oNLC 1 2147483648 zltN zgeN zn1_lt zn1_ge (jp 3) (jp 1)
theorem s_X2_open_0 (d : Nat) : zPb l G gh (d + 1) n_X2_open p_X2_open 0 b_X2_open_0 := fun K jp hj =>
    z_nL0_lt (i := 1) (a1 := 1) (off := 18) (tgt := 19) (zLd_n (n := 1) (i := 1) (zd (i := .iload_n 1) (n := 1) (by decide +kernel)) rfl) (zd (i := .ifCond .lt (18)) (n := 3) (by decide +kernel)) (by decide +kernel) (zj (hj 3) (by decide +kernel)) (zj (hj 1) (by decide +kernel))
noncomputable def b_X2_open_1 : zBl := fun jp K => oNLC 1 2147483653 zgeN zltN zn1_ge zn1_lt (jp 3) (jp 2)
theorem s_X2_open_1 (d : Nat) : zPb l G gh (d + 1) n_X2_open p_X2_open 4 b_X2_open_1 := fun K jp hj =>
    z_nLC_ge (i := 1) (c0 := 2147483653) (a1 := 1) (a2 := 1) (off := 13) (tgt := 19) (zLd_n (n := 1) (i := 1) (zd (i := .iload_n 1) (n := 1) (by decide +kernel)) rfl) (zCn_c (n := 5) (zd (i := .iconst (5)) (n := 1) (by decide +kernel)) (by decide +kernel)) (zd (i := .if_icmp .ge (13)) (n := 3) (by decide +kernel)) (by decide +kernel) (zj (hj 3) (by decide +kernel)) (zj (hj 2) (by decide +kernel))
noncomputable def b_X2_open_2 : zBl := fun jp K => oAld 0 <| oGetR 2 3 <| oIld 1 <| oAld 0 <| oGetI 2 2 <| oXast 10 zid <| jp 3
theorem s_X2_open_2 (d : Nat) : zPb l G gh (d + 1) n_X2_open p_X2_open 9 b_X2_open_2 := fun K jp hj =>
    z_aload_n (n := 0) (i := 0) (zd (i := .aload_n 0) (n := 1) (by decide +kernel)) rfl <|
    z_getR (ci := 2) (j := 3) (idx := 22) (zd (i := .getfield 22) (n := 3) (by decide +kernel)) (by decide +kernel) (by decide +kernel) rfl g240 <|
    z_iload_n (n := 1) (i := 1) (zd (i := .iload_n 1) (n := 1) (by decide +kernel)) rfl <|
    z_aload_n (n := 0) (i := 0) (zd (i := .aload_n 0) (n := 1) (by decide +kernel)) rfl <|
    z_getI (ci := 2) (j := 2) (idx := 18) (zd (i := .getfield 18) (n := 3) (by decide +kernel)) (by decide +kernel) (by decide +kernel) rfl g239 <|
    z_iast (zd (i := .iastore) (n := 1) (by decide +kernel)) <|
    (zj (hj 3) (by decide +kernel))
noncomputable def b_X2_open_3 : zBl := fun jp K => oVret K
theorem s_X2_open_3 (d : Nat) : zPb l G gh (d + 1) n_X2_open p_X2_open 19 b_X2_open_3 := fun K jp hj =>
    z_vret (zd (i := .return_) (n := 1) (by decide +kernel)) rfl
noncomputable def t_X2_open : List zBl := [b_X2_open_0, b_X2_open_1, b_X2_open_2, b_X2_open_3]
theorem tt_X2_open (d : Nat) : zT (zPb l G gh (d + 1) n_X2_open p_X2_open) t_X2_open p_X2_open := ⟨s_X2_open_0 d, s_X2_open_1 d, s_X2_open_2 d, s_X2_open_3 d, trivial⟩
noncomputable def f_X2_open : zMt := zmet 2 t_X2_open
theorem c_X2_open (d : Nat) : zC l G gh (d + 1) n_X2_open f_X2_open := zmet_ok (pcs := p_X2_open) (by decide) rfl rfl (tt_X2_open d)
def n_X2_emit : qMn := (yX2_emit, cX2_emit, 3, (some Jvm.ClassFile.FieldType.int), 0, 0)
theorem to_X2_emit : qTo n_X2_emit 2 := ⟨g275, g106, ⟨by decide, by decide, by decide +kernel⟩, by decide⟩
def p_X2_emit : List Nat := [0, 10, 40]
noncomputable def b_X2_emit_0 : zBl := fun jp K => oNFC 0 2 2 2147484068 zgeN zltN zn1_ge zn1_lt (jp 2) (jp 1)
theorem s_X2_emit_0 (d : Nat) : zPb l G gh (d + 1) n_X2_emit p_X2_emit 0 b_X2_emit_0 := fun K jp hj =>
    z_nFC_ge (r := 0) (ci := 2) (j := 2) (c0 := 2147484068) (a1 := 4) (a2 := 3) (off := 33) (tgt := 40) (zFd_n (n := 0) (r := 0) (ci := 2) (j := 2) (idx := 18) (zd (i := .aload_n 0) (n := 1) (by decide +kernel)) rfl (zd (i := .getfield 18) (n := 3) (by decide +kernel)) (by decide +kernel) (by decide +kernel) rfl g239) (by decide +kernel) rfl (zCn_s (n := 420) (zd (i := .sipush (420)) (n := 3) (by decide +kernel)) (by decide +kernel)) (zd (i := .if_icmp .ge (33)) (n := 3) (by decide +kernel)) (by decide +kernel) (zj (hj 2) (by decide +kernel)) (zj (hj 1) (by decide +kernel))
noncomputable def b_X2_emit_1 : zBl := fun jp K => oAld 0 <| oGetR 2 0 <| oAld 0 <| oGetI 2 2 <| oIld 1 <| oXast 10 zid <| oAld 0 <| oGetR 2 1 <| oAld 0 <| oGetI 2 2 <| oIld 2 <| oXast 10 zid <| oAld 0 <| oDup <| oGetI 2 2 <| oInt 2147483649 <| oB2 zadd <| oPutI 2 2 <| jp 2
theorem s_X2_emit_1 (d : Nat) : zPb l G gh (d + 1) n_X2_emit p_X2_emit 10 b_X2_emit_1 := fun K jp hj =>
    z_aload_n (n := 0) (i := 0) (zd (i := .aload_n 0) (n := 1) (by decide +kernel)) rfl <|
    z_getR (ci := 2) (j := 0) (idx := 11) (zd (i := .getfield 11) (n := 3) (by decide +kernel)) (by decide +kernel) (by decide +kernel) rfl g237 <|
    z_aload_n (n := 0) (i := 0) (zd (i := .aload_n 0) (n := 1) (by decide +kernel)) rfl <|
    z_getI (ci := 2) (j := 2) (idx := 18) (zd (i := .getfield 18) (n := 3) (by decide +kernel)) (by decide +kernel) (by decide +kernel) rfl g239 <|
    z_iload_n (n := 1) (i := 1) (zd (i := .iload_n 1) (n := 1) (by decide +kernel)) rfl <|
    z_iast (zd (i := .iastore) (n := 1) (by decide +kernel)) <|
    z_aload_n (n := 0) (i := 0) (zd (i := .aload_n 0) (n := 1) (by decide +kernel)) rfl <|
    z_getR (ci := 2) (j := 1) (idx := 15) (zd (i := .getfield 15) (n := 3) (by decide +kernel)) (by decide +kernel) (by decide +kernel) rfl g238 <|
    z_aload_n (n := 0) (i := 0) (zd (i := .aload_n 0) (n := 1) (by decide +kernel)) rfl <|
    z_getI (ci := 2) (j := 2) (idx := 18) (zd (i := .getfield 18) (n := 3) (by decide +kernel)) (by decide +kernel) (by decide +kernel) rfl g239 <|
    z_iload_n (n := 2) (i := 2) (zd (i := .iload_n 2) (n := 1) (by decide +kernel)) rfl <|
    z_iast (zd (i := .iastore) (n := 1) (by decide +kernel)) <|
    z_aload_n (n := 0) (i := 0) (zd (i := .aload_n 0) (n := 1) (by decide +kernel)) rfl <|
    z_dup (zd (i := .dup) (n := 1) (by decide +kernel)) <|
    z_getI (ci := 2) (j := 2) (idx := 18) (zd (i := .getfield 18) (n := 3) (by decide +kernel)) (by decide +kernel) (by decide +kernel) rfl g239 <|
    z_iconst (n := 1) (zd (i := .iconst (1)) (n := 1) (by decide +kernel)) (by decide +kernel) <|
    z_iadd (zd (i := .iadd) (n := 1) (by decide +kernel)) <|
    z_putI (ci := 2) (j := 2) (idx := 18) (zd (i := .putfield 18) (n := 3) (by decide +kernel)) (by decide +kernel) (by decide +kernel) rfl g239 (Or.inl rfl) <|
    (zj (hj 2) (by decide +kernel))
noncomputable def b_X2_emit_2 : zBl := fun jp K => oAld 0 <| oGetI 2 2 <| oInt 2147483649 <| oB2 zsub <| oIret K
theorem s_X2_emit_2 (d : Nat) : zPb l G gh (d + 1) n_X2_emit p_X2_emit 40 b_X2_emit_2 := fun K jp hj =>
    z_aload_n (n := 0) (i := 0) (zd (i := .aload_n 0) (n := 1) (by decide +kernel)) rfl <|
    z_getI (ci := 2) (j := 2) (idx := 18) (zd (i := .getfield 18) (n := 3) (by decide +kernel)) (by decide +kernel) (by decide +kernel) rfl g239 <|
    z_iconst (n := 1) (zd (i := .iconst (1)) (n := 1) (by decide +kernel)) (by decide +kernel) <|
    z_isub (zd (i := .isub) (n := 1) (by decide +kernel)) <|
    z_iret (zd (i := .ireturn) (n := 1) (by decide +kernel)) rfl
noncomputable def t_X2_emit : List zBl := [b_X2_emit_0, b_X2_emit_1, b_X2_emit_2]
theorem tt_X2_emit (d : Nat) : zT (zPb l G gh (d + 1) n_X2_emit p_X2_emit) t_X2_emit p_X2_emit := ⟨s_X2_emit_0 d, s_X2_emit_1 d, s_X2_emit_2 d, trivial⟩
noncomputable def f_X2_emit : zMt := zmet 3 t_X2_emit
theorem c_X2_emit (d : Nat) : zC l G gh (d + 1) n_X2_emit f_X2_emit := zmet_ok (pcs := p_X2_emit) (by decide) rfl rfl (tt_X2_emit d)
def n_X5_byteAt : qMn := (yX5_byteAt, cX5_byteAt, 2, (some Jvm.ClassFile.FieldType.int), 0, 0)
theorem to_X5_byteAt : qTo n_X5_byteAt 1 := ⟨g535, g98, ⟨by decide, by decide, by decide +kernel⟩, by decide⟩
def p_X5_byteAt : List Nat := [0, 4, 12, 25, 26]
noncomputable def b_X5_byteAt_0 : zBl := fun jp K => oNLC 1 2147483648 zltN zgeN zn1_lt zn1_ge (jp 3) (jp 1)
theorem s_X5_byteAt_0 (d : Nat) : zPb l G gh (d + 1) n_X5_byteAt p_X5_byteAt 0 b_X5_byteAt_0 := fun K jp hj =>
    z_nL0_lt (i := 1) (a1 := 1) (off := 24) (tgt := 25) (zLd_n (n := 1) (i := 1) (zd (i := .iload_n 1) (n := 1) (by decide +kernel)) rfl) (zd (i := .ifCond .lt (24)) (n := 3) (by decide +kernel)) (by decide +kernel) (zj (hj 3) (by decide +kernel)) (zj (hj 1) (by decide +kernel))
noncomputable def b_X5_byteAt_1 : zBl := fun jp K => oNLF 1 0 5 1 zgeN zltN zn1_ge zn1_lt (jp 3) (jp 2)
theorem s_X5_byteAt_1 (d : Nat) : zPb l G gh (d + 1) n_X5_byteAt p_X5_byteAt 4 b_X5_byteAt_1 := fun K jp hj =>
    z_nLF_ge (i := 1) (r := 0) (ci := 5) (j := 1) (a1 := 1) (a2 := 4) (off := 16) (tgt := 25) (zLd_n (n := 1) (i := 1) (zd (i := .iload_n 1) (n := 1) (by decide +kernel)) rfl) (zFd_n (n := 0) (r := 0) (ci := 5) (j := 1) (idx := 15) (zd (i := .aload_n 0) (n := 1) (by decide +kernel)) rfl (zd (i := .getfield 15) (n := 3) (by decide +kernel)) (by decide +kernel) (by decide +kernel) rfl g130) (by decide +kernel) rfl (zd (i := .if_icmp .ge (16)) (n := 3) (by decide +kernel)) (by decide +kernel) (zj (hj 3) (by decide +kernel)) (zj (hj 2) (by decide +kernel))
noncomputable def b_X5_byteAt_2 : zBl := fun jp K => oAld 0 <| oGetR 5 0 <| oIld 1 <| oXald 11 <| oInt 2147483903 <| oB2 ziand <| jp 4
theorem s_X5_byteAt_2 (d : Nat) : zPb l G gh (d + 1) n_X5_byteAt p_X5_byteAt 12 b_X5_byteAt_2 := fun K jp hj =>
    z_aload_n (n := 0) (i := 0) (zd (i := .aload_n 0) (n := 1) (by decide +kernel)) rfl <|
    z_getR (ci := 5) (j := 0) (idx := 11) (zd (i := .getfield 11) (n := 3) (by decide +kernel)) (by decide +kernel) (by decide +kernel) rfl g129 <|
    z_iload_n (n := 1) (i := 1) (zd (i := .iload_n 1) (n := 1) (by decide +kernel)) rfl <|
    z_bald (zd (i := .baload) (n := 1) (by decide +kernel)) <|
    z_sipush (n := 255) (zd (i := .sipush (255)) (n := 3) (by decide +kernel)) (by decide +kernel) <|
    z_iand (zd (i := .iand) (n := 1) (by decide +kernel)) <|
    z_goto (off := 4) (tgt := 26) (zd (i := .goto (4)) (n := 3) (by decide +kernel)) (by decide +kernel) (zj (hj 4) (by decide +kernel))
noncomputable def b_X5_byteAt_3 : zBl := fun jp K => oInt 2147483647 <| jp 4
theorem s_X5_byteAt_3 (d : Nat) : zPb l G gh (d + 1) n_X5_byteAt p_X5_byteAt 25 b_X5_byteAt_3 := fun K jp hj =>
    z_iconst (n := -1) (zd (i := .iconst (-1)) (n := 1) (by decide +kernel)) (by decide +kernel) <|
    (zj (hj 4) (by decide +kernel))
noncomputable def b_X5_byteAt_4 : zBl := fun jp K => oIret K
theorem s_X5_byteAt_4 (d : Nat) : zPb l G gh (d + 1) n_X5_byteAt p_X5_byteAt 26 b_X5_byteAt_4 := fun K jp hj =>
    z_iret (zd (i := .ireturn) (n := 1) (by decide +kernel)) rfl
noncomputable def t_X5_byteAt : List zBl := [b_X5_byteAt_0, b_X5_byteAt_1, b_X5_byteAt_2, b_X5_byteAt_3, b_X5_byteAt_4]
theorem tt_X5_byteAt (d : Nat) : zT (zPb l G gh (d + 1) n_X5_byteAt p_X5_byteAt) t_X5_byteAt p_X5_byteAt := ⟨s_X5_byteAt_0 d, s_X5_byteAt_1 d, s_X5_byteAt_2 d, s_X5_byteAt_3 d, s_X5_byteAt_4 d, trivial⟩
noncomputable def f_X5_byteAt : zMt := zmet 2 t_X5_byteAt
theorem c_X5_byteAt (d : Nat) : zC l G gh (d + 1) n_X5_byteAt f_X5_byteAt := zmet_ok (pcs := p_X5_byteAt) (by decide) rfl rfl (tt_X5_byteAt d)
def n_X6_isBlank : qMn := (yX6_isBlank, cX6_isBlank, 1, (some Jvm.ClassFile.FieldType.boolean), 0, 0)
theorem to_X6_isBlank : qTo n_X6_isBlank 1 := ⟨g538, g100, ⟨by decide, by decide, by decide +kernel⟩, by decide⟩
def p_X6_isBlank : List Nat := [0, 6, 12, 18, 24, 28, 29]
noncomputable def b_X6_isBlank_0 : zBl := fun jp K => oNLC 0 2147483657 zeqN zneN zn1_eq zn1_ne (jp 4) (jp 1)
theorem s_X6_isBlank_0 (d : Nat) : zPb l G gh (d + 1) n_X6_isBlank p_X6_isBlank 0 b_X6_isBlank_0 := fun K jp hj =>
    z_nLC_eq (i := 0) (c0 := 2147483657) (a1 := 1) (a2 := 2) (off := 21) (tgt := 24) (zLd_n (n := 0) (i := 0) (zd (i := .iload_n 0) (n := 1) (by decide +kernel)) rfl) (zCn_b (n := 9) (zd (i := .bipush (9)) (n := 2) (by decide +kernel)) (by decide +kernel)) (zd (i := .if_icmp .eq (21)) (n := 3) (by decide +kernel)) (by decide +kernel) (zj (hj 4) (by decide +kernel)) (zj (hj 1) (by decide +kernel))
noncomputable def b_X6_isBlank_1 : zBl := fun jp K => oNLC 0 2147483658 zeqN zneN zn1_eq zn1_ne (jp 4) (jp 2)
theorem s_X6_isBlank_1 (d : Nat) : zPb l G gh (d + 1) n_X6_isBlank p_X6_isBlank 6 b_X6_isBlank_1 := fun K jp hj =>
    z_nLC_eq (i := 0) (c0 := 2147483658) (a1 := 1) (a2 := 2) (off := 15) (tgt := 24) (zLd_n (n := 0) (i := 0) (zd (i := .iload_n 0) (n := 1) (by decide +kernel)) rfl) (zCn_b (n := 10) (zd (i := .bipush (10)) (n := 2) (by decide +kernel)) (by decide +kernel)) (zd (i := .if_icmp .eq (15)) (n := 3) (by decide +kernel)) (by decide +kernel) (zj (hj 4) (by decide +kernel)) (zj (hj 2) (by decide +kernel))
noncomputable def b_X6_isBlank_2 : zBl := fun jp K => oNLC 0 2147483661 zeqN zneN zn1_eq zn1_ne (jp 4) (jp 3)
theorem s_X6_isBlank_2 (d : Nat) : zPb l G gh (d + 1) n_X6_isBlank p_X6_isBlank 12 b_X6_isBlank_2 := fun K jp hj =>
    z_nLC_eq (i := 0) (c0 := 2147483661) (a1 := 1) (a2 := 2) (off := 9) (tgt := 24) (zLd_n (n := 0) (i := 0) (zd (i := .iload_n 0) (n := 1) (by decide +kernel)) rfl) (zCn_b (n := 13) (zd (i := .bipush (13)) (n := 2) (by decide +kernel)) (by decide +kernel)) (zd (i := .if_icmp .eq (9)) (n := 3) (by decide +kernel)) (by decide +kernel) (zj (hj 4) (by decide +kernel)) (zj (hj 3) (by decide +kernel))
noncomputable def b_X6_isBlank_3 : zBl := fun jp K => oNLC 0 2147483680 zneN zeqN zn1_ne zn1_eq (jp 5) (jp 4)
theorem s_X6_isBlank_3 (d : Nat) : zPb l G gh (d + 1) n_X6_isBlank p_X6_isBlank 18 b_X6_isBlank_3 := fun K jp hj =>
    z_nLC_ne (i := 0) (c0 := 2147483680) (a1 := 1) (a2 := 2) (off := 7) (tgt := 28) (zLd_n (n := 0) (i := 0) (zd (i := .iload_n 0) (n := 1) (by decide +kernel)) rfl) (zCn_b (n := 32) (zd (i := .bipush (32)) (n := 2) (by decide +kernel)) (by decide +kernel)) (zd (i := .if_icmp .ne (7)) (n := 3) (by decide +kernel)) (by decide +kernel) (zj (hj 5) (by decide +kernel)) (zj (hj 4) (by decide +kernel))
noncomputable def b_X6_isBlank_4 : zBl := fun jp K => oInt 2147483649 <| jp 6
theorem s_X6_isBlank_4 (d : Nat) : zPb l G gh (d + 1) n_X6_isBlank p_X6_isBlank 24 b_X6_isBlank_4 := fun K jp hj =>
    z_iconst (n := 1) (zd (i := .iconst (1)) (n := 1) (by decide +kernel)) (by decide +kernel) <|
    z_goto (off := 4) (tgt := 29) (zd (i := .goto (4)) (n := 3) (by decide +kernel)) (by decide +kernel) (zj (hj 6) (by decide +kernel))
noncomputable def b_X6_isBlank_5 : zBl := fun jp K => oInt 2147483648 <| jp 6
theorem s_X6_isBlank_5 (d : Nat) : zPb l G gh (d + 1) n_X6_isBlank p_X6_isBlank 28 b_X6_isBlank_5 := fun K jp hj =>
    z_iconst (n := 0) (zd (i := .iconst (0)) (n := 1) (by decide +kernel)) (by decide +kernel) <|
    (zj (hj 6) (by decide +kernel))
noncomputable def b_X6_isBlank_6 : zBl := fun jp K => oZret K
theorem s_X6_isBlank_6 (d : Nat) : zPb l G gh (d + 1) n_X6_isBlank p_X6_isBlank 29 b_X6_isBlank_6 := fun K jp hj =>
    z_zret (zd (i := .ireturn) (n := 1) (by decide +kernel)) rfl
noncomputable def t_X6_isBlank : List zBl := [b_X6_isBlank_0, b_X6_isBlank_1, b_X6_isBlank_2, b_X6_isBlank_3, b_X6_isBlank_4, b_X6_isBlank_5, b_X6_isBlank_6]
theorem tt_X6_isBlank (d : Nat) : zT (zPb l G gh (d + 1) n_X6_isBlank p_X6_isBlank) t_X6_isBlank p_X6_isBlank := ⟨s_X6_isBlank_0 d, s_X6_isBlank_1 d, s_X6_isBlank_2 d, s_X6_isBlank_3 d, s_X6_isBlank_4 d, s_X6_isBlank_5 d, s_X6_isBlank_6 d, trivial⟩
noncomputable def f_X6_isBlank : zMt := zmet 1 t_X6_isBlank
theorem c_X6_isBlank (d : Nat) : zC l G gh (d + 1) n_X6_isBlank f_X6_isBlank := zmet_ok (pcs := p_X6_isBlank) (by decide) rfl rfl (tt_X6_isBlank d)
def n_X6_isLetter : qMn := (yX6_isLetter, cX6_isLetter, 1, (some Jvm.ClassFile.FieldType.boolean), 0, 0)
theorem to_X6_isLetter : qTo n_X6_isLetter 1 := ⟨g541, g100, ⟨by decide, by decide, by decide +kernel⟩, by decide⟩
def p_X6_isLetter : List Nat := [0, 6, 12, 16, 17]
noncomputable def b_X6_isLetter_0 : zBl := fun jp K => oNLC 0 2147483745 zltN zgeN zn1_lt zn1_ge (jp 3) (jp 1)
theorem s_X6_isLetter_0 (d : Nat) : zPb l G gh (d + 1) n_X6_isLetter p_X6_isLetter 0 b_X6_isLetter_0 := fun K jp hj =>
    z_nLC_lt (i := 0) (c0 := 2147483745) (a1 := 1) (a2 := 2) (off := 13) (tgt := 16) (zLd_n (n := 0) (i := 0) (zd (i := .iload_n 0) (n := 1) (by decide +kernel)) rfl) (zCn_b (n := 97) (zd (i := .bipush (97)) (n := 2) (by decide +kernel)) (by decide +kernel)) (zd (i := .if_icmp .lt (13)) (n := 3) (by decide +kernel)) (by decide +kernel) (zj (hj 3) (by decide +kernel)) (zj (hj 1) (by decide +kernel))
noncomputable def b_X6_isLetter_1 : zBl := fun jp K => oNLC 0 2147483770 zgtN zleN zn1_gt zn1_le (jp 3) (jp 2)
theorem s_X6_isLetter_1 (d : Nat) : zPb l G gh (d + 1) n_X6_isLetter p_X6_isLetter 6 b_X6_isLetter_1 := fun K jp hj =>
    z_nLC_gt (i := 0) (c0 := 2147483770) (a1 := 1) (a2 := 2) (off := 7) (tgt := 16) (zLd_n (n := 0) (i := 0) (zd (i := .iload_n 0) (n := 1) (by decide +kernel)) rfl) (zCn_b (n := 122) (zd (i := .bipush (122)) (n := 2) (by decide +kernel)) (by decide +kernel)) (zd (i := .if_icmp .gt (7)) (n := 3) (by decide +kernel)) (by decide +kernel) (zj (hj 3) (by decide +kernel)) (zj (hj 2) (by decide +kernel))
noncomputable def b_X6_isLetter_2 : zBl := fun jp K => oInt 2147483649 <| jp 4
theorem s_X6_isLetter_2 (d : Nat) : zPb l G gh (d + 1) n_X6_isLetter p_X6_isLetter 12 b_X6_isLetter_2 := fun K jp hj =>
    z_iconst (n := 1) (zd (i := .iconst (1)) (n := 1) (by decide +kernel)) (by decide +kernel) <|
    z_goto (off := 4) (tgt := 17) (zd (i := .goto (4)) (n := 3) (by decide +kernel)) (by decide +kernel) (zj (hj 4) (by decide +kernel))
noncomputable def b_X6_isLetter_3 : zBl := fun jp K => oInt 2147483648 <| jp 4
theorem s_X6_isLetter_3 (d : Nat) : zPb l G gh (d + 1) n_X6_isLetter p_X6_isLetter 16 b_X6_isLetter_3 := fun K jp hj =>
    z_iconst (n := 0) (zd (i := .iconst (0)) (n := 1) (by decide +kernel)) (by decide +kernel) <|
    (zj (hj 4) (by decide +kernel))
noncomputable def b_X6_isLetter_4 : zBl := fun jp K => oZret K
theorem s_X6_isLetter_4 (d : Nat) : zPb l G gh (d + 1) n_X6_isLetter p_X6_isLetter 17 b_X6_isLetter_4 := fun K jp hj =>
    z_zret (zd (i := .ireturn) (n := 1) (by decide +kernel)) rfl
noncomputable def t_X6_isLetter : List zBl := [b_X6_isLetter_0, b_X6_isLetter_1, b_X6_isLetter_2, b_X6_isLetter_3, b_X6_isLetter_4]
theorem tt_X6_isLetter (d : Nat) : zT (zPb l G gh (d + 1) n_X6_isLetter p_X6_isLetter) t_X6_isLetter p_X6_isLetter := ⟨s_X6_isLetter_0 d, s_X6_isLetter_1 d, s_X6_isLetter_2 d, s_X6_isLetter_3 d, s_X6_isLetter_4 d, trivial⟩
noncomputable def f_X6_isLetter : zMt := zmet 1 t_X6_isLetter
theorem c_X6_isLetter (d : Nat) : zC l G gh (d + 1) n_X6_isLetter f_X6_isLetter := zmet_ok (pcs := p_X6_isLetter) (by decide) rfl rfl (tt_X6_isLetter d)
def n_X6_withLetter : qMn := (yX6_withLetter, cX6_withLetter, 3, (some Jvm.ClassFile.FieldType.long), 0, 0)
theorem to_X6_withLetter : qTo n_X6_withLetter 2 := ⟨g202, g100, ⟨by decide, by decide, by decide +kernel⟩, by decide⟩
def p_X6_withLetter : List Nat := [0]
noncomputable def b_X6_withLetter_0 : zBl := fun jp K => oLld 0 <| oLng 27 <| oJ2 Int64.mul <| oIld 2 <| oInt 2147483745 <| oB2 zsub <| oInt 2147483649 <| oB2 zadd <| oI2l <| oJ2 Int64.add <| oLret K
theorem s_X6_withLetter_0 (d : Nat) : zPb l G gh (d + 1) n_X6_withLetter p_X6_withLetter 0 b_X6_withLetter_0 := fun K jp hj =>
    z_lload_n (n := 0) (i := 0) (zd (i := .lload_n 0) (n := 1) (by decide +kernel)) rfl <|
    z_ldc2 (n := 45) (zd (i := .ldc2_w 45) (n := 3) (by decide +kernel)) g203 <|
    z_lmul (zd (i := .lmul) (n := 1) (by decide +kernel)) <|
    z_iload_n (n := 2) (i := 2) (zd (i := .iload_n 2) (n := 1) (by decide +kernel)) rfl <|
    z_bipush (n := 97) (zd (i := .bipush (97)) (n := 2) (by decide +kernel)) (by decide +kernel) <|
    z_isub (zd (i := .isub) (n := 1) (by decide +kernel)) <|
    z_iconst (n := 1) (zd (i := .iconst (1)) (n := 1) (by decide +kernel)) (by decide +kernel) <|
    z_iadd (zd (i := .iadd) (n := 1) (by decide +kernel)) <|
    z_i2l (zd (i := .i2l) (n := 1) (by decide +kernel)) <|
    z_ladd (zd (i := .ladd) (n := 1) (by decide +kernel)) <|
    z_lret (zd (i := .lreturn) (n := 1) (by decide +kernel)) rfl
noncomputable def t_X6_withLetter : List zBl := [b_X6_withLetter_0]
theorem tt_X6_withLetter (d : Nat) : zT (zPb l G gh (d + 1) n_X6_withLetter p_X6_withLetter) t_X6_withLetter p_X6_withLetter := ⟨s_X6_withLetter_0 d, trivial⟩
noncomputable def f_X6_withLetter : zMt := zmet 3 t_X6_withLetter
theorem c_X6_withLetter (d : Nat) : zC l G gh (d + 1) n_X6_withLetter f_X6_withLetter := zmet_ok (pcs := p_X6_withLetter) (by decide) rfl rfl (tt_X6_withLetter d)
def n_X6_kindOf : qMn := (yX6_kindOf, cX6_kindOf, 4, (some Jvm.ClassFile.FieldType.int), 0, 0)
theorem to_X6_kindOf : qTo n_X6_kindOf 1 := ⟨g549, g100, ⟨by decide, by decide, by decide +kernel⟩, by decide⟩
def p_X6_kindOf : List Nat := [0, 2, 8, 19, 25, 31]
noncomputable def b_X6_kindOf_0 : zBl := fun jp K => oInt 2147483648 <| oIst 3 <| jp 1
theorem s_X6_kindOf_0 (d : Nat) : zPb l G gh (d + 1) n_X6_kindOf p_X6_kindOf 0 b_X6_kindOf_0 := fun K jp hj =>
    z_iconst (n := 0) (zd (i := .iconst (0)) (n := 1) (by decide +kernel)) (by decide +kernel) <|
    z_istore_n (n := 3) (i := 3) (zd (i := .istore_n 3) (n := 1) (by decide +kernel)) rfl (by decide +kernel) <|
    (zj (hj 1) (by decide +kernel))
noncomputable def b_X6_kindOf_1 : zBl := fun jp K => oNLC 3 2147483671 zgeN zltN zn1_ge zn1_lt (jp 5) (jp 2)
theorem s_X6_kindOf_1 (d : Nat) : zPb l G gh (d + 1) n_X6_kindOf p_X6_kindOf 2 b_X6_kindOf_1 := fun K jp hj =>
    z_nLC_ge (i := 3) (c0 := 2147483671) (a1 := 1) (a2 := 2) (off := 26) (tgt := 31) (zLd_n (n := 3) (i := 3) (zd (i := .iload_n 3) (n := 1) (by decide +kernel)) rfl) (zCn_b (n := 23) (zd (i := .bipush (23)) (n := 2) (by decide +kernel)) (by decide +kernel)) (zd (i := .if_icmp .ge (26)) (n := 3) (by decide +kernel)) (by decide +kernel) (zj (hj 5) (by decide +kernel)) (zj (hj 2) (by decide +kernel))
noncomputable def b_X6_kindOf_2 : zBl := fun jp K => oAld 0 <| oGetR 6 0 <| oIld 3 <| oLald <| oLld 1 <| oLcmp <| oIf zne zeq (jp 4) (jp 3)
theorem s_X6_kindOf_2 (d : Nat) : zPb l G gh (d + 1) n_X6_kindOf p_X6_kindOf 8 b_X6_kindOf_2 := fun K jp hj =>
    z_aload_n (n := 0) (i := 0) (zd (i := .aload_n 0) (n := 1) (by decide +kernel)) rfl <|
    z_getR (ci := 6) (j := 0) (idx := 9) (zd (i := .getfield 9) (n := 3) (by decide +kernel)) (by decide +kernel) (by decide +kernel) rfl g204 <|
    z_iload_n (n := 3) (i := 3) (zd (i := .iload_n 3) (n := 1) (by decide +kernel)) rfl <|
    z_lald (zd (i := .laload) (n := 1) (by decide +kernel)) <|
    z_lload_n (n := 1) (i := 1) (zd (i := .lload_n 1) (n := 1) (by decide +kernel)) rfl <|
    z_lcmp (zd (i := .lcmp) (n := 1) (by decide +kernel)) <|
    z_if_ne (off := 9) (tgt := 25) (zd (i := .ifCond .ne (9)) (n := 3) (by decide +kernel)) (by decide +kernel) (zj (hj 4) (by decide +kernel)) (zj (hj 3) (by decide +kernel))
noncomputable def b_X6_kindOf_3 : zBl := fun jp K => oInt 2147483776 <| oIld 3 <| oB2 zadd <| oIret K
theorem s_X6_kindOf_3 (d : Nat) : zPb l G gh (d + 1) n_X6_kindOf p_X6_kindOf 19 b_X6_kindOf_3 := fun K jp hj =>
    z_sipush (n := 128) (zd (i := .sipush (128)) (n := 3) (by decide +kernel)) (by decide +kernel) <|
    z_iload_n (n := 3) (i := 3) (zd (i := .iload_n 3) (n := 1) (by decide +kernel)) rfl <|
    z_iadd (zd (i := .iadd) (n := 1) (by decide +kernel)) <|
    z_iret (zd (i := .ireturn) (n := 1) (by decide +kernel)) rfl
noncomputable def b_X6_kindOf_4 : zBl := fun jp K => oInc 3 2147483649 <| jp 1
theorem s_X6_kindOf_4 (d : Nat) : zPb l G gh (d + 1) n_X6_kindOf p_X6_kindOf 25 b_X6_kindOf_4 := fun K jp hj =>
    z_iinc (i := 3) (n := 1) (zd (i := .iinc 3 (1)) (n := 3) (by decide +kernel)) (by decide +kernel) (by decide +kernel) <|
    z_goto (off := -26) (tgt := 2) (zd (i := .goto (-26)) (n := 3) (by decide +kernel)) (by decide +kernel) (zj (hj 1) (by decide +kernel))
noncomputable def b_X6_kindOf_5 : zBl := fun jp K => oInt 2147483650 <| oIret K
theorem s_X6_kindOf_5 (d : Nat) : zPb l G gh (d + 1) n_X6_kindOf p_X6_kindOf 31 b_X6_kindOf_5 := fun K jp hj =>
    z_iconst (n := 2) (zd (i := .iconst (2)) (n := 1) (by decide +kernel)) (by decide +kernel) <|
    z_iret (zd (i := .ireturn) (n := 1) (by decide +kernel)) rfl
noncomputable def t_X6_kindOf : List zBl := [b_X6_kindOf_0, b_X6_kindOf_1, b_X6_kindOf_2, b_X6_kindOf_3, b_X6_kindOf_4, b_X6_kindOf_5]
theorem tt_X6_kindOf (d : Nat) : zT (zPb l G gh (d + 1) n_X6_kindOf p_X6_kindOf) t_X6_kindOf p_X6_kindOf := ⟨s_X6_kindOf_0 d, s_X6_kindOf_1 d, s_X6_kindOf_2 d, s_X6_kindOf_3 d, s_X6_kindOf_4 d, s_X6_kindOf_5 d, trivial⟩
def q_X6_kindOf_0 : List (Nat × Nat) := [(4, zk0), (5, 131827)]
noncomputable def al_X6_kindOf_0 : zAq := [(some (.inl 9223372051887161494), [(4, zk0), (5, 131827)])]
noncomputable def fm_X6_kindOf_0 : List zFm := [(0, [], (fun vs => [.inr (.ref 4), .inr (.double 0)]), (fun vs => zP q_X6_kindOf_0), (fun vs => Nat.sub (Nat.add 24 0) 0)),
  (1, [(3, 2147483648, 2147483671)], (fun vs => [.inr (.ref 4), .inr (.double 0), zdum, .inl (zn 0 vs 0)]), (fun vs => zP q_X6_kindOf_0), (fun vs => Nat.sub (Nat.add 2147483671 0) (Nat.add 0 (Nat.mul 1 (zn 0 vs 0)))))]
def bf_X6_kindOf_0 : List Nat := [0, 2]
theorem r_X6_kindOf_0_0 : zbox [] (fun vs => zFrun (zpost (zAlq al_X6_kindOf_0)) 1000 t_X6_kindOf fm_X6_kindOf_0 bf_X6_kindOf_0 (0, vs)) = true := by decide +kernel
theorem r_X6_kindOf_0_1 : zbox [(3, 2147483648, 2147483671)] (fun vs => zFrun (zpost (zAlq al_X6_kindOf_0)) 1000 t_X6_kindOf fm_X6_kindOf_0 bf_X6_kindOf_0 (1, vs)) = true := by decide +kernel
set_option maxRecDepth 100000 in
theorem x_X6_kindOf_0 (d : Nat) : zS l G gh (d + 1) (zpost (zAlq al_X6_kindOf_0)) n_X6_kindOf (zn 0 p_X6_kindOf 0) (zwc (0, [.inr (.ref 4), .inr (.double 0)], zP q_X6_kindOf_0) 0) := zentry (tt_X6_kindOf d) fm_X6_kindOf_0 bf_X6_kindOf_0 1000 (by decide +kernel) rfl ⟨Nat.zero_lt_succ _, trivial⟩ (fun f hf => match f, hf with
  | 0, _ => fun vs hv => (zbox_t r_X6_kindOf_0_0) vs hv
  | 1, _ => fun vs hv => (zbox_t r_X6_kindOf_0_1) vs hv
  | f + 2, h => absurd (show f + 2 < 2 from h) (Nat.not_lt.mpr (Nat.le_add_left 2 f)))
noncomputable def gs_X6_kindOf_0 : zMt := zgq false [] 4 [.inr (.ref 4), .inr (.double 0)] q_X6_kindOf_0 al_X6_kindOf_0
set_option maxRecDepth 100000 in
theorem cs_X6_kindOf_0 (d : Nat) : zC l G gh (d + 1) n_X6_kindOf gs_X6_kindOf_0 := zgq_ok0 (pcs := p_X6_kindOf) (by decide) rfl rfl (fun a ha => by simp only [al_X6_kindOf_0, List.mem_cons, List.not_mem_nil, or_false] at ha; rcases ha with rfl <;> decide +kernel) (fun gh => x_X6_kindOf_0 d) (by decide +kernel)
noncomputable def gs_X6_kindOf : zMt := gs_X6_kindOf_0
theorem cs_X6_kindOf (d : Nat) : zC l G gh (d + 1) n_X6_kindOf gs_X6_kindOf := (cs_X6_kindOf_0 d)
def n_X6_isDigit : qMn := (yX6_isDigit, cX6_isDigit, 1, (some Jvm.ClassFile.FieldType.boolean), 0, 0)
theorem to_X6_isDigit : qTo n_X6_isDigit 1 := ⟨g552, g100, ⟨by decide, by decide, by decide +kernel⟩, by decide⟩
def p_X6_isDigit : List Nat := [0, 6, 12, 16, 17]
noncomputable def b_X6_isDigit_0 : zBl := fun jp K => oNLC 0 2147483696 zltN zgeN zn1_lt zn1_ge (jp 3) (jp 1)
theorem s_X6_isDigit_0 (d : Nat) : zPb l G gh (d + 1) n_X6_isDigit p_X6_isDigit 0 b_X6_isDigit_0 := fun K jp hj =>
    z_nLC_lt (i := 0) (c0 := 2147483696) (a1 := 1) (a2 := 2) (off := 13) (tgt := 16) (zLd_n (n := 0) (i := 0) (zd (i := .iload_n 0) (n := 1) (by decide +kernel)) rfl) (zCn_b (n := 48) (zd (i := .bipush (48)) (n := 2) (by decide +kernel)) (by decide +kernel)) (zd (i := .if_icmp .lt (13)) (n := 3) (by decide +kernel)) (by decide +kernel) (zj (hj 3) (by decide +kernel)) (zj (hj 1) (by decide +kernel))
noncomputable def b_X6_isDigit_1 : zBl := fun jp K => oNLC 0 2147483705 zgtN zleN zn1_gt zn1_le (jp 3) (jp 2)
theorem s_X6_isDigit_1 (d : Nat) : zPb l G gh (d + 1) n_X6_isDigit p_X6_isDigit 6 b_X6_isDigit_1 := fun K jp hj =>
    z_nLC_gt (i := 0) (c0 := 2147483705) (a1 := 1) (a2 := 2) (off := 7) (tgt := 16) (zLd_n (n := 0) (i := 0) (zd (i := .iload_n 0) (n := 1) (by decide +kernel)) rfl) (zCn_b (n := 57) (zd (i := .bipush (57)) (n := 2) (by decide +kernel)) (by decide +kernel)) (zd (i := .if_icmp .gt (7)) (n := 3) (by decide +kernel)) (by decide +kernel) (zj (hj 3) (by decide +kernel)) (zj (hj 2) (by decide +kernel))
noncomputable def b_X6_isDigit_2 : zBl := fun jp K => oInt 2147483649 <| jp 4
theorem s_X6_isDigit_2 (d : Nat) : zPb l G gh (d + 1) n_X6_isDigit p_X6_isDigit 12 b_X6_isDigit_2 := fun K jp hj =>
    z_iconst (n := 1) (zd (i := .iconst (1)) (n := 1) (by decide +kernel)) (by decide +kernel) <|
    z_goto (off := 4) (tgt := 17) (zd (i := .goto (4)) (n := 3) (by decide +kernel)) (by decide +kernel) (zj (hj 4) (by decide +kernel))
noncomputable def b_X6_isDigit_3 : zBl := fun jp K => oInt 2147483648 <| jp 4
theorem s_X6_isDigit_3 (d : Nat) : zPb l G gh (d + 1) n_X6_isDigit p_X6_isDigit 16 b_X6_isDigit_3 := fun K jp hj =>
    z_iconst (n := 0) (zd (i := .iconst (0)) (n := 1) (by decide +kernel)) (by decide +kernel) <|
    (zj (hj 4) (by decide +kernel))
noncomputable def b_X6_isDigit_4 : zBl := fun jp K => oZret K
theorem s_X6_isDigit_4 (d : Nat) : zPb l G gh (d + 1) n_X6_isDigit p_X6_isDigit 17 b_X6_isDigit_4 := fun K jp hj =>
    z_zret (zd (i := .ireturn) (n := 1) (by decide +kernel)) rfl
noncomputable def t_X6_isDigit : List zBl := [b_X6_isDigit_0, b_X6_isDigit_1, b_X6_isDigit_2, b_X6_isDigit_3, b_X6_isDigit_4]
theorem tt_X6_isDigit (d : Nat) : zT (zPb l G gh (d + 1) n_X6_isDigit p_X6_isDigit) t_X6_isDigit p_X6_isDigit := ⟨s_X6_isDigit_0 d, s_X6_isDigit_1 d, s_X6_isDigit_2 d, s_X6_isDigit_3 d, s_X6_isDigit_4 d, trivial⟩
noncomputable def f_X6_isDigit : zMt := zmet 1 t_X6_isDigit
theorem c_X6_isDigit (d : Nat) : zC l G gh (d + 1) n_X6_isDigit f_X6_isDigit := zmet_ok (pcs := p_X6_isDigit) (by decide) rfl rfl (tt_X6_isDigit d)
def n_J0_isLatin1_aae02 : qMn := (yJ0_isLatin1_aae02, cJ0_isLatin1_aae02, 1, (some Jvm.ClassFile.FieldType.boolean), 0, 0)
theorem to_J0_isLatin1_aae02 : qTo n_J0_isLatin1_aae02 0 := ⟨g169, g101, ⟨by decide, by decide, by decide +kernel⟩, by decide⟩
def p_J0_isLatin1_aae02 : List Nat := [0, 6, 13, 17, 18]
noncomputable def b_J0_isLatin1_aae02_0 : zBl := fun jp K => oInt 2147483649 <| oIf zeq zne (jp 3) (jp 1)
theorem s_J0_isLatin1_aae02_0 (d : Nat) : zPb l G gh (d + 1) n_J0_isLatin1_aae02 p_J0_isLatin1_aae02 0 b_J0_isLatin1_aae02_0 := fun K jp hj =>
    z_sCom (idx := 38) (zd (i := .getstatic 38) (n := 3) (by decide +kernel)) g160 <|
    z_if_eq (off := 14) (tgt := 17) (zd (i := .ifCond .eq (14)) (n := 3) (by decide +kernel)) (by decide +kernel) (zj (hj 3) (by decide +kernel)) (zj (hj 1) (by decide +kernel))
noncomputable def b_J0_isLatin1_aae02_1 : zBl := fun jp K => oAld 0 <| oScod <| oIf zne zeq (jp 3) (jp 2)
theorem s_J0_isLatin1_aae02_1 (d : Nat) : zPb l G gh (d + 1) n_J0_isLatin1_aae02 p_J0_isLatin1_aae02 6 b_J0_isLatin1_aae02_1 := fun K jp hj =>
    z_aload_n (n := 0) (i := 0) (zd (i := .aload_n 0) (n := 1) (by decide +kernel)) rfl <|
    z_sCod (idx := 15) (zd (i := .getfield 15) (n := 3) (by decide +kernel)) g1714 <|
    z_if_ne (off := 7) (tgt := 17) (zd (i := .ifCond .ne (7)) (n := 3) (by decide +kernel)) (by decide +kernel) (zj (hj 3) (by decide +kernel)) (zj (hj 2) (by decide +kernel))
noncomputable def b_J0_isLatin1_aae02_2 : zBl := fun jp K => oInt 2147483649 <| jp 4
theorem s_J0_isLatin1_aae02_2 (d : Nat) : zPb l G gh (d + 1) n_J0_isLatin1_aae02 p_J0_isLatin1_aae02 13 b_J0_isLatin1_aae02_2 := fun K jp hj =>
    z_iconst (n := 1) (zd (i := .iconst (1)) (n := 1) (by decide +kernel)) (by decide +kernel) <|
    z_goto (off := 4) (tgt := 18) (zd (i := .goto (4)) (n := 3) (by decide +kernel)) (by decide +kernel) (zj (hj 4) (by decide +kernel))
noncomputable def b_J0_isLatin1_aae02_4 : zBl := fun jp K => oZret K
theorem s_J0_isLatin1_aae02_4 (d : Nat) : zPb l G gh (d + 1) n_J0_isLatin1_aae02 p_J0_isLatin1_aae02 18 b_J0_isLatin1_aae02_4 := fun K jp hj =>
    z_zret (zd (i := .ireturn) (n := 1) (by decide +kernel)) rfl
noncomputable def t_J0_isLatin1_aae02 : List zBl := [b_J0_isLatin1_aae02_0, b_J0_isLatin1_aae02_1, b_J0_isLatin1_aae02_2, zfl, b_J0_isLatin1_aae02_4]
theorem tt_J0_isLatin1_aae02 (d : Nat) : zT (zPb l G gh (d + 1) n_J0_isLatin1_aae02 p_J0_isLatin1_aae02) t_J0_isLatin1_aae02 p_J0_isLatin1_aae02 := ⟨s_J0_isLatin1_aae02_0 d, s_J0_isLatin1_aae02_1 d, s_J0_isLatin1_aae02_2 d, (fun _ _ _ => z_fail), s_J0_isLatin1_aae02_4 d, trivial⟩
noncomputable def f_J0_isLatin1_aae02 : zMt := zmet 1 t_J0_isLatin1_aae02
theorem c_J0_isLatin1_aae02 (d : Nat) : zC l G gh (d + 1) n_J0_isLatin1_aae02 f_J0_isLatin1_aae02 := zmet_ok (pcs := p_J0_isLatin1_aae02) (by decide) rfl rfl (tt_J0_isLatin1_aae02 d)
def n_J0_coder_7d493 : qMn := (yJ0_coder_7d493, cJ0_coder_7d493, 1, (some Jvm.ClassFile.FieldType.byte), 0, 0)
theorem to_J0_coder_7d493 : qTo n_J0_coder_7d493 0 := ⟨g159, g101, ⟨by decide, by decide, by decide +kernel⟩, by decide⟩
def p_J0_coder_7d493 : List Nat := [0, 6, 13, 14]
noncomputable def b_J0_coder_7d493_0 : zBl := fun jp K => oInt 2147483649 <| oIf zeq zne (jp 2) (jp 1)
theorem s_J0_coder_7d493_0 (d : Nat) : zPb l G gh (d + 1) n_J0_coder_7d493 p_J0_coder_7d493 0 b_J0_coder_7d493_0 := fun K jp hj =>
    z_sCom (idx := 38) (zd (i := .getstatic 38) (n := 3) (by decide +kernel)) g160 <|
    z_if_eq (off := 10) (tgt := 13) (zd (i := .ifCond .eq (10)) (n := 3) (by decide +kernel)) (by decide +kernel) (zj (hj 2) (by decide +kernel)) (zj (hj 1) (by decide +kernel))
noncomputable def b_J0_coder_7d493_1 : zBl := fun jp K => oAld 0 <| oScod <| jp 3
theorem s_J0_coder_7d493_1 (d : Nat) : zPb l G gh (d + 1) n_J0_coder_7d493 p_J0_coder_7d493 6 b_J0_coder_7d493_1 := fun K jp hj =>
    z_aload_n (n := 0) (i := 0) (zd (i := .aload_n 0) (n := 1) (by decide +kernel)) rfl <|
    z_sCod (idx := 15) (zd (i := .getfield 15) (n := 3) (by decide +kernel)) g1714 <|
    z_goto (off := 4) (tgt := 14) (zd (i := .goto (4)) (n := 3) (by decide +kernel)) (by decide +kernel) (zj (hj 3) (by decide +kernel))
noncomputable def b_J0_coder_7d493_3 : zBl := fun jp K => oNret .byte K
theorem s_J0_coder_7d493_3 (d : Nat) : zPb l G gh (d + 1) n_J0_coder_7d493 p_J0_coder_7d493 14 b_J0_coder_7d493_3 := fun K jp hj =>
    z_nret (ty := .byte) (zd (i := .ireturn) (n := 1) (by decide +kernel)) rfl (fun _ => rfl)
noncomputable def t_J0_coder_7d493 : List zBl := [b_J0_coder_7d493_0, b_J0_coder_7d493_1, zfl, b_J0_coder_7d493_3]
theorem tt_J0_coder_7d493 (d : Nat) : zT (zPb l G gh (d + 1) n_J0_coder_7d493 p_J0_coder_7d493) t_J0_coder_7d493 p_J0_coder_7d493 := ⟨s_J0_coder_7d493_0 d, s_J0_coder_7d493_1 d, (fun _ _ _ => z_fail), s_J0_coder_7d493_3 d, trivial⟩
noncomputable def f_J0_coder_7d493 : zMt := zmet 1 t_J0_coder_7d493
theorem c_J0_coder_7d493 (d : Nat) : zC l G gh (d + 1) n_J0_coder_7d493 f_J0_coder_7d493 := zmet_ok (pcs := p_J0_coder_7d493) (by decide) rfl rfl (tt_J0_coder_7d493 d)
def n_J1_canEncode_9a6ad : qMn := (yJ1_canEncode_9a6ad, cJ1_canEncode_9a6ad, 1, (some Jvm.ClassFile.FieldType.boolean), 0, 0)
theorem to_J1_canEncode_9a6ad : qTo n_J1_canEncode_9a6ad 1 := ⟨g573, g102, ⟨by decide, by decide, by decide +kernel⟩, by decide⟩
def p_J1_canEncode_9a6ad : List Nat := [0, 4, 11, 15, 16]
noncomputable def b_J1_canEncode_9a6ad_0 : zBl := fun jp K => oNLC 0 2147483648 zltN zgeN zn1_lt zn1_ge (jp 3) (jp 1)
theorem s_J1_canEncode_9a6ad_0 (d : Nat) : zPb l G gh (d + 1) n_J1_canEncode_9a6ad p_J1_canEncode_9a6ad 0 b_J1_canEncode_9a6ad_0 := fun K jp hj =>
    z_nL0_lt (i := 0) (a1 := 1) (off := 14) (tgt := 15) (zLd_n (n := 0) (i := 0) (zd (i := .iload_n 0) (n := 1) (by decide +kernel)) rfl) (zd (i := .ifCond .lt (14)) (n := 3) (by decide +kernel)) (by decide +kernel) (zj (hj 3) (by decide +kernel)) (zj (hj 1) (by decide +kernel))
noncomputable def b_J1_canEncode_9a6ad_1 : zBl := fun jp K => oNLC 0 2147483903 zgtN zleN zn1_gt zn1_le (jp 3) (jp 2)
theorem s_J1_canEncode_9a6ad_1 (d : Nat) : zPb l G gh (d + 1) n_J1_canEncode_9a6ad p_J1_canEncode_9a6ad 4 b_J1_canEncode_9a6ad_1 := fun K jp hj =>
    z_nLC_gt (i := 0) (c0 := 2147483903) (a1 := 1) (a2 := 3) (off := 7) (tgt := 15) (zLd_n (n := 0) (i := 0) (zd (i := .iload_n 0) (n := 1) (by decide +kernel)) rfl) (zCn_s (n := 255) (zd (i := .sipush (255)) (n := 3) (by decide +kernel)) (by decide +kernel)) (zd (i := .if_icmp .gt (7)) (n := 3) (by decide +kernel)) (by decide +kernel) (zj (hj 3) (by decide +kernel)) (zj (hj 2) (by decide +kernel))
noncomputable def b_J1_canEncode_9a6ad_2 : zBl := fun jp K => oInt 2147483649 <| jp 4
theorem s_J1_canEncode_9a6ad_2 (d : Nat) : zPb l G gh (d + 1) n_J1_canEncode_9a6ad p_J1_canEncode_9a6ad 11 b_J1_canEncode_9a6ad_2 := fun K jp hj =>
    z_iconst (n := 1) (zd (i := .iconst (1)) (n := 1) (by decide +kernel)) (by decide +kernel) <|
    z_goto (off := 4) (tgt := 16) (zd (i := .goto (4)) (n := 3) (by decide +kernel)) (by decide +kernel) (zj (hj 4) (by decide +kernel))
noncomputable def b_J1_canEncode_9a6ad_3 : zBl := fun jp K => oInt 2147483648 <| jp 4
theorem s_J1_canEncode_9a6ad_3 (d : Nat) : zPb l G gh (d + 1) n_J1_canEncode_9a6ad p_J1_canEncode_9a6ad 15 b_J1_canEncode_9a6ad_3 := fun K jp hj =>
    z_iconst (n := 0) (zd (i := .iconst (0)) (n := 1) (by decide +kernel)) (by decide +kernel) <|
    (zj (hj 4) (by decide +kernel))
noncomputable def b_J1_canEncode_9a6ad_4 : zBl := fun jp K => oZret K
theorem s_J1_canEncode_9a6ad_4 (d : Nat) : zPb l G gh (d + 1) n_J1_canEncode_9a6ad p_J1_canEncode_9a6ad 16 b_J1_canEncode_9a6ad_4 := fun K jp hj =>
    z_zret (zd (i := .ireturn) (n := 1) (by decide +kernel)) rfl
noncomputable def t_J1_canEncode_9a6ad : List zBl := [b_J1_canEncode_9a6ad_0, b_J1_canEncode_9a6ad_1, b_J1_canEncode_9a6ad_2, b_J1_canEncode_9a6ad_3, b_J1_canEncode_9a6ad_4]
theorem tt_J1_canEncode_9a6ad (d : Nat) : zT (zPb l G gh (d + 1) n_J1_canEncode_9a6ad p_J1_canEncode_9a6ad) t_J1_canEncode_9a6ad p_J1_canEncode_9a6ad := ⟨s_J1_canEncode_9a6ad_0 d, s_J1_canEncode_9a6ad_1 d, s_J1_canEncode_9a6ad_2 d, s_J1_canEncode_9a6ad_3 d, s_J1_canEncode_9a6ad_4 d, trivial⟩
noncomputable def f_J1_canEncode_9a6ad : zMt := zmet 1 t_J1_canEncode_9a6ad
theorem c_J1_canEncode_9a6ad (d : Nat) : zC l G gh (d + 1) n_J1_canEncode_9a6ad f_J1_canEncode_9a6ad := zmet_ok (pcs := p_J1_canEncode_9a6ad) (by decide) rfl rfl (tt_J1_canEncode_9a6ad d)
def n_J1_indexOfChar_4cfef : qMn := (yJ1_indexOfChar_4cfef, cJ1_indexOfChar_4cfef, 6, (some Jvm.ClassFile.FieldType.int), 0, 0)
theorem to_J1_indexOfChar_4cfef : qTo n_J1_indexOfChar_4cfef 4 := ⟨g582, g102, ⟨by decide, by decide, by decide +kernel⟩, by decide⟩
def p_J1_indexOfChar_4cfef : List Nat := [0, 7, 13, 22, 25, 31]
noncomputable def b_J1_indexOfChar_4cfef_0 : zBl := fun jp K => oIld 1 <| oU zi2b <| oIst 4 <| oIld 2 <| oIst 5 <| jp 1
theorem s_J1_indexOfChar_4cfef_0 (d : Nat) : zPb l G gh (d + 1) n_J1_indexOfChar_4cfef p_J1_indexOfChar_4cfef 0 b_J1_indexOfChar_4cfef_0 := fun K jp hj =>
    z_iload_n (n := 1) (i := 1) (zd (i := .iload_n 1) (n := 1) (by decide +kernel)) rfl <|
    z_i2b (zd (i := .i2b) (n := 1) (by decide +kernel)) <|
    z_istore (i := 4) (zd (i := .istore 4) (n := 2) (by decide +kernel)) (by decide +kernel) <|
    z_iload_n (n := 2) (i := 2) (zd (i := .iload_n 2) (n := 1) (by decide +kernel)) rfl <|
    z_istore (i := 5) (zd (i := .istore 5) (n := 2) (by decide +kernel)) (by decide +kernel) <|
    (zj (hj 1) (by decide +kernel))
noncomputable def b_J1_indexOfChar_4cfef_1 : zBl := fun jp K => oNLL 5 3 zgeN zltN zn1_ge zn2_ge zn1_lt zn2_lt (jp 5) (jp 2)
theorem s_J1_indexOfChar_4cfef_1 (d : Nat) : zPb l G gh (d + 1) n_J1_indexOfChar_4cfef p_J1_indexOfChar_4cfef 7 b_J1_indexOfChar_4cfef_1 := fun K jp hj =>
    z_nLL_ge (i := 5) (j := 3) (a1 := 2) (a2 := 1) (off := 21) (tgt := 31) (zLd_w (i := 5) (zd (i := .iload 5) (n := 2) (by decide +kernel))) (zLd_n (n := 3) (i := 3) (zd (i := .iload_n 3) (n := 1) (by decide +kernel)) rfl) (zd (i := .if_icmp .ge (21)) (n := 3) (by decide +kernel)) (by decide +kernel) (zj (hj 5) (by decide +kernel)) (zj (hj 2) (by decide +kernel))
noncomputable def b_J1_indexOfChar_4cfef_2 : zBl := fun jp K => oAld 0 <| oIld 5 <| oSbal <| oIld 4 <| oIc zne zeq (jp 4) (jp 3)
theorem s_J1_indexOfChar_4cfef_2 (d : Nat) : zPb l G gh (d + 1) n_J1_indexOfChar_4cfef p_J1_indexOfChar_4cfef 13 b_J1_indexOfChar_4cfef_2 := fun K jp hj =>
    z_aload_n (n := 0) (i := 0) (zd (i := .aload_n 0) (n := 1) (by decide +kernel)) rfl <|
    z_iload (i := 5) (zd (i := .iload 5) (n := 2) (by decide +kernel)) <|
    z_sBal (zd (i := .baload) (n := 1) (by decide +kernel)) <|
    z_iload (i := 4) (zd (i := .iload 4) (n := 2) (by decide +kernel)) <|
    z_icmp_ne (off := 6) (tgt := 25) (zd (i := .if_icmp .ne (6)) (n := 3) (by decide +kernel)) (by decide +kernel) (zj (hj 4) (by decide +kernel)) (zj (hj 3) (by decide +kernel))
noncomputable def b_J1_indexOfChar_4cfef_3 : zBl := fun jp K => oIld 5 <| oIret K
theorem s_J1_indexOfChar_4cfef_3 (d : Nat) : zPb l G gh (d + 1) n_J1_indexOfChar_4cfef p_J1_indexOfChar_4cfef 22 b_J1_indexOfChar_4cfef_3 := fun K jp hj =>
    z_iload (i := 5) (zd (i := .iload 5) (n := 2) (by decide +kernel)) <|
    z_iret (zd (i := .ireturn) (n := 1) (by decide +kernel)) rfl
noncomputable def b_J1_indexOfChar_4cfef_4 : zBl := fun jp K => oInc 5 2147483649 <| jp 1
theorem s_J1_indexOfChar_4cfef_4 (d : Nat) : zPb l G gh (d + 1) n_J1_indexOfChar_4cfef p_J1_indexOfChar_4cfef 25 b_J1_indexOfChar_4cfef_4 := fun K jp hj =>
    z_iinc (i := 5) (n := 1) (zd (i := .iinc 5 (1)) (n := 3) (by decide +kernel)) (by decide +kernel) (by decide +kernel) <|
    z_goto (off := -21) (tgt := 7) (zd (i := .goto (-21)) (n := 3) (by decide +kernel)) (by decide +kernel) (zj (hj 1) (by decide +kernel))
noncomputable def b_J1_indexOfChar_4cfef_5 : zBl := fun jp K => oInt 2147483647 <| oIret K
theorem s_J1_indexOfChar_4cfef_5 (d : Nat) : zPb l G gh (d + 1) n_J1_indexOfChar_4cfef p_J1_indexOfChar_4cfef 31 b_J1_indexOfChar_4cfef_5 := fun K jp hj =>
    z_iconst (n := -1) (zd (i := .iconst (-1)) (n := 1) (by decide +kernel)) (by decide +kernel) <|
    z_iret (zd (i := .ireturn) (n := 1) (by decide +kernel)) rfl
noncomputable def t_J1_indexOfChar_4cfef : List zBl := [b_J1_indexOfChar_4cfef_0, b_J1_indexOfChar_4cfef_1, b_J1_indexOfChar_4cfef_2, b_J1_indexOfChar_4cfef_3, b_J1_indexOfChar_4cfef_4, b_J1_indexOfChar_4cfef_5]
theorem tt_J1_indexOfChar_4cfef (d : Nat) : zT (zPb l G gh (d + 1) n_J1_indexOfChar_4cfef p_J1_indexOfChar_4cfef) t_J1_indexOfChar_4cfef p_J1_indexOfChar_4cfef := ⟨s_J1_indexOfChar_4cfef_0 d, s_J1_indexOfChar_4cfef_1 d, s_J1_indexOfChar_4cfef_2 d, s_J1_indexOfChar_4cfef_3 d, s_J1_indexOfChar_4cfef_4 d, s_J1_indexOfChar_4cfef_5 d, trivial⟩
noncomputable def f_J1_indexOfChar_4cfef : zMt := zmet 6 t_J1_indexOfChar_4cfef
theorem c_J1_indexOfChar_4cfef (d : Nat) : zC l G gh (d + 1) n_J1_indexOfChar_4cfef f_J1_indexOfChar_4cfef := zmet_ok (pcs := p_J1_indexOfChar_4cfef) (by decide) rfl rfl (tt_J1_indexOfChar_4cfef d)
def n_X1_fail : qMn := (yX1_fail, cX1_fail, 2, none, 0, 0)
theorem to_X1_fail : qTo n_X1_fail 1 := ⟨g625, g99, ⟨by decide, by decide, by decide +kernel⟩, by decide⟩
def p_X1_fail : List Nat := [0, 7, 28]
noncomputable def b_X1_fail_0 : zBl := fun jp K => oNFC 0 1 4 2147483648 zneN zeqN zn1_ne zn1_eq (jp 2) (jp 1)
theorem s_X1_fail_0 (d : Nat) : zPb l G gh (d + 1) n_X1_fail p_X1_fail 0 b_X1_fail_0 := fun K jp hj =>
    z_nF0_ne (r := 0) (ci := 1) (j := 4) (a1 := 4) (off := 24) (tgt := 28) (zFd_n (n := 0) (r := 0) (ci := 1) (j := 4) (idx := 32) (zd (i := .aload_n 0) (n := 1) (by decide +kernel)) rfl (zd (i := .getfield 32) (n := 3) (by decide +kernel)) (by decide +kernel) (by decide +kernel) rfl g339) (by decide +kernel) rfl (zd (i := .ifCond .ne (24)) (n := 3) (by decide +kernel)) (by decide +kernel) (zj (hj 2) (by decide +kernel)) (zj (hj 1) (by decide +kernel))
noncomputable def b_X1_fail_1 : zBl := fun jp K => oAld 0 <| oIld 1 <| oPutI 1 4 <| oAld 0 <| oAld 0 <| oGetR 1 0 <| oGetR 6 2 <| oAld 0 <| oGetI 1 2 <| oXald 10 <| oPutI 1 5 <| jp 2
theorem s_X1_fail_1 (d : Nat) : zPb l G gh (d + 1) n_X1_fail p_X1_fail 7 b_X1_fail_1 := fun K jp hj =>
    z_aload_n (n := 0) (i := 0) (zd (i := .aload_n 0) (n := 1) (by decide +kernel)) rfl <|
    z_iload_n (n := 1) (i := 1) (zd (i := .iload_n 1) (n := 1) (by decide +kernel)) rfl <|
    z_putI (ci := 1) (j := 4) (idx := 32) (zd (i := .putfield 32) (n := 3) (by decide +kernel)) (by decide +kernel) (by decide +kernel) rfl g339 (Or.inl rfl) <|
    z_aload_n (n := 0) (i := 0) (zd (i := .aload_n 0) (n := 1) (by decide +kernel)) rfl <|
    z_aload_n (n := 0) (i := 0) (zd (i := .aload_n 0) (n := 1) (by decide +kernel)) rfl <|
    z_getR (ci := 1) (j := 0) (idx := 12) (zd (i := .getfield 12) (n := 3) (by decide +kernel)) (by decide +kernel) (by decide +kernel) rfl g335 <|
    z_getR (ci := 6) (j := 2) (idx := 58) (zd (i := .getfield 58) (n := 3) (by decide +kernel)) (by decide +kernel) (by decide +kernel) rfl g208 <|
    z_aload_n (n := 0) (i := 0) (zd (i := .aload_n 0) (n := 1) (by decide +kernel)) rfl <|
    z_getI (ci := 1) (j := 2) (idx := 25) (zd (i := .getfield 25) (n := 3) (by decide +kernel)) (by decide +kernel) (by decide +kernel) rfl g337 <|
    z_iald (zd (i := .iaload) (n := 1) (by decide +kernel)) <|
    z_putI (ci := 1) (j := 5) (idx := 35) (zd (i := .putfield 35) (n := 3) (by decide +kernel)) (by decide +kernel) (by decide +kernel) rfl g340 (Or.inl rfl) <|
    (zj (hj 2) (by decide +kernel))
noncomputable def b_X1_fail_2 : zBl := fun jp K => oVret K
theorem s_X1_fail_2 (d : Nat) : zPb l G gh (d + 1) n_X1_fail p_X1_fail 28 b_X1_fail_2 := fun K jp hj =>
    z_vret (zd (i := .return_) (n := 1) (by decide +kernel)) rfl
noncomputable def t_X1_fail : List zBl := [b_X1_fail_0, b_X1_fail_1, b_X1_fail_2]
theorem tt_X1_fail (d : Nat) : zT (zPb l G gh (d + 1) n_X1_fail p_X1_fail) t_X1_fail p_X1_fail := ⟨s_X1_fail_0 d, s_X1_fail_1 d, s_X1_fail_2 d, trivial⟩
noncomputable def f_X1_fail : zMt := zmet 2 t_X1_fail
theorem c_X1_fail (d : Nat) : zC l G gh (d + 1) n_X1_fail f_X1_fail := zmet_ok (pcs := p_X1_fail) (by decide) rfl rfl (tt_X1_fail d)
def n_X1_take : qMn := (yX1_take, cX1_take, 2, none, 0, 0)
theorem to_X1_take : qTo n_X1_take 1 := ⟨g629, g99, ⟨by decide, by decide, by decide +kernel⟩, by decide⟩
def p_X1_take : List Nat := [0, 7, 8, 12, 22, 27, 31, 32, 54, 80]
noncomputable def b_X1_take_0 : zBl := fun jp K => oNFC 0 1 4 2147483648 zeqN zneN zn1_eq zn1_ne (jp 2) (jp 1)
theorem s_X1_take_0 (d : Nat) : zPb l G gh (d + 1) n_X1_take p_X1_take 0 b_X1_take_0 := fun K jp hj =>
    z_nF0_eq (r := 0) (ci := 1) (j := 4) (a1 := 4) (off := 4) (tgt := 8) (zFd_n (n := 0) (r := 0) (ci := 1) (j := 4) (idx := 32) (zd (i := .aload_n 0) (n := 1) (by decide +kernel)) rfl (zd (i := .getfield 32) (n := 3) (by decide +kernel)) (by decide +kernel) (by decide +kernel) rfl g339) (by decide +kernel) rfl (zd (i := .ifCond .eq (4)) (n := 3) (by decide +kernel)) (by decide +kernel) (zj (hj 2) (by decide +kernel)) (zj (hj 1) (by decide +kernel))
noncomputable def b_X1_take_1 : zBl := fun jp K => oVret K
theorem s_X1_take_1 (d : Nat) : zPb l G gh (d + 1) n_X1_take p_X1_take 7 b_X1_take_1 := fun K jp hj =>
    z_vret (zd (i := .return_) (n := 1) (by decide +kernel)) rfl
noncomputable def b_X1_take_2 : zBl := fun jp K => oNLC 1 2147483648 zeqN zneN zn1_eq zn1_ne (jp 4) (jp 3)
theorem s_X1_take_2 (d : Nat) : zPb l G gh (d + 1) n_X1_take p_X1_take 8 b_X1_take_2 := fun K jp hj =>
    z_nL0_eq (i := 1) (a1 := 1) (off := 13) (tgt := 22) (zLd_n (n := 1) (i := 1) (zd (i := .iload_n 1) (n := 1) (by decide +kernel)) rfl) (zd (i := .ifCond .eq (13)) (n := 3) (by decide +kernel)) (by decide +kernel) (zj (hj 4) (by decide +kernel)) (zj (hj 3) (by decide +kernel))
noncomputable def b_X1_take_3 : zBl := fun jp K => oNFC 0 1 2 2147484048 zltN zgeN zn1_lt zn1_ge (jp 8) (jp 4)
theorem s_X1_take_3 (d : Nat) : zPb l G gh (d + 1) n_X1_take p_X1_take 12 b_X1_take_3 := fun K jp hj =>
    z_nFC_lt (r := 0) (ci := 1) (j := 2) (c0 := 2147484048) (a1 := 4) (a2 := 3) (off := 35) (tgt := 54) (zFd_n (n := 0) (r := 0) (ci := 1) (j := 2) (idx := 25) (zd (i := .aload_n 0) (n := 1) (by decide +kernel)) rfl (zd (i := .getfield 25) (n := 3) (by decide +kernel)) (by decide +kernel) (by decide +kernel) rfl g337) (by decide +kernel) rfl (zCn_s (n := 400) (zd (i := .sipush (400)) (n := 3) (by decide +kernel)) (by decide +kernel)) (zd (i := .if_icmp .lt (35)) (n := 3) (by decide +kernel)) (by decide +kernel) (zj (hj 8) (by decide +kernel)) (zj (hj 4) (by decide +kernel))
noncomputable def b_X1_take_4 : zBl := fun jp K => oAld 0 <| oNLC 1 2147483648 zeqN zneN zn1_eq zn1_ne (jp 6) (jp 5)
theorem s_X1_take_4 (d : Nat) : zPb l G gh (d + 1) n_X1_take p_X1_take 22 b_X1_take_4 := fun K jp hj =>
    z_aload_n (n := 0) (i := 0) (zd (i := .aload_n 0) (n := 1) (by decide +kernel)) rfl <|
    z_nL0_eq (i := 1) (a1 := 1) (off := 7) (tgt := 31) (zLd_n (n := 1) (i := 1) (zd (i := .iload_n 1) (n := 1) (by decide +kernel)) rfl) (zd (i := .ifCond .eq (7)) (n := 3) (by decide +kernel)) (by decide +kernel) (zj (hj 6) (by decide +kernel)) (zj (hj 5) (by decide +kernel))
noncomputable def b_X1_take_5 : zBl := fun jp K => oInt 2147483650 <| jp 7
theorem s_X1_take_5 (d : Nat) : zPb l G gh (d + 1) n_X1_take p_X1_take 27 b_X1_take_5 := fun K jp hj =>
    z_iconst (n := 2) (zd (i := .iconst (2)) (n := 1) (by decide +kernel)) (by decide +kernel) <|
    z_goto (off := 4) (tgt := 32) (zd (i := .goto (4)) (n := 3) (by decide +kernel)) (by decide +kernel) (zj (hj 7) (by decide +kernel))
noncomputable def b_X1_take_6 : zBl := fun jp K => oInt 2147483649 <| jp 7
theorem s_X1_take_6 (d : Nat) : zPb l G gh (d + 1) n_X1_take p_X1_take 31 b_X1_take_6 := fun K jp hj =>
    z_iconst (n := 1) (zd (i := .iconst (1)) (n := 1) (by decide +kernel)) (by decide +kernel) <|
    (zj (hj 7) (by decide +kernel))
noncomputable def b_X1_take_7 : zBl := fun jp K => oPutI 1 4 <| oAld 0 <| oAld 0 <| oGetR 1 0 <| oGetR 6 2 <| oAld 0 <| oGetI 1 2 <| oXald 10 <| oPutI 1 5 <| jp 9
theorem s_X1_take_7 (d : Nat) : zPb l G gh (d + 1) n_X1_take p_X1_take 32 b_X1_take_7 := fun K jp hj =>
    z_putI (ci := 1) (j := 4) (idx := 32) (zd (i := .putfield 32) (n := 3) (by decide +kernel)) (by decide +kernel) (by decide +kernel) rfl g339 (Or.inl rfl) <|
    z_aload_n (n := 0) (i := 0) (zd (i := .aload_n 0) (n := 1) (by decide +kernel)) rfl <|
    z_aload_n (n := 0) (i := 0) (zd (i := .aload_n 0) (n := 1) (by decide +kernel)) rfl <|
    z_getR (ci := 1) (j := 0) (idx := 12) (zd (i := .getfield 12) (n := 3) (by decide +kernel)) (by decide +kernel) (by decide +kernel) rfl g335 <|
    z_getR (ci := 6) (j := 2) (idx := 58) (zd (i := .getfield 58) (n := 3) (by decide +kernel)) (by decide +kernel) (by decide +kernel) rfl g208 <|
    z_aload_n (n := 0) (i := 0) (zd (i := .aload_n 0) (n := 1) (by decide +kernel)) rfl <|
    z_getI (ci := 1) (j := 2) (idx := 25) (zd (i := .getfield 25) (n := 3) (by decide +kernel)) (by decide +kernel) (by decide +kernel) rfl g337 <|
    z_iald (zd (i := .iaload) (n := 1) (by decide +kernel)) <|
    z_putI (ci := 1) (j := 5) (idx := 35) (zd (i := .putfield 35) (n := 3) (by decide +kernel)) (by decide +kernel) (by decide +kernel) rfl g340 (Or.inl rfl) <|
    z_goto (off := 29) (tgt := 80) (zd (i := .goto (29)) (n := 3) (by decide +kernel)) (by decide +kernel) (zj (hj 9) (by decide +kernel))
noncomputable def b_X1_take_8 : zBl := fun jp K => oAld 0 <| oDup <| oGetI 1 2 <| oInt 2147483649 <| oB2 zadd <| oPutI 1 2 <| oAld 0 <| oAld 0 <| oGetR 1 0 <| oGetR 6 1 <| oAld 0 <| oGetI 1 2 <| oXald 10 <| oPutI 1 3 <| jp 9
theorem s_X1_take_8 (d : Nat) : zPb l G gh (d + 1) n_X1_take p_X1_take 54 b_X1_take_8 := fun K jp hj =>
    z_aload_n (n := 0) (i := 0) (zd (i := .aload_n 0) (n := 1) (by decide +kernel)) rfl <|
    z_dup (zd (i := .dup) (n := 1) (by decide +kernel)) <|
    z_getI (ci := 1) (j := 2) (idx := 25) (zd (i := .getfield 25) (n := 3) (by decide +kernel)) (by decide +kernel) (by decide +kernel) rfl g337 <|
    z_iconst (n := 1) (zd (i := .iconst (1)) (n := 1) (by decide +kernel)) (by decide +kernel) <|
    z_iadd (zd (i := .iadd) (n := 1) (by decide +kernel)) <|
    z_putI (ci := 1) (j := 2) (idx := 25) (zd (i := .putfield 25) (n := 3) (by decide +kernel)) (by decide +kernel) (by decide +kernel) rfl g337 (Or.inl rfl) <|
    z_aload_n (n := 0) (i := 0) (zd (i := .aload_n 0) (n := 1) (by decide +kernel)) rfl <|
    z_aload_n (n := 0) (i := 0) (zd (i := .aload_n 0) (n := 1) (by decide +kernel)) rfl <|
    z_getR (ci := 1) (j := 0) (idx := 12) (zd (i := .getfield 12) (n := 3) (by decide +kernel)) (by decide +kernel) (by decide +kernel) rfl g335 <|
    z_getR (ci := 6) (j := 1) (idx := 51) (zd (i := .getfield 51) (n := 3) (by decide +kernel)) (by decide +kernel) (by decide +kernel) rfl g206 <|
    z_aload_n (n := 0) (i := 0) (zd (i := .aload_n 0) (n := 1) (by decide +kernel)) rfl <|
    z_getI (ci := 1) (j := 2) (idx := 25) (zd (i := .getfield 25) (n := 3) (by decide +kernel)) (by decide +kernel) (by decide +kernel) rfl g337 <|
    z_iald (zd (i := .iaload) (n := 1) (by decide +kernel)) <|
    z_putI (ci := 1) (j := 3) (idx := 29) (zd (i := .putfield 29) (n := 3) (by decide +kernel)) (by decide +kernel) (by decide +kernel) rfl g338 (Or.inl rfl) <|
    (zj (hj 9) (by decide +kernel))
noncomputable def b_X1_take_9 : zBl := fun jp K => oVret K
theorem s_X1_take_9 (d : Nat) : zPb l G gh (d + 1) n_X1_take p_X1_take 80 b_X1_take_9 := fun K jp hj =>
    z_vret (zd (i := .return_) (n := 1) (by decide +kernel)) rfl
noncomputable def t_X1_take : List zBl := [b_X1_take_0, b_X1_take_1, b_X1_take_2, b_X1_take_3, b_X1_take_4, b_X1_take_5, b_X1_take_6, b_X1_take_7, b_X1_take_8, b_X1_take_9]
theorem tt_X1_take (d : Nat) : zT (zPb l G gh (d + 1) n_X1_take p_X1_take) t_X1_take p_X1_take := ⟨s_X1_take_0 d, s_X1_take_1 d, s_X1_take_2 d, s_X1_take_3 d, s_X1_take_4 d, s_X1_take_5 d, s_X1_take_6 d, s_X1_take_7 d, s_X1_take_8 d, s_X1_take_9 d, trivial⟩
def q_X1_take_0 : List (Nat × Nat) := [(3, zk1), (4, zk0), (6, zk2), (7, zk2)]
noncomputable def al_X1_take_0 : zAq := [(none, [(3, zk3), (4, zk0), (6, zk2), (7, zk2)])]
noncomputable def fm_X1_take_0 : List zFm := [(0, [], (fun vs => [.inr (.ref 3), .inl 9223372043297226753]), (fun vs => zP q_X1_take_0), (fun vs => Nat.sub (Nat.add 0 0) 0))]
def bf_X1_take_0 : List Nat := []
theorem r_X1_take_0_0 : zbox [] (fun vs => zFrun (zpost (zAlq al_X1_take_0)) 1000 t_X1_take fm_X1_take_0 bf_X1_take_0 (0, vs)) = true := by decide +kernel
set_option maxRecDepth 100000 in
theorem x_X1_take_0 (d : Nat) : zS l G gh (d + 1) (zpost (zAlq al_X1_take_0)) n_X1_take (zn 0 p_X1_take 0) (zwc (0, [.inr (.ref 3), .inl 9223372043297226753], zP q_X1_take_0) 0) := zentry (tt_X1_take d) fm_X1_take_0 bf_X1_take_0 1000 (by decide +kernel) rfl ⟨Nat.zero_lt_succ _, trivial⟩ (fun f hf => match f, hf with
  | 0, _ => fun vs hv => (zbox_t r_X1_take_0_0) vs hv
  | f + 1, h => absurd (show f + 1 < 1 from h) (Nat.not_lt.mpr (Nat.le_add_left 1 f)))
noncomputable def gs_X1_take_0 : zMt := zgq false [] 2 [.inr (.ref 3), .inl 9223372043297226753] q_X1_take_0 al_X1_take_0
set_option maxRecDepth 100000 in
theorem cs_X1_take_0 (d : Nat) : zC l G gh (d + 1) n_X1_take gs_X1_take_0 := zgq_ok0 (pcs := p_X1_take) (by decide) rfl rfl (fun a ha => by simp only [al_X1_take_0, List.mem_cons, List.not_mem_nil, or_false] at ha; rcases ha with rfl <;> decide +kernel) (fun gh => x_X1_take_0 d) (by decide +kernel)
def q_X1_take_1 : List (Nat × Nat) := [(3, zk4), (4, zk0), (6, zk2), (7, zk2)]
noncomputable def al_X1_take_1 : zAq := [(none, [(3, zk5), (4, zk0), (6, zk2), (7, zk2)])]
noncomputable def fm_X1_take_1 : List zFm := [(0, [], (fun vs => [.inr (.ref 3), .inl 9223372043297226753]), (fun vs => zP q_X1_take_1), (fun vs => Nat.sub (Nat.add 0 0) 0))]
def bf_X1_take_1 : List Nat := []
theorem r_X1_take_1_0 : zbox [] (fun vs => zFrun (zpost (zAlq al_X1_take_1)) 1000 t_X1_take fm_X1_take_1 bf_X1_take_1 (0, vs)) = true := by decide +kernel
set_option maxRecDepth 100000 in
theorem x_X1_take_1 (d : Nat) : zS l G gh (d + 1) (zpost (zAlq al_X1_take_1)) n_X1_take (zn 0 p_X1_take 0) (zwc (0, [.inr (.ref 3), .inl 9223372043297226753], zP q_X1_take_1) 0) := zentry (tt_X1_take d) fm_X1_take_1 bf_X1_take_1 1000 (by decide +kernel) rfl ⟨Nat.zero_lt_succ _, trivial⟩ (fun f hf => match f, hf with
  | 0, _ => fun vs hv => (zbox_t r_X1_take_1_0) vs hv
  | f + 1, h => absurd (show f + 1 < 1 from h) (Nat.not_lt.mpr (Nat.le_add_left 1 f)))
noncomputable def gs_X1_take_1 : zMt := zgq false [] 2 [.inr (.ref 3), .inl 9223372043297226753] q_X1_take_1 al_X1_take_1
set_option maxRecDepth 100000 in
theorem cs_X1_take_1 (d : Nat) : zC l G gh (d + 1) n_X1_take gs_X1_take_1 := zgq_ok0 (pcs := p_X1_take) (by decide) rfl rfl (fun a ha => by simp only [al_X1_take_1, List.mem_cons, List.not_mem_nil, or_false] at ha; rcases ha with rfl <;> decide +kernel) (fun gh => x_X1_take_1 d) (by decide +kernel)
noncomputable def gs_X1_take : zMt := (zor gs_X1_take_0 gs_X1_take_1)
theorem cs_X1_take (d : Nat) : zC l G gh (d + 1) n_X1_take gs_X1_take := (zor_ok (cs_X1_take_0 d) (cs_X1_take_1 d))
def n_X0_addName : qMn := (yX0_addName, cX0_addName, 4, (some Jvm.ClassFile.FieldType.boolean), 0, 0)
theorem to_X0_addName : qTo n_X0_addName 1 := ⟨g637, g105, ⟨by decide, by decide, by decide +kernel⟩, by decide⟩
def p_X0_addName : List Nat := [0, 2, 10, 21, 23, 29, 41, 61]
noncomputable def b_X0_addName_0 : zBl := fun jp K => oInt 2147483648 <| oIst 3 <| jp 1
theorem s_X0_addName_0 (d : Nat) : zPb l G gh (d + 1) n_X0_addName p_X0_addName 0 b_X0_addName_0 := fun K jp hj =>
    z_iconst (n := 0) (zd (i := .iconst (0)) (n := 1) (by decide +kernel)) (by decide +kernel) <|
    z_istore_n (n := 3) (i := 3) (zd (i := .istore_n 3) (n := 1) (by decide +kernel)) rfl (by decide +kernel) <|
    (zj (hj 1) (by decide +kernel))
noncomputable def b_X0_addName_1 : zBl := fun jp K => oNLF 3 0 0 1 zgeN zltN zn1_ge zn1_lt (jp 5) (jp 2)
theorem s_X0_addName_1 (d : Nat) : zPb l G gh (d + 1) n_X0_addName p_X0_addName 2 b_X0_addName_1 := fun K jp hj =>
    z_nLF_ge (i := 3) (r := 0) (ci := 0) (j := 1) (a1 := 1) (a2 := 4) (off := 22) (tgt := 29) (zLd_n (n := 3) (i := 3) (zd (i := .iload_n 3) (n := 1) (by decide +kernel)) rfl) (zFd_n (n := 0) (r := 0) (ci := 0) (j := 1) (idx := 15) (zd (i := .aload_n 0) (n := 1) (by decide +kernel)) rfl (zd (i := .getfield 15) (n := 3) (by decide +kernel)) (by decide +kernel) (by decide +kernel) rfl g277) (by decide +kernel) rfl (zd (i := .if_icmp .ge (22)) (n := 3) (by decide +kernel)) (by decide +kernel) (zj (hj 5) (by decide +kernel)) (zj (hj 2) (by decide +kernel))
noncomputable def b_X0_addName_2 : zBl := fun jp K => oAld 0 <| oGetR 0 0 <| oIld 3 <| oLald <| oLld 1 <| oLcmp <| oIf zne zeq (jp 4) (jp 3)
theorem s_X0_addName_2 (d : Nat) : zPb l G gh (d + 1) n_X0_addName p_X0_addName 10 b_X0_addName_2 := fun K jp hj =>
    z_aload_n (n := 0) (i := 0) (zd (i := .aload_n 0) (n := 1) (by decide +kernel)) rfl <|
    z_getR (ci := 0) (j := 0) (idx := 9) (zd (i := .getfield 9) (n := 3) (by decide +kernel)) (by decide +kernel) (by decide +kernel) rfl g276 <|
    z_iload_n (n := 3) (i := 3) (zd (i := .iload_n 3) (n := 1) (by decide +kernel)) rfl <|
    z_lald (zd (i := .laload) (n := 1) (by decide +kernel)) <|
    z_lload_n (n := 1) (i := 1) (zd (i := .lload_n 1) (n := 1) (by decide +kernel)) rfl <|
    z_lcmp (zd (i := .lcmp) (n := 1) (by decide +kernel)) <|
    z_if_ne (off := 5) (tgt := 23) (zd (i := .ifCond .ne (5)) (n := 3) (by decide +kernel)) (by decide +kernel) (zj (hj 4) (by decide +kernel)) (zj (hj 3) (by decide +kernel))
noncomputable def b_X0_addName_3 : zBl := fun jp K => oInt 2147483648 <| oZret K
theorem s_X0_addName_3 (d : Nat) : zPb l G gh (d + 1) n_X0_addName p_X0_addName 21 b_X0_addName_3 := fun K jp hj =>
    z_iconst (n := 0) (zd (i := .iconst (0)) (n := 1) (by decide +kernel)) (by decide +kernel) <|
    z_zret (zd (i := .ireturn) (n := 1) (by decide +kernel)) rfl
noncomputable def b_X0_addName_4 : zBl := fun jp K => oInc 3 2147483649 <| jp 1
theorem s_X0_addName_4 (d : Nat) : zPb l G gh (d + 1) n_X0_addName p_X0_addName 23 b_X0_addName_4 := fun K jp hj =>
    z_iinc (i := 3) (n := 1) (zd (i := .iinc 3 (1)) (n := 3) (by decide +kernel)) (by decide +kernel) (by decide +kernel) <|
    z_goto (off := -24) (tgt := 2) (zd (i := .goto (-24)) (n := 3) (by decide +kernel)) (by decide +kernel) (zj (hj 1) (by decide +kernel))
noncomputable def b_X0_addName_5 : zBl := fun jp K => oNFA 0 0 1 0 0 0 zgeN zltN zn1_ge zn1_lt (jp 7) (jp 6)
theorem s_X0_addName_5 (d : Nat) : zPb l G gh (d + 1) n_X0_addName p_X0_addName 29 b_X0_addName_5 := fun K jp hj =>
    z_nFA_ge (r := 0) (ci := 0) (j := 1) (a1 := 4) (r2 := 0) (ci2 := 0) (j2 := 0) (idx2 := 9) (n2 := 0) (off := 23) (tgt := 61) (zFd_n (n := 0) (r := 0) (ci := 0) (j := 1) (idx := 15) (zd (i := .aload_n 0) (n := 1) (by decide +kernel)) rfl (zd (i := .getfield 15) (n := 3) (by decide +kernel)) (by decide +kernel) (by decide +kernel) rfl g277) (by decide +kernel) rfl (zd (i := .aload_n 0) (n := 1) (by decide +kernel)) rfl (zd (i := .getfield 9) (n := 3) (by decide +kernel)) (by decide +kernel) (by decide +kernel) rfl g276 (zd (i := .arraylength) (n := 1) (by decide +kernel)) (zd (i := .if_icmp .ge (23)) (n := 3) (by decide +kernel)) (by decide +kernel) (zj (hj 7) (by decide +kernel)) (zj (hj 6) (by decide +kernel))
noncomputable def b_X0_addName_6 : zBl := fun jp K => oAld 0 <| oGetR 0 0 <| oAld 0 <| oGetI 0 1 <| oLld 1 <| oLast <| oAld 0 <| oDup <| oGetI 0 1 <| oInt 2147483649 <| oB2 zadd <| oPutI 0 1 <| jp 7
theorem s_X0_addName_6 (d : Nat) : zPb l G gh (d + 1) n_X0_addName p_X0_addName 41 b_X0_addName_6 := fun K jp hj =>
    z_aload_n (n := 0) (i := 0) (zd (i := .aload_n 0) (n := 1) (by decide +kernel)) rfl <|
    z_getR (ci := 0) (j := 0) (idx := 9) (zd (i := .getfield 9) (n := 3) (by decide +kernel)) (by decide +kernel) (by decide +kernel) rfl g276 <|
    z_aload_n (n := 0) (i := 0) (zd (i := .aload_n 0) (n := 1) (by decide +kernel)) rfl <|
    z_getI (ci := 0) (j := 1) (idx := 15) (zd (i := .getfield 15) (n := 3) (by decide +kernel)) (by decide +kernel) (by decide +kernel) rfl g277 <|
    z_lload_n (n := 1) (i := 1) (zd (i := .lload_n 1) (n := 1) (by decide +kernel)) rfl <|
    z_last (zd (i := .lastore) (n := 1) (by decide +kernel)) <|
    z_aload_n (n := 0) (i := 0) (zd (i := .aload_n 0) (n := 1) (by decide +kernel)) rfl <|
    z_dup (zd (i := .dup) (n := 1) (by decide +kernel)) <|
    z_getI (ci := 0) (j := 1) (idx := 15) (zd (i := .getfield 15) (n := 3) (by decide +kernel)) (by decide +kernel) (by decide +kernel) rfl g277 <|
    z_iconst (n := 1) (zd (i := .iconst (1)) (n := 1) (by decide +kernel)) (by decide +kernel) <|
    z_iadd (zd (i := .iadd) (n := 1) (by decide +kernel)) <|
    z_putI (ci := 0) (j := 1) (idx := 15) (zd (i := .putfield 15) (n := 3) (by decide +kernel)) (by decide +kernel) (by decide +kernel) rfl g277 (Or.inl rfl) <|
    (zj (hj 7) (by decide +kernel))
noncomputable def b_X0_addName_7 : zBl := fun jp K => oInt 2147483649 <| oZret K
theorem s_X0_addName_7 (d : Nat) : zPb l G gh (d + 1) n_X0_addName p_X0_addName 61 b_X0_addName_7 := fun K jp hj =>
    z_iconst (n := 1) (zd (i := .iconst (1)) (n := 1) (by decide +kernel)) (by decide +kernel) <|
    z_zret (zd (i := .ireturn) (n := 1) (by decide +kernel)) rfl
noncomputable def t_X0_addName : List zBl := [b_X0_addName_0, b_X0_addName_1, b_X0_addName_2, b_X0_addName_3, b_X0_addName_4, b_X0_addName_5, b_X0_addName_6, b_X0_addName_7]
theorem tt_X0_addName (d : Nat) : zT (zPb l G gh (d + 1) n_X0_addName p_X0_addName) t_X0_addName p_X0_addName := ⟨s_X0_addName_0 d, s_X0_addName_1 d, s_X0_addName_2 d, s_X0_addName_3 d, s_X0_addName_4 d, s_X0_addName_5 d, s_X0_addName_6 d, s_X0_addName_7 d, trivial⟩
def q_X0_addName_0 : List (Nat × Nat) := [(9, zk6), (10, 131475)]
noncomputable def al_X0_addName_0 : zAq := [(some (.inl 9223372043297226753), [(9, zk7), (10, 403)])]
noncomputable def fm_X0_addName_0 : List zFm := [(0, [], (fun vs => [.inr (.ref 9), .inr (.double 0)]), (fun vs => zP q_X0_addName_0), (fun vs => Nat.sub (Nat.add 13 0) 0)),
  (1, [(3, 2147483648, 2147483660)], (fun vs => [.inr (.ref 9), .inr (.double 0), zdum, .inl (zn 0 vs 0)]), (fun vs => zP q_X0_addName_0), (fun vs => Nat.sub (Nat.add 2147483660 0) (Nat.add 0 (Nat.mul 1 (zn 0 vs 0)))))]
def bf_X0_addName_0 : List Nat := [0, 2]
theorem r_X0_addName_0_0 : zbox [] (fun vs => zFrun (zpost (zAlq al_X0_addName_0)) 1000 t_X0_addName fm_X0_addName_0 bf_X0_addName_0 (0, vs)) = true := by decide +kernel
theorem r_X0_addName_0_1 : zbox [(3, 2147483648, 2147483660)] (fun vs => zFrun (zpost (zAlq al_X0_addName_0)) 1000 t_X0_addName fm_X0_addName_0 bf_X0_addName_0 (1, vs)) = true := by decide +kernel
set_option maxRecDepth 100000 in
theorem x_X0_addName_0 (d : Nat) : zS l G gh (d + 1) (zpost (zAlq al_X0_addName_0)) n_X0_addName (zn 0 p_X0_addName 0) (zwc (0, [.inr (.ref 9), .inr (.double 0)], zP q_X0_addName_0) 0) := zentry (tt_X0_addName d) fm_X0_addName_0 bf_X0_addName_0 1000 (by decide +kernel) rfl ⟨Nat.zero_lt_succ _, trivial⟩ (fun f hf => match f, hf with
  | 0, _ => fun vs hv => (zbox_t r_X0_addName_0_0) vs hv
  | 1, _ => fun vs hv => (zbox_t r_X0_addName_0_1) vs hv
  | f + 2, h => absurd (show f + 2 < 2 from h) (Nat.not_lt.mpr (Nat.le_add_left 2 f)))
noncomputable def gs_X0_addName_0 : zMt := zgq false [] 4 [.inr (.ref 9), .inr (.double 0)] q_X0_addName_0 al_X0_addName_0
set_option maxRecDepth 100000 in
theorem cs_X0_addName_0 (d : Nat) : zC l G gh (d + 1) n_X0_addName gs_X0_addName_0 := zgq_ok0 (pcs := p_X0_addName) (by decide) rfl rfl (fun a ha => by simp only [al_X0_addName_0, List.mem_cons, List.not_mem_nil, or_false] at ha; rcases ha with rfl <;> decide +kernel) (fun gh => x_X0_addName_0 d) (by decide +kernel)
def q_X0_addName_1 : List (Nat × Nat) := [(259, zk8), (260, 131475)]
noncomputable def al_X0_addName_1 : zAq := [(some (.inl 9223372043297226753), [(259, zk9), (260, 403)])]
noncomputable def fm_X0_addName_1 : List zFm := [(0, [], (fun vs => [.inr (.ref 259), .inr (.double 0)]), (fun vs => zP q_X0_addName_1), (fun vs => Nat.sub (Nat.add 13 0) 0)),
  (1, [(3, 2147483648, 2147483660)], (fun vs => [.inr (.ref 259), .inr (.double 0), zdum, .inl (zn 0 vs 0)]), (fun vs => zP q_X0_addName_1), (fun vs => Nat.sub (Nat.add 2147483660 0) (Nat.add 0 (Nat.mul 1 (zn 0 vs 0)))))]
def bf_X0_addName_1 : List Nat := [0, 2]
theorem r_X0_addName_1_0 : zbox [] (fun vs => zFrun (zpost (zAlq al_X0_addName_1)) 1000 t_X0_addName fm_X0_addName_1 bf_X0_addName_1 (0, vs)) = true := by decide +kernel
theorem r_X0_addName_1_1 : zbox [(3, 2147483648, 2147483660)] (fun vs => zFrun (zpost (zAlq al_X0_addName_1)) 1000 t_X0_addName fm_X0_addName_1 bf_X0_addName_1 (1, vs)) = true := by decide +kernel
set_option maxRecDepth 100000 in
theorem x_X0_addName_1 (d : Nat) : zS l G gh (d + 1) (zpost (zAlq al_X0_addName_1)) n_X0_addName (zn 0 p_X0_addName 0) (zwc (0, [.inr (.ref 259), .inr (.double 0)], zP q_X0_addName_1) 0) := zentry (tt_X0_addName d) fm_X0_addName_1 bf_X0_addName_1 1000 (by decide +kernel) rfl ⟨Nat.zero_lt_succ _, trivial⟩ (fun f hf => match f, hf with
  | 0, _ => fun vs hv => (zbox_t r_X0_addName_1_0) vs hv
  | 1, _ => fun vs hv => (zbox_t r_X0_addName_1_1) vs hv
  | f + 2, h => absurd (show f + 2 < 2 from h) (Nat.not_lt.mpr (Nat.le_add_left 2 f)))
noncomputable def gs_X0_addName_1 : zMt := zgq false [] 4 [.inr (.ref 259), .inr (.double 0)] q_X0_addName_1 al_X0_addName_1
set_option maxRecDepth 100000 in
theorem cs_X0_addName_1 (d : Nat) : zC l G gh (d + 1) n_X0_addName gs_X0_addName_1 := zgq_ok0 (pcs := p_X0_addName) (by decide) rfl rfl (fun a ha => by simp only [al_X0_addName_1, List.mem_cons, List.not_mem_nil, or_false] at ha; rcases ha with rfl <;> decide +kernel) (fun gh => x_X0_addName_1 d) (by decide +kernel)
noncomputable def gs_X0_addName : zMt := (zor gs_X0_addName_0 gs_X0_addName_1)
theorem cs_X0_addName (d : Nat) : zC l G gh (d + 1) n_X0_addName gs_X0_addName := (zor_ok (cs_X0_addName_0 d) (cs_X0_addName_1 d))
def n_X1_note : qMn := (yX1_note, cX1_note, 3, none, 0, 0)
theorem to_X1_note : qTo n_X1_note 2 := ⟨g641, g99, ⟨by decide, by decide, by decide +kernel⟩, by decide⟩
def p_X1_note : List Nat := [0, 7, 17]
noncomputable def b_X1_note_0 : zBl := fun jp K => oNFC 0 1 6 2147483648 zneN zeqN zn1_ne zn1_eq (jp 2) (jp 1)
theorem s_X1_note_0 (d : Nat) : zPb l G gh (d + 1) n_X1_note p_X1_note 0 b_X1_note_0 := fun K jp hj =>
    z_nF0_ne (r := 0) (ci := 1) (j := 6) (a1 := 4) (off := 13) (tgt := 17) (zFd_n (n := 0) (r := 0) (ci := 1) (j := 6) (idx := 38) (zd (i := .aload_n 0) (n := 1) (by decide +kernel)) rfl (zd (i := .getfield 38) (n := 3) (by decide +kernel)) (by decide +kernel) (by decide +kernel) rfl g342) (by decide +kernel) rfl (zd (i := .ifCond .ne (13)) (n := 3) (by decide +kernel)) (by decide +kernel) (zj (hj 2) (by decide +kernel)) (zj (hj 1) (by decide +kernel))
noncomputable def b_X1_note_1 : zBl := fun jp K => oAld 0 <| oIld 1 <| oPutI 1 6 <| oAld 0 <| oIld 2 <| oPutI 1 7 <| jp 2
theorem s_X1_note_1 (d : Nat) : zPb l G gh (d + 1) n_X1_note p_X1_note 7 b_X1_note_1 := fun K jp hj =>
    z_aload_n (n := 0) (i := 0) (zd (i := .aload_n 0) (n := 1) (by decide +kernel)) rfl <|
    z_iload_n (n := 1) (i := 1) (zd (i := .iload_n 1) (n := 1) (by decide +kernel)) rfl <|
    z_putI (ci := 1) (j := 6) (idx := 38) (zd (i := .putfield 38) (n := 3) (by decide +kernel)) (by decide +kernel) (by decide +kernel) rfl g342 (Or.inl rfl) <|
    z_aload_n (n := 0) (i := 0) (zd (i := .aload_n 0) (n := 1) (by decide +kernel)) rfl <|
    z_iload_n (n := 2) (i := 2) (zd (i := .iload_n 2) (n := 1) (by decide +kernel)) rfl <|
    z_putI (ci := 1) (j := 7) (idx := 41) (zd (i := .putfield 41) (n := 3) (by decide +kernel)) (by decide +kernel) (by decide +kernel) rfl g343 (Or.inl rfl) <|
    (zj (hj 2) (by decide +kernel))
noncomputable def b_X1_note_2 : zBl := fun jp K => oVret K
theorem s_X1_note_2 (d : Nat) : zPb l G gh (d + 1) n_X1_note p_X1_note 17 b_X1_note_2 := fun K jp hj =>
    z_vret (zd (i := .return_) (n := 1) (by decide +kernel)) rfl
noncomputable def t_X1_note : List zBl := [b_X1_note_0, b_X1_note_1, b_X1_note_2]
theorem tt_X1_note (d : Nat) : zT (zPb l G gh (d + 1) n_X1_note p_X1_note) t_X1_note p_X1_note := ⟨s_X1_note_0 d, s_X1_note_1 d, s_X1_note_2 d, trivial⟩
noncomputable def f_X1_note : zMt := zmet 3 t_X1_note
theorem c_X1_note (d : Nat) : zC l G gh (d + 1) n_X1_note f_X1_note := zmet_ok (pcs := p_X1_note) (by decide) rfl rfl (tt_X1_note d)
def n_X0_addStander : qMn := (yX0_addStander, cX0_addStander, 4, none, 0, 0)
theorem to_X0_addStander : qTo n_X0_addStander 3 := ⟨g649, g105, ⟨by decide, by decide, by decide +kernel⟩, by decide⟩
def p_X0_addStander : List Nat := [0, 4, 13, 46, 50, 59, 89]
noncomputable def b_X0_addStander_0 : zBl := fun jp K => oNLC 1 2147483648 zeqN zneN zn1_eq zn1_ne (jp 3) (jp 1)
theorem s_X0_addStander_0 (d : Nat) : zPb l G gh (d + 1) n_X0_addStander p_X0_addStander 0 b_X0_addStander_0 := fun K jp hj =>
    z_nL0_eq (i := 1) (a1 := 1) (off := 45) (tgt := 46) (zLd_n (n := 1) (i := 1) (zd (i := .iload_n 1) (n := 1) (by decide +kernel)) rfl) (zd (i := .ifCond .eq (45)) (n := 3) (by decide +kernel)) (by decide +kernel) (zj (hj 3) (by decide +kernel)) (zj (hj 1) (by decide +kernel))
noncomputable def b_X0_addStander_1 : zBl := fun jp K => oNFC 0 0 2 2147483654 zgeN zltN zn1_ge zn1_lt (jp 3) (jp 2)
theorem s_X0_addStander_1 (d : Nat) : zPb l G gh (d + 1) n_X0_addStander p_X0_addStander 4 b_X0_addStander_1 := fun K jp hj =>
    z_nFC_ge (r := 0) (ci := 0) (j := 2) (c0 := 2147483654) (a1 := 4) (a2 := 2) (off := 36) (tgt := 46) (zFd_n (n := 0) (r := 0) (ci := 0) (j := 2) (idx := 19) (zd (i := .aload_n 0) (n := 1) (by decide +kernel)) rfl (zd (i := .getfield 19) (n := 3) (by decide +kernel)) (by decide +kernel) (by decide +kernel) rfl g278) (by decide +kernel) rfl (zCn_b (n := 6) (zd (i := .bipush (6)) (n := 2) (by decide +kernel)) (by decide +kernel)) (zd (i := .if_icmp .ge (36)) (n := 3) (by decide +kernel)) (by decide +kernel) (zj (hj 3) (by decide +kernel)) (zj (hj 2) (by decide +kernel))
noncomputable def b_X0_addStander_2 : zBl := fun jp K => oAld 0 <| oGetR 0 3 <| oAld 0 <| oGetI 0 2 <| oIld 2 <| oXast 10 zid <| oAld 0 <| oGetR 0 4 <| oAld 0 <| oGetI 0 2 <| oIld 3 <| oXast 10 zid <| oAld 0 <| oDup <| oGetI 0 2 <| oInt 2147483649 <| oB2 zadd <| oPutI 0 2 <| jp 6
theorem s_X0_addStander_2 (d : Nat) : zPb l G gh (d + 1) n_X0_addStander p_X0_addStander 13 b_X0_addStander_2 := fun K jp hj =>
    z_aload_n (n := 0) (i := 0) (zd (i := .aload_n 0) (n := 1) (by decide +kernel)) rfl <|
    z_getR (ci := 0) (j := 3) (idx := 22) (zd (i := .getfield 22) (n := 3) (by decide +kernel)) (by decide +kernel) (by decide +kernel) rfl g281 <|
    z_aload_n (n := 0) (i := 0) (zd (i := .aload_n 0) (n := 1) (by decide +kernel)) rfl <|
    z_getI (ci := 0) (j := 2) (idx := 19) (zd (i := .getfield 19) (n := 3) (by decide +kernel)) (by decide +kernel) (by decide +kernel) rfl g278 <|
    z_iload_n (n := 2) (i := 2) (zd (i := .iload_n 2) (n := 1) (by decide +kernel)) rfl <|
    z_iast (zd (i := .iastore) (n := 1) (by decide +kernel)) <|
    z_aload_n (n := 0) (i := 0) (zd (i := .aload_n 0) (n := 1) (by decide +kernel)) rfl <|
    z_getR (ci := 0) (j := 4) (idx := 26) (zd (i := .getfield 26) (n := 3) (by decide +kernel)) (by decide +kernel) (by decide +kernel) rfl g283 <|
    z_aload_n (n := 0) (i := 0) (zd (i := .aload_n 0) (n := 1) (by decide +kernel)) rfl <|
    z_getI (ci := 0) (j := 2) (idx := 19) (zd (i := .getfield 19) (n := 3) (by decide +kernel)) (by decide +kernel) (by decide +kernel) rfl g278 <|
    z_iload_n (n := 3) (i := 3) (zd (i := .iload_n 3) (n := 1) (by decide +kernel)) rfl <|
    z_iast (zd (i := .iastore) (n := 1) (by decide +kernel)) <|
    z_aload_n (n := 0) (i := 0) (zd (i := .aload_n 0) (n := 1) (by decide +kernel)) rfl <|
    z_dup (zd (i := .dup) (n := 1) (by decide +kernel)) <|
    z_getI (ci := 0) (j := 2) (idx := 19) (zd (i := .getfield 19) (n := 3) (by decide +kernel)) (by decide +kernel) (by decide +kernel) rfl g278 <|
    z_iconst (n := 1) (zd (i := .iconst (1)) (n := 1) (by decide +kernel)) (by decide +kernel) <|
    z_iadd (zd (i := .iadd) (n := 1) (by decide +kernel)) <|
    z_putI (ci := 0) (j := 2) (idx := 19) (zd (i := .putfield 19) (n := 3) (by decide +kernel)) (by decide +kernel) (by decide +kernel) rfl g278 (Or.inl rfl) <|
    z_goto (off := 46) (tgt := 89) (zd (i := .goto (46)) (n := 3) (by decide +kernel)) (by decide +kernel) (zj (hj 6) (by decide +kernel))
noncomputable def b_X0_addStander_3 : zBl := fun jp K => oNLC 1 2147483648 zneN zeqN zn1_ne zn1_eq (jp 6) (jp 4)
theorem s_X0_addStander_3 (d : Nat) : zPb l G gh (d + 1) n_X0_addStander p_X0_addStander 46 b_X0_addStander_3 := fun K jp hj =>
    z_nL0_ne (i := 1) (a1 := 1) (off := 42) (tgt := 89) (zLd_n (n := 1) (i := 1) (zd (i := .iload_n 1) (n := 1) (by decide +kernel)) rfl) (zd (i := .ifCond .ne (42)) (n := 3) (by decide +kernel)) (by decide +kernel) (zj (hj 6) (by decide +kernel)) (zj (hj 4) (by decide +kernel))
noncomputable def b_X0_addStander_4 : zBl := fun jp K => oNFC 0 0 5 2147483654 zgeN zltN zn1_ge zn1_lt (jp 6) (jp 5)
theorem s_X0_addStander_4 (d : Nat) : zPb l G gh (d + 1) n_X0_addStander p_X0_addStander 50 b_X0_addStander_4 := fun K jp hj =>
    z_nFC_ge (r := 0) (ci := 0) (j := 5) (c0 := 2147483654) (a1 := 4) (a2 := 2) (off := 33) (tgt := 89) (zFd_n (n := 0) (r := 0) (ci := 0) (j := 5) (idx := 29) (zd (i := .aload_n 0) (n := 1) (by decide +kernel)) rfl (zd (i := .getfield 29) (n := 3) (by decide +kernel)) (by decide +kernel) (by decide +kernel) rfl g285) (by decide +kernel) rfl (zCn_b (n := 6) (zd (i := .bipush (6)) (n := 2) (by decide +kernel)) (by decide +kernel)) (zd (i := .if_icmp .ge (33)) (n := 3) (by decide +kernel)) (by decide +kernel) (zj (hj 6) (by decide +kernel)) (zj (hj 5) (by decide +kernel))
noncomputable def b_X0_addStander_5 : zBl := fun jp K => oAld 0 <| oGetR 0 6 <| oAld 0 <| oGetI 0 5 <| oIld 2 <| oXast 10 zid <| oAld 0 <| oGetR 0 7 <| oAld 0 <| oGetI 0 5 <| oIld 3 <| oXast 10 zid <| oAld 0 <| oDup <| oGetI 0 5 <| oInt 2147483649 <| oB2 zadd <| oPutI 0 5 <| jp 6
theorem s_X0_addStander_5 (d : Nat) : zPb l G gh (d + 1) n_X0_addStander p_X0_addStander 59 b_X0_addStander_5 := fun K jp hj =>
    z_aload_n (n := 0) (i := 0) (zd (i := .aload_n 0) (n := 1) (by decide +kernel)) rfl <|
    z_getR (ci := 0) (j := 6) (idx := 32) (zd (i := .getfield 32) (n := 3) (by decide +kernel)) (by decide +kernel) (by decide +kernel) rfl g289 <|
    z_aload_n (n := 0) (i := 0) (zd (i := .aload_n 0) (n := 1) (by decide +kernel)) rfl <|
    z_getI (ci := 0) (j := 5) (idx := 29) (zd (i := .getfield 29) (n := 3) (by decide +kernel)) (by decide +kernel) (by decide +kernel) rfl g285 <|
    z_iload_n (n := 2) (i := 2) (zd (i := .iload_n 2) (n := 1) (by decide +kernel)) rfl <|
    z_iast (zd (i := .iastore) (n := 1) (by decide +kernel)) <|
    z_aload_n (n := 0) (i := 0) (zd (i := .aload_n 0) (n := 1) (by decide +kernel)) rfl <|
    z_getR (ci := 0) (j := 7) (idx := 35) (zd (i := .getfield 35) (n := 3) (by decide +kernel)) (by decide +kernel) (by decide +kernel) rfl g291 <|
    z_aload_n (n := 0) (i := 0) (zd (i := .aload_n 0) (n := 1) (by decide +kernel)) rfl <|
    z_getI (ci := 0) (j := 5) (idx := 29) (zd (i := .getfield 29) (n := 3) (by decide +kernel)) (by decide +kernel) (by decide +kernel) rfl g285 <|
    z_iload_n (n := 3) (i := 3) (zd (i := .iload_n 3) (n := 1) (by decide +kernel)) rfl <|
    z_iast (zd (i := .iastore) (n := 1) (by decide +kernel)) <|
    z_aload_n (n := 0) (i := 0) (zd (i := .aload_n 0) (n := 1) (by decide +kernel)) rfl <|
    z_dup (zd (i := .dup) (n := 1) (by decide +kernel)) <|
    z_getI (ci := 0) (j := 5) (idx := 29) (zd (i := .getfield 29) (n := 3) (by decide +kernel)) (by decide +kernel) (by decide +kernel) rfl g285 <|
    z_iconst (n := 1) (zd (i := .iconst (1)) (n := 1) (by decide +kernel)) (by decide +kernel) <|
    z_iadd (zd (i := .iadd) (n := 1) (by decide +kernel)) <|
    z_putI (ci := 0) (j := 5) (idx := 29) (zd (i := .putfield 29) (n := 3) (by decide +kernel)) (by decide +kernel) (by decide +kernel) rfl g285 (Or.inl rfl) <|
    (zj (hj 6) (by decide +kernel))
noncomputable def b_X0_addStander_6 : zBl := fun jp K => oVret K
theorem s_X0_addStander_6 (d : Nat) : zPb l G gh (d + 1) n_X0_addStander p_X0_addStander 89 b_X0_addStander_6 := fun K jp hj =>
    z_vret (zd (i := .return_) (n := 1) (by decide +kernel)) rfl
noncomputable def t_X0_addStander : List zBl := [b_X0_addStander_0, b_X0_addStander_1, b_X0_addStander_2, b_X0_addStander_3, b_X0_addStander_4, b_X0_addStander_5, b_X0_addStander_6]
theorem tt_X0_addStander (d : Nat) : zT (zPb l G gh (d + 1) n_X0_addStander p_X0_addStander) t_X0_addStander p_X0_addStander := ⟨s_X0_addStander_0 d, s_X0_addStander_1 d, s_X0_addStander_2 d, s_X0_addStander_3 d, s_X0_addStander_4 d, s_X0_addStander_5 d, s_X0_addStander_6 d, trivial⟩
def q_X0_addStander_0 : List (Nat × Nat) := [(9, zk6), (11, zk10), (12, zk10), (13, zk10), (14, zk10)]
noncomputable def al_X0_addStander_0 : zAq := [(none, [(9, zk7), (11, zk11), (12, zk11), (13, zk11), (14, zk11)])]
noncomputable def fm_X0_addStander_0 : List zFm := [(0, [], (fun vs => [.inr (.ref 9), .inl 9223372043297226753, .inl 8589934591, .inl 8589934591]), (fun vs => zP q_X0_addStander_0), (fun vs => Nat.sub (Nat.add 0 0) 0))]
def bf_X0_addStander_0 : List Nat := []
theorem r_X0_addStander_0_0 : zbox [] (fun vs => zFrun (zpost (zAlq al_X0_addStander_0)) 1000 t_X0_addStander fm_X0_addStander_0 bf_X0_addStander_0 (0, vs)) = true := by decide +kernel
set_option maxRecDepth 100000 in
theorem x_X0_addStander_0 (d : Nat) : zS l G gh (d + 1) (zpost (zAlq al_X0_addStander_0)) n_X0_addStander (zn 0 p_X0_addStander 0) (zwc (0, [.inr (.ref 9), .inl 9223372043297226753, .inl 8589934591, .inl 8589934591], zP q_X0_addStander_0) 0) := zentry (tt_X0_addStander d) fm_X0_addStander_0 bf_X0_addStander_0 1000 (by decide +kernel) rfl ⟨Nat.zero_lt_succ _, trivial⟩ (fun f hf => match f, hf with
  | 0, _ => fun vs hv => (zbox_t r_X0_addStander_0_0) vs hv
  | f + 1, h => absurd (show f + 1 < 1 from h) (Nat.not_lt.mpr (Nat.le_add_left 1 f)))
noncomputable def gs_X0_addStander_0 : zMt := zgq false [] 4 [.inr (.ref 9), .inl 9223372043297226753, .inl 8589934591, .inl 8589934591] q_X0_addStander_0 al_X0_addStander_0
set_option maxRecDepth 100000 in
theorem cs_X0_addStander_0 (d : Nat) : zC l G gh (d + 1) n_X0_addStander gs_X0_addStander_0 := zgq_ok0 (pcs := p_X0_addStander) (by decide) rfl rfl (fun a ha => by simp only [al_X0_addStander_0, List.mem_cons, List.not_mem_nil, or_false] at ha; rcases ha with rfl <;> decide +kernel) (fun gh => x_X0_addStander_0 d) (by decide +kernel)
def q_X0_addStander_1 : List (Nat × Nat) := [(259, zk8), (261, zk10), (262, zk10), (263, zk10), (264, zk10)]
noncomputable def al_X0_addStander_1 : zAq := [(none, [(259, zk9), (261, zk11), (262, zk11), (263, zk11), (264, zk11)])]
noncomputable def fm_X0_addStander_1 : List zFm := [(0, [], (fun vs => [.inr (.ref 259), .inl 9223372043297226753, .inl 8589934591, .inl 8589934591]), (fun vs => zP q_X0_addStander_1), (fun vs => Nat.sub (Nat.add 0 0) 0))]
def bf_X0_addStander_1 : List Nat := []
theorem r_X0_addStander_1_0 : zbox [] (fun vs => zFrun (zpost (zAlq al_X0_addStander_1)) 1000 t_X0_addStander fm_X0_addStander_1 bf_X0_addStander_1 (0, vs)) = true := by decide +kernel
set_option maxRecDepth 100000 in
theorem x_X0_addStander_1 (d : Nat) : zS l G gh (d + 1) (zpost (zAlq al_X0_addStander_1)) n_X0_addStander (zn 0 p_X0_addStander 0) (zwc (0, [.inr (.ref 259), .inl 9223372043297226753, .inl 8589934591, .inl 8589934591], zP q_X0_addStander_1) 0) := zentry (tt_X0_addStander d) fm_X0_addStander_1 bf_X0_addStander_1 1000 (by decide +kernel) rfl ⟨Nat.zero_lt_succ _, trivial⟩ (fun f hf => match f, hf with
  | 0, _ => fun vs hv => (zbox_t r_X0_addStander_1_0) vs hv
  | f + 1, h => absurd (show f + 1 < 1 from h) (Nat.not_lt.mpr (Nat.le_add_left 1 f)))
noncomputable def gs_X0_addStander_1 : zMt := zgq false [] 4 [.inr (.ref 259), .inl 9223372043297226753, .inl 8589934591, .inl 8589934591] q_X0_addStander_1 al_X0_addStander_1
set_option maxRecDepth 100000 in
theorem cs_X0_addStander_1 (d : Nat) : zC l G gh (d + 1) n_X0_addStander gs_X0_addStander_1 := zgq_ok0 (pcs := p_X0_addStander) (by decide) rfl rfl (fun a ha => by simp only [al_X0_addStander_1, List.mem_cons, List.not_mem_nil, or_false] at ha; rcases ha with rfl <;> decide +kernel) (fun gh => x_X0_addStander_1 d) (by decide +kernel)
noncomputable def gs_X0_addStander : zMt := (zor gs_X0_addStander_0 gs_X0_addStander_1)
theorem cs_X0_addStander (d : Nat) : zC l G gh (d + 1) n_X0_addStander gs_X0_addStander := (zor_ok (cs_X0_addStander_0 d) (cs_X0_addStander_1 d))
def n_X2_leadOnFrom : qMn := (yX2_leadOnFrom, cX2_leadOnFrom, 2, none, 0, 0)
theorem to_X2_leadOnFrom : qTo n_X2_leadOnFrom 1 := ⟨g671, g106, ⟨by decide, by decide, by decide +kernel⟩, by decide⟩
def p_X2_leadOnFrom : List Nat := [0, 4, 12, 22]
noncomputable def b_X2_leadOnFrom_0 : zBl := fun jp K => oNLC 1 2147483648 zltN zgeN zn1_lt zn1_ge (jp 3) (jp 1)
theorem s_X2_leadOnFrom_0 (d : Nat) : zPb l G gh (d + 1) n_X2_leadOnFrom p_X2_leadOnFrom 0 b_X2_leadOnFrom_0 := fun K jp hj =>
    z_nL0_lt (i := 1) (a1 := 1) (off := 21) (tgt := 22) (zLd_n (n := 1) (i := 1) (zd (i := .iload_n 1) (n := 1) (by decide +kernel)) rfl) (zd (i := .ifCond .lt (21)) (n := 3) (by decide +kernel)) (by decide +kernel) (zj (hj 3) (by decide +kernel)) (zj (hj 1) (by decide +kernel))
noncomputable def b_X2_leadOnFrom_1 : zBl := fun jp K => oNLF 1 0 2 2 zgeN zltN zn1_ge zn1_lt (jp 3) (jp 2)
theorem s_X2_leadOnFrom_1 (d : Nat) : zPb l G gh (d + 1) n_X2_leadOnFrom p_X2_leadOnFrom 4 b_X2_leadOnFrom_1 := fun K jp hj =>
    z_nLF_ge (i := 1) (r := 0) (ci := 2) (j := 2) (a1 := 1) (a2 := 4) (off := 13) (tgt := 22) (zLd_n (n := 1) (i := 1) (zd (i := .iload_n 1) (n := 1) (by decide +kernel)) rfl) (zFd_n (n := 0) (r := 0) (ci := 2) (j := 2) (idx := 18) (zd (i := .aload_n 0) (n := 1) (by decide +kernel)) rfl (zd (i := .getfield 18) (n := 3) (by decide +kernel)) (by decide +kernel) (by decide +kernel) rfl g239) (by decide +kernel) rfl (zd (i := .if_icmp .ge (13)) (n := 3) (by decide +kernel)) (by decide +kernel) (zj (hj 3) (by decide +kernel)) (zj (hj 2) (by decide +kernel))
noncomputable def b_X2_leadOnFrom_2 : zBl := fun jp K => oAld 0 <| oGetR 2 1 <| oIld 1 <| oAld 0 <| oGetI 2 2 <| oXast 10 zid <| jp 3
theorem s_X2_leadOnFrom_2 (d : Nat) : zPb l G gh (d + 1) n_X2_leadOnFrom p_X2_leadOnFrom 12 b_X2_leadOnFrom_2 := fun K jp hj =>
    z_aload_n (n := 0) (i := 0) (zd (i := .aload_n 0) (n := 1) (by decide +kernel)) rfl <|
    z_getR (ci := 2) (j := 1) (idx := 15) (zd (i := .getfield 15) (n := 3) (by decide +kernel)) (by decide +kernel) (by decide +kernel) rfl g238 <|
    z_iload_n (n := 1) (i := 1) (zd (i := .iload_n 1) (n := 1) (by decide +kernel)) rfl <|
    z_aload_n (n := 0) (i := 0) (zd (i := .aload_n 0) (n := 1) (by decide +kernel)) rfl <|
    z_getI (ci := 2) (j := 2) (idx := 18) (zd (i := .getfield 18) (n := 3) (by decide +kernel)) (by decide +kernel) (by decide +kernel) rfl g239 <|
    z_iast (zd (i := .iastore) (n := 1) (by decide +kernel)) <|
    (zj (hj 3) (by decide +kernel))
noncomputable def b_X2_leadOnFrom_3 : zBl := fun jp K => oVret K
theorem s_X2_leadOnFrom_3 (d : Nat) : zPb l G gh (d + 1) n_X2_leadOnFrom p_X2_leadOnFrom 22 b_X2_leadOnFrom_3 := fun K jp hj =>
    z_vret (zd (i := .return_) (n := 1) (by decide +kernel)) rfl
noncomputable def t_X2_leadOnFrom : List zBl := [b_X2_leadOnFrom_0, b_X2_leadOnFrom_1, b_X2_leadOnFrom_2, b_X2_leadOnFrom_3]
theorem tt_X2_leadOnFrom (d : Nat) : zT (zPb l G gh (d + 1) n_X2_leadOnFrom p_X2_leadOnFrom) t_X2_leadOnFrom p_X2_leadOnFrom := ⟨s_X2_leadOnFrom_0 d, s_X2_leadOnFrom_1 d, s_X2_leadOnFrom_2 d, s_X2_leadOnFrom_3 d, trivial⟩
noncomputable def f_X2_leadOnFrom : zMt := zmet 2 t_X2_leadOnFrom
theorem c_X2_leadOnFrom (d : Nat) : zC l G gh (d + 1) n_X2_leadOnFrom f_X2_leadOnFrom := zmet_ok (pcs := p_X2_leadOnFrom) (by decide) rfl rfl (tt_X2_leadOnFrom d)
def n_X1_handOver : qMn := (yX1_handOver, cX1_handOver, 3, (some (Jvm.ClassFile.FieldType.object "MirageLoans$Flat")), 0, 0)
theorem to_X1_handOver : qTo n_X1_handOver 1 := ⟨g679, g99, ⟨by decide, by decide, by decide +kernel⟩, by decide⟩
def p_X1_handOver : List Nat := [0]
noncomputable def b_X1_handOver_0 : zBl := fun jp K => oAld 0 <| oGetR 1 1 <| oAst 2 <| oAld 0 <| oAld 1 <| oPutR 1 1 <| oAld 2 <| oAret K
theorem s_X1_handOver_0 (d : Nat) : zPb l G gh (d + 1) n_X1_handOver p_X1_handOver 0 b_X1_handOver_0 := fun K jp hj =>
    z_aload_n (n := 0) (i := 0) (zd (i := .aload_n 0) (n := 1) (by decide +kernel)) rfl <|
    z_getR (ci := 1) (j := 1) (idx := 21) (zd (i := .getfield 21) (n := 3) (by decide +kernel)) (by decide +kernel) (by decide +kernel) rfl g336 <|
    z_astore_n (n := 2) (i := 2) (zd (i := .astore_n 2) (n := 1) (by decide +kernel)) rfl (by decide +kernel) <|
    z_aload_n (n := 0) (i := 0) (zd (i := .aload_n 0) (n := 1) (by decide +kernel)) rfl <|
    z_aload_n (n := 1) (i := 1) (zd (i := .aload_n 1) (n := 1) (by decide +kernel)) rfl <|
    z_putR (ci := 1) (j := 1) (idx := 21) (zd (i := .putfield 21) (n := 3) (by decide +kernel)) (by decide +kernel) (by decide +kernel) (fun r => by cases r <;> rfl) (fun r => by cases r <;> rfl) rfl g336 (Or.inl rfl) <|
    z_aload_n (n := 2) (i := 2) (zd (i := .aload_n 2) (n := 1) (by decide +kernel)) rfl <|
    z_aret (zd (i := .areturn) (n := 1) (by decide +kernel)) rfl
noncomputable def t_X1_handOver : List zBl := [b_X1_handOver_0]
theorem tt_X1_handOver (d : Nat) : zT (zPb l G gh (d + 1) n_X1_handOver p_X1_handOver) t_X1_handOver p_X1_handOver := ⟨s_X1_handOver_0 d, trivial⟩
noncomputable def f_X1_handOver : zMt := zmet 3 t_X1_handOver
theorem c_X1_handOver (d : Nat) : zC l G gh (d + 1) n_X1_handOver f_X1_handOver := zmet_ok (pcs := p_X1_handOver) (by decide) rfl rfl (tt_X1_handOver d)
def n_X4_end : qMn := (yX4_end, cX4_end, 2, none, 0, 0)
theorem to_X4_end : qTo n_X4_end 1 := ⟨g695, g107, ⟨by decide, by decide, by decide +kernel⟩, by decide⟩
def p_X4_end : List Nat := [0]
noncomputable def b_X4_end_0 : zBl := fun jp K => oAld 0 <| oGetR 4 5 <| oIld 1 <| oInt 2147483648 <| oXast 10 zid <| oAld 0 <| oGetR 4 6 <| oIld 1 <| oInt 2147483648 <| oXast 10 zid <| oVret K
theorem s_X4_end_0 (d : Nat) : zPb l G gh (d + 1) n_X4_end p_X4_end 0 b_X4_end_0 := fun K jp hj =>
    z_aload_n (n := 0) (i := 0) (zd (i := .aload_n 0) (n := 1) (by decide +kernel)) rfl <|
    z_getR (ci := 4) (j := 5) (idx := 28) (zd (i := .getfield 28) (n := 3) (by decide +kernel)) (by decide +kernel) (by decide +kernel) rfl g382 <|
    z_iload_n (n := 1) (i := 1) (zd (i := .iload_n 1) (n := 1) (by decide +kernel)) rfl <|
    z_iconst (n := 0) (zd (i := .iconst (0)) (n := 1) (by decide +kernel)) (by decide +kernel) <|
    z_iast (zd (i := .iastore) (n := 1) (by decide +kernel)) <|
    z_aload_n (n := 0) (i := 0) (zd (i := .aload_n 0) (n := 1) (by decide +kernel)) rfl <|
    z_getR (ci := 4) (j := 6) (idx := 31) (zd (i := .getfield 31) (n := 3) (by decide +kernel)) (by decide +kernel) (by decide +kernel) rfl g385 <|
    z_iload_n (n := 1) (i := 1) (zd (i := .iload_n 1) (n := 1) (by decide +kernel)) rfl <|
    z_iconst (n := 0) (zd (i := .iconst (0)) (n := 1) (by decide +kernel)) (by decide +kernel) <|
    z_iast (zd (i := .iastore) (n := 1) (by decide +kernel)) <|
    z_vret (zd (i := .return_) (n := 1) (by decide +kernel)) rfl
noncomputable def t_X4_end : List zBl := [b_X4_end_0]
theorem tt_X4_end (d : Nat) : zT (zPb l G gh (d + 1) n_X4_end p_X4_end) t_X4_end p_X4_end := ⟨s_X4_end_0 d, trivial⟩
noncomputable def f_X4_end : zMt := zmet 2 t_X4_end
theorem c_X4_end (d : Nat) : zC l G gh (d + 1) n_X4_end f_X4_end := zmet_ok (pcs := p_X4_end) (by decide) rfl rfl (tt_X4_end d)
def n_X3_clear : qMn := (yX3_clear, cX3_clear, 1, none, 0, 0)
theorem to_X3_clear : qTo n_X3_clear 0 := ⟨g699, g108, ⟨by decide, by decide, by decide +kernel⟩, by decide⟩
def p_X3_clear : List Nat := [0]
noncomputable def b_X3_clear_0 : zBl := fun jp K => oAld 0 <| oInt 2147483648 <| oPutI 3 2 <| oVret K
theorem s_X3_clear_0 (d : Nat) : zPb l G gh (d + 1) n_X3_clear p_X3_clear 0 b_X3_clear_0 := fun K jp hj =>
    z_aload_n (n := 0) (i := 0) (zd (i := .aload_n 0) (n := 1) (by decide +kernel)) rfl <|
    z_iconst (n := 0) (zd (i := .iconst (0)) (n := 1) (by decide +kernel)) (by decide +kernel) <|
    z_putI (ci := 3) (j := 2) (idx := 19) (zd (i := .putfield 19) (n := 3) (by decide +kernel)) (by decide +kernel) (by decide +kernel) rfl g414 (Or.inl rfl) <|
    z_vret (zd (i := .return_) (n := 1) (by decide +kernel)) rfl
noncomputable def t_X3_clear : List zBl := [b_X3_clear_0]
theorem tt_X3_clear (d : Nat) : zT (zPb l G gh (d + 1) n_X3_clear p_X3_clear) t_X3_clear p_X3_clear := ⟨s_X3_clear_0 d, trivial⟩
noncomputable def f_X3_clear : zMt := zmet 1 t_X3_clear
theorem c_X3_clear (d : Nat) : zC l G gh (d + 1) n_X3_clear f_X3_clear := zmet_ok (pcs := p_X3_clear) (by decide) rfl rfl (tt_X3_clear d)
def n_X8_place : qMn := (yX8_place, cX8_place, 1, (some Jvm.ClassFile.FieldType.int), 0, 0)
theorem to_X8_place : qTo n_X8_place 0 := ⟨g703, g97, ⟨by decide, by decide, by decide +kernel⟩, by decide⟩
def p_X8_place : List Nat := [0]
noncomputable def b_X8_place_0 : zBl := fun jp K => oAld 0 <| oGetI 8 13 <| oIret K
theorem s_X8_place_0 (d : Nat) : zPb l G gh (d + 1) n_X8_place p_X8_place 0 b_X8_place_0 := fun K jp hj =>
    z_aload_n (n := 0) (i := 0) (zd (i := .aload_n 0) (n := 1) (by decide +kernel)) rfl <|
    z_getI (ci := 8) (j := 13) (idx := 75) (zd (i := .getfield 75) (n := 3) (by decide +kernel)) (by decide +kernel) (by decide +kernel) rfl g465 <|
    z_iret (zd (i := .ireturn) (n := 1) (by decide +kernel)) rfl
noncomputable def t_X8_place : List zBl := [b_X8_place_0]
theorem tt_X8_place (d : Nat) : zT (zPb l G gh (d + 1) n_X8_place p_X8_place) t_X8_place p_X8_place := ⟨s_X8_place_0 d, trivial⟩
def q_X8_place_0 : List (Nat × Nat) := [(0, zk12)]
noncomputable def al_X8_place_0 : zAq := [(some (.inl 8589934591), [(0, zk12)])]
noncomputable def fm_X8_place_0 : List zFm := [(0, [], (fun vs => [.inr (.ref 0)]), (fun vs => zP q_X8_place_0), (fun vs => Nat.sub (Nat.add 0 0) 0))]
def bf_X8_place_0 : List Nat := []
theorem r_X8_place_0_0 : zbox [] (fun vs => zFrun (zpost (zAlq al_X8_place_0)) 1000 t_X8_place fm_X8_place_0 bf_X8_place_0 (0, vs)) = true := by decide +kernel
set_option maxRecDepth 100000 in
theorem x_X8_place_0 (d : Nat) : zS l G gh (d + 1) (zpost (zAlq al_X8_place_0)) n_X8_place (zn 0 p_X8_place 0) (zwc (0, [.inr (.ref 0)], zP q_X8_place_0) 0) := zentry (tt_X8_place d) fm_X8_place_0 bf_X8_place_0 1000 (by decide +kernel) rfl ⟨Nat.zero_lt_succ _, trivial⟩ (fun f hf => match f, hf with
  | 0, _ => fun vs hv => (zbox_t r_X8_place_0_0) vs hv
  | f + 1, h => absurd (show f + 1 < 1 from h) (Nat.not_lt.mpr (Nat.le_add_left 1 f)))
noncomputable def gs_X8_place_0 : zMt := zgq false [] 1 [.inr (.ref 0)] q_X8_place_0 al_X8_place_0
set_option maxRecDepth 100000 in
theorem cs_X8_place_0 (d : Nat) : zC l G gh (d + 1) n_X8_place gs_X8_place_0 := zgq_ok0 (pcs := p_X8_place) (by decide) rfl rfl (fun a ha => by simp only [al_X8_place_0, List.mem_cons, List.not_mem_nil, or_false] at ha; rcases ha with rfl <;> decide +kernel) (fun gh => x_X8_place_0 d) (by decide +kernel)
def q_X8_place_1 : List (Nat × Nat) := [(0, zk13)]
noncomputable def al_X8_place_1 : zAq := [(some (.inl 8589934591), [(0, zk13)])]
noncomputable def fm_X8_place_1 : List zFm := [(0, [], (fun vs => [.inr (.ref 0)]), (fun vs => zP q_X8_place_1), (fun vs => Nat.sub (Nat.add 0 0) 0))]
def bf_X8_place_1 : List Nat := []
theorem r_X8_place_1_0 : zbox [] (fun vs => zFrun (zpost (zAlq al_X8_place_1)) 1000 t_X8_place fm_X8_place_1 bf_X8_place_1 (0, vs)) = true := by decide +kernel
set_option maxRecDepth 100000 in
theorem x_X8_place_1 (d : Nat) : zS l G gh (d + 1) (zpost (zAlq al_X8_place_1)) n_X8_place (zn 0 p_X8_place 0) (zwc (0, [.inr (.ref 0)], zP q_X8_place_1) 0) := zentry (tt_X8_place d) fm_X8_place_1 bf_X8_place_1 1000 (by decide +kernel) rfl ⟨Nat.zero_lt_succ _, trivial⟩ (fun f hf => match f, hf with
  | 0, _ => fun vs hv => (zbox_t r_X8_place_1_0) vs hv
  | f + 1, h => absurd (show f + 1 < 1 from h) (Nat.not_lt.mpr (Nat.le_add_left 1 f)))
noncomputable def gs_X8_place_1 : zMt := zgq false [] 1 [.inr (.ref 0)] q_X8_place_1 al_X8_place_1
set_option maxRecDepth 100000 in
theorem cs_X8_place_1 (d : Nat) : zC l G gh (d + 1) n_X8_place gs_X8_place_1 := zgq_ok0 (pcs := p_X8_place) (by decide) rfl rfl (fun a ha => by simp only [al_X8_place_1, List.mem_cons, List.not_mem_nil, or_false] at ha; rcases ha with rfl <;> decide +kernel) (fun gh => x_X8_place_1 d) (by decide +kernel)
noncomputable def gs_X8_place : zMt := (zor gs_X8_place_0 gs_X8_place_1)
theorem cs_X8_place (d : Nat) : zC l G gh (d + 1) n_X8_place gs_X8_place := (zor_ok (cs_X8_place_0 d) (cs_X8_place_1 d))
def n_X8_isThing : qMn := (yX8_isThing, cX8_isThing, 2, (some Jvm.ClassFile.FieldType.boolean), 0, 0)
theorem to_X8_isThing : qTo n_X8_isThing 1 := ⟨g711, g97, ⟨by decide, by decide, by decide +kernel⟩, by decide⟩
def p_X8_isThing : List Nat := [0, 4, 15, 19, 20]
noncomputable def b_X8_isThing_0 : zBl := fun jp K => oNLC 1 2147483648 zltN zgeN zn1_lt zn1_ge (jp 3) (jp 1)
theorem s_X8_isThing_0 (d : Nat) : zPb l G gh (d + 1) n_X8_isThing p_X8_isThing 0 b_X8_isThing_0 := fun K jp hj =>
    z_nL0_lt (i := 1) (a1 := 1) (off := 18) (tgt := 19) (zLd_n (n := 1) (i := 1) (zd (i := .iload_n 1) (n := 1) (by decide +kernel)) rfl) (zd (i := .ifCond .lt (18)) (n := 3) (by decide +kernel)) (by decide +kernel) (zj (hj 3) (by decide +kernel)) (zj (hj 1) (by decide +kernel))
noncomputable def b_X8_isThing_1 : zBl := fun jp K => oIld 1 <| oAld 0 <| oGetR 8 12 <| oGetI 0 2 <| oIc zge zlt (jp 3) (jp 2)
theorem s_X8_isThing_1 (d : Nat) : zPb l G gh (d + 1) n_X8_isThing p_X8_isThing 4 b_X8_isThing_1 := fun K jp hj =>
    z_iload_n (n := 1) (i := 1) (zd (i := .iload_n 1) (n := 1) (by decide +kernel)) rfl <|
    z_aload_n (n := 0) (i := 0) (zd (i := .aload_n 0) (n := 1) (by decide +kernel)) rfl <|
    z_getR (ci := 8) (j := 12) (idx := 71) (zd (i := .getfield 71) (n := 3) (by decide +kernel)) (by decide +kernel) (by decide +kernel) rfl g464 <|
    z_getI (ci := 0) (j := 2) (idx := 236) (zd (i := .getfield 236) (n := 3) (by decide +kernel)) (by decide +kernel) (by decide +kernel) rfl g280 <|
    z_icmp_ge (off := 7) (tgt := 19) (zd (i := .if_icmp .ge (7)) (n := 3) (by decide +kernel)) (by decide +kernel) (zj (hj 3) (by decide +kernel)) (zj (hj 2) (by decide +kernel))
noncomputable def b_X8_isThing_2 : zBl := fun jp K => oInt 2147483649 <| jp 4
theorem s_X8_isThing_2 (d : Nat) : zPb l G gh (d + 1) n_X8_isThing p_X8_isThing 15 b_X8_isThing_2 := fun K jp hj =>
    z_iconst (n := 1) (zd (i := .iconst (1)) (n := 1) (by decide +kernel)) (by decide +kernel) <|
    z_goto (off := 4) (tgt := 20) (zd (i := .goto (4)) (n := 3) (by decide +kernel)) (by decide +kernel) (zj (hj 4) (by decide +kernel))
noncomputable def b_X8_isThing_3 : zBl := fun jp K => oInt 2147483648 <| jp 4
theorem s_X8_isThing_3 (d : Nat) : zPb l G gh (d + 1) n_X8_isThing p_X8_isThing 19 b_X8_isThing_3 := fun K jp hj =>
    z_iconst (n := 0) (zd (i := .iconst (0)) (n := 1) (by decide +kernel)) (by decide +kernel) <|
    (zj (hj 4) (by decide +kernel))
noncomputable def b_X8_isThing_4 : zBl := fun jp K => oZret K
theorem s_X8_isThing_4 (d : Nat) : zPb l G gh (d + 1) n_X8_isThing p_X8_isThing 20 b_X8_isThing_4 := fun K jp hj =>
    z_zret (zd (i := .ireturn) (n := 1) (by decide +kernel)) rfl
noncomputable def t_X8_isThing : List zBl := [b_X8_isThing_0, b_X8_isThing_1, b_X8_isThing_2, b_X8_isThing_3, b_X8_isThing_4]
theorem tt_X8_isThing (d : Nat) : zT (zPb l G gh (d + 1) n_X8_isThing p_X8_isThing) t_X8_isThing p_X8_isThing := ⟨s_X8_isThing_0 d, s_X8_isThing_1 d, s_X8_isThing_2 d, s_X8_isThing_3 d, s_X8_isThing_4 d, trivial⟩
noncomputable def f_X8_isThing : zMt := zmet 2 t_X8_isThing
theorem c_X8_isThing (d : Nat) : zC l G gh (d + 1) n_X8_isThing f_X8_isThing := zmet_ok (pcs := p_X8_isThing) (by decide) rfl rfl (tt_X8_isThing d)
def n_X2_clearVars : qMn := (yX2_clearVars, cX2_clearVars, 3, none, 0, 0)
theorem to_X2_clearVars : qTo n_X2_clearVars 1 := ⟨g727, g106, ⟨by decide, by decide, by decide +kernel⟩, by decide⟩
def p_X2_clearVars : List Nat := [0, 2, 8, 21]
noncomputable def b_X2_clearVars_0 : zBl := fun jp K => oInt 2147483648 <| oIst 2 <| jp 1
theorem s_X2_clearVars_0 (d : Nat) : zPb l G gh (d + 1) n_X2_clearVars p_X2_clearVars 0 b_X2_clearVars_0 := fun K jp hj =>
    z_iconst (n := 0) (zd (i := .iconst (0)) (n := 1) (by decide +kernel)) (by decide +kernel) <|
    z_istore_n (n := 2) (i := 2) (zd (i := .istore_n 2) (n := 1) (by decide +kernel)) rfl (by decide +kernel) <|
    (zj (hj 1) (by decide +kernel))
noncomputable def b_X2_clearVars_1 : zBl := fun jp K => oNLC 2 2147483657 zgeN zltN zn1_ge zn1_lt (jp 3) (jp 2)
theorem s_X2_clearVars_1 (d : Nat) : zPb l G gh (d + 1) n_X2_clearVars p_X2_clearVars 2 b_X2_clearVars_1 := fun K jp hj =>
    z_nLC_ge (i := 2) (c0 := 2147483657) (a1 := 1) (a2 := 2) (off := 16) (tgt := 21) (zLd_n (n := 2) (i := 2) (zd (i := .iload_n 2) (n := 1) (by decide +kernel)) rfl) (zCn_b (n := 9) (zd (i := .bipush (9)) (n := 2) (by decide +kernel)) (by decide +kernel)) (zd (i := .if_icmp .ge (16)) (n := 3) (by decide +kernel)) (by decide +kernel) (zj (hj 3) (by decide +kernel)) (zj (hj 2) (by decide +kernel))
noncomputable def b_X2_clearVars_2 : zBl := fun jp K => oAld 0 <| oGetR 2 4 <| oIld 2 <| oInt 2147483648 <| oXast 10 zid <| oInc 2 2147483649 <| jp 1
theorem s_X2_clearVars_2 (d : Nat) : zPb l G gh (d + 1) n_X2_clearVars p_X2_clearVars 8 b_X2_clearVars_2 := fun K jp hj =>
    z_aload_n (n := 0) (i := 0) (zd (i := .aload_n 0) (n := 1) (by decide +kernel)) rfl <|
    z_getR (ci := 2) (j := 4) (idx := 25) (zd (i := .getfield 25) (n := 3) (by decide +kernel)) (by decide +kernel) (by decide +kernel) rfl g241 <|
    z_iload_n (n := 2) (i := 2) (zd (i := .iload_n 2) (n := 1) (by decide +kernel)) rfl <|
    z_iconst (n := 0) (zd (i := .iconst (0)) (n := 1) (by decide +kernel)) (by decide +kernel) <|
    z_iast (zd (i := .iastore) (n := 1) (by decide +kernel)) <|
    z_iinc (i := 2) (n := 1) (zd (i := .iinc 2 (1)) (n := 3) (by decide +kernel)) (by decide +kernel) (by decide +kernel) <|
    z_goto (off := -16) (tgt := 2) (zd (i := .goto (-16)) (n := 3) (by decide +kernel)) (by decide +kernel) (zj (hj 1) (by decide +kernel))
noncomputable def b_X2_clearVars_3 : zBl := fun jp K => oAld 0 <| oGetR 2 4 <| oInt 2147483648 <| oIld 1 <| oInt 2147483672 <| oB2z zirem <| oXast 10 zid <| oAld 0 <| oGetR 2 4 <| oInt 2147483649 <| oIld 1 <| oInt 2147483672 <| oB2z zidiv <| oXast 10 zid <| oVret K
theorem s_X2_clearVars_3 (d : Nat) : zPb l G gh (d + 1) n_X2_clearVars p_X2_clearVars 21 b_X2_clearVars_3 := fun K jp hj =>
    z_aload_n (n := 0) (i := 0) (zd (i := .aload_n 0) (n := 1) (by decide +kernel)) rfl <|
    z_getR (ci := 2) (j := 4) (idx := 25) (zd (i := .getfield 25) (n := 3) (by decide +kernel)) (by decide +kernel) (by decide +kernel) rfl g241 <|
    z_iconst (n := 0) (zd (i := .iconst (0)) (n := 1) (by decide +kernel)) (by decide +kernel) <|
    z_iload_n (n := 1) (i := 1) (zd (i := .iload_n 1) (n := 1) (by decide +kernel)) rfl <|
    z_bipush (n := 24) (zd (i := .bipush (24)) (n := 2) (by decide +kernel)) (by decide +kernel) <|
    z_irem (zd (i := .irem) (n := 1) (by decide +kernel)) <|
    z_iast (zd (i := .iastore) (n := 1) (by decide +kernel)) <|
    z_aload_n (n := 0) (i := 0) (zd (i := .aload_n 0) (n := 1) (by decide +kernel)) rfl <|
    z_getR (ci := 2) (j := 4) (idx := 25) (zd (i := .getfield 25) (n := 3) (by decide +kernel)) (by decide +kernel) (by decide +kernel) rfl g241 <|
    z_iconst (n := 1) (zd (i := .iconst (1)) (n := 1) (by decide +kernel)) (by decide +kernel) <|
    z_iload_n (n := 1) (i := 1) (zd (i := .iload_n 1) (n := 1) (by decide +kernel)) rfl <|
    z_bipush (n := 24) (zd (i := .bipush (24)) (n := 2) (by decide +kernel)) (by decide +kernel) <|
    z_idiv (zd (i := .idiv) (n := 1) (by decide +kernel)) <|
    z_iast (zd (i := .iastore) (n := 1) (by decide +kernel)) <|
    z_vret (zd (i := .return_) (n := 1) (by decide +kernel)) rfl
noncomputable def t_X2_clearVars : List zBl := [b_X2_clearVars_0, b_X2_clearVars_1, b_X2_clearVars_2, b_X2_clearVars_3]
theorem tt_X2_clearVars (d : Nat) : zT (zPb l G gh (d + 1) n_X2_clearVars p_X2_clearVars) t_X2_clearVars p_X2_clearVars := ⟨s_X2_clearVars_0 d, s_X2_clearVars_1 d, s_X2_clearVars_2 d, s_X2_clearVars_3 d, trivial⟩
def q_X2_clearVars_0 : List (Nat × Nat) := [(265, zk14), (269, zk15)]
noncomputable def al_X2_clearVars_0 : zAq := [(none, [(265, zk14), (269, zk16)])]
def mq_X2_clearVars_0_1 : List (Nat × Nat) := [(265, zk14), (269, zk16)]
noncomputable def fm_X2_clearVars_0 : List zFm := [(0, [], (fun vs => [.inr (.ref 265), .inl 8589934591]), (fun vs => zP q_X2_clearVars_0), (fun vs => Nat.sub (Nat.add 10 0) 0)),
  (1, [(2, 2147483648, 2147483657)], (fun vs => [.inr (.ref 265), .inl 8589934591, .inl (zn 0 vs 0)]), (fun vs => zP mq_X2_clearVars_0_1), (fun vs => Nat.sub (Nat.add 2147483657 0) (Nat.add 0 (Nat.mul 1 (zn 0 vs 0)))))]
def bf_X2_clearVars_0 : List Nat := [0, 2]
theorem r_X2_clearVars_0_0 : zbox [] (fun vs => zFrun (zpost (zAlq al_X2_clearVars_0)) 1000 t_X2_clearVars fm_X2_clearVars_0 bf_X2_clearVars_0 (0, vs)) = true := by decide +kernel
theorem r_X2_clearVars_0_1 : zbox [(2, 2147483648, 2147483657)] (fun vs => zFrun (zpost (zAlq al_X2_clearVars_0)) 1000 t_X2_clearVars fm_X2_clearVars_0 bf_X2_clearVars_0 (1, vs)) = true := by decide +kernel
set_option maxRecDepth 100000 in
theorem x_X2_clearVars_0 (d : Nat) : zS l G gh (d + 1) (zpost (zAlq al_X2_clearVars_0)) n_X2_clearVars (zn 0 p_X2_clearVars 0) (zwc (0, [.inr (.ref 265), .inl 8589934591], zP q_X2_clearVars_0) 0) := zentry (tt_X2_clearVars d) fm_X2_clearVars_0 bf_X2_clearVars_0 1000 (by decide +kernel) rfl ⟨Nat.zero_lt_succ _, trivial⟩ (fun f hf => match f, hf with
  | 0, _ => fun vs hv => (zbox_t r_X2_clearVars_0_0) vs hv
  | 1, _ => fun vs hv => (zbox_t r_X2_clearVars_0_1) vs hv
  | f + 2, h => absurd (show f + 2 < 2 from h) (Nat.not_lt.mpr (Nat.le_add_left 2 f)))
noncomputable def gs_X2_clearVars_0 : zMt := zgq false [] 3 [.inr (.ref 265), .inl 8589934591] q_X2_clearVars_0 al_X2_clearVars_0
set_option maxRecDepth 100000 in
theorem cs_X2_clearVars_0 (d : Nat) : zC l G gh (d + 1) n_X2_clearVars gs_X2_clearVars_0 := zgq_ok0 (pcs := p_X2_clearVars) (by decide) rfl rfl (fun a ha => by simp only [al_X2_clearVars_0, List.mem_cons, List.not_mem_nil, or_false] at ha; rcases ha with rfl <;> decide +kernel) (fun gh => x_X2_clearVars_0 d) (by decide +kernel)
def q_X2_clearVars_1 : List (Nat × Nat) := [(15, zk17), (19, zk15)]
noncomputable def al_X2_clearVars_1 : zAq := [(none, [(15, zk17), (19, zk16)])]
def mq_X2_clearVars_1_1 : List (Nat × Nat) := [(15, zk17), (19, zk16)]
noncomputable def fm_X2_clearVars_1 : List zFm := [(0, [], (fun vs => [.inr (.ref 15), .inl 8589934591]), (fun vs => zP q_X2_clearVars_1), (fun vs => Nat.sub (Nat.add 10 0) 0)),
  (1, [(2, 2147483648, 2147483657)], (fun vs => [.inr (.ref 15), .inl 8589934591, .inl (zn 0 vs 0)]), (fun vs => zP mq_X2_clearVars_1_1), (fun vs => Nat.sub (Nat.add 2147483657 0) (Nat.add 0 (Nat.mul 1 (zn 0 vs 0)))))]
def bf_X2_clearVars_1 : List Nat := [0, 2]
theorem r_X2_clearVars_1_0 : zbox [] (fun vs => zFrun (zpost (zAlq al_X2_clearVars_1)) 1000 t_X2_clearVars fm_X2_clearVars_1 bf_X2_clearVars_1 (0, vs)) = true := by decide +kernel
theorem r_X2_clearVars_1_1 : zbox [(2, 2147483648, 2147483657)] (fun vs => zFrun (zpost (zAlq al_X2_clearVars_1)) 1000 t_X2_clearVars fm_X2_clearVars_1 bf_X2_clearVars_1 (1, vs)) = true := by decide +kernel
set_option maxRecDepth 100000 in
theorem x_X2_clearVars_1 (d : Nat) : zS l G gh (d + 1) (zpost (zAlq al_X2_clearVars_1)) n_X2_clearVars (zn 0 p_X2_clearVars 0) (zwc (0, [.inr (.ref 15), .inl 8589934591], zP q_X2_clearVars_1) 0) := zentry (tt_X2_clearVars d) fm_X2_clearVars_1 bf_X2_clearVars_1 1000 (by decide +kernel) rfl ⟨Nat.zero_lt_succ _, trivial⟩ (fun f hf => match f, hf with
  | 0, _ => fun vs hv => (zbox_t r_X2_clearVars_1_0) vs hv
  | 1, _ => fun vs hv => (zbox_t r_X2_clearVars_1_1) vs hv
  | f + 2, h => absurd (show f + 2 < 2 from h) (Nat.not_lt.mpr (Nat.le_add_left 2 f)))
noncomputable def gs_X2_clearVars_1 : zMt := zgq false [] 3 [.inr (.ref 15), .inl 8589934591] q_X2_clearVars_1 al_X2_clearVars_1
set_option maxRecDepth 100000 in
theorem cs_X2_clearVars_1 (d : Nat) : zC l G gh (d + 1) n_X2_clearVars gs_X2_clearVars_1 := zgq_ok0 (pcs := p_X2_clearVars) (by decide) rfl rfl (fun a ha => by simp only [al_X2_clearVars_1, List.mem_cons, List.not_mem_nil, or_false] at ha; rcases ha with rfl <;> decide +kernel) (fun gh => x_X2_clearVars_1 d) (by decide +kernel)
noncomputable def gs_X2_clearVars : zMt := (zor gs_X2_clearVars_0 gs_X2_clearVars_1)
theorem cs_X2_clearVars (d : Nat) : zC l G gh (d + 1) n_X2_clearVars gs_X2_clearVars := (zor_ok (cs_X2_clearVars_0 d) (cs_X2_clearVars_1 d))
def n_X2_variable : qMn := (yX2_variable, cX2_variable, 2, (some Jvm.ClassFile.FieldType.int), 0, 0)
theorem to_X2_variable : qTo n_X2_variable 1 := ⟨g735, g106, ⟨by decide, by decide, by decide +kernel⟩, by decide⟩
def p_X2_variable : List Nat := [0, 4, 10, 19, 20]
noncomputable def b_X2_variable_0 : zBl := fun jp K => oNLC 1 2147483648 zltN zgeN zn1_lt zn1_ge (jp 3) (jp 1)
theorem s_X2_variable_0 (d : Nat) : zPb l G gh (d + 1) n_X2_variable p_X2_variable 0 b_X2_variable_0 := fun K jp hj =>
    z_nL0_lt (i := 1) (a1 := 1) (off := 18) (tgt := 19) (zLd_n (n := 1) (i := 1) (zd (i := .iload_n 1) (n := 1) (by decide +kernel)) rfl) (zd (i := .ifCond .lt (18)) (n := 3) (by decide +kernel)) (by decide +kernel) (zj (hj 3) (by decide +kernel)) (zj (hj 1) (by decide +kernel))
noncomputable def b_X2_variable_1 : zBl := fun jp K => oNLC 1 2147483657 zgeN zltN zn1_ge zn1_lt (jp 3) (jp 2)
theorem s_X2_variable_1 (d : Nat) : zPb l G gh (d + 1) n_X2_variable p_X2_variable 4 b_X2_variable_1 := fun K jp hj =>
    z_nLC_ge (i := 1) (c0 := 2147483657) (a1 := 1) (a2 := 2) (off := 12) (tgt := 19) (zLd_n (n := 1) (i := 1) (zd (i := .iload_n 1) (n := 1) (by decide +kernel)) rfl) (zCn_b (n := 9) (zd (i := .bipush (9)) (n := 2) (by decide +kernel)) (by decide +kernel)) (zd (i := .if_icmp .ge (12)) (n := 3) (by decide +kernel)) (by decide +kernel) (zj (hj 3) (by decide +kernel)) (zj (hj 2) (by decide +kernel))
noncomputable def b_X2_variable_2 : zBl := fun jp K => oAld 0 <| oGetR 2 4 <| oIld 1 <| oXald 10 <| jp 4
theorem s_X2_variable_2 (d : Nat) : zPb l G gh (d + 1) n_X2_variable p_X2_variable 10 b_X2_variable_2 := fun K jp hj =>
    z_aload_n (n := 0) (i := 0) (zd (i := .aload_n 0) (n := 1) (by decide +kernel)) rfl <|
    z_getR (ci := 2) (j := 4) (idx := 25) (zd (i := .getfield 25) (n := 3) (by decide +kernel)) (by decide +kernel) (by decide +kernel) rfl g241 <|
    z_iload_n (n := 1) (i := 1) (zd (i := .iload_n 1) (n := 1) (by decide +kernel)) rfl <|
    z_iald (zd (i := .iaload) (n := 1) (by decide +kernel)) <|
    z_goto (off := 4) (tgt := 20) (zd (i := .goto (4)) (n := 3) (by decide +kernel)) (by decide +kernel) (zj (hj 4) (by decide +kernel))
noncomputable def b_X2_variable_3 : zBl := fun jp K => oInt 2147483648 <| jp 4
theorem s_X2_variable_3 (d : Nat) : zPb l G gh (d + 1) n_X2_variable p_X2_variable 19 b_X2_variable_3 := fun K jp hj =>
    z_iconst (n := 0) (zd (i := .iconst (0)) (n := 1) (by decide +kernel)) (by decide +kernel) <|
    (zj (hj 4) (by decide +kernel))
noncomputable def b_X2_variable_4 : zBl := fun jp K => oIret K
theorem s_X2_variable_4 (d : Nat) : zPb l G gh (d + 1) n_X2_variable p_X2_variable 20 b_X2_variable_4 := fun K jp hj =>
    z_iret (zd (i := .ireturn) (n := 1) (by decide +kernel)) rfl
noncomputable def t_X2_variable : List zBl := [b_X2_variable_0, b_X2_variable_1, b_X2_variable_2, b_X2_variable_3, b_X2_variable_4]
theorem tt_X2_variable (d : Nat) : zT (zPb l G gh (d + 1) n_X2_variable p_X2_variable) t_X2_variable p_X2_variable := ⟨s_X2_variable_0 d, s_X2_variable_1 d, s_X2_variable_2 d, s_X2_variable_3 d, s_X2_variable_4 d, trivial⟩
noncomputable def f_X2_variable : zMt := zmet 2 t_X2_variable
theorem c_X2_variable (d : Nat) : zC l G gh (d + 1) n_X2_variable f_X2_variable := zmet_ok (pcs := p_X2_variable) (by decide) rfl rfl (tt_X2_variable d)
def n_X2_joined : qMn := (yX2_joined, cX2_joined, 3, (some Jvm.ClassFile.FieldType.int), 0, 0)
theorem to_X2_joined : qTo n_X2_joined 3 := ⟨g739, g106, ⟨by decide, by decide, by decide +kernel⟩, by decide⟩
def p_X2_joined : List Nat := [0, 28, 32, 36, 40, 44, 48, 51]
noncomputable def b_X2_joined_0 : zBl := fun jp K => oIld 0 <| oTab 2147483650 [jp 1, jp 2, jp 3] (jp 4)
theorem s_X2_joined_0 (d : Nat) : zPb l G gh (d + 1) n_X2_joined p_X2_joined 0 b_X2_joined_0 := fun K jp hj =>
    z_iload_n (n := 0) (i := 0) (zd (i := .iload_n 0) (n := 1) (by decide +kernel)) rfl <|
    z_table (v := 2147483650) (df := 40) (len := 27) (x := 2) (dflt := 39) (lo := 2) (hi := 4) (offs := #[27, 31, 35]) (tgts := [28, 32, 36]) (zd (i := .tableswitch (39) (2) (4) #[27, 31, 35]) (n := 27) (by decide +kernel)) (by decide +kernel) rfl rfl (by decide +kernel) (by decide +kernel) (by decide +kernel) ⟨(zj (hj 1) (by decide +kernel)), (zj (hj 2) (by decide +kernel)), (zj (hj 3) (by decide +kernel)), trivial⟩ (zj (hj 4) (by decide +kernel))
noncomputable def b_X2_joined_1 : zBl := fun jp K => oIld 1 <| oIld 2 <| oB2 zadd <| oIret K
theorem s_X2_joined_1 (d : Nat) : zPb l G gh (d + 1) n_X2_joined p_X2_joined 28 b_X2_joined_1 := fun K jp hj =>
    z_iload_n (n := 1) (i := 1) (zd (i := .iload_n 1) (n := 1) (by decide +kernel)) rfl <|
    z_iload_n (n := 2) (i := 2) (zd (i := .iload_n 2) (n := 1) (by decide +kernel)) rfl <|
    z_iadd (zd (i := .iadd) (n := 1) (by decide +kernel)) <|
    z_iret (zd (i := .ireturn) (n := 1) (by decide +kernel)) rfl
noncomputable def b_X2_joined_2 : zBl := fun jp K => oIld 1 <| oIld 2 <| oB2 zsub <| oIret K
theorem s_X2_joined_2 (d : Nat) : zPb l G gh (d + 1) n_X2_joined p_X2_joined 32 b_X2_joined_2 := fun K jp hj =>
    z_iload_n (n := 1) (i := 1) (zd (i := .iload_n 1) (n := 1) (by decide +kernel)) rfl <|
    z_iload_n (n := 2) (i := 2) (zd (i := .iload_n 2) (n := 1) (by decide +kernel)) rfl <|
    z_isub (zd (i := .isub) (n := 1) (by decide +kernel)) <|
    z_iret (zd (i := .ireturn) (n := 1) (by decide +kernel)) rfl
noncomputable def b_X2_joined_3 : zBl := fun jp K => oIld 1 <| oIld 2 <| oB2 zimul <| oIret K
theorem s_X2_joined_3 (d : Nat) : zPb l G gh (d + 1) n_X2_joined p_X2_joined 36 b_X2_joined_3 := fun K jp hj =>
    z_iload_n (n := 1) (i := 1) (zd (i := .iload_n 1) (n := 1) (by decide +kernel)) rfl <|
    z_iload_n (n := 2) (i := 2) (zd (i := .iload_n 2) (n := 1) (by decide +kernel)) rfl <|
    z_imul (zd (i := .imul) (n := 1) (by decide +kernel)) <|
    z_iret (zd (i := .ireturn) (n := 1) (by decide +kernel)) rfl
noncomputable def bx_joined : zBl := fun _ K => fun lv st ce sl t A => zI (zn zdum lv 1) (fun _ => zI (zn zdum lv 2) (fun _ => zE st (K (some (.inl ztop)) t A)))
theorem sx_joined (d : Nat) : zPb l G gh (d + 1) n_X2_joined p_X2_joined 40 bx_joined := by
  intro K jp hj lv st ce sl t A h lv' st' I L R hl hs hm
  obtain ⟨v1, k1, z1⟩ := zgl_get hl (zI_nd h)
  obtain ⟨c1, x, rfl, -, h⟩ := zI_t h z1
  obtain ⟨v2, k2, z2⟩ := zgl_get hl (zI_nd h)
  obtain ⟨c2, y, rfl, -, h⟩ := zI_t h z2
  obtain ⟨rfl, h⟩ := zE_t h hs
  have fin : ∀ w : Int32, qAb l G (d + 1) n_X2_joined (zQ gh K) 51 lv' [.int w] ce sl t I L R := fun w => q_iret (zd (by decide +kernel)) rfl rfl hm.2.1 hm.2.2 ⟨some (.inl ztop), A, ⟨w, rfl, zin_top w⟩, hm.1, h⟩
  refine q_iload_n (n := 2) (zd (by decide +kernel)) rfl k2 (q_if_ne (off := 7) (tgt := 48) (zd (by decide +kernel)) (by decide) (fun hy => ?_) (fun _ => ?_))
  · exact q_iload_n (n := 1) (zd (by decide +kernel)) rfl k1 (q_iload_n (n := 2) (zd (by decide +kernel)) rfl k2 (q_idiv (zd (by decide +kernel)) hy (fin _)))
  · exact q_iconst (n := 0) (zd (by decide +kernel)) rfl (q_goto (off := 6) (tgt := 51) (zd (by decide +kernel)) (by decide) (fin _))
noncomputable def t_X2_joined : List zBl := [b_X2_joined_0, b_X2_joined_1, b_X2_joined_2, b_X2_joined_3, bx_joined, zfl, zfl, zfl]
theorem tt_X2_joined (d : Nat) : zT (zPb l G gh (d + 1) n_X2_joined p_X2_joined) t_X2_joined p_X2_joined := ⟨s_X2_joined_0 d, s_X2_joined_1 d, s_X2_joined_2 d, s_X2_joined_3 d, sx_joined d, (fun _ _ _ => z_fail), (fun _ _ _ => z_fail), (fun _ _ _ => z_fail), trivial⟩
noncomputable def f_X2_joined : zMt := zmet 3 t_X2_joined
theorem c_X2_joined (d : Nat) : zC l G gh (d + 1) n_X2_joined f_X2_joined := zmet_ok (pcs := p_X2_joined) (by decide) rfl rfl (tt_X2_joined d)
def n_X8_within : qMn := (yX8_within, cX8_within, 3, (some Jvm.ClassFile.FieldType.int), 0, 0)
theorem to_X8_within : qTo n_X8_within 3 := ⟨g742, g97, ⟨by decide, by decide, by decide +kernel⟩, by decide⟩
def p_X8_within : List Nat := [0]
noncomputable def b_X8_within_0 : zBl := fun jp K => oIld 0 <| oIld 1 <| oIld 2 <| oM2 zmin <| oM2 zmax <| oIret K
theorem s_X8_within_0 (d : Nat) : zPb l G gh (d + 1) n_X8_within p_X8_within 0 b_X8_within_0 := fun K jp hj =>
    z_iload_n (n := 0) (i := 0) (zd (i := .iload_n 0) (n := 1) (by decide +kernel)) rfl <|
    z_iload_n (n := 1) (i := 1) (zd (i := .iload_n 1) (n := 1) (by decide +kernel)) rfl <|
    z_iload_n (n := 2) (i := 2) (zd (i := .iload_n 2) (n := 1) (by decide +kernel)) rfl <|
    z_min (idx := 330) (zd (i := .invokestatic 330) (n := 3) (by decide +kernel)) g743 g578 g111 g579 <|
    z_max (idx := 333) (zd (i := .invokestatic 333) (n := 3) (by decide +kernel)) g744 g575 g111 g576 <|
    z_iret (zd (i := .ireturn) (n := 1) (by decide +kernel)) rfl
noncomputable def t_X8_within : List zBl := [b_X8_within_0]
theorem tt_X8_within (d : Nat) : zT (zPb l G gh (d + 1) n_X8_within p_X8_within) t_X8_within p_X8_within := ⟨s_X8_within_0 d, trivial⟩
noncomputable def f_X8_within : zMt := zmet 3 t_X8_within
theorem c_X8_within (d : Nat) : zC l G gh (d + 1) n_X8_within f_X8_within := zmet_ok (pcs := p_X8_within) (by decide) rfl rfl (tt_X8_within d)
def n_X2_aim : qMn := (yX2_aim, cX2_aim, 6, none, 0, 0)
theorem to_X2_aim : qTo n_X2_aim 5 := ⟨g752, g106, ⟨by decide, by decide, by decide +kernel⟩, by decide⟩
def p_X2_aim : List Nat := [0, 55, 76, 80, 81]
noncomputable def b_X2_aim_0 : zBl := fun jp K => oAld 0 <| oGetR 2 4 <| oInt 2147483648 <| oIld 1 <| oInt 2147483672 <| oB2z zirem <| oXast 10 zid <| oAld 0 <| oGetR 2 4 <| oInt 2147483649 <| oIld 1 <| oInt 2147483672 <| oB2z zidiv <| oXast 10 zid <| oAld 0 <| oGetR 2 4 <| oInt 2147483650 <| oIld 2 <| oXast 10 zid <| oAld 0 <| oGetR 2 4 <| oInt 2147483651 <| oIld 4 <| oIld 3 <| oB2 zsub <| oM1 zabs <| oXast 10 zid <| oAld 0 <| oGetR 2 4 <| oInt 2147483652 <| oIld 5 <| oXast 10 zid <| oAld 0 <| oGetR 2 4 <| oInt 2147483653 <| oIld 4 <| jp 1
theorem s_X2_aim_0 (d : Nat) : zPb l G gh (d + 1) n_X2_aim p_X2_aim 0 b_X2_aim_0 := fun K jp hj =>
    z_aload_n (n := 0) (i := 0) (zd (i := .aload_n 0) (n := 1) (by decide +kernel)) rfl <|
    z_getR (ci := 2) (j := 4) (idx := 25) (zd (i := .getfield 25) (n := 3) (by decide +kernel)) (by decide +kernel) (by decide +kernel) rfl g241 <|
    z_iconst (n := 0) (zd (i := .iconst (0)) (n := 1) (by decide +kernel)) (by decide +kernel) <|
    z_iload_n (n := 1) (i := 1) (zd (i := .iload_n 1) (n := 1) (by decide +kernel)) rfl <|
    z_bipush (n := 24) (zd (i := .bipush (24)) (n := 2) (by decide +kernel)) (by decide +kernel) <|
    z_irem (zd (i := .irem) (n := 1) (by decide +kernel)) <|
    z_iast (zd (i := .iastore) (n := 1) (by decide +kernel)) <|
    z_aload_n (n := 0) (i := 0) (zd (i := .aload_n 0) (n := 1) (by decide +kernel)) rfl <|
    z_getR (ci := 2) (j := 4) (idx := 25) (zd (i := .getfield 25) (n := 3) (by decide +kernel)) (by decide +kernel) (by decide +kernel) rfl g241 <|
    z_iconst (n := 1) (zd (i := .iconst (1)) (n := 1) (by decide +kernel)) (by decide +kernel) <|
    z_iload_n (n := 1) (i := 1) (zd (i := .iload_n 1) (n := 1) (by decide +kernel)) rfl <|
    z_bipush (n := 24) (zd (i := .bipush (24)) (n := 2) (by decide +kernel)) (by decide +kernel) <|
    z_idiv (zd (i := .idiv) (n := 1) (by decide +kernel)) <|
    z_iast (zd (i := .iastore) (n := 1) (by decide +kernel)) <|
    z_aload_n (n := 0) (i := 0) (zd (i := .aload_n 0) (n := 1) (by decide +kernel)) rfl <|
    z_getR (ci := 2) (j := 4) (idx := 25) (zd (i := .getfield 25) (n := 3) (by decide +kernel)) (by decide +kernel) (by decide +kernel) rfl g241 <|
    z_iconst (n := 2) (zd (i := .iconst (2)) (n := 1) (by decide +kernel)) (by decide +kernel) <|
    z_iload_n (n := 2) (i := 2) (zd (i := .iload_n 2) (n := 1) (by decide +kernel)) rfl <|
    z_iast (zd (i := .iastore) (n := 1) (by decide +kernel)) <|
    z_aload_n (n := 0) (i := 0) (zd (i := .aload_n 0) (n := 1) (by decide +kernel)) rfl <|
    z_getR (ci := 2) (j := 4) (idx := 25) (zd (i := .getfield 25) (n := 3) (by decide +kernel)) (by decide +kernel) (by decide +kernel) rfl g241 <|
    z_iconst (n := 3) (zd (i := .iconst (3)) (n := 1) (by decide +kernel)) (by decide +kernel) <|
    z_iload (i := 4) (zd (i := .iload 4) (n := 2) (by decide +kernel)) <|
    z_iload_n (n := 3) (i := 3) (zd (i := .iload_n 3) (n := 1) (by decide +kernel)) rfl <|
    z_isub (zd (i := .isub) (n := 1) (by decide +kernel)) <|
    z_abs (idx := 54) (zd (i := .invokestatic 54) (n := 3) (by decide +kernel)) g753 g754 g111 g755 <|
    z_iast (zd (i := .iastore) (n := 1) (by decide +kernel)) <|
    z_aload_n (n := 0) (i := 0) (zd (i := .aload_n 0) (n := 1) (by decide +kernel)) rfl <|
    z_getR (ci := 2) (j := 4) (idx := 25) (zd (i := .getfield 25) (n := 3) (by decide +kernel)) (by decide +kernel) (by decide +kernel) rfl g241 <|
    z_iconst (n := 4) (zd (i := .iconst (4)) (n := 1) (by decide +kernel)) (by decide +kernel) <|
    z_iload (i := 5) (zd (i := .iload 5) (n := 2) (by decide +kernel)) <|
    z_iast (zd (i := .iastore) (n := 1) (by decide +kernel)) <|
    z_aload_n (n := 0) (i := 0) (zd (i := .aload_n 0) (n := 1) (by decide +kernel)) rfl <|
    z_getR (ci := 2) (j := 4) (idx := 25) (zd (i := .getfield 25) (n := 3) (by decide +kernel)) (by decide +kernel) (by decide +kernel) rfl g241 <|
    z_iconst (n := 5) (zd (i := .iconst (5)) (n := 1) (by decide +kernel)) (by decide +kernel) <|
    z_iload (i := 4) (zd (i := .iload 4) (n := 2) (by decide +kernel)) <|
    (zj (hj 1) (by decide +kernel))
noncomputable def b_X2_aim_1 : zBl := fun jp K => oXast 10 zid <| oAld 0 <| oGetR 2 4 <| oInt 2147483654 <| oInt 2147483648 <| oXast 10 zid <| oAld 0 <| oGetR 2 4 <| oInt 2147483655 <| oNLL 4 3 zleN zgtN zn1_le zn2_le zn1_gt zn2_gt (jp 3) (jp 2)
theorem s_X2_aim_1 (d : Nat) : zPb l G gh (d + 1) n_X2_aim p_X2_aim 55 b_X2_aim_1 := fun K jp hj =>
    z_iast (zd (i := .iastore) (n := 1) (by decide +kernel)) <|
    z_aload_n (n := 0) (i := 0) (zd (i := .aload_n 0) (n := 1) (by decide +kernel)) rfl <|
    z_getR (ci := 2) (j := 4) (idx := 25) (zd (i := .getfield 25) (n := 3) (by decide +kernel)) (by decide +kernel) (by decide +kernel) rfl g241 <|
    z_bipush (n := 6) (zd (i := .bipush (6)) (n := 2) (by decide +kernel)) (by decide +kernel) <|
    z_iconst (n := 0) (zd (i := .iconst (0)) (n := 1) (by decide +kernel)) (by decide +kernel) <|
    z_iast (zd (i := .iastore) (n := 1) (by decide +kernel)) <|
    z_aload_n (n := 0) (i := 0) (zd (i := .aload_n 0) (n := 1) (by decide +kernel)) rfl <|
    z_getR (ci := 2) (j := 4) (idx := 25) (zd (i := .getfield 25) (n := 3) (by decide +kernel)) (by decide +kernel) (by decide +kernel) rfl g241 <|
    z_bipush (n := 7) (zd (i := .bipush (7)) (n := 2) (by decide +kernel)) (by decide +kernel) <|
    z_nLL_le (i := 4) (j := 3) (a1 := 2) (a2 := 1) (off := 7) (tgt := 80) (zLd_w (i := 4) (zd (i := .iload 4) (n := 2) (by decide +kernel))) (zLd_n (n := 3) (i := 3) (zd (i := .iload_n 3) (n := 1) (by decide +kernel)) rfl) (zd (i := .if_icmp .le (7)) (n := 3) (by decide +kernel)) (by decide +kernel) (zj (hj 3) (by decide +kernel)) (zj (hj 2) (by decide +kernel))
noncomputable def b_X2_aim_2 : zBl := fun jp K => oInt 2147483649 <| jp 4
theorem s_X2_aim_2 (d : Nat) : zPb l G gh (d + 1) n_X2_aim p_X2_aim 76 b_X2_aim_2 := fun K jp hj =>
    z_iconst (n := 1) (zd (i := .iconst (1)) (n := 1) (by decide +kernel)) (by decide +kernel) <|
    z_goto (off := 4) (tgt := 81) (zd (i := .goto (4)) (n := 3) (by decide +kernel)) (by decide +kernel) (zj (hj 4) (by decide +kernel))
noncomputable def b_X2_aim_3 : zBl := fun jp K => oInt 2147483648 <| jp 4
theorem s_X2_aim_3 (d : Nat) : zPb l G gh (d + 1) n_X2_aim p_X2_aim 80 b_X2_aim_3 := fun K jp hj =>
    z_iconst (n := 0) (zd (i := .iconst (0)) (n := 1) (by decide +kernel)) (by decide +kernel) <|
    (zj (hj 4) (by decide +kernel))
noncomputable def b_X2_aim_4 : zBl := fun jp K => oXast 10 zid <| oAld 0 <| oGetR 2 4 <| oInt 2147483656 <| oIld 3 <| oXast 10 zid <| oVret K
theorem s_X2_aim_4 (d : Nat) : zPb l G gh (d + 1) n_X2_aim p_X2_aim 81 b_X2_aim_4 := fun K jp hj =>
    z_iast (zd (i := .iastore) (n := 1) (by decide +kernel)) <|
    z_aload_n (n := 0) (i := 0) (zd (i := .aload_n 0) (n := 1) (by decide +kernel)) rfl <|
    z_getR (ci := 2) (j := 4) (idx := 25) (zd (i := .getfield 25) (n := 3) (by decide +kernel)) (by decide +kernel) (by decide +kernel) rfl g241 <|
    z_bipush (n := 8) (zd (i := .bipush (8)) (n := 2) (by decide +kernel)) (by decide +kernel) <|
    z_iload_n (n := 3) (i := 3) (zd (i := .iload_n 3) (n := 1) (by decide +kernel)) rfl <|
    z_iast (zd (i := .iastore) (n := 1) (by decide +kernel)) <|
    z_vret (zd (i := .return_) (n := 1) (by decide +kernel)) rfl
noncomputable def t_X2_aim : List zBl := [b_X2_aim_0, b_X2_aim_1, b_X2_aim_2, b_X2_aim_3, b_X2_aim_4]
theorem tt_X2_aim (d : Nat) : zT (zPb l G gh (d + 1) n_X2_aim p_X2_aim) t_X2_aim p_X2_aim := ⟨s_X2_aim_0 d, s_X2_aim_1 d, s_X2_aim_2 d, s_X2_aim_3 d, s_X2_aim_4 d, trivial⟩
def q_X2_aim_0 : List (Nat × Nat) := [(265, zk14), (269, zk15)]
noncomputable def al_X2_aim_0 : zAq := [(none, [(265, zk14), (269, zk16)])]
noncomputable def fm_X2_aim_0 : List zFm := [(0, [], (fun vs => [.inr (.ref 265), .inl 8589934591, .inl 8589934591, .inl 8589934591, .inl 8589934591, .inl 8589934591]), (fun vs => zP q_X2_aim_0), (fun vs => Nat.sub (Nat.add 0 0) 0))]
def bf_X2_aim_0 : List Nat := []
theorem r_X2_aim_0_0 : zbox [] (fun vs => zFrun (zpost (zAlq al_X2_aim_0)) 1000 t_X2_aim fm_X2_aim_0 bf_X2_aim_0 (0, vs)) = true := by decide +kernel
set_option maxRecDepth 100000 in
theorem x_X2_aim_0 (d : Nat) : zS l G gh (d + 1) (zpost (zAlq al_X2_aim_0)) n_X2_aim (zn 0 p_X2_aim 0) (zwc (0, [.inr (.ref 265), .inl 8589934591, .inl 8589934591, .inl 8589934591, .inl 8589934591, .inl 8589934591], zP q_X2_aim_0) 0) := zentry (tt_X2_aim d) fm_X2_aim_0 bf_X2_aim_0 1000 (by decide +kernel) rfl ⟨Nat.zero_lt_succ _, trivial⟩ (fun f hf => match f, hf with
  | 0, _ => fun vs hv => (zbox_t r_X2_aim_0_0) vs hv
  | f + 1, h => absurd (show f + 1 < 1 from h) (Nat.not_lt.mpr (Nat.le_add_left 1 f)))
noncomputable def gs_X2_aim_0 : zMt := zgq false [] 6 [.inr (.ref 265), .inl 8589934591, .inl 8589934591, .inl 8589934591, .inl 8589934591, .inl 8589934591] q_X2_aim_0 al_X2_aim_0
set_option maxRecDepth 100000 in
theorem cs_X2_aim_0 (d : Nat) : zC l G gh (d + 1) n_X2_aim gs_X2_aim_0 := zgq_ok0 (pcs := p_X2_aim) (by decide) rfl rfl (fun a ha => by simp only [al_X2_aim_0, List.mem_cons, List.not_mem_nil, or_false] at ha; rcases ha with rfl <;> decide +kernel) (fun gh => x_X2_aim_0 d) (by decide +kernel)
def q_X2_aim_1 : List (Nat × Nat) := [(15, zk17), (19, zk15)]
noncomputable def al_X2_aim_1 : zAq := [(none, [(15, zk17), (19, zk16)])]
noncomputable def fm_X2_aim_1 : List zFm := [(0, [], (fun vs => [.inr (.ref 15), .inl 8589934591, .inl 8589934591, .inl 8589934591, .inl 8589934591, .inl 8589934591]), (fun vs => zP q_X2_aim_1), (fun vs => Nat.sub (Nat.add 0 0) 0))]
def bf_X2_aim_1 : List Nat := []
theorem r_X2_aim_1_0 : zbox [] (fun vs => zFrun (zpost (zAlq al_X2_aim_1)) 1000 t_X2_aim fm_X2_aim_1 bf_X2_aim_1 (0, vs)) = true := by decide +kernel
set_option maxRecDepth 100000 in
theorem x_X2_aim_1 (d : Nat) : zS l G gh (d + 1) (zpost (zAlq al_X2_aim_1)) n_X2_aim (zn 0 p_X2_aim 0) (zwc (0, [.inr (.ref 15), .inl 8589934591, .inl 8589934591, .inl 8589934591, .inl 8589934591, .inl 8589934591], zP q_X2_aim_1) 0) := zentry (tt_X2_aim d) fm_X2_aim_1 bf_X2_aim_1 1000 (by decide +kernel) rfl ⟨Nat.zero_lt_succ _, trivial⟩ (fun f hf => match f, hf with
  | 0, _ => fun vs hv => (zbox_t r_X2_aim_1_0) vs hv
  | f + 1, h => absurd (show f + 1 < 1 from h) (Nat.not_lt.mpr (Nat.le_add_left 1 f)))
noncomputable def gs_X2_aim_1 : zMt := zgq false [] 6 [.inr (.ref 15), .inl 8589934591, .inl 8589934591, .inl 8589934591, .inl 8589934591, .inl 8589934591] q_X2_aim_1 al_X2_aim_1
set_option maxRecDepth 100000 in
theorem cs_X2_aim_1 (d : Nat) : zC l G gh (d + 1) n_X2_aim gs_X2_aim_1 := zgq_ok0 (pcs := p_X2_aim) (by decide) rfl rfl (fun a ha => by simp only [al_X2_aim_1, List.mem_cons, List.not_mem_nil, or_false] at ha; rcases ha with rfl <;> decide +kernel) (fun gh => x_X2_aim_1 d) (by decide +kernel)
noncomputable def gs_X2_aim : zMt := (zor gs_X2_aim_0 gs_X2_aim_1)
theorem cs_X2_aim (d : Nat) : zC l G gh (d + 1) n_X2_aim gs_X2_aim := (zor_ok (cs_X2_aim_0 d) (cs_X2_aim_1 d))
def n_X8_loanOf : qMn := (yX8_loanOf, cX8_loanOf, 2, (some Jvm.ClassFile.FieldType.int), 0, 0)
theorem to_X8_loanOf : qTo n_X8_loanOf 2 := ⟨g766, g97, ⟨by decide, by decide, by decide +kernel⟩, by decide⟩
def p_X8_loanOf : List Nat := [0]
noncomputable def b_X8_loanOf_0 : zBl := fun jp K => oIld 0 <| oInt 2147483654 <| oB2 zimul <| oIld 1 <| oB2 zadd <| oIret K
theorem s_X8_loanOf_0 (d : Nat) : zPb l G gh (d + 1) n_X8_loanOf p_X8_loanOf 0 b_X8_loanOf_0 := fun K jp hj =>
    z_iload_n (n := 0) (i := 0) (zd (i := .iload_n 0) (n := 1) (by decide +kernel)) rfl <|
    z_bipush (n := 6) (zd (i := .bipush (6)) (n := 2) (by decide +kernel)) (by decide +kernel) <|
    z_imul (zd (i := .imul) (n := 1) (by decide +kernel)) <|
    z_iload_n (n := 1) (i := 1) (zd (i := .iload_n 1) (n := 1) (by decide +kernel)) rfl <|
    z_iadd (zd (i := .iadd) (n := 1) (by decide +kernel)) <|
    z_iret (zd (i := .ireturn) (n := 1) (by decide +kernel)) rfl
noncomputable def t_X8_loanOf : List zBl := [b_X8_loanOf_0]
theorem tt_X8_loanOf (d : Nat) : zT (zPb l G gh (d + 1) n_X8_loanOf p_X8_loanOf) t_X8_loanOf p_X8_loanOf := ⟨s_X8_loanOf_0 d, trivial⟩
noncomputable def f_X8_loanOf : zMt := zmet 2 t_X8_loanOf
theorem c_X8_loanOf (d : Nat) : zC l G gh (d + 1) n_X8_loanOf f_X8_loanOf := zmet_ok (pcs := p_X8_loanOf) (by decide) rfl rfl (tt_X8_loanOf d)
def n_X8_isSeat : qMn := (yX8_isSeat, cX8_isSeat, 2, (some Jvm.ClassFile.FieldType.boolean), 0, 0)
theorem to_X8_isSeat : qTo n_X8_isSeat 1 := ⟨g774, g97, ⟨by decide, by decide, by decide +kernel⟩, by decide⟩
def p_X8_isSeat : List Nat := [0, 4, 15, 19, 20]
noncomputable def b_X8_isSeat_0 : zBl := fun jp K => oNLC 1 2147483648 zltN zgeN zn1_lt zn1_ge (jp 3) (jp 1)
theorem s_X8_isSeat_0 (d : Nat) : zPb l G gh (d + 1) n_X8_isSeat p_X8_isSeat 0 b_X8_isSeat_0 := fun K jp hj =>
    z_nL0_lt (i := 1) (a1 := 1) (off := 18) (tgt := 19) (zLd_n (n := 1) (i := 1) (zd (i := .iload_n 1) (n := 1) (by decide +kernel)) rfl) (zd (i := .ifCond .lt (18)) (n := 3) (by decide +kernel)) (by decide +kernel) (zj (hj 3) (by decide +kernel)) (zj (hj 1) (by decide +kernel))
noncomputable def b_X8_isSeat_1 : zBl := fun jp K => oIld 1 <| oAld 0 <| oGetR 8 12 <| oGetI 0 5 <| oIc zge zlt (jp 3) (jp 2)
theorem s_X8_isSeat_1 (d : Nat) : zPb l G gh (d + 1) n_X8_isSeat p_X8_isSeat 4 b_X8_isSeat_1 := fun K jp hj =>
    z_iload_n (n := 1) (i := 1) (zd (i := .iload_n 1) (n := 1) (by decide +kernel)) rfl <|
    z_aload_n (n := 0) (i := 0) (zd (i := .aload_n 0) (n := 1) (by decide +kernel)) rfl <|
    z_getR (ci := 8) (j := 12) (idx := 71) (zd (i := .getfield 71) (n := 3) (by decide +kernel)) (by decide +kernel) (by decide +kernel) rfl g464 <|
    z_getI (ci := 0) (j := 5) (idx := 230) (zd (i := .getfield 230) (n := 3) (by decide +kernel)) (by decide +kernel) (by decide +kernel) rfl g288 <|
    z_icmp_ge (off := 7) (tgt := 19) (zd (i := .if_icmp .ge (7)) (n := 3) (by decide +kernel)) (by decide +kernel) (zj (hj 3) (by decide +kernel)) (zj (hj 2) (by decide +kernel))
noncomputable def b_X8_isSeat_2 : zBl := fun jp K => oInt 2147483649 <| jp 4
theorem s_X8_isSeat_2 (d : Nat) : zPb l G gh (d + 1) n_X8_isSeat p_X8_isSeat 15 b_X8_isSeat_2 := fun K jp hj =>
    z_iconst (n := 1) (zd (i := .iconst (1)) (n := 1) (by decide +kernel)) (by decide +kernel) <|
    z_goto (off := 4) (tgt := 20) (zd (i := .goto (4)) (n := 3) (by decide +kernel)) (by decide +kernel) (zj (hj 4) (by decide +kernel))
noncomputable def b_X8_isSeat_3 : zBl := fun jp K => oInt 2147483648 <| jp 4
theorem s_X8_isSeat_3 (d : Nat) : zPb l G gh (d + 1) n_X8_isSeat p_X8_isSeat 19 b_X8_isSeat_3 := fun K jp hj =>
    z_iconst (n := 0) (zd (i := .iconst (0)) (n := 1) (by decide +kernel)) (by decide +kernel) <|
    (zj (hj 4) (by decide +kernel))
noncomputable def b_X8_isSeat_4 : zBl := fun jp K => oZret K
theorem s_X8_isSeat_4 (d : Nat) : zPb l G gh (d + 1) n_X8_isSeat p_X8_isSeat 20 b_X8_isSeat_4 := fun K jp hj =>
    z_zret (zd (i := .ireturn) (n := 1) (by decide +kernel)) rfl
noncomputable def t_X8_isSeat : List zBl := [b_X8_isSeat_0, b_X8_isSeat_1, b_X8_isSeat_2, b_X8_isSeat_3, b_X8_isSeat_4]
theorem tt_X8_isSeat (d : Nat) : zT (zPb l G gh (d + 1) n_X8_isSeat p_X8_isSeat) t_X8_isSeat p_X8_isSeat := ⟨s_X8_isSeat_0 d, s_X8_isSeat_1 d, s_X8_isSeat_2 d, s_X8_isSeat_3 d, s_X8_isSeat_4 d, trivial⟩
noncomputable def f_X8_isSeat : zMt := zmet 2 t_X8_isSeat
theorem c_X8_isSeat (d : Nat) : zC l G gh (d + 1) n_X8_isSeat f_X8_isSeat := zmet_ok (pcs := p_X8_isSeat) (by decide) rfl rfl (tt_X8_isSeat d)
def n_X8_isX : qMn := (yX8_isX, cX8_isX, 1, (some Jvm.ClassFile.FieldType.boolean), 0, 0)
theorem to_X8_isX : qTo n_X8_isX 1 := ⟨g807, g97, ⟨by decide, by decide, by decide +kernel⟩, by decide⟩
def p_X8_isX : List Nat := [0, 4, 10, 14, 15]
noncomputable def b_X8_isX_0 : zBl := fun jp K => oNLC 0 2147483648 zltN zgeN zn1_lt zn1_ge (jp 3) (jp 1)
theorem s_X8_isX_0 (d : Nat) : zPb l G gh (d + 1) n_X8_isX p_X8_isX 0 b_X8_isX_0 := fun K jp hj =>
    z_nL0_lt (i := 0) (a1 := 1) (off := 13) (tgt := 14) (zLd_n (n := 0) (i := 0) (zd (i := .iload_n 0) (n := 1) (by decide +kernel)) rfl) (zd (i := .ifCond .lt (13)) (n := 3) (by decide +kernel)) (by decide +kernel) (zj (hj 3) (by decide +kernel)) (zj (hj 1) (by decide +kernel))
noncomputable def b_X8_isX_1 : zBl := fun jp K => oNLC 0 2147483668 zgeN zltN zn1_ge zn1_lt (jp 3) (jp 2)
theorem s_X8_isX_1 (d : Nat) : zPb l G gh (d + 1) n_X8_isX p_X8_isX 4 b_X8_isX_1 := fun K jp hj =>
    z_nLC_ge (i := 0) (c0 := 2147483668) (a1 := 1) (a2 := 2) (off := 7) (tgt := 14) (zLd_n (n := 0) (i := 0) (zd (i := .iload_n 0) (n := 1) (by decide +kernel)) rfl) (zCn_b (n := 20) (zd (i := .bipush (20)) (n := 2) (by decide +kernel)) (by decide +kernel)) (zd (i := .if_icmp .ge (7)) (n := 3) (by decide +kernel)) (by decide +kernel) (zj (hj 3) (by decide +kernel)) (zj (hj 2) (by decide +kernel))
noncomputable def b_X8_isX_2 : zBl := fun jp K => oInt 2147483649 <| jp 4
theorem s_X8_isX_2 (d : Nat) : zPb l G gh (d + 1) n_X8_isX p_X8_isX 10 b_X8_isX_2 := fun K jp hj =>
    z_iconst (n := 1) (zd (i := .iconst (1)) (n := 1) (by decide +kernel)) (by decide +kernel) <|
    z_goto (off := 4) (tgt := 15) (zd (i := .goto (4)) (n := 3) (by decide +kernel)) (by decide +kernel) (zj (hj 4) (by decide +kernel))
noncomputable def b_X8_isX_3 : zBl := fun jp K => oInt 2147483648 <| jp 4
theorem s_X8_isX_3 (d : Nat) : zPb l G gh (d + 1) n_X8_isX p_X8_isX 14 b_X8_isX_3 := fun K jp hj =>
    z_iconst (n := 0) (zd (i := .iconst (0)) (n := 1) (by decide +kernel)) (by decide +kernel) <|
    (zj (hj 4) (by decide +kernel))
noncomputable def b_X8_isX_4 : zBl := fun jp K => oZret K
theorem s_X8_isX_4 (d : Nat) : zPb l G gh (d + 1) n_X8_isX p_X8_isX 15 b_X8_isX_4 := fun K jp hj =>
    z_zret (zd (i := .ireturn) (n := 1) (by decide +kernel)) rfl
noncomputable def t_X8_isX : List zBl := [b_X8_isX_0, b_X8_isX_1, b_X8_isX_2, b_X8_isX_3, b_X8_isX_4]
theorem tt_X8_isX (d : Nat) : zT (zPb l G gh (d + 1) n_X8_isX p_X8_isX) t_X8_isX p_X8_isX := ⟨s_X8_isX_0 d, s_X8_isX_1 d, s_X8_isX_2 d, s_X8_isX_3 d, s_X8_isX_4 d, trivial⟩
noncomputable def f_X8_isX : zMt := zmet 1 t_X8_isX
theorem c_X8_isX (d : Nat) : zC l G gh (d + 1) n_X8_isX f_X8_isX := zmet_ok (pcs := p_X8_isX) (by decide) rfl rfl (tt_X8_isX d)
def n_X4_copy : qMn := (yX4_copy, cX4_copy, 2, none, 0, 0)
theorem to_X4_copy : qTo n_X4_copy 1 := ⟨g843, g107, ⟨by decide, by decide, by decide +kernel⟩, by decide⟩
def p_X4_copy : List Nat := [0, 68]
noncomputable def b_X4_copy_0 : zBl := fun jp K => oAld 0 <| oAld 1 <| oGetI 4 0 <| oPutI 4 0 <| oAld 1 <| oGetR 4 1 <| oInt 2147483648 <| oAld 0 <| oGetR 4 1 <| oInt 2147483648 <| oInt 2147483654 <| oCopyU <| oAld 1 <| oGetR 4 2 <| oInt 2147483648 <| oAld 0 <| oGetR 4 2 <| oInt 2147483648 <| oInt 2147483654 <| oCopyU <| oAld 1 <| oGetR 4 3 <| oInt 2147483648 <| oAld 0 <| oGetR 4 3 <| oInt 2147483648 <| oInt 2147483654 <| oCopyU <| oAld 1 <| oGetR 4 4 <| oInt 2147483648 <| oAld 0 <| oGetR 4 4 <| oInt 2147483648 <| oInt 2147483654 <| oCopyU <| jp 1
theorem s_X4_copy_0 (d : Nat) : zPb l G gh (d + 1) n_X4_copy p_X4_copy 0 b_X4_copy_0 := fun K jp hj =>
    z_aload_n (n := 0) (i := 0) (zd (i := .aload_n 0) (n := 1) (by decide +kernel)) rfl <|
    z_aload_n (n := 1) (i := 1) (zd (i := .aload_n 1) (n := 1) (by decide +kernel)) rfl <|
    z_getI (ci := 4) (j := 0) (idx := 9) (zd (i := .getfield 9) (n := 3) (by decide +kernel)) (by decide +kernel) (by decide +kernel) rfl g367 <|
    z_putI (ci := 4) (j := 0) (idx := 9) (zd (i := .putfield 9) (n := 3) (by decide +kernel)) (by decide +kernel) (by decide +kernel) rfl g367 (Or.inl rfl) <|
    z_aload_n (n := 1) (i := 1) (zd (i := .aload_n 1) (n := 1) (by decide +kernel)) rfl <|
    z_getR (ci := 4) (j := 1) (idx := 15) (zd (i := .getfield 15) (n := 3) (by decide +kernel)) (by decide +kernel) (by decide +kernel) rfl g370 <|
    z_iconst (n := 0) (zd (i := .iconst (0)) (n := 1) (by decide +kernel)) (by decide +kernel) <|
    z_aload_n (n := 0) (i := 0) (zd (i := .aload_n 0) (n := 1) (by decide +kernel)) rfl <|
    z_getR (ci := 4) (j := 1) (idx := 15) (zd (i := .getfield 15) (n := 3) (by decide +kernel)) (by decide +kernel) (by decide +kernel) rfl g370 <|
    z_iconst (n := 0) (zd (i := .iconst (0)) (n := 1) (by decide +kernel)) (by decide +kernel) <|
    z_bipush (n := 6) (zd (i := .bipush (6)) (n := 2) (by decide +kernel)) (by decide +kernel) <|
    z_copyU (idx := 50) (zd (i := .invokestatic 50) (n := 3) (by decide +kernel)) g844 g846 g845 g113 <|
    z_aload_n (n := 1) (i := 1) (zd (i := .aload_n 1) (n := 1) (by decide +kernel)) rfl <|
    z_getR (ci := 4) (j := 2) (idx := 19) (zd (i := .getfield 19) (n := 3) (by decide +kernel)) (by decide +kernel) (by decide +kernel) rfl g373 <|
    z_iconst (n := 0) (zd (i := .iconst (0)) (n := 1) (by decide +kernel)) (by decide +kernel) <|
    z_aload_n (n := 0) (i := 0) (zd (i := .aload_n 0) (n := 1) (by decide +kernel)) rfl <|
    z_getR (ci := 4) (j := 2) (idx := 19) (zd (i := .getfield 19) (n := 3) (by decide +kernel)) (by decide +kernel) (by decide +kernel) rfl g373 <|
    z_iconst (n := 0) (zd (i := .iconst (0)) (n := 1) (by decide +kernel)) (by decide +kernel) <|
    z_bipush (n := 6) (zd (i := .bipush (6)) (n := 2) (by decide +kernel)) (by decide +kernel) <|
    z_copyU (idx := 50) (zd (i := .invokestatic 50) (n := 3) (by decide +kernel)) g844 g846 g845 g113 <|
    z_aload_n (n := 1) (i := 1) (zd (i := .aload_n 1) (n := 1) (by decide +kernel)) rfl <|
    z_getR (ci := 4) (j := 3) (idx := 22) (zd (i := .getfield 22) (n := 3) (by decide +kernel)) (by decide +kernel) (by decide +kernel) rfl g376 <|
    z_iconst (n := 0) (zd (i := .iconst (0)) (n := 1) (by decide +kernel)) (by decide +kernel) <|
    z_aload_n (n := 0) (i := 0) (zd (i := .aload_n 0) (n := 1) (by decide +kernel)) rfl <|
    z_getR (ci := 4) (j := 3) (idx := 22) (zd (i := .getfield 22) (n := 3) (by decide +kernel)) (by decide +kernel) (by decide +kernel) rfl g376 <|
    z_iconst (n := 0) (zd (i := .iconst (0)) (n := 1) (by decide +kernel)) (by decide +kernel) <|
    z_bipush (n := 6) (zd (i := .bipush (6)) (n := 2) (by decide +kernel)) (by decide +kernel) <|
    z_copyU (idx := 50) (zd (i := .invokestatic 50) (n := 3) (by decide +kernel)) g844 g846 g845 g113 <|
    z_aload_n (n := 1) (i := 1) (zd (i := .aload_n 1) (n := 1) (by decide +kernel)) rfl <|
    z_getR (ci := 4) (j := 4) (idx := 25) (zd (i := .getfield 25) (n := 3) (by decide +kernel)) (by decide +kernel) (by decide +kernel) rfl g379 <|
    z_iconst (n := 0) (zd (i := .iconst (0)) (n := 1) (by decide +kernel)) (by decide +kernel) <|
    z_aload_n (n := 0) (i := 0) (zd (i := .aload_n 0) (n := 1) (by decide +kernel)) rfl <|
    z_getR (ci := 4) (j := 4) (idx := 25) (zd (i := .getfield 25) (n := 3) (by decide +kernel)) (by decide +kernel) (by decide +kernel) rfl g379 <|
    z_iconst (n := 0) (zd (i := .iconst (0)) (n := 1) (by decide +kernel)) (by decide +kernel) <|
    z_bipush (n := 6) (zd (i := .bipush (6)) (n := 2) (by decide +kernel)) (by decide +kernel) <|
    z_copyU (idx := 50) (zd (i := .invokestatic 50) (n := 3) (by decide +kernel)) g844 g846 g845 g113 <|
    (zj (hj 1) (by decide +kernel))
noncomputable def b_X4_copy_1 : zBl := fun jp K => oAld 1 <| oGetR 4 5 <| oInt 2147483648 <| oAld 0 <| oGetR 4 5 <| oInt 2147483648 <| oAld 0 <| oGetR 4 5 <| oAlen <| oCopyU <| oAld 1 <| oGetR 4 6 <| oInt 2147483648 <| oAld 0 <| oGetR 4 6 <| oInt 2147483648 <| oAld 0 <| oGetR 4 6 <| oAlen <| oCopyU <| oVret K
theorem s_X4_copy_1 (d : Nat) : zPb l G gh (d + 1) n_X4_copy p_X4_copy 68 b_X4_copy_1 := fun K jp hj =>
    z_aload_n (n := 1) (i := 1) (zd (i := .aload_n 1) (n := 1) (by decide +kernel)) rfl <|
    z_getR (ci := 4) (j := 5) (idx := 28) (zd (i := .getfield 28) (n := 3) (by decide +kernel)) (by decide +kernel) (by decide +kernel) rfl g382 <|
    z_iconst (n := 0) (zd (i := .iconst (0)) (n := 1) (by decide +kernel)) (by decide +kernel) <|
    z_aload_n (n := 0) (i := 0) (zd (i := .aload_n 0) (n := 1) (by decide +kernel)) rfl <|
    z_getR (ci := 4) (j := 5) (idx := 28) (zd (i := .getfield 28) (n := 3) (by decide +kernel)) (by decide +kernel) (by decide +kernel) rfl g382 <|
    z_iconst (n := 0) (zd (i := .iconst (0)) (n := 1) (by decide +kernel)) (by decide +kernel) <|
    z_aload_n (n := 0) (i := 0) (zd (i := .aload_n 0) (n := 1) (by decide +kernel)) rfl <|
    z_getR (ci := 4) (j := 5) (idx := 28) (zd (i := .getfield 28) (n := 3) (by decide +kernel)) (by decide +kernel) (by decide +kernel) rfl g382 <|
    z_alen (zd (i := .arraylength) (n := 1) (by decide +kernel)) <|
    z_copyU (idx := 50) (zd (i := .invokestatic 50) (n := 3) (by decide +kernel)) g844 g846 g845 g113 <|
    z_aload_n (n := 1) (i := 1) (zd (i := .aload_n 1) (n := 1) (by decide +kernel)) rfl <|
    z_getR (ci := 4) (j := 6) (idx := 31) (zd (i := .getfield 31) (n := 3) (by decide +kernel)) (by decide +kernel) (by decide +kernel) rfl g385 <|
    z_iconst (n := 0) (zd (i := .iconst (0)) (n := 1) (by decide +kernel)) (by decide +kernel) <|
    z_aload_n (n := 0) (i := 0) (zd (i := .aload_n 0) (n := 1) (by decide +kernel)) rfl <|
    z_getR (ci := 4) (j := 6) (idx := 31) (zd (i := .getfield 31) (n := 3) (by decide +kernel)) (by decide +kernel) (by decide +kernel) rfl g385 <|
    z_iconst (n := 0) (zd (i := .iconst (0)) (n := 1) (by decide +kernel)) (by decide +kernel) <|
    z_aload_n (n := 0) (i := 0) (zd (i := .aload_n 0) (n := 1) (by decide +kernel)) rfl <|
    z_getR (ci := 4) (j := 6) (idx := 31) (zd (i := .getfield 31) (n := 3) (by decide +kernel)) (by decide +kernel) (by decide +kernel) rfl g385 <|
    z_alen (zd (i := .arraylength) (n := 1) (by decide +kernel)) <|
    z_copyU (idx := 50) (zd (i := .invokestatic 50) (n := 3) (by decide +kernel)) g844 g846 g845 g113 <|
    z_vret (zd (i := .return_) (n := 1) (by decide +kernel)) rfl
noncomputable def t_X4_copy : List zBl := [b_X4_copy_0, b_X4_copy_1]
theorem tt_X4_copy (d : Nat) : zT (zPb l G gh (d + 1) n_X4_copy p_X4_copy) t_X4_copy p_X4_copy := ⟨s_X4_copy_0 d, s_X4_copy_1 d, trivial⟩
noncomputable def f_X4_copy : zMt := zmet 2 t_X4_copy
theorem c_X4_copy (d : Nat) : zC l G gh (d + 1) n_X4_copy f_X4_copy := zmet_ok (pcs := p_X4_copy) (by decide) rfl rfl (tt_X4_copy d)
def n_X8_isAhead : qMn := (yX8_isAhead, cX8_isAhead, 1, (some Jvm.ClassFile.FieldType.boolean), 0, 0)
theorem to_X8_isAhead : qTo n_X8_isAhead 1 := ⟨g864, g97, ⟨by decide, by decide, by decide +kernel⟩, by decide⟩
def p_X8_isAhead : List Nat := [0, 4, 10, 14, 15]
noncomputable def b_X8_isAhead_0 : zBl := fun jp K => oNLC 0 2147483648 zltN zgeN zn1_lt zn1_ge (jp 3) (jp 1)
theorem s_X8_isAhead_0 (d : Nat) : zPb l G gh (d + 1) n_X8_isAhead p_X8_isAhead 0 b_X8_isAhead_0 := fun K jp hj =>
    z_nL0_lt (i := 0) (a1 := 1) (off := 13) (tgt := 14) (zLd_n (n := 0) (i := 0) (zd (i := .iload_n 0) (n := 1) (by decide +kernel)) rfl) (zd (i := .ifCond .lt (13)) (n := 3) (by decide +kernel)) (by decide +kernel) (zj (hj 3) (by decide +kernel)) (zj (hj 1) (by decide +kernel))
noncomputable def b_X8_isAhead_1 : zBl := fun jp K => oNLC 0 2147483696 zgtN zleN zn1_gt zn1_le (jp 3) (jp 2)
theorem s_X8_isAhead_1 (d : Nat) : zPb l G gh (d + 1) n_X8_isAhead p_X8_isAhead 4 b_X8_isAhead_1 := fun K jp hj =>
    z_nLC_gt (i := 0) (c0 := 2147483696) (a1 := 1) (a2 := 2) (off := 7) (tgt := 14) (zLd_n (n := 0) (i := 0) (zd (i := .iload_n 0) (n := 1) (by decide +kernel)) rfl) (zCn_b (n := 48) (zd (i := .bipush (48)) (n := 2) (by decide +kernel)) (by decide +kernel)) (zd (i := .if_icmp .gt (7)) (n := 3) (by decide +kernel)) (by decide +kernel) (zj (hj 3) (by decide +kernel)) (zj (hj 2) (by decide +kernel))
noncomputable def b_X8_isAhead_2 : zBl := fun jp K => oInt 2147483649 <| jp 4
theorem s_X8_isAhead_2 (d : Nat) : zPb l G gh (d + 1) n_X8_isAhead p_X8_isAhead 10 b_X8_isAhead_2 := fun K jp hj =>
    z_iconst (n := 1) (zd (i := .iconst (1)) (n := 1) (by decide +kernel)) (by decide +kernel) <|
    z_goto (off := 4) (tgt := 15) (zd (i := .goto (4)) (n := 3) (by decide +kernel)) (by decide +kernel) (zj (hj 4) (by decide +kernel))
noncomputable def b_X8_isAhead_3 : zBl := fun jp K => oInt 2147483648 <| jp 4
theorem s_X8_isAhead_3 (d : Nat) : zPb l G gh (d + 1) n_X8_isAhead p_X8_isAhead 14 b_X8_isAhead_3 := fun K jp hj =>
    z_iconst (n := 0) (zd (i := .iconst (0)) (n := 1) (by decide +kernel)) (by decide +kernel) <|
    (zj (hj 4) (by decide +kernel))
noncomputable def b_X8_isAhead_4 : zBl := fun jp K => oZret K
theorem s_X8_isAhead_4 (d : Nat) : zPb l G gh (d + 1) n_X8_isAhead p_X8_isAhead 15 b_X8_isAhead_4 := fun K jp hj =>
    z_zret (zd (i := .ireturn) (n := 1) (by decide +kernel)) rfl
noncomputable def t_X8_isAhead : List zBl := [b_X8_isAhead_0, b_X8_isAhead_1, b_X8_isAhead_2, b_X8_isAhead_3, b_X8_isAhead_4]
theorem tt_X8_isAhead (d : Nat) : zT (zPb l G gh (d + 1) n_X8_isAhead p_X8_isAhead) t_X8_isAhead p_X8_isAhead := ⟨s_X8_isAhead_0 d, s_X8_isAhead_1 d, s_X8_isAhead_2 d, s_X8_isAhead_3 d, s_X8_isAhead_4 d, trivial⟩
noncomputable def f_X8_isAhead : zMt := zmet 1 t_X8_isAhead
theorem c_X8_isAhead (d : Nat) : zC l G gh (d + 1) n_X8_isAhead f_X8_isAhead := zmet_ok (pcs := p_X8_isAhead) (by decide) rfl rfl (tt_X8_isAhead d)
def n_X0_stirred : qMn := (yX0_stirred, cX0_stirred, 3, (some Jvm.ClassFile.FieldType.int), 0, 0)
theorem to_X0_stirred : qTo n_X0_stirred 2 := ⟨g878, g105, ⟨by decide, by decide, by decide +kernel⟩, by decide⟩
def p_X0_stirred : List Nat := [0]
noncomputable def b_X0_stirred_0 : zBl := fun jp K => oIld 0 <| oIld 1 <| oB2 zixor <| oInt 3250998893 <| oB2 zimul <| oInt 2147495993 <| oB2 zadd <| oIst 2 <| oIld 2 <| oIld 2 <| oInt 2147483663 <| oB2 ziushr <| oB2 zixor <| oIret K
theorem s_X0_stirred_0 (d : Nat) : zPb l G gh (d + 1) n_X0_stirred p_X0_stirred 0 b_X0_stirred_0 := fun K jp hj =>
    z_iload_n (n := 0) (i := 0) (zd (i := .iload_n 0) (n := 1) (by decide +kernel)) rfl <|
    z_iload_n (n := 1) (i := 1) (zd (i := .iload_n 1) (n := 1) (by decide +kernel)) rfl <|
    z_ixor (zd (i := .ixor) (n := 1) (by decide +kernel)) <|
    z_ldc (n := 94) (zd (i := .ldc 94) (n := 2) (by decide +kernel)) g879 (by decide +kernel) <|
    z_imul (zd (i := .imul) (n := 1) (by decide +kernel)) <|
    z_sipush (n := 12345) (zd (i := .sipush (12345)) (n := 3) (by decide +kernel)) (by decide +kernel) <|
    z_iadd (zd (i := .iadd) (n := 1) (by decide +kernel)) <|
    z_istore_n (n := 2) (i := 2) (zd (i := .istore_n 2) (n := 1) (by decide +kernel)) rfl (by decide +kernel) <|
    z_iload_n (n := 2) (i := 2) (zd (i := .iload_n 2) (n := 1) (by decide +kernel)) rfl <|
    z_iload_n (n := 2) (i := 2) (zd (i := .iload_n 2) (n := 1) (by decide +kernel)) rfl <|
    z_bipush (n := 15) (zd (i := .bipush (15)) (n := 2) (by decide +kernel)) (by decide +kernel) <|
    z_iushr (zd (i := .iushr) (n := 1) (by decide +kernel)) <|
    z_ixor (zd (i := .ixor) (n := 1) (by decide +kernel)) <|
    z_iret (zd (i := .ireturn) (n := 1) (by decide +kernel)) rfl
noncomputable def t_X0_stirred : List zBl := [b_X0_stirred_0]
theorem tt_X0_stirred (d : Nat) : zT (zPb l G gh (d + 1) n_X0_stirred p_X0_stirred) t_X0_stirred p_X0_stirred := ⟨s_X0_stirred_0 d, trivial⟩
noncomputable def f_X0_stirred : zMt := zmet 3 t_X0_stirred
theorem c_X0_stirred (d : Nat) : zC l G gh (d + 1) n_X0_stirred f_X0_stirred := zmet_ok (pcs := p_X0_stirred) (by decide) rfl rfl (tt_X0_stirred d)
def n_X7_put : qMn := (yX7_put, cX7_put, 4, (some Jvm.ClassFile.FieldType.int), 0, 0)
theorem to_X7_put : qTo n_X7_put 3 := ⟨g1029, g109, ⟨by decide, by decide, by decide +kernel⟩, by decide⟩
def p_X7_put : List Nat := [0, 9, 11]
noncomputable def b_X7_put_0 : zBl := fun jp K => oNFC 0 7 0 2147483668 zltN zgeN zn1_lt zn1_ge (jp 2) (jp 1)
theorem s_X7_put_0 (d : Nat) : zPb l G gh (d + 1) n_X7_put p_X7_put 0 b_X7_put_0 := fun K jp hj =>
    z_nFC_lt (r := 0) (ci := 7) (j := 0) (c0 := 2147483668) (a1 := 4) (a2 := 2) (off := 5) (tgt := 11) (zFd_n (n := 0) (r := 0) (ci := 7) (j := 0) (idx := 9) (zd (i := .aload_n 0) (n := 1) (by decide +kernel)) rfl (zd (i := .getfield 9) (n := 3) (by decide +kernel)) (by decide +kernel) (by decide +kernel) rfl g429) (by decide +kernel) rfl (zCn_b (n := 20) (zd (i := .bipush (20)) (n := 2) (by decide +kernel)) (by decide +kernel)) (zd (i := .if_icmp .lt (5)) (n := 3) (by decide +kernel)) (by decide +kernel) (zj (hj 2) (by decide +kernel)) (zj (hj 1) (by decide +kernel))
noncomputable def b_X7_put_1 : zBl := fun jp K => oInt 2147483647 <| oIret K
theorem s_X7_put_1 (d : Nat) : zPb l G gh (d + 1) n_X7_put p_X7_put 9 b_X7_put_1 := fun K jp hj =>
    z_iconst (n := -1) (zd (i := .iconst (-1)) (n := 1) (by decide +kernel)) (by decide +kernel) <|
    z_iret (zd (i := .ireturn) (n := 1) (by decide +kernel)) rfl
noncomputable def b_X7_put_2 : zBl := fun jp K => oAld 0 <| oGetR 7 1 <| oAld 0 <| oGetI 7 0 <| oIld 1 <| oXast 10 zid <| oAld 0 <| oGetR 7 2 <| oAld 0 <| oGetI 7 0 <| oIld 2 <| oXast 10 zid <| oAld 0 <| oGetR 7 3 <| oAld 0 <| oGetI 7 0 <| oIld 3 <| oXast 10 zid <| oAld 0 <| oDup <| oGetI 7 0 <| oInt 2147483649 <| oB2 zadd <| oPutI 7 0 <| oAld 0 <| oGetI 7 0 <| oInt 2147483649 <| oB2 zsub <| oIret K
theorem s_X7_put_2 (d : Nat) : zPb l G gh (d + 1) n_X7_put p_X7_put 11 b_X7_put_2 := fun K jp hj =>
    z_aload_n (n := 0) (i := 0) (zd (i := .aload_n 0) (n := 1) (by decide +kernel)) rfl <|
    z_getR (ci := 7) (j := 1) (idx := 15) (zd (i := .getfield 15) (n := 3) (by decide +kernel)) (by decide +kernel) (by decide +kernel) rfl g431 <|
    z_aload_n (n := 0) (i := 0) (zd (i := .aload_n 0) (n := 1) (by decide +kernel)) rfl <|
    z_getI (ci := 7) (j := 0) (idx := 9) (zd (i := .getfield 9) (n := 3) (by decide +kernel)) (by decide +kernel) (by decide +kernel) rfl g429 <|
    z_iload_n (n := 1) (i := 1) (zd (i := .iload_n 1) (n := 1) (by decide +kernel)) rfl <|
    z_iast (zd (i := .iastore) (n := 1) (by decide +kernel)) <|
    z_aload_n (n := 0) (i := 0) (zd (i := .aload_n 0) (n := 1) (by decide +kernel)) rfl <|
    z_getR (ci := 7) (j := 2) (idx := 19) (zd (i := .getfield 19) (n := 3) (by decide +kernel)) (by decide +kernel) (by decide +kernel) rfl g432 <|
    z_aload_n (n := 0) (i := 0) (zd (i := .aload_n 0) (n := 1) (by decide +kernel)) rfl <|
    z_getI (ci := 7) (j := 0) (idx := 9) (zd (i := .getfield 9) (n := 3) (by decide +kernel)) (by decide +kernel) (by decide +kernel) rfl g429 <|
    z_iload_n (n := 2) (i := 2) (zd (i := .iload_n 2) (n := 1) (by decide +kernel)) rfl <|
    z_iast (zd (i := .iastore) (n := 1) (by decide +kernel)) <|
    z_aload_n (n := 0) (i := 0) (zd (i := .aload_n 0) (n := 1) (by decide +kernel)) rfl <|
    z_getR (ci := 7) (j := 3) (idx := 22) (zd (i := .getfield 22) (n := 3) (by decide +kernel)) (by decide +kernel) (by decide +kernel) rfl g433 <|
    z_aload_n (n := 0) (i := 0) (zd (i := .aload_n 0) (n := 1) (by decide +kernel)) rfl <|
    z_getI (ci := 7) (j := 0) (idx := 9) (zd (i := .getfield 9) (n := 3) (by decide +kernel)) (by decide +kernel) (by decide +kernel) rfl g429 <|
    z_iload_n (n := 3) (i := 3) (zd (i := .iload_n 3) (n := 1) (by decide +kernel)) rfl <|
    z_iast (zd (i := .iastore) (n := 1) (by decide +kernel)) <|
    z_aload_n (n := 0) (i := 0) (zd (i := .aload_n 0) (n := 1) (by decide +kernel)) rfl <|
    z_dup (zd (i := .dup) (n := 1) (by decide +kernel)) <|
    z_getI (ci := 7) (j := 0) (idx := 9) (zd (i := .getfield 9) (n := 3) (by decide +kernel)) (by decide +kernel) (by decide +kernel) rfl g429 <|
    z_iconst (n := 1) (zd (i := .iconst (1)) (n := 1) (by decide +kernel)) (by decide +kernel) <|
    z_iadd (zd (i := .iadd) (n := 1) (by decide +kernel)) <|
    z_putI (ci := 7) (j := 0) (idx := 9) (zd (i := .putfield 9) (n := 3) (by decide +kernel)) (by decide +kernel) (by decide +kernel) rfl g429 (Or.inl rfl) <|
    z_aload_n (n := 0) (i := 0) (zd (i := .aload_n 0) (n := 1) (by decide +kernel)) rfl <|
    z_getI (ci := 7) (j := 0) (idx := 9) (zd (i := .getfield 9) (n := 3) (by decide +kernel)) (by decide +kernel) (by decide +kernel) rfl g429 <|
    z_iconst (n := 1) (zd (i := .iconst (1)) (n := 1) (by decide +kernel)) (by decide +kernel) <|
    z_isub (zd (i := .isub) (n := 1) (by decide +kernel)) <|
    z_iret (zd (i := .ireturn) (n := 1) (by decide +kernel)) rfl
noncomputable def t_X7_put : List zBl := [b_X7_put_0, b_X7_put_1, b_X7_put_2]
theorem tt_X7_put (d : Nat) : zT (zPb l G gh (d + 1) n_X7_put p_X7_put) t_X7_put p_X7_put := ⟨s_X7_put_0 d, s_X7_put_1 d, s_X7_put_2 d, trivial⟩
def q_X7_put_0 : List (Nat × Nat) := [(249, zk18), (250, zk19), (251, zk19), (252, zk19)]
noncomputable def al_X7_put_0 : zAq := [(some (.inl 9223372039002259475), [(249, zk20), (250, zk21), (251, zk21), (252, zk21)])]
noncomputable def fm_X7_put_0 : List zFm := [(0, [], (fun vs => [.inr (.ref 249), .inl 8589934591, .inl 8589934591, .inl 8589934591]), (fun vs => zP q_X7_put_0), (fun vs => Nat.sub (Nat.add 0 0) 0))]
def bf_X7_put_0 : List Nat := []
theorem r_X7_put_0_0 : zbox [] (fun vs => zFrun (zpost (zAlq al_X7_put_0)) 1000 t_X7_put fm_X7_put_0 bf_X7_put_0 (0, vs)) = true := by decide +kernel
set_option maxRecDepth 100000 in
theorem x_X7_put_0 (d : Nat) : zS l G gh (d + 1) (zpost (zAlq al_X7_put_0)) n_X7_put (zn 0 p_X7_put 0) (zwc (0, [.inr (.ref 249), .inl 8589934591, .inl 8589934591, .inl 8589934591], zP q_X7_put_0) 0) := zentry (tt_X7_put d) fm_X7_put_0 bf_X7_put_0 1000 (by decide +kernel) rfl ⟨Nat.zero_lt_succ _, trivial⟩ (fun f hf => match f, hf with
  | 0, _ => fun vs hv => (zbox_t r_X7_put_0_0) vs hv
  | f + 1, h => absurd (show f + 1 < 1 from h) (Nat.not_lt.mpr (Nat.le_add_left 1 f)))
noncomputable def gs_X7_put_0 : zMt := zgq false [] 4 [.inr (.ref 249), .inl 8589934591, .inl 8589934591, .inl 8589934591] q_X7_put_0 al_X7_put_0
set_option maxRecDepth 100000 in
theorem cs_X7_put_0 (d : Nat) : zC l G gh (d + 1) n_X7_put gs_X7_put_0 := zgq_ok0 (pcs := p_X7_put) (by decide) rfl rfl (fun a ha => by simp only [al_X7_put_0, List.mem_cons, List.not_mem_nil, or_false] at ha; rcases ha with rfl <;> decide +kernel) (fun gh => x_X7_put_0 d) (by decide +kernel)
noncomputable def gs_X7_put : zMt := gs_X7_put_0
theorem cs_X7_put (d : Nat) : zC l G gh (d + 1) n_X7_put gs_X7_put := (cs_X7_put_0 d)
def n_X8_forget : qMn := (yX8_forget, cX8_forget, 2, (some Jvm.ClassFile.FieldType.int), 0, 0)
theorem to_X8_forget : qTo n_X8_forget 0 := ⟨g1033, g97, ⟨by decide, by decide, by decide +kernel⟩, by decide⟩
def p_X8_forget : List Nat := [0]
noncomputable def b_X8_forget_0 : zBl := fun jp K => oAld 0 <| oGetR 8 7 <| oGetI 7 0 <| oIst 1 <| oAld 0 <| oGetR 8 7 <| oInt 2147483648 <| oPutI 7 0 <| oIld 1 <| oIret K
theorem s_X8_forget_0 (d : Nat) : zPb l G gh (d + 1) n_X8_forget p_X8_forget 0 b_X8_forget_0 := fun K jp hj =>
    z_aload_n (n := 0) (i := 0) (zd (i := .aload_n 0) (n := 1) (by decide +kernel)) rfl <|
    z_getR (ci := 8) (j := 7) (idx := 51) (zd (i := .getfield 51) (n := 3) (by decide +kernel)) (by decide +kernel) (by decide +kernel) rfl g459 <|
    z_getI (ci := 7) (j := 0) (idx := 114) (zd (i := .getfield 114) (n := 3) (by decide +kernel)) (by decide +kernel) (by decide +kernel) rfl g430 <|
    z_istore_n (n := 1) (i := 1) (zd (i := .istore_n 1) (n := 1) (by decide +kernel)) rfl (by decide +kernel) <|
    z_aload_n (n := 0) (i := 0) (zd (i := .aload_n 0) (n := 1) (by decide +kernel)) rfl <|
    z_getR (ci := 8) (j := 7) (idx := 51) (zd (i := .getfield 51) (n := 3) (by decide +kernel)) (by decide +kernel) (by decide +kernel) rfl g459 <|
    z_iconst (n := 0) (zd (i := .iconst (0)) (n := 1) (by decide +kernel)) (by decide +kernel) <|
    z_putI (ci := 7) (j := 0) (idx := 114) (zd (i := .putfield 114) (n := 3) (by decide +kernel)) (by decide +kernel) (by decide +kernel) rfl g430 (Or.inl rfl) <|
    z_iload_n (n := 1) (i := 1) (zd (i := .iload_n 1) (n := 1) (by decide +kernel)) rfl <|
    z_iret (zd (i := .ireturn) (n := 1) (by decide +kernel)) rfl
noncomputable def t_X8_forget : List zBl := [b_X8_forget_0]
theorem tt_X8_forget (d : Nat) : zT (zPb l G gh (d + 1) n_X8_forget p_X8_forget) t_X8_forget p_X8_forget := ⟨s_X8_forget_0 d, trivial⟩
def q_X8_forget_0 : List (Nat × Nat) := [(0, zk12), (249, zk18)]
noncomputable def al_X8_forget_0 : zAq := [(some (.inl 9223372043297226772), [(0, zk12), (249, zk20)])]
noncomputable def fm_X8_forget_0 : List zFm := [(0, [], (fun vs => [.inr (.ref 0)]), (fun vs => zP q_X8_forget_0), (fun vs => Nat.sub (Nat.add 0 0) 0))]
def bf_X8_forget_0 : List Nat := []
theorem r_X8_forget_0_0 : zbox [] (fun vs => zFrun (zpost (zAlq al_X8_forget_0)) 1000 t_X8_forget fm_X8_forget_0 bf_X8_forget_0 (0, vs)) = true := by decide +kernel
set_option maxRecDepth 100000 in
theorem x_X8_forget_0 (d : Nat) : zS l G gh (d + 1) (zpost (zAlq al_X8_forget_0)) n_X8_forget (zn 0 p_X8_forget 0) (zwc (0, [.inr (.ref 0)], zP q_X8_forget_0) 0) := zentry (tt_X8_forget d) fm_X8_forget_0 bf_X8_forget_0 1000 (by decide +kernel) rfl ⟨Nat.zero_lt_succ _, trivial⟩ (fun f hf => match f, hf with
  | 0, _ => fun vs hv => (zbox_t r_X8_forget_0_0) vs hv
  | f + 1, h => absurd (show f + 1 < 1 from h) (Nat.not_lt.mpr (Nat.le_add_left 1 f)))
noncomputable def gs_X8_forget_0 : zMt := zgq false [] 2 [.inr (.ref 0)] q_X8_forget_0 al_X8_forget_0
set_option maxRecDepth 100000 in
theorem cs_X8_forget_0 (d : Nat) : zC l G gh (d + 1) n_X8_forget gs_X8_forget_0 := zgq_ok0 (pcs := p_X8_forget) (by decide) rfl rfl (fun a ha => by simp only [al_X8_forget_0, List.mem_cons, List.not_mem_nil, or_false] at ha; rcases ha with rfl <;> decide +kernel) (fun gh => x_X8_forget_0 d) (by decide +kernel)
def q_X8_forget_1 : List (Nat × Nat) := [(0, zk13), (249, zk18)]
noncomputable def al_X8_forget_1 : zAq := [(some (.inl 9223372043297226772), [(0, zk13), (249, zk20)])]
noncomputable def fm_X8_forget_1 : List zFm := [(0, [], (fun vs => [.inr (.ref 0)]), (fun vs => zP q_X8_forget_1), (fun vs => Nat.sub (Nat.add 0 0) 0))]
def bf_X8_forget_1 : List Nat := []
theorem r_X8_forget_1_0 : zbox [] (fun vs => zFrun (zpost (zAlq al_X8_forget_1)) 1000 t_X8_forget fm_X8_forget_1 bf_X8_forget_1 (0, vs)) = true := by decide +kernel
set_option maxRecDepth 100000 in
theorem x_X8_forget_1 (d : Nat) : zS l G gh (d + 1) (zpost (zAlq al_X8_forget_1)) n_X8_forget (zn 0 p_X8_forget 0) (zwc (0, [.inr (.ref 0)], zP q_X8_forget_1) 0) := zentry (tt_X8_forget d) fm_X8_forget_1 bf_X8_forget_1 1000 (by decide +kernel) rfl ⟨Nat.zero_lt_succ _, trivial⟩ (fun f hf => match f, hf with
  | 0, _ => fun vs hv => (zbox_t r_X8_forget_1_0) vs hv
  | f + 1, h => absurd (show f + 1 < 1 from h) (Nat.not_lt.mpr (Nat.le_add_left 1 f)))
noncomputable def gs_X8_forget_1 : zMt := zgq false [] 2 [.inr (.ref 0)] q_X8_forget_1 al_X8_forget_1
set_option maxRecDepth 100000 in
theorem cs_X8_forget_1 (d : Nat) : zC l G gh (d + 1) n_X8_forget gs_X8_forget_1 := zgq_ok0 (pcs := p_X8_forget) (by decide) rfl rfl (fun a ha => by simp only [al_X8_forget_1, List.mem_cons, List.not_mem_nil, or_false] at ha; rcases ha with rfl <;> decide +kernel) (fun gh => x_X8_forget_1 d) (by decide +kernel)
noncomputable def gs_X8_forget : zMt := (zor gs_X8_forget_0 gs_X8_forget_1)
theorem cs_X8_forget (d : Nat) : zC l G gh (d + 1) n_X8_forget gs_X8_forget := (zor_ok (cs_X8_forget_0 d) (cs_X8_forget_1 d))
def n_X8_isKnown : qMn := (yX8_isKnown, cX8_isKnown, 2, (some Jvm.ClassFile.FieldType.boolean), 0, 0)
theorem to_X8_isKnown : qTo n_X8_isKnown 1 := ⟨g1041, g97, ⟨by decide, by decide, by decide +kernel⟩, by decide⟩
def p_X8_isKnown : List Nat := [0, 4, 15, 19, 20]
noncomputable def b_X8_isKnown_0 : zBl := fun jp K => oNLC 1 2147483648 zltN zgeN zn1_lt zn1_ge (jp 3) (jp 1)
theorem s_X8_isKnown_0 (d : Nat) : zPb l G gh (d + 1) n_X8_isKnown p_X8_isKnown 0 b_X8_isKnown_0 := fun K jp hj =>
    z_nL0_lt (i := 1) (a1 := 1) (off := 18) (tgt := 19) (zLd_n (n := 1) (i := 1) (zd (i := .iload_n 1) (n := 1) (by decide +kernel)) rfl) (zd (i := .ifCond .lt (18)) (n := 3) (by decide +kernel)) (by decide +kernel) (zj (hj 3) (by decide +kernel)) (zj (hj 1) (by decide +kernel))
noncomputable def b_X8_isKnown_1 : zBl := fun jp K => oIld 1 <| oAld 0 <| oGetR 8 7 <| oGetI 7 0 <| oIc zgt zle (jp 3) (jp 2)
theorem s_X8_isKnown_1 (d : Nat) : zPb l G gh (d + 1) n_X8_isKnown p_X8_isKnown 4 b_X8_isKnown_1 := fun K jp hj =>
    z_iload_n (n := 1) (i := 1) (zd (i := .iload_n 1) (n := 1) (by decide +kernel)) rfl <|
    z_aload_n (n := 0) (i := 0) (zd (i := .aload_n 0) (n := 1) (by decide +kernel)) rfl <|
    z_getR (ci := 8) (j := 7) (idx := 51) (zd (i := .getfield 51) (n := 3) (by decide +kernel)) (by decide +kernel) (by decide +kernel) rfl g459 <|
    z_getI (ci := 7) (j := 0) (idx := 114) (zd (i := .getfield 114) (n := 3) (by decide +kernel)) (by decide +kernel) (by decide +kernel) rfl g430 <|
    z_icmp_gt (off := 7) (tgt := 19) (zd (i := .if_icmp .gt (7)) (n := 3) (by decide +kernel)) (by decide +kernel) (zj (hj 3) (by decide +kernel)) (zj (hj 2) (by decide +kernel))
noncomputable def b_X8_isKnown_2 : zBl := fun jp K => oInt 2147483649 <| jp 4
theorem s_X8_isKnown_2 (d : Nat) : zPb l G gh (d + 1) n_X8_isKnown p_X8_isKnown 15 b_X8_isKnown_2 := fun K jp hj =>
    z_iconst (n := 1) (zd (i := .iconst (1)) (n := 1) (by decide +kernel)) (by decide +kernel) <|
    z_goto (off := 4) (tgt := 20) (zd (i := .goto (4)) (n := 3) (by decide +kernel)) (by decide +kernel) (zj (hj 4) (by decide +kernel))
noncomputable def b_X8_isKnown_3 : zBl := fun jp K => oInt 2147483648 <| jp 4
theorem s_X8_isKnown_3 (d : Nat) : zPb l G gh (d + 1) n_X8_isKnown p_X8_isKnown 19 b_X8_isKnown_3 := fun K jp hj =>
    z_iconst (n := 0) (zd (i := .iconst (0)) (n := 1) (by decide +kernel)) (by decide +kernel) <|
    (zj (hj 4) (by decide +kernel))
noncomputable def b_X8_isKnown_4 : zBl := fun jp K => oZret K
theorem s_X8_isKnown_4 (d : Nat) : zPb l G gh (d + 1) n_X8_isKnown p_X8_isKnown 20 b_X8_isKnown_4 := fun K jp hj =>
    z_zret (zd (i := .ireturn) (n := 1) (by decide +kernel)) rfl
noncomputable def t_X8_isKnown : List zBl := [b_X8_isKnown_0, b_X8_isKnown_1, b_X8_isKnown_2, b_X8_isKnown_3, b_X8_isKnown_4]
theorem tt_X8_isKnown (d : Nat) : zT (zPb l G gh (d + 1) n_X8_isKnown p_X8_isKnown) t_X8_isKnown p_X8_isKnown := ⟨s_X8_isKnown_0 d, s_X8_isKnown_1 d, s_X8_isKnown_2 d, s_X8_isKnown_3 d, s_X8_isKnown_4 d, trivial⟩
noncomputable def f_X8_isKnown : zMt := zmet 2 t_X8_isKnown
theorem c_X8_isKnown (d : Nat) : zC l G gh (d + 1) n_X8_isKnown f_X8_isKnown := zmet_ok (pcs := p_X8_isKnown) (by decide) rfl rfl (tt_X8_isKnown d)
end
