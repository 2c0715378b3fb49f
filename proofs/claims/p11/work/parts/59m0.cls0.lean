section
variable {l : Launch} {G : qG} {gh : zGh}
def p_X5_hasRoom : List Nat := [0, 12, 16, 17]
noncomputable def b_X5_hasRoom_0 : zBl := fun jp K => oAld 0 <| oGetI 5 1 <| oIld 1 <| oB2 zadd <| oInt 2147485648 <| oIc zgt zle (jp 2) (jp 1)
theorem s_X5_hasRoom_0 (d : Nat) : zPb l G gh (d + 1) n_X5_hasRoom p_X5_hasRoom 0 b_X5_hasRoom_0 := fun K jp hj =>
    z_aload_n (n := 0) (i := 0) (zd (i := .aload_n 0) (n := 1) (by decide +kernel)) rfl <|
    z_getI (ci := 5) (j := 1) (idx := 15) (zd (i := .getfield 15) (n := 3) (by decide +kernel)) (by decide +kernel) (by decide +kernel) rfl g130 <|
    z_iload_n (n := 1) (i := 1) (zd (i := .iload_n 1) (n := 1) (by decide +kernel)) rfl <|
    z_iadd (zd (i := .iadd) (n := 1) (by decide +kernel)) <|
    z_sipush (n := 2000) (zd (i := .sipush (2000)) (n := 3) (by decide +kernel)) (by decide +kernel) <|
    z_icmp_gt (off := 7) (tgt := 16) (zd (i := .if_icmp .gt (7)) (n := 3) (by decide +kernel)) (by decide +kernel) (zj (hj 2) (by decide +kernel)) (zj (hj 1) (by decide +kernel))
noncomputable def b_X5_hasRoom_1 : zBl := fun jp K => oInt 2147483649 <| jp 3
theorem s_X5_hasRoom_1 (d : Nat) : zPb l G gh (d + 1) n_X5_hasRoom p_X5_hasRoom 12 b_X5_hasRoom_1 := fun K jp hj =>
    z_iconst (n := 1) (zd (i := .iconst (1)) (n := 1) (by decide +kernel)) (by decide +kernel) <|
    z_goto (off := 4) (tgt := 17) (zd (i := .goto (4)) (n := 3) (by decide +kernel)) (by decide +kernel) (zj (hj 3) (by decide +kernel))
noncomputable def b_X5_hasRoom_2 : zBl := fun jp K => oInt 2147483648 <| jp 3
theorem s_X5_hasRoom_2 (d : Nat) : zPb l G gh (d + 1) n_X5_hasRoom p_X5_hasRoom 16 b_X5_hasRoom_2 := fun K jp hj =>
    z_iconst (n := 0) (zd (i := .iconst (0)) (n := 1) (by decide +kernel)) (by decide +kernel) <|
    (zj (hj 3) (by decide +kernel))
noncomputable def b_X5_hasRoom_3 : zBl := fun jp K => oZret K
theorem s_X5_hasRoom_3 (d : Nat) : zPb l G gh (d + 1) n_X5_hasRoom p_X5_hasRoom 17 b_X5_hasRoom_3 := fun K jp hj =>
    z_zret (zd (i := .ireturn) (n := 1) (by decide +kernel)) rfl
noncomputable def t_X5_hasRoom : List zBl := [b_X5_hasRoom_0, b_X5_hasRoom_1, b_X5_hasRoom_2, b_X5_hasRoom_3]
theorem tt_X5_hasRoom (d : Nat) : zT (zPb l G gh (d + 1) n_X5_hasRoom p_X5_hasRoom) t_X5_hasRoom p_X5_hasRoom := ⟨s_X5_hasRoom_0 d, s_X5_hasRoom_1 d, s_X5_hasRoom_2 d, s_X5_hasRoom_3 d, trivial⟩
noncomputable def f_X5_hasRoom : zMt := zmet 2 t_X5_hasRoom
theorem c_X5_hasRoom (d : Nat) : zC l G gh (d + 1) n_X5_hasRoom f_X5_hasRoom := zmet_ok (pcs := p_X5_hasRoom) (by decide) rfl rfl (tt_X5_hasRoom d)
def p_X5_putWord : List Nat := [0, 3, 7, 17, 46]
noncomputable def b_X5_putWord_0 : zBl := fun jp K => oInt 2147483672 <| oIst 2 <| jp 1
theorem s_X5_putWord_0 (d : Nat) : zPb l G gh (d + 1) n_X5_putWord p_X5_putWord 0 b_X5_putWord_0 := fun K jp hj =>
    z_bipush (n := 24) (zd (i := .bipush (24)) (n := 2) (by decide +kernel)) (by decide +kernel) <|
    z_istore_n (n := 2) (i := 2) (zd (i := .istore_n 2) (n := 1) (by decide +kernel)) rfl (by decide +kernel) <|
    (zj (hj 1) (by decide +kernel))
noncomputable def b_X5_putWord_1 : zBl := fun jp K => oNLC 2 2147483648 zltN zgeN zn1_lt zn1_ge (jp 4) (jp 2)
theorem s_X5_putWord_1 (d : Nat) : zPb l G gh (d + 1) n_X5_putWord p_X5_putWord 3 b_X5_putWord_1 := fun K jp hj =>
    z_nL0_lt (i := 2) (a1 := 1) (off := 42) (tgt := 46) (zLd_n (n := 2) (i := 2) (zd (i := .iload_n 2) (n := 1) (by decide +kernel)) rfl) (zd (i := .ifCond .lt (42)) (n := 3) (by decide +kernel)) (by decide +kernel) (zj (hj 4) (by decide +kernel)) (zj (hj 2) (by decide +kernel))
noncomputable def b_X5_putWord_2 : zBl := fun jp K => oNFC 0 5 1 2147485648 zgeN zltN zn1_ge zn1_lt (jp 4) (jp 3)
theorem s_X5_putWord_2 (d : Nat) : zPb l G gh (d + 1) n_X5_putWord p_X5_putWord 7 b_X5_putWord_2 := fun K jp hj =>
    z_nFC_ge (r := 0) (ci := 5) (j := 1) (c0 := 2147485648) (a1 := 4) (a2 := 3) (off := 32) (tgt := 46) (zFd_n (n := 0) (r := 0) (ci := 5) (j := 1) (idx := 15) (zd (i := .aload_n 0) (n := 1) (by decide +kernel)) rfl (zd (i := .getfield 15) (n := 3) (by decide +kernel)) (by decide +kernel) (by decide +kernel) rfl g130) (by decide +kernel) rfl (zCn_s (n := 2000) (zd (i := .sipush (2000)) (n := 3) (by decide +kernel)) (by decide +kernel)) (zd (i := .if_icmp .ge (32)) (n := 3) (by decide +kernel)) (by decide +kernel) (zj (hj 4) (by decide +kernel)) (zj (hj 3) (by decide +kernel))
noncomputable def b_X5_putWord_3 : zBl := fun jp K => oAld 0 <| oGetR 5 0 <| oAld 0 <| oGetI 5 1 <| oIld 1 <| oIld 2 <| oB2 zishr <| oU zi2b <| oXast 11 znb <| oAld 0 <| oDup <| oGetI 5 1 <| oInt 2147483649 <| oB2 zadd <| oPutI 5 1 <| oInc 2 2147483640 <| jp 1
theorem s_X5_putWord_3 (d : Nat) : zPb l G gh (d + 1) n_X5_putWord p_X5_putWord 17 b_X5_putWord_3 := fun K jp hj =>
    z_aload_n (n := 0) (i := 0) (zd (i := .aload_n 0) (n := 1) (by decide +kernel)) rfl <|
    z_getR (ci := 5) (j := 0) (idx := 11) (zd (i := .getfield 11) (n := 3) (by decide +kernel)) (by decide +kernel) (by decide +kernel) rfl g129 <|
    z_aload_n (n := 0) (i := 0) (zd (i := .aload_n 0) (n := 1) (by decide +kernel)) rfl <|
    z_getI (ci := 5) (j := 1) (idx := 15) (zd (i := .getfield 15) (n := 3) (by decide +kernel)) (by decide +kernel) (by decide +kernel) rfl g130 <|
    z_iload_n (n := 1) (i := 1) (zd (i := .iload_n 1) (n := 1) (by decide +kernel)) rfl <|
    z_iload_n (n := 2) (i := 2) (zd (i := .iload_n 2) (n := 1) (by decide +kernel)) rfl <|
    z_ishr (zd (i := .ishr) (n := 1) (by decide +kernel)) <|
    z_i2b (zd (i := .i2b) (n := 1) (by decide +kernel)) <|
    z_bast (zd (i := .bastore) (n := 1) (by decide +kernel)) <|
    z_aload_n (n := 0) (i := 0) (zd (i := .aload_n 0) (n := 1) (by decide +kernel)) rfl <|
    z_dup (zd (i := .dup) (n := 1) (by decide +kernel)) <|
    z_getI (ci := 5) (j := 1) (idx := 15) (zd (i := .getfield 15) (n := 3) (by decide +kernel)) (by decide +kernel) (by decide +kernel) rfl g130 <|
    z_iconst (n := 1) (zd (i := .iconst (1)) (n := 1) (by decide +kernel)) (by decide +kernel) <|
    z_iadd (zd (i := .iadd) (n := 1) (by decide +kernel)) <|
    z_putI (ci := 5) (j := 1) (idx := 15) (zd (i := .putfield 15) (n := 3) (by decide +kernel)) (by decide +kernel) (by decide +kernel) rfl g130 (Or.inl rfl) <|
    z_iinc (i := 2) (n := -8) (zd (i := .iinc 2 (-8)) (n := 3) (by decide +kernel)) (by decide +kernel) (by decide +kernel) <|
    z_goto (off := -40) (tgt := 3) (zd (i := .goto (-40)) (n := 3) (by decide +kernel)) (by decide +kernel) (zj (hj 1) (by decide +kernel))
noncomputable def b_X5_putWord_4 : zBl := fun jp K => oVret K
theorem s_X5_putWord_4 (d : Nat) : zPb l G gh (d + 1) n_X5_putWord p_X5_putWord 46 b_X5_putWord_4 := fun K jp hj =>
    z_vret (zd (i := .return_) (n := 1) (by decide +kernel)) rfl
noncomputable def t_X5_putWord : List zBl := [b_X5_putWord_0, b_X5_putWord_1, b_X5_putWord_2, b_X5_putWord_3, b_X5_putWord_4]
theorem tt_X5_putWord (d : Nat) : zT (zPb l G gh (d + 1) n_X5_putWord p_X5_putWord) t_X5_putWord p_X5_putWord := ⟨s_X5_putWord_0 d, s_X5_putWord_1 d, s_X5_putWord_2 d, s_X5_putWord_3 d, s_X5_putWord_4 d, trivial⟩
noncomputable def f_X5_putWord : zMt := zmet 3 t_X5_putWord
theorem c_X5_putWord (d : Nat) : zC l G gh (d + 1) n_X5_putWord f_X5_putWord := zmet_ok (pcs := p_X5_putWord) (by decide) rfl rfl (tt_X5_putWord d)
def p_X5_drop : List Nat := [0, 4, 12, 14]
noncomputable def b_X5_drop_0 : zBl := fun jp K => oNLC 1 2147483648 zltN zgeN zn1_lt zn1_ge (jp 2) (jp 1)
theorem s_X5_drop_0 (d : Nat) : zPb l G gh (d + 1) n_X5_drop p_X5_drop 0 b_X5_drop_0 := fun K jp hj =>
    z_nL0_lt (i := 1) (a1 := 1) (off := 11) (tgt := 12) (zLd_n (n := 1) (i := 1) (zd (i := .iload_n 1) (n := 1) (by decide +kernel)) rfl) (zd (i := .ifCond .lt (11)) (n := 3) (by decide +kernel)) (by decide +kernel) (zj (hj 2) (by decide +kernel)) (zj (hj 1) (by decide +kernel))
noncomputable def bx_drop : zBl := fun _ K => fun lv st ce sl t A => zR (zn zdum lv 0) (fun a => zI (zn zdum lv 1) (fun c => bif Nat.beq (ztag (zcell A a)) 5 then (bif Nat.ble 2147483648 (zlo c) then zE st (bif K (some (.inl 2147483648)) t A then K (some (.inl 2147483649)) t (zput A a (zupd (zcf 5 1 (zcell A a)) 1 (Nat.xor (zmkc 2147483648 (zhi (Nat.xor (zraw (zcell A a) 1) 2147483648))) 2147483648))) else false) else false) else false))
theorem sx_drop (d : Nat) : zPb l G gh (d + 1) n_X5_drop p_X5_drop 4 bx_drop := by
  intro K jp hj lv st ce sl t A h lv' st' I L R hl hs hm
  obtain ⟨v0, k0, z0⟩ := zgl_get hl (zRn h)
  obtain ⟨a, rfl, h⟩ := zR_t h z0
  obtain ⟨v1, k1, z1⟩ := zgl_get hl (zI_nd h)
  obtain ⟨c, x, rfl, hx, h⟩ := zI_t h z1
  obtain ⟨b1, h⟩ := zand h
  obtain ⟨b2, h⟩ := zand h
  obtain ⟨rfl, h⟩ := zE_t h hs
  obtain ⟨h3, h4⟩ := zand h
  obtain ⟨f1, f2, f3, f4, f5⟩ := zM_at hm.1 b1 (by omega)
  have g4 := (f5 1).1 (zkd_I (by decide) rfl)
  have hx0 : 2147483648 ≤ zb x := Nat.le_trans (Nat.le_of_ble_eq_true b2) hx.1
  refine q_iload_n (n := 1) (zd (by decide +kernel)) rfl k1 (q_aload_n (n := 0) (zd (by decide +kernel)) rfl k0 rfl (q_getf (ci := 5) (j := 1) (zd (i := .getfield 15) (n := 3) (by decide +kernel)) f2 f3 (by decide) (by decide) g130 ?_))
  refine q_icmp_le (off := 5) (tgt := 14) (zd (by decide +kernel)) (by decide) (fun hle => ?_) (fun _ => q_iconst (n := 0) (zd (by decide +kernel)) rfl (q_iret (zd (by decide +kernel)) rfl rfl hm.2.1 hm.2.2 ⟨some (.inl 2147483648), A, ⟨_, rfl, zin0⟩, hm.1, h3⟩))
  refine q_aload_n (n := 0) (zd (by decide +kernel)) rfl k0 rfl (q_dup (zd (by decide +kernel)) rfl (q_getf (ci := 5) (j := 1) (zd (i := .getfield 15) (n := 3) (by decide +kernel)) f2 f3 (by decide) (by decide) g130 (q_iload_n (n := 1) (zd (by decide +kernel)) rfl k1 (q_isub (zd (by decide +kernel)) (q_puti (ci := 5) (j := 1) (zd (i := .putfield 15) (n := 3) (by decide +kernel)) f2 f3 (by decide) (by decide) g130 (Or.inl rfl) rfl rfl rfl ?_)))))
  refine q_iconst (n := 1) (zd (by decide +kernel)) rfl (q_iret (zd (by decide +kernel)) rfl rfl hm.2.1 hm.2.2 ⟨some (.inl 2147483649), _, ⟨_, rfl, zin_eq (by decide)⟩, zM_setF hm.1 f1 (zkd_I (by decide) rfl) ?_ ?_, h4⟩)
  · exact zmkc_ble (Nat.le_of_ble_eq_true rfl) (zhi_lt _)
  · have hle2 := zle_iff.mp hle
    have e1 := zb_int x
    have e2 := zb_int (I a 1)
    have e3 := zb_int (I a 1 - x)
    have l1 := zb_lt x
    have l2 := zb_lt (I a 1)
    rw [Int32.toInt_sub, Int.bmod_def] at e3
    have g5 := g4.2
    refine zmkc_in (zhi_lt _) ?_ ?_ <;> split at e3 <;> omega
noncomputable def b_X5_drop_2 : zBl := fun jp K => oInt 2147483648 <| oZret K
theorem s_X5_drop_2 (d : Nat) : zPb l G gh (d + 1) n_X5_drop p_X5_drop 12 b_X5_drop_2 := fun K jp hj =>
    z_iconst (n := 0) (zd (i := .iconst (0)) (n := 1) (by decide +kernel)) (by decide +kernel) <|
    z_zret (zd (i := .ireturn) (n := 1) (by decide +kernel)) rfl
noncomputable def t_X5_drop : List zBl := [b_X5_drop_0, bx_drop, b_X5_drop_2, zfl]
theorem tt_X5_drop (d : Nat) : zT (zPb l G gh (d + 1) n_X5_drop p_X5_drop) t_X5_drop p_X5_drop := ⟨s_X5_drop_0 d, sx_drop d, s_X5_drop_2 d, (fun _ _ _ => z_fail), trivial⟩
noncomputable def f_X5_drop : zMt := zmet 2 t_X5_drop
theorem c_X5_drop (d : Nat) : zC l G gh (d + 1) n_X5_drop f_X5_drop := zmet_ok (pcs := p_X5_drop) (by decide) rfl rfl (tt_X5_drop d)
def p_X8_place : List Nat := [0]
noncomputable def b_X8_place_0 : zBl := fun jp K => oAld 0 <| oGetI 8 13 <| oIret K
theorem s_X8_place_0 (d : Nat) : zPb l G gh (d + 1) n_X8_place p_X8_place 0 b_X8_place_0 := fun K jp hj =>
    z_aload_n (n := 0) (i := 0) (zd (i := .aload_n 0) (n := 1) (by decide +kernel)) rfl <|
    z_getI (ci := 8) (j := 13) (idx := 75) (zd (i := .getfield 75) (n := 3) (by decide +kernel)) (by decide +kernel) (by decide +kernel) rfl g465 <|
    z_iret (zd (i := .ireturn) (n := 1) (by decide +kernel)) rfl
noncomputable def t_X8_place : List zBl := [b_X8_place_0]
theorem tt_X8_place (d : Nat) : zT (zPb l G gh (d + 1) n_X8_place p_X8_place) t_X8_place p_X8_place := ⟨s_X8_place_0 d, trivial⟩
def q_X8_place_0 : List (Nat × Nat) := [(0, zk0)]
noncomputable def al_X8_place_0 : zAq := [(some (.inl 8589934591), [(0, zk0)])]
noncomputable def fm_X8_place_0 : List zFm := [(0, [], (fun vs => [.inr (.ref 0)]), (fun vs => zP q_X8_place_0), (fun vs => Nat.sub (Nat.add 0 0) 0))]
def bf_X8_place_0 : List Nat := []
theorem r_X8_place_0_0 : zbox [] (fun vs => zFrun (zpost (zAlq al_X8_place_0)) 1000 t_X8_place fm_X8_place_0 bf_X8_place_0 (0, vs)) = true := by decide +kernel
set_option maxRecDepth 100000 in
theorem x_X8_place_0 (d : Nat) : zS l G gh (d + 1) (zpost (zAlq al_X8_place_0)) n_X8_place (zn 0 p_X8_place 0) (zwc (0, [.inr (.ref 0)], zP q_X8_place_0) 0) := zentry (tt_X8_place d) fm_X8_place_0 bf_X8_place_0 1000 (by decide +kernel) rfl ⟨Nat.zero_lt_succ _, trivial⟩ (fun f hf => match f, hf with
  | 0, _ => fun vs hv => (zbox_t r_X8_place_0_0) vs hv
  | f + 1, h => absurd (show f + 1 < 1 from h) (Nat.not_lt.mpr (Nat.le_add_left 1 f)))
noncomputable def gs_X8_place_0 : zMt := zgq false [] 1 [.inr (.ref 0)] q_X8_place_0 al_X8_place_0
set_option maxRecDepth 100000 in
theorem cs_X8_place_0 (d : Nat) : zC l G gh (d + 1) n_X8_place gs_X8_place_0 := zgq_ok0 (pcs := p_X8_place) (by decide) rfl rfl (fun a ha => by simp only [al_X8_place_0, List.mem_cons, List.not_mem_nil, or_false] at ha; rcases ha with rfl <;> decide +kernel) (fun gh => x_X8_place_0 d) (by decide +kernel)
def q_X8_place_1 : List (Nat × Nat) := [(0, zk1)]
noncomputable def al_X8_place_1 : zAq := [(some (.inl 8589934591), [(0, zk1)])]
noncomputable def fm_X8_place_1 : List zFm := [(0, [], (fun vs => [.inr (.ref 0)]), (fun vs => zP q_X8_place_1), (fun vs => Nat.sub (Nat.add 0 0) 0))]
def bf_X8_place_1 : List Nat := []
theorem r_X8_place_1_0 : zbox [] (fun vs => zFrun (zpost (zAlq al_X8_place_1)) 1000 t_X8_place fm_X8_place_1 bf_X8_place_1 (0, vs)) = true := by decide +kernel
set_option maxRecDepth 100000 in
theorem x_X8_place_1 (d : Nat) : zS l G gh (d + 1) (zpost (zAlq al_X8_place_1)) n_X8_place (zn 0 p_X8_place 0) (zwc (0, [.inr (.ref 0)], zP q_X8_place_1) 0) := zentry (tt_X8_place d) fm_X8_place_1 bf_X8_place_1 1000 (by decide +kernel) rfl ⟨Nat.zero_lt_succ _, trivial⟩ (fun f hf => match f, hf with
  | 0, _ => fun vs hv => (zbox_t r_X8_place_1_0) vs hv
  | f + 1, h => absurd (show f + 1 < 1 from h) (Nat.not_lt.mpr (Nat.le_add_left 1 f)))
noncomputable def gs_X8_place_1 : zMt := zgq false [] 1 [.inr (.ref 0)] q_X8_place_1 al_X8_place_1
set_option maxRecDepth 100000 in
theorem cs_X8_place_1 (d : Nat) : zC l G gh (d + 1) n_X8_place gs_X8_place_1 := zgq_ok0 (pcs := p_X8_place) (by decide) rfl rfl (fun a ha => by simp only [al_X8_place_1, List.mem_cons, List.not_mem_nil, or_false] at ha; rcases ha with rfl <;> decide +kernel) (fun gh => x_X8_place_1 d) (by decide +kernel)
noncomputable def gs_X8_place : zMt := (zor gs_X8_place_0 gs_X8_place_1)
theorem cs_X8_place (d : Nat) : zC l G gh (d + 1) n_X8_place gs_X8_place := (zor_ok (cs_X8_place_0 d) (cs_X8_place_1 d))
def p_X8_isThing : List Nat := [0, 4, 15, 19, 20]
noncomputable def b_X8_isThing_0 : zBl := fun jp K => oNLC 1 2147483648 zltN zgeN zn1_lt zn1_ge (jp 3) (jp 1)
theorem s_X8_isThing_0 (d : Nat) : zPb l G gh (d + 1) n_X8_isThing p_X8_isThing 0 b_X8_isThing_0 := fun K jp hj =>
    z_nL0_lt (i := 1) (a1 := 1) (off := 18) (tgt := 19) (zLd_n (n := 1) (i := 1) (zd (i := .iload_n 1) (n := 1) (by decide +kernel)) rfl) (zd (i := .ifCond .lt (18)) (n := 3) (by decide +kernel)) (by decide +kernel) (zj (hj 3) (by decide +kernel)) (zj (hj 1) (by decide +kernel))
noncomputable def b_X8_isThing_1 : zBl := fun jp K => oIld 1 <| oAld 0 <| oGetR 8 12 <| oGetI 0 2 <| oIc zge zlt (jp 3) (jp 2)
theorem s_X8_isThing_1 (d : Nat) : zPb l G gh (d + 1) n_X8_isThing p_X8_isThing 4 b_X8_isThing_1 := fun K jp hj =>
    z_iload_n (n := 1) (i := 1) (zd (i := .iload_n 1) (n := 1) (by decide +kernel)) rfl <|
    z_aload_n (n := 0) (i := 0) (zd (i := .aload_n 0) (n := 1) (by decide +kernel)) rfl <|
    z_getR (ci := 8) (j := 12) (idx := 71) (zd (i := .getfield 71) (n := 3) (by decide +kernel)) (by decide +kernel) (by decide +kernel) rfl g464 <|
    z_getI (ci := 0) (j := 2) (idx := 236) (zd (i := .getfield 236) (n := 3) (by decide +kernel)) (by decide +kernel) (by decide +kernel) rfl g280 <|
    z_icmp_ge (off := 7) (tgt := 19) (zd (i := .if_icmp .ge (7)) (n := 3) (by decide +kernel)) (by decide +kernel) (zj (hj 3) (by decide +kernel)) (zj (hj 2) (by decide +kernel))
noncomputable def b_X8_isThing_2 : zBl := fun jp K => oInt 2147483649 <| jp 4
theorem s_X8_isThing_2 (d : Nat) : zPb l G gh (d + 1) n_X8_isThing p_X8_isThing 15 b_X8_isThing_2 := fun K jp hj =>
    z_iconst (n := 1) (zd (i := .iconst (1)) (n := 1) (by decide +kernel)) (by decide +kernel) <|
    z_goto (off := 4) (tgt := 20) (zd (i := .goto (4)) (n := 3) (by decide +kernel)) (by decide +kernel) (zj (hj 4) (by decide +kernel))
noncomputable def b_X8_isThing_3 : zBl := fun jp K => oInt 2147483648 <| jp 4
theorem s_X8_isThing_3 (d : Nat) : zPb l G gh (d + 1) n_X8_isThing p_X8_isThing 19 b_X8_isThing_3 := fun K jp hj =>
    z_iconst (n := 0) (zd (i := .iconst (0)) (n := 1) (by decide +kernel)) (by decide +kernel) <|
    (zj (hj 4) (by decide +kernel))
noncomputable def b_X8_isThing_4 : zBl := fun jp K => oZret K
theorem s_X8_isThing_4 (d : Nat) : zPb l G gh (d + 1) n_X8_isThing p_X8_isThing 20 b_X8_isThing_4 := fun K jp hj =>
    z_zret (zd (i := .ireturn) (n := 1) (by decide +kernel)) rfl
noncomputable def t_X8_isThing : List zBl := [b_X8_isThing_0, b_X8_isThing_1, b_X8_isThing_2, b_X8_isThing_3, b_X8_isThing_4]
theorem tt_X8_isThing (d : Nat) : zT (zPb l G gh (d + 1) n_X8_isThing p_X8_isThing) t_X8_isThing p_X8_isThing := ⟨s_X8_isThing_0 d, s_X8_isThing_1 d, s_X8_isThing_2 d, s_X8_isThing_3 d, s_X8_isThing_4 d, trivial⟩
noncomputable def f_X8_isThing : zMt := zmet 2 t_X8_isThing
theorem c_X8_isThing (d : Nat) : zC l G gh (d + 1) n_X8_isThing f_X8_isThing := zmet_ok (pcs := p_X8_isThing) (by decide) rfl rfl (tt_X8_isThing d)
def p_X2_clearVars : List Nat := [0, 2, 8, 21]
noncomputable def b_X2_clearVars_0 : zBl := fun jp K => oInt 2147483648 <| oIst 2 <| jp 1
theorem s_X2_clearVars_0 (d : Nat) : zPb l G gh (d + 1) n_X2_clearVars p_X2_clearVars 0 b_X2_clearVars_0 := fun K jp hj =>
    z_iconst (n := 0) (zd (i := .iconst (0)) (n := 1) (by decide +kernel)) (by decide +kernel) <|
    z_istore_n (n := 2) (i := 2) (zd (i := .istore_n 2) (n := 1) (by decide +kernel)) rfl (by decide +kernel) <|
    (zj (hj 1) (by decide +kernel))
noncomputable def b_X2_clearVars_1 : zBl := fun jp K => oNLC 2 2147483657 zgeN zltN zn1_ge zn1_lt (jp 3) (jp 2)
theorem s_X2_clearVars_1 (d : Nat) : zPb l G gh (d + 1) n_X2_clearVars p_X2_clearVars 2 b_X2_clearVars_1 := fun K jp hj =>
    z_nLC_ge (i := 2) (c0 := 2147483657) (a1 := 1) (a2 := 2) (off := 16) (tgt := 21) (zLd_n (n := 2) (i := 2) (zd (i := .iload_n 2) (n := 1) (by decide +kernel)) rfl) (zCn_b (n := 9) (zd (i := .bipush (9)) (n := 2) (by decide +kernel)) (by decide +kernel)) (zd (i := .if_icmp .ge (16)) (n := 3) (by decide +kernel)) (by decide +kernel) (zj (hj 3) (by decide +kernel)) (zj (hj 2) (by decide +kernel))
noncomputable def b_X2_clearVars_2 : zBl := fun jp K => oAld 0 <| oGetR 2 4 <| oIld 2 <| oInt 2147483648 <| oXast 10 zid <| oInc 2 2147483649 <| jp 1
theorem s_X2_clearVars_2 (d : Nat) : zPb l G gh (d + 1) n_X2_clearVars p_X2_clearVars 8 b_X2_clearVars_2 := fun K jp hj =>
    z_aload_n (n := 0) (i := 0) (zd (i := .aload_n 0) (n := 1) (by decide +kernel)) rfl <|
    z_getR (ci := 2) (j := 4) (idx := 25) (zd (i := .getfield 25) (n := 3) (by decide +kernel)) (by decide +kernel) (by decide +kernel) rfl g241 <|
    z_iload_n (n := 2) (i := 2) (zd (i := .iload_n 2) (n := 1) (by decide +kernel)) rfl <|
    z_iconst (n := 0) (zd (i := .iconst (0)) (n := 1) (by decide +kernel)) (by decide +kernel) <|
    z_iast (zd (i := .iastore) (n := 1) (by decide +kernel)) <|
    z_iinc (i := 2) (n := 1) (zd (i := .iinc 2 (1)) (n := 3) (by decide +kernel)) (by decide +kernel) (by decide +kernel) <|
    z_goto (off := -16) (tgt := 2) (zd (i := .goto (-16)) (n := 3) (by decide +kernel)) (by decide +kernel) (zj (hj 1) (by decide +kernel))
noncomputable def b_X2_clearVars_3 : zBl := fun jp K => oAld 0 <| oGetR 2 4 <| oInt 2147483648 <| oIld 1 <| oInt 2147483672 <| oB2z zirem <| oXast 10 zid <| oAld 0 <| oGetR 2 4 <| oInt 2147483649 <| oIld 1 <| oInt 2147483672 <| oB2z zidiv <| oXast 10 zid <| oVret K
theorem s_X2_clearVars_3 (d : Nat) : zPb l G gh (d + 1) n_X2_clearVars p_X2_clearVars 21 b_X2_clearVars_3 := fun K jp hj =>
    z_aload_n (n := 0) (i := 0) (zd (i := .aload_n 0) (n := 1) (by decide +kernel)) rfl <|
    z_getR (ci := 2) (j := 4) (idx := 25) (zd (i := .getfield 25) (n := 3) (by decide +kernel)) (by decide +kernel) (by decide +kernel) rfl g241 <|
    z_iconst (n := 0) (zd (i := .iconst (0)) (n := 1) (by decide +kernel)) (by decide +kernel) <|
    z_iload_n (n := 1) (i := 1) (zd (i := .iload_n 1) (n := 1) (by decide +kernel)) rfl <|
    z_bipush (n := 24) (zd (i := .bipush (24)) (n := 2) (by decide +kernel)) (by decide +kernel) <|
    z_irem (zd (i := .irem) (n := 1) (by decide +kernel)) <|
    z_iast (zd (i := .iastore) (n := 1) (by decide +kernel)) <|
    z_aload_n (n := 0) (i := 0) (zd (i := .aload_n 0) (n := 1) (by decide +kernel)) rfl <|
    z_getR (ci := 2) (j := 4) (idx := 25) (zd (i := .getfield 25) (n := 3) (by decide +kernel)) (by decide +kernel) (by decide +kernel) rfl g241 <|
    z_iconst (n := 1) (zd (i := .iconst (1)) (n := 1) (by decide +kernel)) (by decide +kernel) <|
    z_iload_n (n := 1) (i := 1) (zd (i := .iload_n 1) (n := 1) (by decide +kernel)) rfl <|
    z_bipush (n := 24) (zd (i := .bipush (24)) (n := 2) (by decide +kernel)) (by decide +kernel) <|
    z_idiv (zd (i := .idiv) (n := 1) (by decide +kernel)) <|
    z_iast (zd (i := .iastore) (n := 1) (by decide +kernel)) <|
    z_vret (zd (i := .return_) (n := 1) (by decide +kernel)) rfl
noncomputable def t_X2_clearVars : List zBl := [b_X2_clearVars_0, b_X2_clearVars_1, b_X2_clearVars_2, b_X2_clearVars_3]
theorem tt_X2_clearVars (d : Nat) : zT (zPb l G gh (d + 1) n_X2_clearVars p_X2_clearVars) t_X2_clearVars p_X2_clearVars := ⟨s_X2_clearVars_0 d, s_X2_clearVars_1 d, s_X2_clearVars_2 d, s_X2_clearVars_3 d, trivial⟩
def q_X2_clearVars_0 : List (Nat × Nat) := [(265, zk2), (269, zk3)]
noncomputable def al_X2_clearVars_0 : zAq := [(none, [(265, zk2), (269, zk4)])]
def mq_X2_clearVars_0_1 : List (Nat × Nat) := [(265, zk2), (269, zk4)]
noncomputable def fm_X2_clearVars_0 : List zFm := [(0, [], (fun vs => [.inr (.ref 265), .inl 8589934591]), (fun vs => zP q_X2_clearVars_0), (fun vs => Nat.sub (Nat.add 10 0) 0)),
  (1, [(2, 2147483648, 2147483657)], (fun vs => [.inr (.ref 265), .inl 8589934591, .inl (zn 0 vs 0)]), (fun vs => zP mq_X2_clearVars_0_1), (fun vs => Nat.sub (Nat.add 2147483657 0) (Nat.add 0 (Nat.mul 1 (zn 0 vs 0)))))]
def bf_X2_clearVars_0 : List Nat := [0, 2]
theorem r_X2_clearVars_0_0 : zbox [] (fun vs => zFrun (zpost (zAlq al_X2_clearVars_0)) 1000 t_X2_clearVars fm_X2_clearVars_0 bf_X2_clearVars_0 (0, vs)) = true := by decide +kernel
theorem r_X2_clearVars_0_1 : zbox [(2, 2147483648, 2147483657)] (fun vs => zFrun (zpost (zAlq al_X2_clearVars_0)) 1000 t_X2_clearVars fm_X2_clearVars_0 bf_X2_clearVars_0 (1, vs)) = true := by decide +kernel
set_option maxRecDepth 100000 in
theorem x_X2_clearVars_0 (d : Nat) : zS l G gh (d + 1) (zpost (zAlq al_X2_clearVars_0)) n_X2_clearVars (zn 0 p_X2_clearVars 0) (zwc (0, [.inr (.ref 265), .inl 8589934591], zP q_X2_clearVars_0) 0) := zentry (tt_X2_clearVars d) fm_X2_clearVars_0 bf_X2_clearVars_0 1000 (by decide +kernel) rfl ⟨Nat.zero_lt_succ _, trivial⟩ (fun f hf => match f, hf with
  | 0, _ => fun vs hv => (zbox_t r_X2_clearVars_0_0) vs hv
  | 1, _ => fun vs hv => (zbox_t r_X2_clearVars_0_1) vs hv
  | f + 2, h => absurd (show f + 2 < 2 from h) (Nat.not_lt.mpr (Nat.le_add_left 2 f)))
noncomputable def gs_X2_clearVars_0 : zMt := zgq false [] 3 [.inr (.ref 265), .inl 8589934591] q_X2_clearVars_0 al_X2_clearVars_0
set_option maxRecDepth 100000 in
theorem cs_X2_clearVars_0 (d : Nat) : zC l G gh (d + 1) n_X2_clearVars gs_X2_clearVars_0 := zgq_ok0 (pcs := p_X2_clearVars) (by decide) rfl rfl (fun a ha => by simp only [al_X2_clearVars_0, List.mem_cons, List.not_mem_nil, or_false] at ha; rcases ha with rfl <;> decide +kernel) (fun gh => x_X2_clearVars_0 d) (by decide +kernel)
def q_X2_clearVars_1 : List (Nat × Nat) := [(15, zk5), (19, zk3)]
noncomputable def al_X2_clearVars_1 : zAq := [(none, [(15, zk5), (19, zk4)])]
def mq_X2_clearVars_1_1 : List (Nat × Nat) := [(15, zk5), (19, zk4)]
noncomputable def fm_X2_clearVars_1 : List zFm := [(0, [], (fun vs => [.inr (.ref 15), .inl 8589934591]), (fun vs => zP q_X2_clearVars_1), (fun vs => Nat.sub (Nat.add 10 0) 0)),
  (1, [(2, 2147483648, 2147483657)], (fun vs => [.inr (.ref 15), .inl 8589934591, .inl (zn 0 vs 0)]), (fun vs => zP mq_X2_clearVars_1_1), (fun vs => Nat.sub (Nat.add 2147483657 0) (Nat.add 0 (Nat.mul 1 (zn 0 vs 0)))))]
def bf_X2_clearVars_1 : List Nat := [0, 2]
theorem r_X2_clearVars_1_0 : zbox [] (fun vs => zFrun (zpost (zAlq al_X2_clearVars_1)) 1000 t_X2_clearVars fm_X2_clearVars_1 bf_X2_clearVars_1 (0, vs)) = true := by decide +kernel
theorem r_X2_clearVars_1_1 : zbox [(2, 2147483648, 2147483657)] (fun vs => zFrun (zpost (zAlq al_X2_clearVars_1)) 1000 t_X2_clearVars fm_X2_clearVars_1 bf_X2_clearVars_1 (1, vs)) = true := by decide +kernel
set_option maxRecDepth 100000 in
theorem x_X2_clearVars_1 (d : Nat) : zS l G gh (d + 1) (zpost (zAlq al_X2_clearVars_1)) n_X2_clearVars (zn 0 p_X2_clearVars 0) (zwc (0, [.inr (.ref 15), .inl 8589934591], zP q_X2_clearVars_1) 0) := zentry (tt_X2_clearVars d) fm_X2_clearVars_1 bf_X2_clearVars_1 1000 (by decide +kernel) rfl ⟨Nat.zero_lt_succ _, trivial⟩ (fun f hf => match f, hf with
  | 0, _ => fun vs hv => (zbox_t r_X2_clearVars_1_0) vs hv
  | 1, _ => fun vs hv => (zbox_t r_X2_clearVars_1_1) vs hv
  | f + 2, h => absurd (show f + 2 < 2 from h) (Nat.not_lt.mpr (Nat.le_add_left 2 f)))
noncomputable def gs_X2_clearVars_1 : zMt := zgq false [] 3 [.inr (.ref 15), .inl 8589934591] q_X2_clearVars_1 al_X2_clearVars_1
set_option maxRecDepth 100000 in
theorem cs_X2_clearVars_1 (d : Nat) : zC l G gh (d + 1) n_X2_clearVars gs_X2_clearVars_1 := zgq_ok0 (pcs := p_X2_clearVars) (by decide) rfl rfl (fun a ha => by simp only [al_X2_clearVars_1, List.mem_cons, List.not_mem_nil, or_false] at ha; rcases ha with rfl <;> decide +kernel) (fun gh => x_X2_clearVars_1 d) (by decide +kernel)
noncomputable def gs_X2_clearVars : zMt := (zor gs_X2_clearVars_0 gs_X2_clearVars_1)
theorem cs_X2_clearVars (d : Nat) : zC l G gh (d + 1) n_X2_clearVars gs_X2_clearVars := (zor_ok (cs_X2_clearVars_0 d) (cs_X2_clearVars_1 d))
def p_X2_variable : List Nat := [0, 4, 10, 19, 20]
noncomputable def b_X2_variable_0 : zBl := fun jp K => oNLC 1 2147483648 zltN zgeN zn1_lt zn1_ge (jp 3) (jp 1)
theorem s_X2_variable_0 (d : Nat) : zPb l G gh (d + 1) n_X2_variable p_X2_variable 0 b_X2_variable_0 := fun K jp hj =>
    z_nL0_lt (i := 1) (a1 := 1) (off := 18) (tgt := 19) (zLd_n (n := 1) (i := 1) (zd (i := .iload_n 1) (n := 1) (by decide +kernel)) rfl) (zd (i := .ifCond .lt (18)) (n := 3) (by decide +kernel)) (by decide +kernel) (zj (hj 3) (by decide +kernel)) (zj (hj 1) (by decide +kernel))
noncomputable def b_X2_variable_1 : zBl := fun jp K => oNLC 1 2147483657 zgeN zltN zn1_ge zn1_lt (jp 3) (jp 2)
theorem s_X2_variable_1 (d : Nat) : zPb l G gh (d + 1) n_X2_variable p_X2_variable 4 b_X2_variable_1 := fun K jp hj =>
    z_nLC_ge (i := 1) (c0 := 2147483657) (a1 := 1) (a2 := 2) (off := 12) (tgt := 19) (zLd_n (n := 1) (i := 1) (zd (i := .iload_n 1) (n := 1) (by decide +kernel)) rfl) (zCn_b (n := 9) (zd (i := .bipush (9)) (n := 2) (by decide +kernel)) (by decide +kernel)) (zd (i := .if_icmp .ge (12)) (n := 3) (by decide +kernel)) (by decide +kernel) (zj (hj 3) (by decide +kernel)) (zj (hj 2) (by decide +kernel))
noncomputable def b_X2_variable_2 : zBl := fun jp K => oAld 0 <| oGetR 2 4 <| oIld 1 <| oXald 10 <| jp 4
theorem s_X2_variable_2 (d : Nat) : zPb l G gh (d + 1) n_X2_variable p_X2_variable 10 b_X2_variable_2 := fun K jp hj =>
    z_aload_n (n := 0) (i := 0) (zd (i := .aload_n 0) (n := 1) (by decide +kernel)) rfl <|
    z_getR (ci := 2) (j := 4) (idx := 25) (zd (i := .getfield 25) (n := 3) (by decide +kernel)) (by decide +kernel) (by decide +kernel) rfl g241 <|
    z_iload_n (n := 1) (i := 1) (zd (i := .iload_n 1) (n := 1) (by decide +kernel)) rfl <|
    z_iald (zd (i := .iaload) (n := 1) (by decide +kernel)) <|
    z_goto (off := 4) (tgt := 20) (zd (i := .goto (4)) (n := 3) (by decide +kernel)) (by decide +kernel) (zj (hj 4) (by decide +kernel))
noncomputable def b_X2_variable_3 : zBl := fun jp K => oInt 2147483648 <| jp 4
theorem s_X2_variable_3 (d : Nat) : zPb l G gh (d + 1) n_X2_variable p_X2_variable 19 b_X2_variable_3 := fun K jp hj =>
    z_iconst (n := 0) (zd (i := .iconst (0)) (n := 1) (by decide +kernel)) (by decide +kernel) <|
    (zj (hj 4) (by decide +kernel))
noncomputable def b_X2_variable_4 : zBl := fun jp K => oIret K
theorem s_X2_variable_4 (d : Nat) : zPb l G gh (d + 1) n_X2_variable p_X2_variable 20 b_X2_variable_4 := fun K jp hj =>
    z_iret (zd (i := .ireturn) (n := 1) (by decide +kernel)) rfl
noncomputable def t_X2_variable : List zBl := [b_X2_variable_0, b_X2_variable_1, b_X2_variable_2, b_X2_variable_3, b_X2_variable_4]
theorem tt_X2_variable (d : Nat) : zT (zPb l G gh (d + 1) n_X2_variable p_X2_variable) t_X2_variable p_X2_variable := ⟨s_X2_variable_0 d, s_X2_variable_1 d, s_X2_variable_2 d, s_X2_variable_3 d, s_X2_variable_4 d, trivial⟩
noncomputable def f_X2_variable : zMt := zmet 2 t_X2_variable
theorem c_X2_variable (d : Nat) : zC l G gh (d + 1) n_X2_variable f_X2_variable := zmet_ok (pcs := p_X2_variable) (by decide) rfl rfl (tt_X2_variable d)
def p_X2_joined : List Nat := [0, 28, 32, 36, 40, 44, 48, 51]
noncomputable def b_X2_joined_0 : zBl := fun jp K => oIld 0 <| oTab 2147483650 [jp 1, jp 2, jp 3] (jp 4)
theorem s_X2_joined_0 (d : Nat) : zPb l G gh (d + 1) n_X2_joined p_X2_joined 0 b_X2_joined_0 := fun K jp hj =>
    z_iload_n (n := 0) (i := 0) (zd (i := .iload_n 0) (n := 1) (by decide +kernel)) rfl <|
    z_table (v := 2147483650) (df := 40) (len := 27) (x := 2) (dflt := 39) (lo := 2) (hi := 4) (offs := #[27, 31, 35]) (tgts := [28, 32, 36]) (zd (i := .tableswitch (39) (2) (4) #[27, 31, 35]) (n := 27) (by decide +kernel)) (by decide +kernel) rfl rfl (by decide +kernel) (by decide +kernel) (by decide +kernel) ⟨(zj (hj 1) (by decide +kernel)), (zj (hj 2) (by decide +kernel)), (zj (hj 3) (by decide +kernel)), trivial⟩ (zj (hj 4) (by decide +kernel))
noncomputable def b_X2_joined_1 : zBl := fun jp K => oIld 1 <| oIld 2 <| oB2 zadd <| oIret K
theorem s_X2_joined_1 (d : Nat) : zPb l G gh (d + 1) n_X2_joined p_X2_joined 28 b_X2_joined_1 := fun K jp hj =>
    z_iload_n (n := 1) (i := 1) (zd (i := .iload_n 1) (n := 1) (by decide +kernel)) rfl <|
    z_iload_n (n := 2) (i := 2) (zd (i := .iload_n 2) (n := 1) (by decide +kernel)) rfl <|
    z_iadd (zd (i := .iadd) (n := 1) (by decide +kernel)) <|
    z_iret (zd (i := .ireturn) (n := 1) (by decide +kernel)) rfl
noncomputable def b_X2_joined_2 : zBl := fun jp K => oIld 1 <| oIld 2 <| oB2 zsub <| oIret K
theorem s_X2_joined_2 (d : Nat) : zPb l G gh (d + 1) n_X2_joined p_X2_joined 32 b_X2_joined_2 := fun K jp hj =>
    z_iload_n (n := 1) (i := 1) (zd (i := .iload_n 1) (n := 1) (by decide +kernel)) rfl <|
    z_iload_n (n := 2) (i := 2) (zd (i := .iload_n 2) (n := 1) (by decide +kernel)) rfl <|
    z_isub (zd (i := .isub) (n := 1) (by decide +kernel)) <|
    z_iret (zd (i := .ireturn) (n := 1) (by decide +kernel)) rfl
noncomputable def b_X2_joined_3 : zBl := fun jp K => oIld 1 <| oIld 2 <| oB2 zimul <| oIret K
theorem s_X2_joined_3 (d : Nat) : zPb l G gh (d + 1) n_X2_joined p_X2_joined 36 b_X2_joined_3 := fun K jp hj =>
    z_iload_n (n := 1) (i := 1) (zd (i := .iload_n 1) (n := 1) (by decide +kernel)) rfl <|
    z_iload_n (n := 2) (i := 2) (zd (i := .iload_n 2) (n := 1) (by decide +kernel)) rfl <|
    z_imul (zd (i := .imul) (n := 1) (by decide +kernel)) <|
    z_iret (zd (i := .ireturn) (n := 1) (by decide +kernel)) rfl
noncomputable def bx_joined : zBl := fun _ K => fun lv st ce sl t A => zI (zn zdum lv 1) (fun _ => zI (zn zdum lv 2) (fun _ => zE st (K (some (.inl ztop)) t A)))
theorem sx_joined (d : Nat) : zPb l G gh (d + 1) n_X2_joined p_X2_joined 40 bx_joined := by
  intro K jp hj lv st ce sl t A h lv' st' I L R hl hs hm
  obtain ⟨v1, k1, z1⟩ := zgl_get hl (zI_nd h)
  obtain ⟨c1, x, rfl, -, h⟩ := zI_t h z1
  obtain ⟨v2, k2, z2⟩ := zgl_get hl (zI_nd h)
  obtain ⟨c2, y, rfl, -, h⟩ := zI_t h z2
  obtain ⟨rfl, h⟩ := zE_t h hs
  have fin : ∀ w : Int32, qAb l G (d + 1) n_X2_joined (zQ gh K) 51 lv' [.int w] ce sl t I L R := fun w => q_iret (zd (by decide +kernel)) rfl rfl hm.2.1 hm.2.2 ⟨some (.inl ztop), A, ⟨w, rfl, zin_top w⟩, hm.1, h⟩
  refine q_iload_n (n := 2) (zd (by decide +kernel)) rfl k2 (q_if_ne (off := 7) (tgt := 48) (zd (by decide +kernel)) (by decide) (fun hy => ?_) (fun _ => ?_))
  · exact q_iload_n (n := 1) (zd (by decide +kernel)) rfl k1 (q_iload_n (n := 2) (zd (by decide +kernel)) rfl k2 (q_idiv (zd (by decide +kernel)) hy (fin _)))
  · exact q_iconst (n := 0) (zd (by decide +kernel)) rfl (q_goto (off := 6) (tgt := 51) (zd (by decide +kernel)) (by decide) (fin _))
noncomputable def t_X2_joined : List zBl := [b_X2_joined_0, b_X2_joined_1, b_X2_joined_2, b_X2_joined_3, bx_joined, zfl, zfl, zfl]
theorem tt_X2_joined (d : Nat) : zT (zPb l G gh (d + 1) n_X2_joined p_X2_joined) t_X2_joined p_X2_joined := ⟨s_X2_joined_0 d, s_X2_joined_1 d, s_X2_joined_2 d, s_X2_joined_3 d, sx_joined d, (fun _ _ _ => z_fail), (fun _ _ _ => z_fail), (fun _ _ _ => z_fail), trivial⟩
noncomputable def f_X2_joined : zMt := zmet 3 t_X2_joined
theorem c_X2_joined (d : Nat) : zC l G gh (d + 1) n_X2_joined f_X2_joined := zmet_ok (pcs := p_X2_joined) (by decide) rfl rfl (tt_X2_joined d)
def p_X8_within : List Nat := [0]
noncomputable def b_X8_within_0 : zBl := fun jp K => oIld 0 <| oIld 1 <| oIld 2 <| oM2 zmin <| oM2 zmax <| oIret K
theorem s_X8_within_0 (d : Nat) : zPb l G gh (d + 1) n_X8_within p_X8_within 0 b_X8_within_0 := fun K jp hj =>
    z_iload_n (n := 0) (i := 0) (zd (i := .iload_n 0) (n := 1) (by decide +kernel)) rfl <|
    z_iload_n (n := 1) (i := 1) (zd (i := .iload_n 1) (n := 1) (by decide +kernel)) rfl <|
    z_iload_n (n := 2) (i := 2) (zd (i := .iload_n 2) (n := 1) (by decide +kernel)) rfl <|
    z_min (idx := 330) (zd (i := .invokestatic 330) (n := 3) (by decide +kernel)) g743 g578 g111 g579 <|
    z_max (idx := 333) (zd (i := .invokestatic 333) (n := 3) (by decide +kernel)) g744 g575 g111 g576 <|
    z_iret (zd (i := .ireturn) (n := 1) (by decide +kernel)) rfl
noncomputable def t_X8_within : List zBl := [b_X8_within_0]
theorem tt_X8_within (d : Nat) : zT (zPb l G gh (d + 1) n_X8_within p_X8_within) t_X8_within p_X8_within := ⟨s_X8_within_0 d, trivial⟩
noncomputable def f_X8_within : zMt := zmet 3 t_X8_within
theorem c_X8_within (d : Nat) : zC l G gh (d + 1) n_X8_within f_X8_within := zmet_ok (pcs := p_X8_within) (by decide) rfl rfl (tt_X8_within d)
def p_X2_aim : List Nat := [0, 55, 76, 80, 81]
noncomputable def b_X2_aim_0 : zBl := fun jp K => oAld 0 <| oGetR 2 4 <| oInt 2147483648 <| oIld 1 <| oInt 2147483672 <| oB2z zirem <| oXast 10 zid <| oAld 0 <| oGetR 2 4 <| oInt 2147483649 <| oIld 1 <| oInt 2147483672 <| oB2z zidiv <| oXast 10 zid <| oAld 0 <| oGetR 2 4 <| oInt 2147483650 <| oIld 2 <| oXast 10 zid <| oAld 0 <| oGetR 2 4 <| oInt 2147483651 <| oIld 4 <| oIld 3 <| oB2 zsub <| oM1 zabs <| oXast 10 zid <| oAld 0 <| oGetR 2 4 <| oInt 2147483652 <| oIld 5 <| oXast 10 zid <| oAld 0 <| oGetR 2 4 <| oInt 2147483653 <| oIld 4 <| jp 1
theorem s_X2_aim_0 (d : Nat) : zPb l G gh (d + 1) n_X2_aim p_X2_aim 0 b_X2_aim_0 := fun K jp hj =>
    z_aload_n (n := 0) (i := 0) (zd (i := .aload_n 0) (n := 1) (by decide +kernel)) rfl <|
    z_getR (ci := 2) (j := 4) (idx := 25) (zd (i := .getfield 25) (n := 3) (by decide +kernel)) (by decide +kernel) (by decide +kernel) rfl g241 <|
    z_iconst (n := 0) (zd (i := .iconst (0)) (n := 1) (by decide +kernel)) (by decide +kernel) <|
    z_iload_n (n := 1) (i := 1) (zd (i := .iload_n 1) (n := 1) (by decide +kernel)) rfl <|
    z_bipush (n := 24) (zd (i := .bipush (24)) (n := 2) (by decide +kernel)) (by decide +kernel) <|
    z_irem (zd (i := .irem) (n := 1) (by decide +kernel)) <|
    z_iast (zd (i := .iastore) (n := 1) (by decide +kernel)) <|
    z_aload_n (n := 0) (i := 0) (zd (i := .aload_n 0) (n := 1) (by decide +kernel)) rfl <|
    z_getR (ci := 2) (j := 4) (idx := 25) (zd (i := .getfield 25) (n := 3) (by decide +kernel)) (by decide +kernel) (by decide +kernel) rfl g241 <|
    z_iconst (n := 1) (zd (i := .iconst (1)) (n := 1) (by decide +kernel)) (by decide +kernel) <|
    z_iload_n (n := 1) (i := 1) (zd (i := .iload_n 1) (n := 1) (by decide +kernel)) rfl <|
    z_bipush (n := 24) (zd (i := .bipush (24)) (n := 2) (by decide +kernel)) (by decide +kernel) <|
    z_idiv (zd (i := .idiv) (n := 1) (by decide +kernel)) <|
    z_iast (zd (i := .iastore) (n := 1) (by decide +kernel)) <|
    z_aload_n (n := 0) (i := 0) (zd (i := .aload_n 0) (n := 1) (by decide +kernel)) rfl <|
    z_getR (ci := 2) (j := 4) (idx := 25) (zd (i := .getfield 25) (n := 3) (by decide +kernel)) (by decide +kernel) (by decide +kernel) rfl g241 <|
    z_iconst (n := 2) (zd (i := .iconst (2)) (n := 1) (by decide +kernel)) (by decide +kernel) <|
    z_iload_n (n := 2) (i := 2) (zd (i := .iload_n 2) (n := 1) (by decide +kernel)) rfl <|
    z_iast (zd (i := .iastore) (n := 1) (by decide +kernel)) <|
    z_aload_n (n := 0) (i := 0) (zd (i := .aload_n 0) (n := 1) (by decide +kernel)) rfl <|
    z_getR (ci := 2) (j := 4) (idx := 25) (zd (i := .getfield 25) (n := 3) (by decide +kernel)) (by decide +kernel) (by decide +kernel) rfl g241 <|
    z_iconst (n := 3) (zd (i := .iconst (3)) (n := 1) (by decide +kernel)) (by decide +kernel) <|
    z_iload (i := 4) (zd (i := .iload 4) (n := 2) (by decide +kernel)) <|
    z_iload_n (n := 3) (i := 3) (zd (i := .iload_n 3) (n := 1) (by decide +kernel)) rfl <|
    z_isub (zd (i := .isub) (n := 1) (by decide +kernel)) <|
    z_abs (idx := 54) (zd (i := .invokestatic 54) (n := 3) (by decide +kernel)) g753 g754 g111 g755 <|
    z_iast (zd (i := .iastore) (n := 1) (by decide +kernel)) <|
    z_aload_n (n := 0) (i := 0) (zd (i := .aload_n 0) (n := 1) (by decide +kernel)) rfl <|
    z_getR (ci := 2) (j := 4) (idx := 25) (zd (i := .getfield 25) (n := 3) (by decide +kernel)) (by decide +kernel) (by decide +kernel) rfl g241 <|
    z_iconst (n := 4) (zd (i := .iconst (4)) (n := 1) (by decide +kernel)) (by decide +kernel) <|
    z_iload (i := 5) (zd (i := .iload 5) (n := 2) (by decide +kernel)) <|
    z_iast (zd (i := .iastore) (n := 1) (by decide +kernel)) <|
    z_aload_n (n := 0) (i := 0) (zd (i := .aload_n 0) (n := 1) (by decide +kernel)) rfl <|
    z_getR (ci := 2) (j := 4) (idx := 25) (zd (i := .getfield 25) (n := 3) (by decide +kernel)) (by decide +kernel) (by decide +kernel) rfl g241 <|
    z_iconst (n := 5) (zd (i := .iconst (5)) (n := 1) (by decide +kernel)) (by decide +kernel) <|
    z_iload (i := 4) (zd (i := .iload 4) (n := 2) (by decide +kernel)) <|
    (zj (hj 1) (by decide +kernel))
noncomputable def b_X2_aim_1 : zBl := fun jp K => oXast 10 zid <| oAld 0 <| oGetR 2 4 <| oInt 2147483654 <| oInt 2147483648 <| oXast 10 zid <| oAld 0 <| oGetR 2 4 <| oInt 2147483655 <| oNLL 4 3 zleN zgtN zn1_le zn2_le zn1_gt zn2_gt (jp 3) (jp 2)
theorem s_X2_aim_1 (d : Nat) : zPb l G gh (d + 1) n_X2_aim p_X2_aim 55 b_X2_aim_1 := fun K jp hj =>
    z_iast (zd (i := .iastore) (n := 1) (by decide +kernel)) <|
    z_aload_n (n := 0) (i := 0) (zd (i := .aload_n 0) (n := 1) (by decide +kernel)) rfl <|
    z_getR (ci := 2) (j := 4) (idx := 25) (zd (i := .getfield 25) (n := 3) (by decide +kernel)) (by decide +kernel) (by decide +kernel) rfl g241 <|
    z_bipush (n := 6) (zd (i := .bipush (6)) (n := 2) (by decide +kernel)) (by decide +kernel) <|
    z_iconst (n := 0) (zd (i := .iconst (0)) (n := 1) (by decide +kernel)) (by decide +kernel) <|
    z_iast (zd (i := .iastore) (n := 1) (by decide +kernel)) <|
    z_aload_n (n := 0) (i := 0) (zd (i := .aload_n 0) (n := 1) (by decide +kernel)) rfl <|
    z_getR (ci := 2) (j := 4) (idx := 25) (zd (i := .getfield 25) (n := 3) (by decide +kernel)) (by decide +kernel) (by decide +kernel) rfl g241 <|
    z_bipush (n := 7) (zd (i := .bipush (7)) (n := 2) (by decide +kernel)) (by decide +kernel) <|
    z_nLL_le (i := 4) (j := 3) (a1 := 2) (a2 := 1) (off := 7) (tgt := 80) (zLd_w (i := 4) (zd (i := .iload 4) (n := 2) (by decide +kernel))) (zLd_n (n := 3) (i := 3) (zd (i := .iload_n 3) (n := 1) (by decide +kernel)) rfl) (zd (i := .if_icmp .le (7)) (n := 3) (by decide +kernel)) (by decide +kernel) (zj (hj 3) (by decide +kernel)) (zj (hj 2) (by decide +kernel))
noncomputable def b_X2_aim_2 : zBl := fun jp K => oInt 2147483649 <| jp 4
theorem s_X2_aim_2 (d : Nat) : zPb l G gh (d + 1) n_X2_aim p_X2_aim 76 b_X2_aim_2 := fun K jp hj =>
    z_iconst (n := 1) (zd (i := .iconst (1)) (n := 1) (by decide +kernel)) (by decide +kernel) <|
    z_goto (off := 4) (tgt := 81) (zd (i := .goto (4)) (n := 3) (by decide +kernel)) (by decide +kernel) (zj (hj 4) (by decide +kernel))
noncomputable def b_X2_aim_3 : zBl := fun jp K => oInt 2147483648 <| jp 4
theorem s_X2_aim_3 (d : Nat) : zPb l G gh (d + 1) n_X2_aim p_X2_aim 80 b_X2_aim_3 := fun K jp hj =>
    z_iconst (n := 0) (zd (i := .iconst (0)) (n := 1) (by decide +kernel)) (by decide +kernel) <|
    (zj (hj 4) (by decide +kernel))
noncomputable def b_X2_aim_4 : zBl := fun jp K => oXast 10 zid <| oAld 0 <| oGetR 2 4 <| oInt 2147483656 <| oIld 3 <| oXast 10 zid <| oVret K
theorem s_X2_aim_4 (d : Nat) : zPb l G gh (d + 1) n_X2_aim p_X2_aim 81 b_X2_aim_4 := fun K jp hj =>
    z_iast (zd (i := .iastore) (n := 1) (by decide +kernel)) <|
    z_aload_n (n := 0) (i := 0) (zd (i := .aload_n 0) (n := 1) (by decide +kernel)) rfl <|
    z_getR (ci := 2) (j := 4) (idx := 25) (zd (i := .getfield 25) (n := 3) (by decide +kernel)) (by decide +kernel) (by decide +kernel) rfl g241 <|
    z_bipush (n := 8) (zd (i := .bipush (8)) (n := 2) (by decide +kernel)) (by decide +kernel) <|
    z_iload_n (n := 3) (i := 3) (zd (i := .iload_n 3) (n := 1) (by decide +kernel)) rfl <|
    z_iast (zd (i := .iastore) (n := 1) (by decide +kernel)) <|
    z_vret (zd (i := .return_) (n := 1) (by decide +kernel)) rfl
noncomputable def t_X2_aim : List zBl := [b_X2_aim_0, b_X2_aim_1, b_X2_aim_2, b_X2_aim_3, b_X2_aim_4]
theorem tt_X2_aim (d : Nat) : zT (zPb l G gh (d + 1) n_X2_aim p_X2_aim) t_X2_aim p_X2_aim := ⟨s_X2_aim_0 d, s_X2_aim_1 d, s_X2_aim_2 d, s_X2_aim_3 d, s_X2_aim_4 d, trivial⟩
def q_X2_aim_0 : List (Nat × Nat) := [(265, zk2), (269, zk3)]
noncomputable def al_X2_aim_0 : zAq := [(none, [(265, zk2), (269, zk4)])]
noncomputable def fm_X2_aim_0 : List zFm := [(0, [], (fun vs => [.inr (.ref 265), .inl 8589934591, .inl 8589934591, .inl 8589934591, .inl 8589934591, .inl 8589934591]), (fun vs => zP q_X2_aim_0), (fun vs => Nat.sub (Nat.add 0 0) 0))]
def bf_X2_aim_0 : List Nat := []
theorem r_X2_aim_0_0 : zbox [] (fun vs => zFrun (zpost (zAlq al_X2_aim_0)) 1000 t_X2_aim fm_X2_aim_0 bf_X2_aim_0 (0, vs)) = true := by decide +kernel
set_option maxRecDepth 100000 in
theorem x_X2_aim_0 (d : Nat) : zS l G gh (d + 1) (zpost (zAlq al_X2_aim_0)) n_X2_aim (zn 0 p_X2_aim 0) (zwc (0, [.inr (.ref 265), .inl 8589934591, .inl 8589934591, .inl 8589934591, .inl 8589934591, .inl 8589934591], zP q_X2_aim_0) 0) := zentry (tt_X2_aim d) fm_X2_aim_0 bf_X2_aim_0 1000 (by decide +kernel) rfl ⟨Nat.zero_lt_succ _, trivial⟩ (fun f hf => match f, hf with
  | 0, _ => fun vs hv => (zbox_t r_X2_aim_0_0) vs hv
  | f + 1, h => absurd (show f + 1 < 1 from h) (Nat.not_lt.mpr (Nat.le_add_left 1 f)))
noncomputable def gs_X2_aim_0 : zMt := zgq false [] 6 [.inr (.ref 265), .inl 8589934591, .inl 8589934591, .inl 8589934591, .inl 8589934591, .inl 8589934591] q_X2_aim_0 al_X2_aim_0
set_option maxRecDepth 100000 in
theorem cs_X2_aim_0 (d : Nat) : zC l G gh (d + 1) n_X2_aim gs_X2_aim_0 := zgq_ok0 (pcs := p_X2_aim) (by decide) rfl rfl (fun a ha => by simp only [al_X2_aim_0, List.mem_cons, List.not_mem_nil, or_false] at ha; rcases ha with rfl <;> decide +kernel) (fun gh => x_X2_aim_0 d) (by decide +kernel)
def q_X2_aim_1 : List (Nat × Nat) := [(15, zk5), (19, zk3)]
noncomputable def al_X2_aim_1 : zAq := [(none, [(15, zk5), (19, zk4)])]
noncomputable def fm_X2_aim_1 : List zFm := [(0, [], (fun vs => [.inr (.ref 15), .inl 8589934591, .inl 8589934591, .inl 8589934591, .inl 8589934591, .inl 8589934591]), (fun vs => zP q_X2_aim_1), (fun vs => Nat.sub (Nat.add 0 0) 0))]
def bf_X2_aim_1 : List Nat := []
theorem r_X2_aim_1_0 : zbox [] (fun vs => zFrun (zpost (zAlq al_X2_aim_1)) 1000 t_X2_aim fm_X2_aim_1 bf_X2_aim_1 (0, vs)) = true := by decide +kernel
set_option maxRecDepth 100000 in
theorem x_X2_aim_1 (d : Nat) : zS l G gh (d + 1) (zpost (zAlq al_X2_aim_1)) n_X2_aim (zn 0 p_X2_aim 0) (zwc (0, [.inr (.ref 15), .inl 8589934591, .inl 8589934591, .inl 8589934591, .inl 8589934591, .inl 8589934591], zP q_X2_aim_1) 0) := zentry (tt_X2_aim d) fm_X2_aim_1 bf_X2_aim_1 1000 (by decide +kernel) rfl ⟨Nat.zero_lt_succ _, trivial⟩ (fun f hf => match f, hf with
  | 0, _ => fun vs hv => (zbox_t r_X2_aim_1_0) vs hv
  | f + 1, h => absurd (show f + 1 < 1 from h) (Nat.not_lt.mpr (Nat.le_add_left 1 f)))
noncomputable def gs_X2_aim_1 : zMt := zgq false [] 6 [.inr (.ref 15), .inl 8589934591, .inl 8589934591, .inl 8589934591, .inl 8589934591, .inl 8589934591] q_X2_aim_1 al_X2_aim_1
set_option maxRecDepth 100000 in
theorem cs_X2_aim_1 (d : Nat) : zC l G gh (d + 1) n_X2_aim gs_X2_aim_1 := zgq_ok0 (pcs := p_X2_aim) (by decide) rfl rfl (fun a ha => by simp only [al_X2_aim_1, List.mem_cons, List.not_mem_nil, or_false] at ha; rcases ha with rfl <;> decide +kernel) (fun gh => x_X2_aim_1 d) (by decide +kernel)
noncomputable def gs_X2_aim : zMt := (zor gs_X2_aim_0 gs_X2_aim_1)
theorem cs_X2_aim (d : Nat) : zC l G gh (d + 1) n_X2_aim gs_X2_aim := (zor_ok (cs_X2_aim_0 d) (cs_X2_aim_1 d))
def p_X8_loanOf : List Nat := [0]
noncomputable def b_X8_loanOf_0 : zBl := fun jp K => oIld 0 <| oInt 2147483654 <| oB2 zimul <| oIld 1 <| oB2 zadd <| oIret K
theorem s_X8_loanOf_0 (d : Nat) : zPb l G gh (d + 1) n_X8_loanOf p_X8_loanOf 0 b_X8_loanOf_0 := fun K jp hj =>
    z_iload_n (n := 0) (i := 0) (zd (i := .iload_n 0) (n := 1) (by decide +kernel)) rfl <|
    z_bipush (n := 6) (zd (i := .bipush (6)) (n := 2) (by decide +kernel)) (by decide +kernel) <|
    z_imul (zd (i := .imul) (n := 1) (by decide +kernel)) <|
    z_iload_n (n := 1) (i := 1) (zd (i := .iload_n 1) (n := 1) (by decide +kernel)) rfl <|
    z_iadd (zd (i := .iadd) (n := 1) (by decide +kernel)) <|
    z_iret (zd (i := .ireturn) (n := 1) (by decide +kernel)) rfl
noncomputable def t_X8_loanOf : List zBl := [b_X8_loanOf_0]
theorem tt_X8_loanOf (d : Nat) : zT (zPb l G gh (d + 1) n_X8_loanOf p_X8_loanOf) t_X8_loanOf p_X8_loanOf := ⟨s_X8_loanOf_0 d, trivial⟩
noncomputable def f_X8_loanOf : zMt := zmet 2 t_X8_loanOf
theorem c_X8_loanOf (d : Nat) : zC l G gh (d + 1) n_X8_loanOf f_X8_loanOf := zmet_ok (pcs := p_X8_loanOf) (by decide) rfl rfl (tt_X8_loanOf d)
def p_X8_isSeat : List Nat := [0, 4, 15, 19, 20]
noncomputable def b_X8_isSeat_0 : zBl := fun jp K => oNLC 1 2147483648 zltN zgeN zn1_lt zn1_ge (jp 3) (jp 1)
theorem s_X8_isSeat_0 (d : Nat) : zPb l G gh (d + 1) n_X8_isSeat p_X8_isSeat 0 b_X8_isSeat_0 := fun K jp hj =>
    z_nL0_lt (i := 1) (a1 := 1) (off := 18) (tgt := 19) (zLd_n (n := 1) (i := 1) (zd (i := .iload_n 1) (n := 1) (by decide +kernel)) rfl) (zd (i := .ifCond .lt (18)) (n := 3) (by decide +kernel)) (by decide +kernel) (zj (hj 3) (by decide +kernel)) (zj (hj 1) (by decide +kernel))
noncomputable def b_X8_isSeat_1 : zBl := fun jp K => oIld 1 <| oAld 0 <| oGetR 8 12 <| oGetI 0 5 <| oIc zge zlt (jp 3) (jp 2)
theorem s_X8_isSeat_1 (d : Nat) : zPb l G gh (d + 1) n_X8_isSeat p_X8_isSeat 4 b_X8_isSeat_1 := fun K jp hj =>
    z_iload_n (n := 1) (i := 1) (zd (i := .iload_n 1) (n := 1) (by decide +kernel)) rfl <|
    z_aload_n (n := 0) (i := 0) (zd (i := .aload_n 0) (n := 1) (by decide +kernel)) rfl <|
    z_getR (ci := 8) (j := 12) (idx := 71) (zd (i := .getfield 71) (n := 3) (by decide +kernel)) (by decide +kernel) (by decide +kernel) rfl g464 <|
    z_getI (ci := 0) (j := 5) (idx := 230) (zd (i := .getfield 230) (n := 3) (by decide +kernel)) (by decide +kernel) (by decide +kernel) rfl g288 <|
    z_icmp_ge (off := 7) (tgt := 19) (zd (i := .if_icmp .ge (7)) (n := 3) (by decide +kernel)) (by decide +kernel) (zj (hj 3) (by decide +kernel)) (zj (hj 2) (by decide +kernel))
noncomputable def b_X8_isSeat_2 : zBl := fun jp K => oInt 2147483649 <| jp 4
theorem s_X8_isSeat_2 (d : Nat) : zPb l G gh (d + 1) n_X8_isSeat p_X8_isSeat 15 b_X8_isSeat_2 := fun K jp hj =>
    z_iconst (n := 1) (zd (i := .iconst (1)) (n := 1) (by decide +kernel)) (by decide +kernel) <|
    z_goto (off := 4) (tgt := 20) (zd (i := .goto (4)) (n := 3) (by decide +kernel)) (by decide +kernel) (zj (hj 4) (by decide +kernel))
noncomputable def b_X8_isSeat_3 : zBl := fun jp K => oInt 2147483648 <| jp 4
theorem s_X8_isSeat_3 (d : Nat) : zPb l G gh (d + 1) n_X8_isSeat p_X8_isSeat 19 b_X8_isSeat_3 := fun K jp hj =>
    z_iconst (n := 0) (zd (i := .iconst (0)) (n := 1) (by decide +kernel)) (by decide +kernel) <|
    (zj (hj 4) (by decide +kernel))
noncomputable def b_X8_isSeat_4 : zBl := fun jp K => oZret K
theorem s_X8_isSeat_4 (d : Nat) : zPb l G gh (d + 1) n_X8_isSeat p_X8_isSeat 20 b_X8_isSeat_4 := fun K jp hj =>
    z_zret (zd (i := .ireturn) (n := 1) (by decide +kernel)) rfl
noncomputable def t_X8_isSeat : List zBl := [b_X8_isSeat_0, b_X8_isSeat_1, b_X8_isSeat_2, b_X8_isSeat_3, b_X8_isSeat_4]
theorem tt_X8_isSeat (d : Nat) : zT (zPb l G gh (d + 1) n_X8_isSeat p_X8_isSeat) t_X8_isSeat p_X8_isSeat := ⟨s_X8_isSeat_0 d, s_X8_isSeat_1 d, s_X8_isSeat_2 d, s_X8_isSeat_3 d, s_X8_isSeat_4 d, trivial⟩
noncomputable def f_X8_isSeat : zMt := zmet 2 t_X8_isSeat
theorem c_X8_isSeat (d : Nat) : zC l G gh (d + 1) n_X8_isSeat f_X8_isSeat := zmet_ok (pcs := p_X8_isSeat) (by decide) rfl rfl (tt_X8_isSeat d)
def p_X8_isX : List Nat := [0, 4, 10, 14, 15]
noncomputable def b_X8_isX_0 : zBl := fun jp K => oNLC 0 2147483648 zltN zgeN zn1_lt zn1_ge (jp 3) (jp 1)
theorem s_X8_isX_0 (d : Nat) : zPb l G gh (d + 1) n_X8_isX p_X8_isX 0 b_X8_isX_0 := fun K jp hj =>
    z_nL0_lt (i := 0) (a1 := 1) (off := 13) (tgt := 14) (zLd_n (n := 0) (i := 0) (zd (i := .iload_n 0) (n := 1) (by decide +kernel)) rfl) (zd (i := .ifCond .lt (13)) (n := 3) (by decide +kernel)) (by decide +kernel) (zj (hj 3) (by decide +kernel)) (zj (hj 1) (by decide +kernel))
noncomputable def b_X8_isX_1 : zBl := fun jp K => oNLC 0 2147483668 zgeN zltN zn1_ge zn1_lt (jp 3) (jp 2)
theorem s_X8_isX_1 (d : Nat) : zPb l G gh (d + 1) n_X8_isX p_X8_isX 4 b_X8_isX_1 := fun K jp hj =>
    z_nLC_ge (i := 0) (c0 := 2147483668) (a1 := 1) (a2 := 2) (off := 7) (tgt := 14) (zLd_n (n := 0) (i := 0) (zd (i := .iload_n 0) (n := 1) (by decide +kernel)) rfl) (zCn_b (n := 20) (zd (i := .bipush (20)) (n := 2) (by decide +kernel)) (by decide +kernel)) (zd (i := .if_icmp .ge (7)) (n := 3) (by decide +kernel)) (by decide +kernel) (zj (hj 3) (by decide +kernel)) (zj (hj 2) (by decide +kernel))
noncomputable def b_X8_isX_2 : zBl := fun jp K => oInt 2147483649 <| jp 4
theorem s_X8_isX_2 (d : Nat) : zPb l G gh (d + 1) n_X8_isX p_X8_isX 10 b_X8_isX_2 := fun K jp hj =>
    z_iconst (n := 1) (zd (i := .iconst (1)) (n := 1) (by decide +kernel)) (by decide +kernel) <|
    z_goto (off := 4) (tgt := 15) (zd (i := .goto (4)) (n := 3) (by decide +kernel)) (by decide +kernel) (zj (hj 4) (by decide +kernel))
noncomputable def b_X8_isX_3 : zBl := fun jp K => oInt 2147483648 <| jp 4
theorem s_X8_isX_3 (d : Nat) : zPb l G gh (d + 1) n_X8_isX p_X8_isX 14 b_X8_isX_3 := fun K jp hj =>
    z_iconst (n := 0) (zd (i := .iconst (0)) (n := 1) (by decide +kernel)) (by decide +kernel) <|
    (zj (hj 4) (by decide +kernel))
noncomputable def b_X8_isX_4 : zBl := fun jp K => oZret K
theorem s_X8_isX_4 (d : Nat) : zPb l G gh (d + 1) n_X8_isX p_X8_isX 15 b_X8_isX_4 := fun K jp hj =>
    z_zret (zd (i := .ireturn) (n := 1) (by decide +kernel)) rfl
noncomputable def t_X8_isX : List zBl := [b_X8_isX_0, b_X8_isX_1, b_X8_isX_2, b_X8_isX_3, b_X8_isX_4]
theorem tt_X8_isX (d : Nat) : zT (zPb l G gh (d + 1) n_X8_isX p_X8_isX) t_X8_isX p_X8_isX := ⟨s_X8_isX_0 d, s_X8_isX_1 d, s_X8_isX_2 d, s_X8_isX_3 d, s_X8_isX_4 d, trivial⟩
noncomputable def f_X8_isX : zMt := zmet 1 t_X8_isX
theorem c_X8_isX (d : Nat) : zC l G gh (d + 1) n_X8_isX f_X8_isX := zmet_ok (pcs := p_X8_isX) (by decide) rfl rfl (tt_X8_isX d)
def p_X4_copy : List Nat := [0, 68]
noncomputable def b_X4_copy_0 : zBl := fun jp K => oAld 0 <| oAld 1 <| oGetI 4 0 <| oPutI 4 0 <| oAld 1 <| oGetR 4 1 <| oInt 2147483648 <| oAld 0 <| oGetR 4 1 <| oInt 2147483648 <| oInt 2147483654 <| oCopyU <| oAld 1 <| oGetR 4 2 <| oInt 2147483648 <| oAld 0 <| oGetR 4 2 <| oInt 2147483648 <| oInt 2147483654 <| oCopyU <| oAld 1 <| oGetR 4 3 <| oInt 2147483648 <| oAld 0 <| oGetR 4 3 <| oInt 2147483648 <| oInt 2147483654 <| oCopyU <| oAld 1 <| oGetR 4 4 <| oInt 2147483648 <| oAld 0 <| oGetR 4 4 <| oInt 2147483648 <| oInt 2147483654 <| oCopyU <| jp 1
theorem s_X4_copy_0 (d : Nat) : zPb l G gh (d + 1) n_X4_copy p_X4_copy 0 b_X4_copy_0 := fun K jp hj =>
    z_aload_n (n := 0) (i := 0) (zd (i := .aload_n 0) (n := 1) (by decide +kernel)) rfl <|
    z_aload_n (n := 1) (i := 1) (zd (i := .aload_n 1) (n := 1) (by decide +kernel)) rfl <|
    z_getI (ci := 4) (j := 0) (idx := 9) (zd (i := .getfield 9) (n := 3) (by decide +kernel)) (by decide +kernel) (by decide +kernel) rfl g367 <|
    z_putI (ci := 4) (j := 0) (idx := 9) (zd (i := .putfield 9) (n := 3) (by decide +kernel)) (by decide +kernel) (by decide +kernel) rfl g367 (Or.inl rfl) <|
    z_aload_n (n := 1) (i := 1) (zd (i := .aload_n 1) (n := 1) (by decide +kernel)) rfl <|
    z_getR (ci := 4) (j := 1) (idx := 15) (zd (i := .getfield 15) (n := 3) (by decide +kernel)) (by decide +kernel) (by decide +kernel) rfl g370 <|
    z_iconst (n := 0) (zd (i := .iconst (0)) (n := 1) (by decide +kernel)) (by decide +kernel) <|
    z_aload_n (n := 0) (i := 0) (zd (i := .aload_n 0) (n := 1) (by decide +kernel)) rfl <|
    z_getR (ci := 4) (j := 1) (idx := 15) (zd (i := .getfield 15) (n := 3) (by decide +kernel)) (by decide +kernel) (by decide +kernel) rfl g370 <|
    z_iconst (n := 0) (zd (i := .iconst (0)) (n := 1) (by decide +kernel)) (by decide +kernel) <|
    z_bipush (n := 6) (zd (i := .bipush (6)) (n := 2) (by decide +kernel)) (by decide +kernel) <|
    z_copyU (idx := 50) (zd (i := .invokestatic 50) (n := 3) (by decide +kernel)) g844 g846 g845 g113 <|
    z_aload_n (n := 1) (i := 1) (zd (i := .aload_n 1) (n := 1) (by decide +kernel)) rfl <|
    z_getR (ci := 4) (j := 2) (idx := 19) (zd (i := .getfield 19) (n := 3) (by decide +kernel)) (by decide +kernel) (by decide +kernel) rfl g373 <|
    z_iconst (n := 0) (zd (i := .iconst (0)) (n := 1) (by decide +kernel)) (by decide +kernel) <|
    z_aload_n (n := 0) (i := 0) (zd (i := .aload_n 0) (n := 1) (by decide +kernel)) rfl <|
    z_getR (ci := 4) (j := 2) (idx := 19) (zd (i := .getfield 19) (n := 3) (by decide +kernel)) (by decide +kernel) (by decide +kernel) rfl g373 <|
    z_iconst (n := 0) (zd (i := .iconst (0)) (n := 1) (by decide +kernel)) (by decide +kernel) <|
    z_bipush (n := 6) (zd (i := .bipush (6)) (n := 2) (by decide +kernel)) (by decide +kernel) <|
    z_copyU (idx := 50) (zd (i := .invokestatic 50) (n := 3) (by decide +kernel)) g844 g846 g845 g113 <|
    z_aload_n (n := 1) (i := 1) (zd (i := .aload_n 1) (n := 1) (by decide +kernel)) rfl <|
    z_getR (ci := 4) (j := 3) (idx := 22) (zd (i := .getfield 22) (n := 3) (by decide +kernel)) (by decide +kernel) (by decide +kernel) rfl g376 <|
    z_iconst (n := 0) (zd (i := .iconst (0)) (n := 1) (by decide +kernel)) (by decide +kernel) <|
    z_aload_n (n := 0) (i := 0) (zd (i := .aload_n 0) (n := 1) (by decide +kernel)) rfl <|
    z_getR (ci := 4) (j := 3) (idx := 22) (zd (i := .getfield 22) (n := 3) (by decide +kernel)) (by decide +kernel) (by decide +kernel) rfl g376 <|
    z_iconst (n := 0) (zd (i := .iconst (0)) (n := 1) (by decide +kernel)) (by decide +kernel) <|
    z_bipush (n := 6) (zd (i := .bipush (6)) (n := 2) (by decide +kernel)) (by decide +kernel) <|
    z_copyU (idx := 50) (zd (i := .invokestatic 50) (n := 3) (by decide +kernel)) g844 g846 g845 g113 <|
    z_aload_n (n := 1) (i := 1) (zd (i := .aload_n 1) (n := 1) (by decide +kernel)) rfl <|
    z_getR (ci := 4) (j := 4) (idx := 25) (zd (i := .getfield 25) (n := 3) (by decide +kernel)) (by decide +kernel) (by decide +kernel) rfl g379 <|
    z_iconst (n := 0) (zd (i := .iconst (0)) (n := 1) (by decide +kernel)) (by decide +kernel) <|
    z_aload_n (n := 0) (i := 0) (zd (i := .aload_n 0) (n := 1) (by decide +kernel)) rfl <|
    z_getR (ci := 4) (j := 4) (idx := 25) (zd (i := .getfield 25) (n := 3) (by decide +kernel)) (by decide +kernel) (by decide +kernel) rfl g379 <|
    z_iconst (n := 0) (zd (i := .iconst (0)) (n := 1) (by decide +kernel)) (by decide +kernel) <|
    z_bipush (n := 6) (zd (i := .bipush (6)) (n := 2) (by decide +kernel)) (by decide +kernel) <|
    z_copyU (idx := 50) (zd (i := .invokestatic 50) (n := 3) (by decide +kernel)) g844 g846 g845 g113 <|
    (zj (hj 1) (by decide +kernel))
noncomputable def b_X4_copy_1 : zBl := fun jp K => oAld 1 <| oGetR 4 5 <| oInt 2147483648 <| oAld 0 <| oGetR 4 5 <| oInt 2147483648 <| oAld 0 <| oGetR 4 5 <| oAlen <| oCopyU <| oAld 1 <| oGetR 4 6 <| oInt 2147483648 <| oAld 0 <| oGetR 4 6 <| oInt 2147483648 <| oAld 0 <| oGetR 4 6 <| oAlen <| oCopyU <| oVret K
theorem s_X4_copy_1 (d : Nat) : zPb l G gh (d + 1) n_X4_copy p_X4_copy 68 b_X4_copy_1 := fun K jp hj =>
    z_aload_n (n := 1) (i := 1) (zd (i := .aload_n 1) (n := 1) (by decide +kernel)) rfl <|
    z_getR (ci := 4) (j := 5) (idx := 28) (zd (i := .getfield 28) (n := 3) (by decide +kernel)) (by decide +kernel) (by decide +kernel) rfl g382 <|
    z_iconst (n := 0) (zd (i := .iconst (0)) (n := 1) (by decide +kernel)) (by decide +kernel) <|
    z_aload_n (n := 0) (i := 0) (zd (i := .aload_n 0) (n := 1) (by decide +kernel)) rfl <|
    z_getR (ci := 4) (j := 5) (idx := 28) (zd (i := .getfield 28) (n := 3) (by decide +kernel)) (by decide +kernel) (by decide +kernel) rfl g382 <|
    z_iconst (n := 0) (zd (i := .iconst (0)) (n := 1) (by decide +kernel)) (by decide +kernel) <|
    z_aload_n (n := 0) (i := 0) (zd (i := .aload_n 0) (n := 1) (by decide +kernel)) rfl <|
    z_getR (ci := 4) (j := 5) (idx := 28) (zd (i := .getfield 28) (n := 3) (by decide +kernel)) (by decide +kernel) (by decide +kernel) rfl g382 <|
    z_alen (zd (i := .arraylength) (n := 1) (by decide +kernel)) <|
    z_copyU (idx := 50) (zd (i := .invokestatic 50) (n := 3) (by decide +kernel)) g844 g846 g845 g113 <|
    z_aload_n (n := 1) (i := 1) (zd (i := .aload_n 1) (n := 1) (by decide +kernel)) rfl <|
    z_getR (ci := 4) (j := 6) (idx := 31) (zd (i := .getfield 31) (n := 3) (by decide +kernel)) (by decide +kernel) (by decide +kernel) rfl g385 <|
    z_iconst (n := 0) (zd (i := .iconst (0)) (n := 1) (by decide +kernel)) (by decide +kernel) <|
    z_aload_n (n := 0) (i := 0) (zd (i := .aload_n 0) (n := 1) (by decide +kernel)) rfl <|
    z_getR (ci := 4) (j := 6) (idx := 31) (zd (i := .getfield 31) (n := 3) (by decide +kernel)) (by decide +kernel) (by decide +kernel) rfl g385 <|
    z_iconst (n := 0) (zd (i := .iconst (0)) (n := 1) (by decide +kernel)) (by decide +kernel) <|
    z_aload_n (n := 0) (i := 0) (zd (i := .aload_n 0) (n := 1) (by decide +kernel)) rfl <|
    z_getR (ci := 4) (j := 6) (idx := 31) (zd (i := .getfield 31) (n := 3) (by decide +kernel)) (by decide +kernel) (by decide +kernel) rfl g385 <|
    z_alen (zd (i := .arraylength) (n := 1) (by decide +kernel)) <|
    z_copyU (idx := 50) (zd (i := .invokestatic 50) (n := 3) (by decide +kernel)) g844 g846 g845 g113 <|
    z_vret (zd (i := .return_) (n := 1) (by decide +kernel)) rfl
noncomputable def t_X4_copy : List zBl := [b_X4_copy_0, b_X4_copy_1]
theorem tt_X4_copy (d : Nat) : zT (zPb l G gh (d + 1) n_X4_copy p_X4_copy) t_X4_copy p_X4_copy := ⟨s_X4_copy_0 d, s_X4_copy_1 d, trivial⟩
noncomputable def f_X4_copy : zMt := zmet 2 t_X4_copy
theorem c_X4_copy (d : Nat) : zC l G gh (d + 1) n_X4_copy f_X4_copy := zmet_ok (pcs := p_X4_copy) (by decide) rfl rfl (tt_X4_copy d)
def p_X4_end : List Nat := [0]
noncomputable def b_X4_end_0 : zBl := fun jp K => oAld 0 <| oGetR 4 5 <| oIld 1 <| oInt 2147483648 <| oXast 10 zid <| oAld 0 <| oGetR 4 6 <| oIld 1 <| oInt 2147483648 <| oXast 10 zid <| oVret K
theorem s_X4_end_0 (d : Nat) : zPb l G gh (d + 1) n_X4_end p_X4_end 0 b_X4_end_0 := fun K jp hj =>
    z_aload_n (n := 0) (i := 0) (zd (i := .aload_n 0) (n := 1) (by decide +kernel)) rfl <|
    z_getR (ci := 4) (j := 5) (idx := 28) (zd (i := .getfield 28) (n := 3) (by decide +kernel)) (by decide +kernel) (by decide +kernel) rfl g382 <|
    z_iload_n (n := 1) (i := 1) (zd (i := .iload_n 1) (n := 1) (by decide +kernel)) rfl <|
    z_iconst (n := 0) (zd (i := .iconst (0)) (n := 1) (by decide +kernel)) (by decide +kernel) <|
    z_iast (zd (i := .iastore) (n := 1) (by decide +kernel)) <|
    z_aload_n (n := 0) (i := 0) (zd (i := .aload_n 0) (n := 1) (by decide +kernel)) rfl <|
    z_getR (ci := 4) (j := 6) (idx := 31) (zd (i := .getfield 31) (n := 3) (by decide +kernel)) (by decide +kernel) (by decide +kernel) rfl g385 <|
    z_iload_n (n := 1) (i := 1) (zd (i := .iload_n 1) (n := 1) (by decide +kernel)) rfl <|
    z_iconst (n := 0) (zd (i := .iconst (0)) (n := 1) (by decide +kernel)) (by decide +kernel) <|
    z_iast (zd (i := .iastore) (n := 1) (by decide +kernel)) <|
    z_vret (zd (i := .return_) (n := 1) (by decide +kernel)) rfl
noncomputable def t_X4_end : List zBl := [b_X4_end_0]
theorem tt_X4_end (d : Nat) : zT (zPb l G gh (d + 1) n_X4_end p_X4_end) t_X4_end p_X4_end := ⟨s_X4_end_0 d, trivial⟩
noncomputable def f_X4_end : zMt := zmet 2 t_X4_end
theorem c_X4_end (d : Nat) : zC l G gh (d + 1) n_X4_end f_X4_end := zmet_ok (pcs := p_X4_end) (by decide) rfl rfl (tt_X4_end d)
def p_X8_isAhead : List Nat := [0, 4, 10, 14, 15]
noncomputable def b_X8_isAhead_0 : zBl := fun jp K => oNLC 0 2147483648 zltN zgeN zn1_lt zn1_ge (jp 3) (jp 1)
theorem s_X8_isAhead_0 (d : Nat) : zPb l G gh (d + 1) n_X8_isAhead p_X8_isAhead 0 b_X8_isAhead_0 := fun K jp hj =>
    z_nL0_lt (i := 0) (a1 := 1) (off := 13) (tgt := 14) (zLd_n (n := 0) (i := 0) (zd (i := .iload_n 0) (n := 1) (by decide +kernel)) rfl) (zd (i := .ifCond .lt (13)) (n := 3) (by decide +kernel)) (by decide +kernel) (zj (hj 3) (by decide +kernel)) (zj (hj 1) (by decide +kernel))
noncomputable def b_X8_isAhead_1 : zBl := fun jp K => oNLC 0 2147483696 zgtN zleN zn1_gt zn1_le (jp 3) (jp 2)
theorem s_X8_isAhead_1 (d : Nat) : zPb l G gh (d + 1) n_X8_isAhead p_X8_isAhead 4 b_X8_isAhead_1 := fun K jp hj =>
    z_nLC_gt (i := 0) (c0 := 2147483696) (a1 := 1) (a2 := 2) (off := 7) (tgt := 14) (zLd_n (n := 0) (i := 0) (zd (i := .iload_n 0) (n := 1) (by decide +kernel)) rfl) (zCn_b (n := 48) (zd (i := .bipush (48)) (n := 2) (by decide +kernel)) (by decide +kernel)) (zd (i := .if_icmp .gt (7)) (n := 3) (by decide +kernel)) (by decide +kernel) (zj (hj 3) (by decide +kernel)) (zj (hj 2) (by decide +kernel))
noncomputable def b_X8_isAhead_2 : zBl := fun jp K => oInt 2147483649 <| jp 4
theorem s_X8_isAhead_2 (d : Nat) : zPb l G gh (d + 1) n_X8_isAhead p_X8_isAhead 10 b_X8_isAhead_2 := fun K jp hj =>
    z_iconst (n := 1) (zd (i := .iconst (1)) (n := 1) (by decide +kernel)) (by decide +kernel) <|
    z_goto (off := 4) (tgt := 15) (zd (i := .goto (4)) (n := 3) (by decide +kernel)) (by decide +kernel) (zj (hj 4) (by decide +kernel))
noncomputable def b_X8_isAhead_3 : zBl := fun jp K => oInt 2147483648 <| jp 4
theorem s_X8_isAhead_3 (d : Nat) : zPb l G gh (d + 1) n_X8_isAhead p_X8_isAhead 14 b_X8_isAhead_3 := fun K jp hj =>
    z_iconst (n := 0) (zd (i := .iconst (0)) (n := 1) (by decide +kernel)) (by decide +kernel) <|
    (zj (hj 4) (by decide +kernel))
noncomputable def b_X8_isAhead_4 : zBl := fun jp K => oZret K
theorem s_X8_isAhead_4 (d : Nat) : zPb l G gh (d + 1) n_X8_isAhead p_X8_isAhead 15 b_X8_isAhead_4 := fun K jp hj =>
    z_zret (zd (i := .ireturn) (n := 1) (by decide +kernel)) rfl
noncomputable def t_X8_isAhead : List zBl := [b_X8_isAhead_0, b_X8_isAhead_1, b_X8_isAhead_2, b_X8_isAhead_3, b_X8_isAhead_4]
theorem tt_X8_isAhead (d : Nat) : zT (zPb l G gh (d + 1) n_X8_isAhead p_X8_isAhead) t_X8_isAhead p_X8_isAhead := ⟨s_X8_isAhead_0 d, s_X8_isAhead_1 d, s_X8_isAhead_2 d, s_X8_isAhead_3 d, s_X8_isAhead_4 d, trivial⟩
noncomputable def f_X8_isAhead : zMt := zmet 1 t_X8_isAhead
theorem c_X8_isAhead (d : Nat) : zC l G gh (d + 1) n_X8_isAhead f_X8_isAhead := zmet_ok (pcs := p_X8_isAhead) (by decide) rfl rfl (tt_X8_isAhead d)
def p_X0_stirred : List Nat := [0]
noncomputable def b_X0_stirred_0 : zBl := fun jp K => oIld 0 <| oIld 1 <| oB2 zixor <| oInt 3250998893 <| oB2 zimul <| oInt 2147495993 <| oB2 zadd <| oIst 2 <| oIld 2 <| oIld 2 <| oInt 2147483663 <| oB2 ziushr <| oB2 zixor <| oIret K
theorem s_X0_stirred_0 (d : Nat) : zPb l G gh (d + 1) n_X0_stirred p_X0_stirred 0 b_X0_stirred_0 := fun K jp hj =>
    z_iload_n (n := 0) (i := 0) (zd (i := .iload_n 0) (n := 1) (by decide +kernel)) rfl <|
    z_iload_n (n := 1) (i := 1) (zd (i := .iload_n 1) (n := 1) (by decide +kernel)) rfl <|
    z_ixor (zd (i := .ixor) (n := 1) (by decide +kernel)) <|
    z_ldc (n := 94) (zd (i := .ldc 94) (n := 2) (by decide +kernel)) g879 (by decide +kernel) <|
    z_imul (zd (i := .imul) (n := 1) (by decide +kernel)) <|
    z_sipush (n := 12345) (zd (i := .sipush (12345)) (n := 3) (by decide +kernel)) (by decide +kernel) <|
    z_iadd (zd (i := .iadd) (n := 1) (by decide +kernel)) <|
    z_istore_n (n := 2) (i := 2) (zd (i := .istore_n 2) (n := 1) (by decide +kernel)) rfl (by decide +kernel) <|
    z_iload_n (n := 2) (i := 2) (zd (i := .iload_n 2) (n := 1) (by decide +kernel)) rfl <|
    z_iload_n (n := 2) (i := 2) (zd (i := .iload_n 2) (n := 1) (by decide +kernel)) rfl <|
    z_bipush (n := 15) (zd (i := .bipush (15)) (n := 2) (by decide +kernel)) (by decide +kernel) <|
    z_iushr (zd (i := .iushr) (n := 1) (by decide +kernel)) <|
    z_ixor (zd (i := .ixor) (n := 1) (by decide +kernel)) <|
    z_iret (zd (i := .ireturn) (n := 1) (by decide +kernel)) rfl
noncomputable def t_X0_stirred : List zBl := [b_X0_stirred_0]
theorem tt_X0_stirred (d : Nat) : zT (zPb l G gh (d + 1) n_X0_stirred p_X0_stirred) t_X0_stirred p_X0_stirred := ⟨s_X0_stirred_0 d, trivial⟩
noncomputable def f_X0_stirred : zMt := zmet 3 t_X0_stirred
theorem c_X0_stirred (d : Nat) : zC l G gh (d + 1) n_X0_stirred f_X0_stirred := zmet_ok (pcs := p_X0_stirred) (by decide) rfl rfl (tt_X0_stirred d)
def p_X7_put : List Nat := [0, 9, 11]
noncomputable def b_X7_put_0 : zBl := fun jp K => oNFC 0 7 0 2147483668 zltN zgeN zn1_lt zn1_ge (jp 2) (jp 1)
theorem s_X7_put_0 (d : Nat) : zPb l G gh (d + 1) n_X7_put p_X7_put 0 b_X7_put_0 := fun K jp hj =>
    z_nFC_lt (r := 0) (ci := 7) (j := 0) (c0 := 2147483668) (a1 := 4) (a2 := 2) (off := 5) (tgt := 11) (zFd_n (n := 0) (r := 0) (ci := 7) (j := 0) (idx := 9) (zd (i := .aload_n 0) (n := 1) (by decide +kernel)) rfl (zd (i := .getfield 9) (n := 3) (by decide +kernel)) (by decide +kernel) (by decide +kernel) rfl g429) (by decide +kernel) rfl (zCn_b (n := 20) (zd (i := .bipush (20)) (n := 2) (by decide +kernel)) (by decide +kernel)) (zd (i := .if_icmp .lt (5)) (n := 3) (by decide +kernel)) (by decide +kernel) (zj (hj 2) (by decide +kernel)) (zj (hj 1) (by decide +kernel))
noncomputable def b_X7_put_1 : zBl := fun jp K => oInt 2147483647 <| oIret K
theorem s_X7_put_1 (d : Nat) : zPb l G gh (d + 1) n_X7_put p_X7_put 9 b_X7_put_1 := fun K jp hj =>
    z_iconst (n := -1) (zd (i := .iconst (-1)) (n := 1) (by decide +kernel)) (by decide +kernel) <|
    z_iret (zd (i := .ireturn) (n := 1) (by decide +kernel)) rfl
noncomputable def b_X7_put_2 : zBl := fun jp K => oAld 0 <| oGetR 7 1 <| oAld 0 <| oGetI 7 0 <| oIld 1 <| oXast 10 zid <| oAld 0 <| oGetR 7 2 <| oAld 0 <| oGetI 7 0 <| oIld 2 <| oXast 10 zid <| oAld 0 <| oGetR 7 3 <| oAld 0 <| oGetI 7 0 <| oIld 3 <| oXast 10 zid <| oAld 0 <| oDup <| oGetI 7 0 <| oInt 2147483649 <| oB2 zadd <| oPutI 7 0 <| oAld 0 <| oGetI 7 0 <| oInt 2147483649 <| oB2 zsub <| oIret K
theorem s_X7_put_2 (d : Nat) : zPb l G gh (d + 1) n_X7_put p_X7_put 11 b_X7_put_2 := fun K jp hj =>
    z_aload_n (n := 0) (i := 0) (zd (i := .aload_n 0) (n := 1) (by decide +kernel)) rfl <|
    z_getR (ci := 7) (j := 1) (idx := 15) (zd (i := .getfield 15) (n := 3) (by decide +kernel)) (by decide +kernel) (by decide +kernel) rfl g431 <|
    z_aload_n (n := 0) (i := 0) (zd (i := .aload_n 0) (n := 1) (by decide +kernel)) rfl <|
    z_getI (ci := 7) (j := 0) (idx := 9) (zd (i := .getfield 9) (n := 3) (by decide +kernel)) (by decide +kernel) (by decide +kernel) rfl g429 <|
    z_iload_n (n := 1) (i := 1) (zd (i := .iload_n 1) (n := 1) (by decide +kernel)) rfl <|
    z_iast (zd (i := .iastore) (n := 1) (by decide +kernel)) <|
    z_aload_n (n := 0) (i := 0) (zd (i := .aload_n 0) (n := 1) (by decide +kernel)) rfl <|
    z_getR (ci := 7) (j := 2) (idx := 19) (zd (i := .getfield 19) (n := 3) (by decide +kernel)) (by decide +kernel) (by decide +kernel) rfl g432 <|
    z_aload_n (n := 0) (i := 0) (zd (i := .aload_n 0) (n := 1) (by decide +kernel)) rfl <|
    z_getI (ci := 7) (j := 0) (idx := 9) (zd (i := .getfield 9) (n := 3) (by decide +kernel)) (by decide +kernel) (by decide +kernel) rfl g429 <|
    z_iload_n (n := 2) (i := 2) (zd (i := .iload_n 2) (n := 1) (by decide +kernel)) rfl <|
    z_iast (zd (i := .iastore) (n := 1) (by decide +kernel)) <|
    z_aload_n (n := 0) (i := 0) (zd (i := .aload_n 0) (n := 1) (by decide +kernel)) rfl <|
    z_getR (ci := 7) (j := 3) (idx := 22) (zd (i := .getfield 22) (n := 3) (by decide +kernel)) (by decide +kernel) (by decide +kernel) rfl g433 <|
    z_aload_n (n := 0) (i := 0) (zd (i := .aload_n 0) (n := 1) (by decide +kernel)) rfl <|
    z_getI (ci := 7) (j := 0) (idx := 9) (zd (i := .getfield 9) (n := 3) (by decide +kernel)) (by decide +kernel) (by decide +kernel) rfl g429 <|
    z_iload_n (n := 3) (i := 3) (zd (i := .iload_n 3) (n := 1) (by decide +kernel)) rfl <|
    z_iast (zd (i := .iastore) (n := 1) (by decide +kernel)) <|
    z_aload_n (n := 0) (i := 0) (zd (i := .aload_n 0) (n := 1) (by decide +kernel)) rfl <|
    z_dup (zd (i := .dup) (n := 1) (by decide +kernel)) <|
    z_getI (ci := 7) (j := 0) (idx := 9) (zd (i := .getfield 9) (n := 3) (by decide +kernel)) (by decide +kernel) (by decide +kernel) rfl g429 <|
    z_iconst (n := 1) (zd (i := .iconst (1)) (n := 1) (by decide +kernel)) (by decide +kernel) <|
    z_iadd (zd (i := .iadd) (n := 1) (by decide +kernel)) <|
    z_putI (ci := 7) (j := 0) (idx := 9) (zd (i := .putfield 9) (n := 3) (by decide +kernel)) (by decide +kernel) (by decide +kernel) rfl g429 (Or.inl rfl) <|
    z_aload_n (n := 0) (i := 0) (zd (i := .aload_n 0) (n := 1) (by decide +kernel)) rfl <|
    z_getI (ci := 7) (j := 0) (idx := 9) (zd (i := .getfield 9) (n := 3) (by decide +kernel)) (by decide +kernel) (by decide +kernel) rfl g429 <|
    z_iconst (n := 1) (zd (i := .iconst (1)) (n := 1) (by decide +kernel)) (by decide +kernel) <|
    z_isub (zd (i := .isub) (n := 1) (by decide +kernel)) <|
    z_iret (zd (i := .ireturn) (n := 1) (by decide +kernel)) rfl
noncomputable def t_X7_put : List zBl := [b_X7_put_0, b_X7_put_1, b_X7_put_2]
theorem tt_X7_put (d : Nat) : zT (zPb l G gh (d + 1) n_X7_put p_X7_put) t_X7_put p_X7_put := ⟨s_X7_put_0 d, s_X7_put_1 d, s_X7_put_2 d, trivial⟩
def q_X7_put_0 : List (Nat × Nat) := [(249, zk6), (250, zk7), (251, zk7), (252, zk7)]
noncomputable def al_X7_put_0 : zAq := [(some (.inl 9223372039002259475), [(249, zk8), (250, zk9), (251, zk9), (252, zk9)])]
noncomputable def fm_X7_put_0 : List zFm := [(0, [], (fun vs => [.inr (.ref 249), .inl 8589934591, .inl 8589934591, .inl 8589934591]), (fun vs => zP q_X7_put_0), (fun vs => Nat.sub (Nat.add 0 0) 0))]
def bf_X7_put_0 : List Nat := []
theorem r_X7_put_0_0 : zbox [] (fun vs => zFrun (zpost (zAlq al_X7_put_0)) 1000 t_X7_put fm_X7_put_0 bf_X7_put_0 (0, vs)) = true := by decide +kernel
set_option maxRecDepth 100000 in
theorem x_X7_put_0 (d : Nat) : zS l G gh (d + 1) (zpost (zAlq al_X7_put_0)) n_X7_put (zn 0 p_X7_put 0) (zwc (0, [.inr (.ref 249), .inl 8589934591, .inl 8589934591, .inl 8589934591], zP q_X7_put_0) 0) := zentry (tt_X7_put d) fm_X7_put_0 bf_X7_put_0 1000 (by decide +kernel) rfl ⟨Nat.zero_lt_succ _, trivial⟩ (fun f hf => match f, hf with
  | 0, _ => fun vs hv => (zbox_t r_X7_put_0_0) vs hv
  | f + 1, h => absurd (show f + 1 < 1 from h) (Nat.not_lt.mpr (Nat.le_add_left 1 f)))
noncomputable def gs_X7_put_0 : zMt := zgq false [] 4 [.inr (.ref 249), .inl 8589934591, .inl 8589934591, .inl 8589934591] q_X7_put_0 al_X7_put_0
set_option maxRecDepth 100000 in
theorem cs_X7_put_0 (d : Nat) : zC l G gh (d + 1) n_X7_put gs_X7_put_0 := zgq_ok0 (pcs := p_X7_put) (by decide) rfl rfl (fun a ha => by simp only [al_X7_put_0, List.mem_cons, List.not_mem_nil, or_false] at ha; rcases ha with rfl <;> decide +kernel) (fun gh => x_X7_put_0 d) (by decide +kernel)
noncomputable def gs_X7_put : zMt := gs_X7_put_0
theorem cs_X7_put (d : Nat) : zC l G gh (d + 1) n_X7_put gs_X7_put := (cs_X7_put_0 d)
def p_X8_forget : List Nat := [0]
noncomputable def b_X8_forget_0 : zBl := fun jp K => oAld 0 <| oGetR 8 7 <| oGetI 7 0 <| oIst 1 <| oAld 0 <| oGetR 8 7 <| oInt 2147483648 <| oPutI 7 0 <| oIld 1 <| oIret K
theorem s_X8_forget_0 (d : Nat) : zPb l G gh (d + 1) n_X8_forget p_X8_forget 0 b_X8_forget_0 := fun K jp hj =>
    z_aload_n (n := 0) (i := 0) (zd (i := .aload_n 0) (n := 1) (by decide +kernel)) rfl <|
    z_getR (ci := 8) (j := 7) (idx := 51) (zd (i := .getfield 51) (n := 3) (by decide +kernel)) (by decide +kernel) (by decide +kernel) rfl g459 <|
    z_getI (ci := 7) (j := 0) (idx := 114) (zd (i := .getfield 114) (n := 3) (by decide +kernel)) (by decide +kernel) (by decide +kernel) rfl g430 <|
    z_istore_n (n := 1) (i := 1) (zd (i := .istore_n 1) (n := 1) (by decide +kernel)) rfl (by decide +kernel) <|
    z_aload_n (n := 0) (i := 0) (zd (i := .aload_n 0) (n := 1) (by decide +kernel)) rfl <|
    z_getR (ci := 8) (j := 7) (idx := 51) (zd (i := .getfield 51) (n := 3) (by decide +kernel)) (by decide +kernel) (by decide +kernel) rfl g459 <|
    z_iconst (n := 0) (zd (i := .iconst (0)) (n := 1) (by decide +kernel)) (by decide +kernel) <|
    z_putI (ci := 7) (j := 0) (idx := 114) (zd (i := .putfield 114) (n := 3) (by decide +kernel)) (by decide +kernel) (by decide +kernel) rfl g430 (Or.inl rfl) <|
    z_iload_n (n := 1) (i := 1) (zd (i := .iload_n 1) (n := 1) (by decide +kernel)) rfl <|
    z_iret (zd (i := .ireturn) (n := 1) (by decide +kernel)) rfl
noncomputable def t_X8_forget : List zBl := [b_X8_forget_0]
theorem tt_X8_forget (d : Nat) : zT (zPb l G gh (d + 1) n_X8_forget p_X8_forget) t_X8_forget p_X8_forget := ⟨s_X8_forget_0 d, trivial⟩
def q_X8_forget_0 : List (Nat × Nat) := [(0, zk0), (249, zk6)]
noncomputable def al_X8_forget_0 : zAq := [(some (.inl 9223372043297226772), [(0, zk0), (249, zk8)])]
noncomputable def fm_X8_forget_0 : List zFm := [(0, [], (fun vs => [.inr (.ref 0)]), (fun vs => zP q_X8_forget_0), (fun vs => Nat.sub (Nat.add 0 0) 0))]
def bf_X8_forget_0 : List Nat := []
theorem r_X8_forget_0_0 : zbox [] (fun vs => zFrun (zpost (zAlq al_X8_forget_0)) 1000 t_X8_forget fm_X8_forget_0 bf_X8_forget_0 (0, vs)) = true := by decide +kernel
set_option maxRecDepth 100000 in
theorem x_X8_forget_0 (d : Nat) : zS l G gh (d + 1) (zpost (zAlq al_X8_forget_0)) n_X8_forget (zn 0 p_X8_forget 0) (zwc (0, [.inr (.ref 0)], zP q_X8_forget_0) 0) := zentry (tt_X8_forget d) fm_X8_forget_0 bf_X8_forget_0 1000 (by decide +kernel) rfl ⟨Nat.zero_lt_succ _, trivial⟩ (fun f hf => match f, hf with
  | 0, _ => fun vs hv => (zbox_t r_X8_forget_0_0) vs hv
  | f + 1, h => absurd (show f + 1 < 1 from h) (Nat.not_lt.mpr (Nat.le_add_left 1 f)))
noncomputable def gs_X8_forget_0 : zMt := zgq false [] 2 [.inr (.ref 0)] q_X8_forget_0 al_X8_forget_0
set_option maxRecDepth 100000 in
theorem cs_X8_forget_0 (d : Nat) : zC l G gh (d + 1) n_X8_forget gs_X8_forget_0 := zgq_ok0 (pcs := p_X8_forget) (by decide) rfl rfl (fun a ha => by simp only [al_X8_forget_0, List.mem_cons, List.not_mem_nil, or_false] at ha; rcases ha with rfl <;> decide +kernel) (fun gh => x_X8_forget_0 d) (by decide +kernel)
def q_X8_forget_1 : List (Nat × Nat) := [(0, zk1), (249, zk6)]
noncomputable def al_X8_forget_1 : zAq := [(some (.inl 9223372043297226772), [(0, zk1), (249, zk8)])]
noncomputable def fm_X8_forget_1 : List zFm := [(0, [], (fun vs => [.inr (.ref 0)]), (fun vs => zP q_X8_forget_1), (fun vs => Nat.sub (Nat.add 0 0) 0))]
def bf_X8_forget_1 : List Nat := []
theorem r_X8_forget_1_0 : zbox [] (fun vs => zFrun (zpost (zAlq al_X8_forget_1)) 1000 t_X8_forget fm_X8_forget_1 bf_X8_forget_1 (0, vs)) = true := by decide +kernel
set_option maxRecDepth 100000 in
theorem x_X8_forget_1 (d : Nat) : zS l G gh (d + 1) (zpost (zAlq al_X8_forget_1)) n_X8_forget (zn 0 p_X8_forget 0) (zwc (0, [.inr (.ref 0)], zP q_X8_forget_1) 0) := zentry (tt_X8_forget d) fm_X8_forget_1 bf_X8_forget_1 1000 (by decide +kernel) rfl ⟨Nat.zero_lt_succ _, trivial⟩ (fun f hf => match f, hf with
  | 0, _ => fun vs hv => (zbox_t r_X8_forget_1_0) vs hv
  | f + 1, h => absurd (show f + 1 < 1 from h) (Nat.not_lt.mpr (Nat.le_add_left 1 f)))
noncomputable def gs_X8_forget_1 : zMt := zgq false [] 2 [.inr (.ref 0)] q_X8_forget_1 al_X8_forget_1
set_option maxRecDepth 100000 in
theorem cs_X8_forget_1 (d : Nat) : zC l G gh (d + 1) n_X8_forget gs_X8_forget_1 := zgq_ok0 (pcs := p_X8_forget) (by decide) rfl rfl (fun a ha => by simp only [al_X8_forget_1, List.mem_cons, List.not_mem_nil, or_false] at ha; rcases ha with rfl <;> decide +kernel) (fun gh => x_X8_forget_1 d) (by decide +kernel)
noncomputable def gs_X8_forget : zMt := (zor gs_X8_forget_0 gs_X8_forget_1)
theorem cs_X8_forget (d : Nat) : zC l G gh (d + 1) n_X8_forget gs_X8_forget := (zor_ok (cs_X8_forget_0 d) (cs_X8_forget_1 d))
def p_X8_isKnown : List Nat := [0, 4, 15, 19, 20]
noncomputable def b_X8_isKnown_0 : zBl := fun jp K => oNLC 1 2147483648 zltN zgeN zn1_lt zn1_ge (jp 3) (jp 1)
theorem s_X8_isKnown_0 (d : Nat) : zPb l G gh (d + 1) n_X8_isKnown p_X8_isKnown 0 b_X8_isKnown_0 := fun K jp hj =>
    z_nL0_lt (i := 1) (a1 := 1) (off := 18) (tgt := 19) (zLd_n (n := 1) (i := 1) (zd (i := .iload_n 1) (n := 1) (by decide +kernel)) rfl) (zd (i := .ifCond .lt (18)) (n := 3) (by decide +kernel)) (by decide +kernel) (zj (hj 3) (by decide +kernel)) (zj (hj 1) (by decide +kernel))
noncomputable def b_X8_isKnown_1 : zBl := fun jp K => oIld 1 <| oAld 0 <| oGetR 8 7 <| oGetI 7 0 <| oIc zgt zle (jp 3) (jp 2)
theorem s_X8_isKnown_1 (d : Nat) : zPb l G gh (d + 1) n_X8_isKnown p_X8_isKnown 4 b_X8_isKnown_1 := fun K jp hj =>
    z_iload_n (n := 1) (i := 1) (zd (i := .iload_n 1) (n := 1) (by decide +kernel)) rfl <|
    z_aload_n (n := 0) (i := 0) (zd (i := .aload_n 0) (n := 1) (by decide +kernel)) rfl <|
    z_getR (ci := 8) (j := 7) (idx := 51) (zd (i := .getfield 51) (n := 3) (by decide +kernel)) (by decide +kernel) (by decide +kernel) rfl g459 <|
    z_getI (ci := 7) (j := 0) (idx := 114) (zd (i := .getfield 114) (n := 3) (by decide +kernel)) (by decide +kernel) (by decide +kernel) rfl g430 <|
    z_icmp_gt (off := 7) (tgt := 19) (zd (i := .if_icmp .gt (7)) (n := 3) (by decide +kernel)) (by decide +kernel) (zj (hj 3) (by decide +kernel)) (zj (hj 2) (by decide +kernel))
noncomputable def b_X8_isKnown_2 : zBl := fun jp K => oInt 2147483649 <| jp 4
theorem s_X8_isKnown_2 (d : Nat) : zPb l G gh (d + 1) n_X8_isKnown p_X8_isKnown 15 b_X8_isKnown_2 := fun K jp hj =>
    z_iconst (n := 1) (zd (i := .iconst (1)) (n := 1) (by decide +kernel)) (by decide +kernel) <|
    z_goto (off := 4) (tgt := 20) (zd (i := .goto (4)) (n := 3) (by decide +kernel)) (by decide +kernel) (zj (hj 4) (by decide +kernel))
noncomputable def b_X8_isKnown_3 : zBl := fun jp K => oInt 2147483648 <| jp 4
theorem s_X8_isKnown_3 (d : Nat) : zPb l G gh (d + 1) n_X8_isKnown p_X8_isKnown 19 b_X8_isKnown_3 := fun K jp hj =>
    z_iconst (n := 0) (zd (i := .iconst (0)) (n := 1) (by decide +kernel)) (by decide +kernel) <|
    (zj (hj 4) (by decide +kernel))
noncomputable def b_X8_isKnown_4 : zBl := fun jp K => oZret K
theorem s_X8_isKnown_4 (d : Nat) : zPb l G gh (d + 1) n_X8_isKnown p_X8_isKnown 20 b_X8_isKnown_4 := fun K jp hj =>
    z_zret (zd (i := .ireturn) (n := 1) (by decide +kernel)) rfl
noncomputable def t_X8_isKnown : List zBl := [b_X8_isKnown_0, b_X8_isKnown_1, b_X8_isKnown_2, b_X8_isKnown_3, b_X8_isKnown_4]
theorem tt_X8_isKnown (d : Nat) : zT (zPb l G gh (d + 1) n_X8_isKnown p_X8_isKnown) t_X8_isKnown p_X8_isKnown := ⟨s_X8_isKnown_0 d, s_X8_isKnown_1 d, s_X8_isKnown_2 d, s_X8_isKnown_3 d, s_X8_isKnown_4 d, trivial⟩
noncomputable def f_X8_isKnown : zMt := zmet 2 t_X8_isKnown
theorem c_X8_isKnown (d : Nat) : zC l G gh (d + 1) n_X8_isKnown f_X8_isKnown := zmet_ok (pcs := p_X8_isKnown) (by decide) rfl rfl (tt_X8_isKnown d)
def p_X7_xOf : List Nat := [0]
noncomputable def b_X7_xOf_0 : zBl := fun jp K => oIld 0 <| oInt 2147483657 <| oB2z zidiv <| oIret K
theorem s_X7_xOf_0 (d : Nat) : zPb l G gh (d + 1) n_X7_xOf p_X7_xOf 0 b_X7_xOf_0 := fun K jp hj =>
    z_iload_n (n := 0) (i := 0) (zd (i := .iload_n 0) (n := 1) (by decide +kernel)) rfl <|
    z_bipush (n := 9) (zd (i := .bipush (9)) (n := 2) (by decide +kernel)) (by decide +kernel) <|
    z_idiv (zd (i := .idiv) (n := 1) (by decide +kernel)) <|
    z_iret (zd (i := .ireturn) (n := 1) (by decide +kernel)) rfl
noncomputable def t_X7_xOf : List zBl := [b_X7_xOf_0]
theorem tt_X7_xOf (d : Nat) : zT (zPb l G gh (d + 1) n_X7_xOf p_X7_xOf) t_X7_xOf p_X7_xOf := ⟨s_X7_xOf_0 d, trivial⟩
noncomputable def f_X7_xOf : zMt := zmet 1 t_X7_xOf
theorem c_X7_xOf (d : Nat) : zC l G gh (d + 1) n_X7_xOf f_X7_xOf := zmet_ok (pcs := p_X7_xOf) (by decide) rfl rfl (tt_X7_xOf d)
def p_X7_tallOf : List Nat := [0]
noncomputable def b_X7_tallOf_0 : zBl := fun jp K => oIld 0 <| oInt 2147483657 <| oB2z zirem <| oInt 2147483649 <| oB2 zadd <| oIret K
theorem s_X7_tallOf_0 (d : Nat) : zPb l G gh (d + 1) n_X7_tallOf p_X7_tallOf 0 b_X7_tallOf_0 := fun K jp hj =>
    z_iload_n (n := 0) (i := 0) (zd (i := .iload_n 0) (n := 1) (by decide +kernel)) rfl <|
    z_bipush (n := 9) (zd (i := .bipush (9)) (n := 2) (by decide +kernel)) (by decide +kernel) <|
    z_irem (zd (i := .irem) (n := 1) (by decide +kernel)) <|
    z_iconst (n := 1) (zd (i := .iconst (1)) (n := 1) (by decide +kernel)) (by decide +kernel) <|
    z_iadd (zd (i := .iadd) (n := 1) (by decide +kernel)) <|
    z_iret (zd (i := .ireturn) (n := 1) (by decide +kernel)) rfl
noncomputable def t_X7_tallOf : List zBl := [b_X7_tallOf_0]
theorem tt_X7_tallOf (d : Nat) : zT (zPb l G gh (d + 1) n_X7_tallOf p_X7_tallOf) t_X7_tallOf p_X7_tallOf := ⟨s_X7_tallOf_0 d, trivial⟩
noncomputable def f_X7_tallOf : zMt := zmet 1 t_X7_tallOf
theorem c_X7_tallOf (d : Nat) : zC l G gh (d + 1) n_X7_tallOf f_X7_tallOf := zmet_ok (pcs := p_X7_tallOf) (by decide) rfl rfl (tt_X7_tallOf d)
def p_X3_clear : List Nat := [0]
noncomputable def b_X3_clear_0 : zBl := fun jp K => oAld 0 <| oInt 2147483648 <| oPutI 3 2 <| oVret K
theorem s_X3_clear_0 (d : Nat) : zPb l G gh (d + 1) n_X3_clear p_X3_clear 0 b_X3_clear_0 := fun K jp hj =>
    z_aload_n (n := 0) (i := 0) (zd (i := .aload_n 0) (n := 1) (by decide +kernel)) rfl <|
    z_iconst (n := 0) (zd (i := .iconst (0)) (n := 1) (by decide +kernel)) (by decide +kernel) <|
    z_putI (ci := 3) (j := 2) (idx := 19) (zd (i := .putfield 19) (n := 3) (by decide +kernel)) (by decide +kernel) (by decide +kernel) rfl g414 (Or.inl rfl) <|
    z_vret (zd (i := .return_) (n := 1) (by decide +kernel)) rfl
noncomputable def t_X3_clear : List zBl := [b_X3_clear_0]
theorem tt_X3_clear (d : Nat) : zT (zPb l G gh (d + 1) n_X3_clear p_X3_clear) t_X3_clear p_X3_clear := ⟨s_X3_clear_0 d, trivial⟩
noncomputable def f_X3_clear : zMt := zmet 1 t_X3_clear
theorem c_X3_clear (d : Nat) : zC l G gh (d + 1) n_X3_clear f_X3_clear := zmet_ok (pcs := p_X3_clear) (by decide) rfl rfl (tt_X3_clear d)
def p_X4_loans : List Nat := [0, 13, 19, 31, 35, 36, 44]
noncomputable def b_X4_loans_0 : zBl := fun jp K => oInt 2147483648 <| oIst 1 <| oAld 0 <| oGetR 4 5 <| oAst 2 <| oAld 2 <| oAlen <| oIst 3 <| oInt 2147483648 <| oIst 4 <| jp 1
theorem s_X4_loans_0 (d : Nat) : zPb l G gh (d + 1) n_X4_loans p_X4_loans 0 b_X4_loans_0 := fun K jp hj =>
    z_iconst (n := 0) (zd (i := .iconst (0)) (n := 1) (by decide +kernel)) (by decide +kernel) <|
    z_istore_n (n := 1) (i := 1) (zd (i := .istore_n 1) (n := 1) (by decide +kernel)) rfl (by decide +kernel) <|
    z_aload_n (n := 0) (i := 0) (zd (i := .aload_n 0) (n := 1) (by decide +kernel)) rfl <|
    z_getR (ci := 4) (j := 5) (idx := 28) (zd (i := .getfield 28) (n := 3) (by decide +kernel)) (by decide +kernel) (by decide +kernel) rfl g382 <|
    z_astore_n (n := 2) (i := 2) (zd (i := .astore_n 2) (n := 1) (by decide +kernel)) rfl (by decide +kernel) <|
    z_aload_n (n := 2) (i := 2) (zd (i := .aload_n 2) (n := 1) (by decide +kernel)) rfl <|
    z_alen (zd (i := .arraylength) (n := 1) (by decide +kernel)) <|
    z_istore_n (n := 3) (i := 3) (zd (i := .istore_n 3) (n := 1) (by decide +kernel)) rfl (by decide +kernel) <|
    z_iconst (n := 0) (zd (i := .iconst (0)) (n := 1) (by decide +kernel)) (by decide +kernel) <|
    z_istore (i := 4) (zd (i := .istore 4) (n := 2) (by decide +kernel)) (by decide +kernel) <|
    (zj (hj 1) (by decide +kernel))
noncomputable def b_X4_loans_1 : zBl := fun jp K => oNLL 4 3 zgeN zltN zn1_ge zn2_ge zn1_lt zn2_lt (jp 6) (jp 2)
theorem s_X4_loans_1 (d : Nat) : zPb l G gh (d + 1) n_X4_loans p_X4_loans 13 b_X4_loans_1 := fun K jp hj =>
    z_nLL_ge (i := 4) (j := 3) (a1 := 2) (a2 := 1) (off := 28) (tgt := 44) (zLd_w (i := 4) (zd (i := .iload 4) (n := 2) (by decide +kernel))) (zLd_n (n := 3) (i := 3) (zd (i := .iload_n 3) (n := 1) (by decide +kernel)) rfl) (zd (i := .if_icmp .ge (28)) (n := 3) (by decide +kernel)) (by decide +kernel) (zj (hj 6) (by decide +kernel)) (zj (hj 2) (by decide +kernel))
noncomputable def b_X4_loans_2 : zBl := fun jp K => oAld 2 <| oIld 4 <| oXald 10 <| oIst 5 <| oIld 1 <| oNLC 5 2147483648 zeqN zneN zn1_eq zn1_ne (jp 4) (jp 3)
theorem s_X4_loans_2 (d : Nat) : zPb l G gh (d + 1) n_X4_loans p_X4_loans 19 b_X4_loans_2 := fun K jp hj =>
    z_aload_n (n := 2) (i := 2) (zd (i := .aload_n 2) (n := 1) (by decide +kernel)) rfl <|
    z_iload (i := 4) (zd (i := .iload 4) (n := 2) (by decide +kernel)) <|
    z_iald (zd (i := .iaload) (n := 1) (by decide +kernel)) <|
    z_istore (i := 5) (zd (i := .istore 5) (n := 2) (by decide +kernel)) (by decide +kernel) <|
    z_iload_n (n := 1) (i := 1) (zd (i := .iload_n 1) (n := 1) (by decide +kernel)) rfl <|
    z_nL0_eq (i := 5) (a1 := 2) (off := 7) (tgt := 35) (zLd_w (i := 5) (zd (i := .iload 5) (n := 2) (by decide +kernel))) (zd (i := .ifCond .eq (7)) (n := 3) (by decide +kernel)) (by decide +kernel) (zj (hj 4) (by decide +kernel)) (zj (hj 3) (by decide +kernel))
noncomputable def b_X4_loans_3 : zBl := fun jp K => oInt 2147483649 <| jp 5
theorem s_X4_loans_3 (d : Nat) : zPb l G gh (d + 1) n_X4_loans p_X4_loans 31 b_X4_loans_3 := fun K jp hj =>
    z_iconst (n := 1) (zd (i := .iconst (1)) (n := 1) (by decide +kernel)) (by decide +kernel) <|
    z_goto (off := 4) (tgt := 36) (zd (i := .goto (4)) (n := 3) (by decide +kernel)) (by decide +kernel) (zj (hj 5) (by decide +kernel))
noncomputable def b_X4_loans_4 : zBl := fun jp K => oInt 2147483648 <| jp 5
theorem s_X4_loans_4 (d : Nat) : zPb l G gh (d + 1) n_X4_loans p_X4_loans 35 b_X4_loans_4 := fun K jp hj =>
    z_iconst (n := 0) (zd (i := .iconst (0)) (n := 1) (by decide +kernel)) (by decide +kernel) <|
    (zj (hj 5) (by decide +kernel))
noncomputable def b_X4_loans_5 : zBl := fun jp K => oB2 zadd <| oIst 1 <| oInc 4 2147483649 <| jp 1
theorem s_X4_loans_5 (d : Nat) : zPb l G gh (d + 1) n_X4_loans p_X4_loans 36 b_X4_loans_5 := fun K jp hj =>
    z_iadd (zd (i := .iadd) (n := 1) (by decide +kernel)) <|
    z_istore_n (n := 1) (i := 1) (zd (i := .istore_n 1) (n := 1) (by decide +kernel)) rfl (by decide +kernel) <|
    z_iinc (i := 4) (n := 1) (zd (i := .iinc 4 (1)) (n := 3) (by decide +kernel)) (by decide +kernel) (by decide +kernel) <|
    z_goto (off := -28) (tgt := 13) (zd (i := .goto (-28)) (n := 3) (by decide +kernel)) (by decide +kernel) (zj (hj 1) (by decide +kernel))
noncomputable def b_X4_loans_6 : zBl := fun jp K => oIld 1 <| oIret K
theorem s_X4_loans_6 (d : Nat) : zPb l G gh (d + 1) n_X4_loans p_X4_loans 44 b_X4_loans_6 := fun K jp hj =>
    z_iload_n (n := 1) (i := 1) (zd (i := .iload_n 1) (n := 1) (by decide +kernel)) rfl <|
    z_iret (zd (i := .ireturn) (n := 1) (by decide +kernel)) rfl
noncomputable def t_X4_loans : List zBl := [b_X4_loans_0, b_X4_loans_1, b_X4_loans_2, b_X4_loans_3, b_X4_loans_4, b_X4_loans_5, b_X4_loans_6]
theorem tt_X4_loans (d : Nat) : zT (zPb l G gh (d + 1) n_X4_loans p_X4_loans) t_X4_loans p_X4_loans := ⟨s_X4_loans_0 d, s_X4_loans_1 d, s_X4_loans_2 d, s_X4_loans_3 d, s_X4_loans_4 d, s_X4_loans_5 d, s_X4_loans_6 d, trivial⟩
def q_X4_loans_0 : List (Nat × Nat) := [(21, zk10), (26, zk11)]
noncomputable def al_X4_loans_0 : zAq := [(some (.inl 8589934591), [(21, zk10), (26, zk11)])]
noncomputable def fm_X4_loans_0 : List zFm := [(0, [], (fun vs => [.inr (.ref 21)]), (fun vs => zP q_X4_loans_0), (fun vs => Nat.sub (Nat.add 37 0) 0)),
  (1, [(4, 2147483648, 2147483684)], (fun vs => [.inr (.ref 21), .inl 8589934591, .inr (.ref 26), .inl 2147483684, .inl (zn 0 vs 0)]), (fun vs => zP q_X4_loans_0), (fun vs => Nat.sub (Nat.add 2147483684 0) (Nat.add 0 (Nat.mul 1 (zn 0 vs 0)))))]
def bf_X4_loans_0 : List Nat := [0, 2]
theorem r_X4_loans_0_0 : zbox [] (fun vs => zFrun (zpost (zAlq al_X4_loans_0)) 1000 t_X4_loans fm_X4_loans_0 bf_X4_loans_0 (0, vs)) = true := by decide +kernel
theorem r_X4_loans_0_1 : zbox [(4, 2147483648, 2147483684)] (fun vs => zFrun (zpost (zAlq al_X4_loans_0)) 1000 t_X4_loans fm_X4_loans_0 bf_X4_loans_0 (1, vs)) = true := by decide +kernel
set_option maxRecDepth 100000 in
theorem x_X4_loans_0 (d : Nat) : zS l G gh (d + 1) (zpost (zAlq al_X4_loans_0)) n_X4_loans (zn 0 p_X4_loans 0) (zwc (0, [.inr (.ref 21)], zP q_X4_loans_0) 0) := zentry (tt_X4_loans d) fm_X4_loans_0 bf_X4_loans_0 1000 (by decide +kernel) rfl ⟨Nat.zero_lt_succ _, trivial⟩ (fun f hf => match f, hf with
  | 0, _ => fun vs hv => (zbox_t r_X4_loans_0_0) vs hv
  | 1, _ => fun vs hv => (zbox_t r_X4_loans_0_1) vs hv
  | f + 2, h => absurd (show f + 2 < 2 from h) (Nat.not_lt.mpr (Nat.le_add_left 2 f)))
noncomputable def gs_X4_loans_0 : zMt := zgq false [] 6 [.inr (.ref 21)] q_X4_loans_0 al_X4_loans_0
set_option maxRecDepth 100000 in
theorem cs_X4_loans_0 (d : Nat) : zC l G gh (d + 1) n_X4_loans gs_X4_loans_0 := zgq_ok0 (pcs := p_X4_loans) (by decide) rfl rfl (fun a ha => by simp only [al_X4_loans_0, List.mem_cons, List.not_mem_nil, or_false] at ha; rcases ha with rfl <;> decide +kernel) (fun gh => x_X4_loans_0 d) (by decide +kernel)
noncomputable def gs_X4_loans : zMt := gs_X4_loans_0
theorem cs_X4_loans (d : Nat) : zC l G gh (d + 1) n_X4_loans gs_X4_loans := (cs_X4_loans_0 d)
def p_X8_sum : List Nat := [0, 10, 16, 33]
noncomputable def b_X8_sum_0 : zBl := fun jp K => oInt 2147483648 <| oIst 1 <| oAld 0 <| oAst 2 <| oAld 2 <| oAlen <| oIst 3 <| oInt 2147483648 <| oIst 4 <| jp 1
theorem s_X8_sum_0 (d : Nat) : zPb l G gh (d + 1) n_X8_sum p_X8_sum 0 b_X8_sum_0 := fun K jp hj =>
    z_iconst (n := 0) (zd (i := .iconst (0)) (n := 1) (by decide +kernel)) (by decide +kernel) <|
    z_istore_n (n := 1) (i := 1) (zd (i := .istore_n 1) (n := 1) (by decide +kernel)) rfl (by decide +kernel) <|
    z_aload_n (n := 0) (i := 0) (zd (i := .aload_n 0) (n := 1) (by decide +kernel)) rfl <|
    z_astore_n (n := 2) (i := 2) (zd (i := .astore_n 2) (n := 1) (by decide +kernel)) rfl (by decide +kernel) <|
    z_aload_n (n := 2) (i := 2) (zd (i := .aload_n 2) (n := 1) (by decide +kernel)) rfl <|
    z_alen (zd (i := .arraylength) (n := 1) (by decide +kernel)) <|
    z_istore_n (n := 3) (i := 3) (zd (i := .istore_n 3) (n := 1) (by decide +kernel)) rfl (by decide +kernel) <|
    z_iconst (n := 0) (zd (i := .iconst (0)) (n := 1) (by decide +kernel)) (by decide +kernel) <|
    z_istore (i := 4) (zd (i := .istore 4) (n := 2) (by decide +kernel)) (by decide +kernel) <|
    (zj (hj 1) (by decide +kernel))
noncomputable def b_X8_sum_1 : zBl := fun jp K => oNLL 4 3 zgeN zltN zn1_ge zn2_ge zn1_lt zn2_lt (jp 3) (jp 2)
theorem s_X8_sum_1 (d : Nat) : zPb l G gh (d + 1) n_X8_sum p_X8_sum 10 b_X8_sum_1 := fun K jp hj =>
    z_nLL_ge (i := 4) (j := 3) (a1 := 2) (a2 := 1) (off := 20) (tgt := 33) (zLd_w (i := 4) (zd (i := .iload 4) (n := 2) (by decide +kernel))) (zLd_n (n := 3) (i := 3) (zd (i := .iload_n 3) (n := 1) (by decide +kernel)) rfl) (zd (i := .if_icmp .ge (20)) (n := 3) (by decide +kernel)) (by decide +kernel) (zj (hj 3) (by decide +kernel)) (zj (hj 2) (by decide +kernel))
noncomputable def b_X8_sum_2 : zBl := fun jp K => oAld 2 <| oIld 4 <| oXald 10 <| oIst 5 <| oIld 1 <| oIld 5 <| oB2 zadd <| oIst 1 <| oInc 4 2147483649 <| jp 1
theorem s_X8_sum_2 (d : Nat) : zPb l G gh (d + 1) n_X8_sum p_X8_sum 16 b_X8_sum_2 := fun K jp hj =>
    z_aload_n (n := 2) (i := 2) (zd (i := .aload_n 2) (n := 1) (by decide +kernel)) rfl <|
    z_iload (i := 4) (zd (i := .iload 4) (n := 2) (by decide +kernel)) <|
    z_iald (zd (i := .iaload) (n := 1) (by decide +kernel)) <|
    z_istore (i := 5) (zd (i := .istore 5) (n := 2) (by decide +kernel)) (by decide +kernel) <|
    z_iload_n (n := 1) (i := 1) (zd (i := .iload_n 1) (n := 1) (by decide +kernel)) rfl <|
    z_iload (i := 5) (zd (i := .iload 5) (n := 2) (by decide +kernel)) <|
    z_iadd (zd (i := .iadd) (n := 1) (by decide +kernel)) <|
    z_istore_n (n := 1) (i := 1) (zd (i := .istore_n 1) (n := 1) (by decide +kernel)) rfl (by decide +kernel) <|
    z_iinc (i := 4) (n := 1) (zd (i := .iinc 4 (1)) (n := 3) (by decide +kernel)) (by decide +kernel) (by decide +kernel) <|
    z_goto (off := -20) (tgt := 10) (zd (i := .goto (-20)) (n := 3) (by decide +kernel)) (by decide +kernel) (zj (hj 1) (by decide +kernel))
noncomputable def b_X8_sum_3 : zBl := fun jp K => oIld 1 <| oIret K
theorem s_X8_sum_3 (d : Nat) : zPb l G gh (d + 1) n_X8_sum p_X8_sum 33 b_X8_sum_3 := fun K jp hj =>
    z_iload_n (n := 1) (i := 1) (zd (i := .iload_n 1) (n := 1) (by decide +kernel)) rfl <|
    z_iret (zd (i := .ireturn) (n := 1) (by decide +kernel)) rfl
noncomputable def t_X8_sum : List zBl := [b_X8_sum_0, b_X8_sum_1, b_X8_sum_2, b_X8_sum_3]
theorem tt_X8_sum (d : Nat) : zT (zPb l G gh (d + 1) n_X8_sum p_X8_sum) t_X8_sum p_X8_sum := ⟨s_X8_sum_0 d, s_X8_sum_1 d, s_X8_sum_2 d, s_X8_sum_3 d, trivial⟩
def q_X8_sum_0 : List (Nat × Nat) := [(25, zk12)]
noncomputable def al_X8_sum_0 : zAq := [(some (.inl 8589934591), [(25, zk12)])]
noncomputable def fm_X8_sum_0 : List zFm := [(0, [], (fun vs => [.inr (.ref 25)]), (fun vs => zP q_X8_sum_0), (fun vs => Nat.sub (Nat.add 7 0) 0)),
  (1, [(4, 2147483648, 2147483654)], (fun vs => [.inr (.ref 25), .inl 8589934591, .inr (.ref 25), .inl 2147483654, .inl (zn 0 vs 0)]), (fun vs => zP q_X8_sum_0), (fun vs => Nat.sub (Nat.add 2147483654 0) (Nat.add 0 (Nat.mul 1 (zn 0 vs 0)))))]
def bf_X8_sum_0 : List Nat := [0, 2]
theorem r_X8_sum_0_0 : zbox [] (fun vs => zFrun (zpost (zAlq al_X8_sum_0)) 1000 t_X8_sum fm_X8_sum_0 bf_X8_sum_0 (0, vs)) = true := by decide +kernel
theorem r_X8_sum_0_1 : zbox [(4, 2147483648, 2147483654)] (fun vs => zFrun (zpost (zAlq al_X8_sum_0)) 1000 t_X8_sum fm_X8_sum_0 bf_X8_sum_0 (1, vs)) = true := by decide +kernel
set_option maxRecDepth 100000 in
theorem x_X8_sum_0 (d : Nat) : zS l G gh (d + 1) (zpost (zAlq al_X8_sum_0)) n_X8_sum (zn 0 p_X8_sum 0) (zwc (0, [.inr (.ref 25)], zP q_X8_sum_0) 0) := zentry (tt_X8_sum d) fm_X8_sum_0 bf_X8_sum_0 1000 (by decide +kernel) rfl ⟨Nat.zero_lt_succ _, trivial⟩ (fun f hf => match f, hf with
  | 0, _ => fun vs hv => (zbox_t r_X8_sum_0_0) vs hv
  | 1, _ => fun vs hv => (zbox_t r_X8_sum_0_1) vs hv
  | f + 2, h => absurd (show f + 2 < 2 from h) (Nat.not_lt.mpr (Nat.le_add_left 2 f)))
noncomputable def gs_X8_sum_0 : zMt := zgq false [] 6 [.inr (.ref 25)] q_X8_sum_0 al_X8_sum_0
set_option maxRecDepth 100000 in
theorem cs_X8_sum_0 (d : Nat) : zC l G gh (d + 1) n_X8_sum gs_X8_sum_0 := zgq_ok0 (pcs := p_X8_sum) (by decide) rfl rfl (fun a ha => by simp only [al_X8_sum_0, List.mem_cons, List.not_mem_nil, or_false] at ha; rcases ha with rfl <;> decide +kernel) (fun gh => x_X8_sum_0 d) (by decide +kernel)
def q_X8_sum_1 : List (Nat × Nat) := [(24, zk12)]
noncomputable def al_X8_sum_1 : zAq := [(some (.inl 8589934591), [(24, zk12)])]
noncomputable def fm_X8_sum_1 : List zFm := [(0, [], (fun vs => [.inr (.ref 24)]), (fun vs => zP q_X8_sum_1), (fun vs => Nat.sub (Nat.add 7 0) 0)),
  (1, [(4, 2147483648, 2147483654)], (fun vs => [.inr (.ref 24), .inl 8589934591, .inr (.ref 24), .inl 2147483654, .inl (zn 0 vs 0)]), (fun vs => zP q_X8_sum_1), (fun vs => Nat.sub (Nat.add 2147483654 0) (Nat.add 0 (Nat.mul 1 (zn 0 vs 0)))))]
def bf_X8_sum_1 : List Nat := [0, 2]
theorem r_X8_sum_1_0 : zbox [] (fun vs => zFrun (zpost (zAlq al_X8_sum_1)) 1000 t_X8_sum fm_X8_sum_1 bf_X8_sum_1 (0, vs)) = true := by decide +kernel
theorem r_X8_sum_1_1 : zbox [(4, 2147483648, 2147483654)] (fun vs => zFrun (zpost (zAlq al_X8_sum_1)) 1000 t_X8_sum fm_X8_sum_1 bf_X8_sum_1 (1, vs)) = true := by decide +kernel
set_option maxRecDepth 100000 in
theorem x_X8_sum_1 (d : Nat) : zS l G gh (d + 1) (zpost (zAlq al_X8_sum_1)) n_X8_sum (zn 0 p_X8_sum 0) (zwc (0, [.inr (.ref 24)], zP q_X8_sum_1) 0) := zentry (tt_X8_sum d) fm_X8_sum_1 bf_X8_sum_1 1000 (by decide +kernel) rfl ⟨Nat.zero_lt_succ _, trivial⟩ (fun f hf => match f, hf with
  | 0, _ => fun vs hv => (zbox_t r_X8_sum_1_0) vs hv
  | 1, _ => fun vs hv => (zbox_t r_X8_sum_1_1) vs hv
  | f + 2, h => absurd (show f + 2 < 2 from h) (Nat.not_lt.mpr (Nat.le_add_left 2 f)))
noncomputable def gs_X8_sum_1 : zMt := zgq false [] 6 [.inr (.ref 24)] q_X8_sum_1 al_X8_sum_1
set_option maxRecDepth 100000 in
theorem cs_X8_sum_1 (d : Nat) : zC l G gh (d + 1) n_X8_sum gs_X8_sum_1 := zgq_ok0 (pcs := p_X8_sum) (by decide) rfl rfl (fun a ha => by simp only [al_X8_sum_1, List.mem_cons, List.not_mem_nil, or_false] at ha; rcases ha with rfl <;> decide +kernel) (fun gh => x_X8_sum_1 d) (by decide +kernel)
def q_X8_sum_2 : List (Nat × Nat) := [(23, zk12)]
noncomputable def al_X8_sum_2 : zAq := [(some (.inl 8589934591), [(23, zk12)])]
noncomputable def fm_X8_sum_2 : List zFm := [(0, [], (fun vs => [.inr (.ref 23)]), (fun vs => zP q_X8_sum_2), (fun vs => Nat.sub (Nat.add 7 0) 0)),
  (1, [(4, 2147483648, 2147483654)], (fun vs => [.inr (.ref 23), .inl 8589934591, .inr (.ref 23), .inl 2147483654, .inl (zn 0 vs 0)]), (fun vs => zP q_X8_sum_2), (fun vs => Nat.sub (Nat.add 2147483654 0) (Nat.add 0 (Nat.mul 1 (zn 0 vs 0)))))]
def bf_X8_sum_2 : List Nat := [0, 2]
theorem r_X8_sum_2_0 : zbox [] (fun vs => zFrun (zpost (zAlq al_X8_sum_2)) 1000 t_X8_sum fm_X8_sum_2 bf_X8_sum_2 (0, vs)) = true := by decide +kernel
theorem r_X8_sum_2_1 : zbox [(4, 2147483648, 2147483654)] (fun vs => zFrun (zpost (zAlq al_X8_sum_2)) 1000 t_X8_sum fm_X8_sum_2 bf_X8_sum_2 (1, vs)) = true := by decide +kernel
set_option maxRecDepth 100000 in
theorem x_X8_sum_2 (d : Nat) : zS l G gh (d + 1) (zpost (zAlq al_X8_sum_2)) n_X8_sum (zn 0 p_X8_sum 0) (zwc (0, [.inr (.ref 23)], zP q_X8_sum_2) 0) := zentry (tt_X8_sum d) fm_X8_sum_2 bf_X8_sum_2 1000 (by decide +kernel) rfl ⟨Nat.zero_lt_succ _, trivial⟩ (fun f hf => match f, hf with
  | 0, _ => fun vs hv => (zbox_t r_X8_sum_2_0) vs hv
  | 1, _ => fun vs hv => (zbox_t r_X8_sum_2_1) vs hv
  | f + 2, h => absurd (show f + 2 < 2 from h) (Nat.not_lt.mpr (Nat.le_add_left 2 f)))
noncomputable def gs_X8_sum_2 : zMt := zgq false [] 6 [.inr (.ref 23)] q_X8_sum_2 al_X8_sum_2
set_option maxRecDepth 100000 in
theorem cs_X8_sum_2 (d : Nat) : zC l G gh (d + 1) n_X8_sum gs_X8_sum_2 := zgq_ok0 (pcs := p_X8_sum) (by decide) rfl rfl (fun a ha => by simp only [al_X8_sum_2, List.mem_cons, List.not_mem_nil, or_false] at ha; rcases ha with rfl <;> decide +kernel) (fun gh => x_X8_sum_2 d) (by decide +kernel)
def q_X8_sum_3 : List (Nat × Nat) := [(26, zk11)]
noncomputable def al_X8_sum_3 : zAq := [(some (.inl 8589934591), [(26, zk11)])]
noncomputable def fm_X8_sum_3 : List zFm := [(0, [], (fun vs => [.inr (.ref 26)]), (fun vs => zP q_X8_sum_3), (fun vs => Nat.sub (Nat.add 37 0) 0)),
  (1, [(4, 2147483648, 2147483684)], (fun vs => [.inr (.ref 26), .inl 8589934591, .inr (.ref 26), .inl 2147483684, .inl (zn 0 vs 0)]), (fun vs => zP q_X8_sum_3), (fun vs => Nat.sub (Nat.add 2147483684 0) (Nat.add 0 (Nat.mul 1 (zn 0 vs 0)))))]
def bf_X8_sum_3 : List Nat := [0, 2]
theorem r_X8_sum_3_0 : zbox [] (fun vs => zFrun (zpost (zAlq al_X8_sum_3)) 1000 t_X8_sum fm_X8_sum_3 bf_X8_sum_3 (0, vs)) = true := by decide +kernel
theorem r_X8_sum_3_1 : zbox [(4, 2147483648, 2147483684)] (fun vs => zFrun (zpost (zAlq al_X8_sum_3)) 1000 t_X8_sum fm_X8_sum_3 bf_X8_sum_3 (1, vs)) = true := by decide +kernel
set_option maxRecDepth 100000 in
theorem x_X8_sum_3 (d : Nat) : zS l G gh (d + 1) (zpost (zAlq al_X8_sum_3)) n_X8_sum (zn 0 p_X8_sum 0) (zwc (0, [.inr (.ref 26)], zP q_X8_sum_3) 0) := zentry (tt_X8_sum d) fm_X8_sum_3 bf_X8_sum_3 1000 (by decide +kernel) rfl ⟨Nat.zero_lt_succ _, trivial⟩ (fun f hf => match f, hf with
  | 0, _ => fun vs hv => (zbox_t r_X8_sum_3_0) vs hv
  | 1, _ => fun vs hv => (zbox_t r_X8_sum_3_1) vs hv
  | f + 2, h => absurd (show f + 2 < 2 from h) (Nat.not_lt.mpr (Nat.le_add_left 2 f)))
noncomputable def gs_X8_sum_3 : zMt := zgq false [] 6 [.inr (.ref 26)] q_X8_sum_3 al_X8_sum_3
set_option maxRecDepth 100000 in
theorem cs_X8_sum_3 (d : Nat) : zC l G gh (d + 1) n_X8_sum gs_X8_sum_3 := zgq_ok0 (pcs := p_X8_sum) (by decide) rfl rfl (fun a ha => by simp only [al_X8_sum_3, List.mem_cons, List.not_mem_nil, or_false] at ha; rcases ha with rfl <;> decide +kernel) (fun gh => x_X8_sum_3 d) (by decide +kernel)
noncomputable def gs_X8_sum : zMt := (zor gs_X8_sum_0 (zor gs_X8_sum_1 (zor gs_X8_sum_2 gs_X8_sum_3)))
theorem cs_X8_sum (d : Nat) : zC l G gh (d + 1) n_X8_sum gs_X8_sum := (zor_ok (cs_X8_sum_0 d) (zor_ok (cs_X8_sum_1 d) (zor_ok (cs_X8_sum_2 d) (cs_X8_sum_3 d))))
def p_X8_heldSlots : List Nat := [0, 4, 9, 19, 23, 24, 32]
noncomputable def b_X8_heldSlots_0 : zBl := fun jp K => oInt 2147483648 <| oIst 1 <| oInt 2147483648 <| oIst 2 <| jp 1
theorem s_X8_heldSlots_0 (d : Nat) : zPb l G gh (d + 1) n_X8_heldSlots p_X8_heldSlots 0 b_X8_heldSlots_0 := fun K jp hj =>
    z_iconst (n := 0) (zd (i := .iconst (0)) (n := 1) (by decide +kernel)) (by decide +kernel) <|
    z_istore_n (n := 1) (i := 1) (zd (i := .istore_n 1) (n := 1) (by decide +kernel)) rfl (by decide +kernel) <|
    z_iconst (n := 0) (zd (i := .iconst (0)) (n := 1) (by decide +kernel)) (by decide +kernel) <|
    z_istore_n (n := 2) (i := 2) (zd (i := .istore_n 2) (n := 1) (by decide +kernel)) rfl (by decide +kernel) <|
    (zj (hj 1) (by decide +kernel))
noncomputable def b_X8_heldSlots_1 : zBl := fun jp K => oNLC 2 2147483651 zgeN zltN zn1_ge zn1_lt (jp 6) (jp 2)
theorem s_X8_heldSlots_1 (d : Nat) : zPb l G gh (d + 1) n_X8_heldSlots p_X8_heldSlots 4 b_X8_heldSlots_1 := fun K jp hj =>
    z_nLC_ge (i := 2) (c0 := 2147483651) (a1 := 1) (a2 := 1) (off := 26) (tgt := 32) (zLd_n (n := 2) (i := 2) (zd (i := .iload_n 2) (n := 1) (by decide +kernel)) rfl) (zCn_c (n := 3) (zd (i := .iconst (3)) (n := 1) (by decide +kernel)) (by decide +kernel)) (zd (i := .if_icmp .ge (26)) (n := 3) (by decide +kernel)) (by decide +kernel) (zj (hj 6) (by decide +kernel)) (zj (hj 2) (by decide +kernel))
noncomputable def b_X8_heldSlots_2 : zBl := fun jp K => oIld 1 <| oAld 0 <| oGetR 8 6 <| oIld 2 <| oXald 12 <| oIf zeq zne (jp 4) (jp 3)
theorem s_X8_heldSlots_2 (d : Nat) : zPb l G gh (d + 1) n_X8_heldSlots p_X8_heldSlots 9 b_X8_heldSlots_2 := fun K jp hj =>
    z_iload_n (n := 1) (i := 1) (zd (i := .iload_n 1) (n := 1) (by decide +kernel)) rfl <|
    z_aload_n (n := 0) (i := 0) (zd (i := .aload_n 0) (n := 1) (by decide +kernel)) rfl <|
    z_getR (ci := 8) (j := 6) (idx := 44) (zd (i := .getfield 44) (n := 3) (by decide +kernel)) (by decide +kernel) (by decide +kernel) rfl g458 <|
    z_iload_n (n := 2) (i := 2) (zd (i := .iload_n 2) (n := 1) (by decide +kernel)) rfl <|
    z_zald (zd (i := .baload) (n := 1) (by decide +kernel)) <|
    z_if_eq (off := 7) (tgt := 23) (zd (i := .ifCond .eq (7)) (n := 3) (by decide +kernel)) (by decide +kernel) (zj (hj 4) (by decide +kernel)) (zj (hj 3) (by decide +kernel))
noncomputable def b_X8_heldSlots_3 : zBl := fun jp K => oInt 2147483649 <| jp 5
theorem s_X8_heldSlots_3 (d : Nat) : zPb l G gh (d + 1) n_X8_heldSlots p_X8_heldSlots 19 b_X8_heldSlots_3 := fun K jp hj =>
    z_iconst (n := 1) (zd (i := .iconst (1)) (n := 1) (by decide +kernel)) (by decide +kernel) <|
    z_goto (off := 4) (tgt := 24) (zd (i := .goto (4)) (n := 3) (by decide +kernel)) (by decide +kernel) (zj (hj 5) (by decide +kernel))
noncomputable def b_X8_heldSlots_4 : zBl := fun jp K => oInt 2147483648 <| jp 5
theorem s_X8_heldSlots_4 (d : Nat) : zPb l G gh (d + 1) n_X8_heldSlots p_X8_heldSlots 23 b_X8_heldSlots_4 := fun K jp hj =>
    z_iconst (n := 0) (zd (i := .iconst (0)) (n := 1) (by decide +kernel)) (by decide +kernel) <|
    (zj (hj 5) (by decide +kernel))
noncomputable def b_X8_heldSlots_5 : zBl := fun jp K => oB2 zadd <| oIst 1 <| oInc 2 2147483649 <| jp 1
theorem s_X8_heldSlots_5 (d : Nat) : zPb l G gh (d + 1) n_X8_heldSlots p_X8_heldSlots 24 b_X8_heldSlots_5 := fun K jp hj =>
    z_iadd (zd (i := .iadd) (n := 1) (by decide +kernel)) <|
    z_istore_n (n := 1) (i := 1) (zd (i := .istore_n 1) (n := 1) (by decide +kernel)) rfl (by decide +kernel) <|
    z_iinc (i := 2) (n := 1) (zd (i := .iinc 2 (1)) (n := 3) (by decide +kernel)) (by decide +kernel) (by decide +kernel) <|
    z_goto (off := -25) (tgt := 4) (zd (i := .goto (-25)) (n := 3) (by decide +kernel)) (by decide +kernel) (zj (hj 1) (by decide +kernel))
noncomputable def b_X8_heldSlots_6 : zBl := fun jp K => oIld 1 <| oIret K
theorem s_X8_heldSlots_6 (d : Nat) : zPb l G gh (d + 1) n_X8_heldSlots p_X8_heldSlots 32 b_X8_heldSlots_6 := fun K jp hj =>
    z_iload_n (n := 1) (i := 1) (zd (i := .iload_n 1) (n := 1) (by decide +kernel)) rfl <|
    z_iret (zd (i := .ireturn) (n := 1) (by decide +kernel)) rfl
noncomputable def t_X8_heldSlots : List zBl := [b_X8_heldSlots_0, b_X8_heldSlots_1, b_X8_heldSlots_2, b_X8_heldSlots_3, b_X8_heldSlots_4, b_X8_heldSlots_5, b_X8_heldSlots_6]
theorem tt_X8_heldSlots (d : Nat) : zT (zPb l G gh (d + 1) n_X8_heldSlots p_X8_heldSlots) t_X8_heldSlots p_X8_heldSlots := ⟨s_X8_heldSlots_0 d, s_X8_heldSlots_1 d, s_X8_heldSlots_2 d, s_X8_heldSlots_3 d, s_X8_heldSlots_4 d, s_X8_heldSlots_5 d, s_X8_heldSlots_6 d, trivial⟩
def q_X8_heldSlots_0 : List (Nat × Nat) := [(0, zk0), (248, zk13)]
noncomputable def al_X8_heldSlots_0 : zAq := [(some (.inl 8589934591), [(0, zk0), (248, zk13)])]
noncomputable def fm_X8_heldSlots_0 : List zFm := [(0, [], (fun vs => [.inr (.ref 0)]), (fun vs => zP q_X8_heldSlots_0), (fun vs => Nat.sub (Nat.add 4 0) 0)),
  (1, [(2, 2147483648, 2147483651)], (fun vs => [.inr (.ref 0), .inl 8589934591, .inl (zn 0 vs 0)]), (fun vs => zP q_X8_heldSlots_0), (fun vs => Nat.sub (Nat.add 2147483651 0) (Nat.add 0 (Nat.mul 1 (zn 0 vs 0)))))]
def bf_X8_heldSlots_0 : List Nat := [0, 2]
theorem r_X8_heldSlots_0_0 : zbox [] (fun vs => zFrun (zpost (zAlq al_X8_heldSlots_0)) 1000 t_X8_heldSlots fm_X8_heldSlots_0 bf_X8_heldSlots_0 (0, vs)) = true := by decide +kernel
theorem r_X8_heldSlots_0_1 : zbox [(2, 2147483648, 2147483651)] (fun vs => zFrun (zpost (zAlq al_X8_heldSlots_0)) 1000 t_X8_heldSlots fm_X8_heldSlots_0 bf_X8_heldSlots_0 (1, vs)) = true := by decide +kernel
set_option maxRecDepth 100000 in
theorem x_X8_heldSlots_0 (d : Nat) : zS l G gh (d + 1) (zpost (zAlq al_X8_heldSlots_0)) n_X8_heldSlots (zn 0 p_X8_heldSlots 0) (zwc (0, [.inr (.ref 0)], zP q_X8_heldSlots_0) 0) := zentry (tt_X8_heldSlots d) fm_X8_heldSlots_0 bf_X8_heldSlots_0 1000 (by decide +kernel) rfl ⟨Nat.zero_lt_succ _, trivial⟩ (fun f hf => match f, hf with
  | 0, _ => fun vs hv => (zbox_t r_X8_heldSlots_0_0) vs hv
  | 1, _ => fun vs hv => (zbox_t r_X8_heldSlots_0_1) vs hv
  | f + 2, h => absurd (show f + 2 < 2 from h) (Nat.not_lt.mpr (Nat.le_add_left 2 f)))
noncomputable def gs_X8_heldSlots_0 : zMt := zgq false [] 3 [.inr (.ref 0)] q_X8_heldSlots_0 al_X8_heldSlots_0
set_option maxRecDepth 100000 in
theorem cs_X8_heldSlots_0 (d : Nat) : zC l G gh (d + 1) n_X8_heldSlots gs_X8_heldSlots_0 := zgq_ok0 (pcs := p_X8_heldSlots) (by decide) rfl rfl (fun a ha => by simp only [al_X8_heldSlots_0, List.mem_cons, List.not_mem_nil, or_false] at ha; rcases ha with rfl <;> decide +kernel) (fun gh => x_X8_heldSlots_0 d) (by decide +kernel)
def q_X8_heldSlots_1 : List (Nat × Nat) := [(0, zk1), (248, zk13)]
noncomputable def al_X8_heldSlots_1 : zAq := [(some (.inl 8589934591), [(0, zk1), (248, zk13)])]
noncomputable def fm_X8_heldSlots_1 : List zFm := [(0, [], (fun vs => [.inr (.ref 0)]), (fun vs => zP q_X8_heldSlots_1), (fun vs => Nat.sub (Nat.add 4 0) 0)),
  (1, [(2, 2147483648, 2147483651)], (fun vs => [.inr (.ref 0), .inl 8589934591, .inl (zn 0 vs 0)]), (fun vs => zP q_X8_heldSlots_1), (fun vs => Nat.sub (Nat.add 2147483651 0) (Nat.add 0 (Nat.mul 1 (zn 0 vs 0)))))]
def bf_X8_heldSlots_1 : List Nat := [0, 2]
theorem r_X8_heldSlots_1_0 : zbox [] (fun vs => zFrun (zpost (zAlq al_X8_heldSlots_1)) 1000 t_X8_heldSlots fm_X8_heldSlots_1 bf_X8_heldSlots_1 (0, vs)) = true := by decide +kernel
theorem r_X8_heldSlots_1_1 : zbox [(2, 2147483648, 2147483651)] (fun vs => zFrun (zpost (zAlq al_X8_heldSlots_1)) 1000 t_X8_heldSlots fm_X8_heldSlots_1 bf_X8_heldSlots_1 (1, vs)) = true := by decide +kernel
set_option maxRecDepth 100000 in
theorem x_X8_heldSlots_1 (d : Nat) : zS l G gh (d + 1) (zpost (zAlq al_X8_heldSlots_1)) n_X8_heldSlots (zn 0 p_X8_heldSlots 0) (zwc (0, [.inr (.ref 0)], zP q_X8_heldSlots_1) 0) := zentry (tt_X8_heldSlots d) fm_X8_heldSlots_1 bf_X8_heldSlots_1 1000 (by decide +kernel) rfl ⟨Nat.zero_lt_succ _, trivial⟩ (fun f hf => match f, hf with
  | 0, _ => fun vs hv => (zbox_t r_X8_heldSlots_1_0) vs hv
  | 1, _ => fun vs hv => (zbox_t r_X8_heldSlots_1_1) vs hv
  | f + 2, h => absurd (show f + 2 < 2 from h) (Nat.not_lt.mpr (Nat.le_add_left 2 f)))
noncomputable def gs_X8_heldSlots_1 : zMt := zgq false [] 3 [.inr (.ref 0)] q_X8_heldSlots_1 al_X8_heldSlots_1
set_option maxRecDepth 100000 in
theorem cs_X8_heldSlots_1 (d : Nat) : zC l G gh (d + 1) n_X8_heldSlots gs_X8_heldSlots_1 := zgq_ok0 (pcs := p_X8_heldSlots) (by decide) rfl rfl (fun a ha => by simp only [al_X8_heldSlots_1, List.mem_cons, List.not_mem_nil, or_false] at ha; rcases ha with rfl <;> decide +kernel) (fun gh => x_X8_heldSlots_1 d) (by decide +kernel)
noncomputable def gs_X8_heldSlots : zMt := (zor gs_X8_heldSlots_0 gs_X8_heldSlots_1)
theorem cs_X8_heldSlots (d : Nat) : zC l G gh (d + 1) n_X8_heldSlots gs_X8_heldSlots := (zor_ok (cs_X8_heldSlots_0 d) (cs_X8_heldSlots_1 d))
def p_X1_handOver : List Nat := [0]
noncomputable def b_X1_handOver_0 : zBl := fun jp K => oAld 0 <| oGetR 1 1 <| oAst 2 <| oAld 0 <| oAld 1 <| oPutR 1 1 <| oAld 2 <| oAret K
theorem s_X1_handOver_0 (d : Nat) : zPb l G gh (d + 1) n_X1_handOver p_X1_handOver 0 b_X1_handOver_0 := fun K jp hj =>
    z_aload_n (n := 0) (i := 0) (zd (i := .aload_n 0) (n := 1) (by decide +kernel)) rfl <|
    z_getR (ci := 1) (j := 1) (idx := 21) (zd (i := .getfield 21) (n := 3) (by decide +kernel)) (by decide +kernel) (by decide +kernel) rfl g336 <|
    z_astore_n (n := 2) (i := 2) (zd (i := .astore_n 2) (n := 1) (by decide +kernel)) rfl (by decide +kernel) <|
    z_aload_n (n := 0) (i := 0) (zd (i := .aload_n 0) (n := 1) (by decide +kernel)) rfl <|
    z_aload_n (n := 1) (i := 1) (zd (i := .aload_n 1) (n := 1) (by decide +kernel)) rfl <|
    z_putR (ci := 1) (j := 1) (idx := 21) (zd (i := .putfield 21) (n := 3) (by decide +kernel)) (by decide +kernel) (by decide +kernel) (fun r => by cases r <;> rfl) (fun r => by cases r <;> rfl) rfl g336 (Or.inl rfl) <|
    z_aload_n (n := 2) (i := 2) (zd (i := .aload_n 2) (n := 1) (by decide +kernel)) rfl <|
    z_aret (zd (i := .areturn) (n := 1) (by decide +kernel)) rfl
noncomputable def t_X1_handOver : List zBl := [b_X1_handOver_0]
theorem tt_X1_handOver (d : Nat) : zT (zPb l G gh (d + 1) n_X1_handOver p_X1_handOver) t_X1_handOver p_X1_handOver := ⟨s_X1_handOver_0 d, trivial⟩
noncomputable def f_X1_handOver : zMt := zmet 3 t_X1_handOver
theorem c_X1_handOver (d : Nat) : zC l G gh (d + 1) n_X1_handOver f_X1_handOver := zmet_ok (pcs := p_X1_handOver) (by decide) rfl rfl (tt_X1_handOver d)
def p_X8_feed : List Nat := [0, 12, 14]
noncomputable def b_X8_feed_0 : zBl := fun jp K => oAld 0 <| oGetR 8 0 <| oInt 2147483668 <| oCv 5 1 f_X5_hasRoom <| oIf zne zeq (jp 2) (jp 1)
theorem s_X8_feed_0 (d : Nat) : zPb l G gh (d + 2) n_X8_feed p_X8_feed 0 b_X8_feed_0 := fun K jp hj =>
    z_aload_n (n := 0) (i := 0) (zd (i := .aload_n 0) (n := 1) (by decide +kernel)) rfl <|
    z_getR (ci := 8) (j := 0) (idx := 12) (zd (i := .getfield 12) (n := 3) (by decide +kernel)) (by decide +kernel) (by decide +kernel) rfl g452 <|
    z_bipush (n := 20) (zd (i := .bipush (20)) (n := 2) (by decide +kernel)) (by decide +kernel) <|
    z_callV (idx := 79) (ci := 5) (N := n_X5_hasRoom) (zd (i := .invokevirtual 79) (n := 3) (by decide +kernel)) to_X5_hasRoom g499 g500 g501 (by decide +kernel) rfl rfl rfl (c_X5_hasRoom (l := l) (G := G) (gh := gh) (d)) <|
    z_if_ne (off := 5) (tgt := 14) (zd (i := .ifCond .ne (5)) (n := 3) (by decide +kernel)) (by decide +kernel) (zj (hj 2) (by decide +kernel)) (zj (hj 1) (by decide +kernel))
noncomputable def b_X8_feed_1 : zBl := fun jp K => oInt 2147483647 <| oIret K
theorem s_X8_feed_1 (d : Nat) : zPb l G gh (d + 2) n_X8_feed p_X8_feed 12 b_X8_feed_1 := fun K jp hj =>
    z_iconst (n := -1) (zd (i := .iconst (-1)) (n := 1) (by decide +kernel)) (by decide +kernel) <|
    z_iret (zd (i := .ireturn) (n := 1) (by decide +kernel)) rfl
noncomputable def b_X8_feed_2 : zBl := fun jp K => oAld 0 <| oGetR 8 0 <| oIld 1 <| oCv 5 1 f_X5_putWord <| oAld 0 <| oGetR 8 0 <| oIld 2 <| oCv 5 1 f_X5_putWord <| oAld 0 <| oGetR 8 0 <| oIld 3 <| oCv 5 1 f_X5_putWord <| oAld 0 <| oGetR 8 0 <| oIld 4 <| oCv 5 1 f_X5_putWord <| oAld 0 <| oGetR 8 0 <| oIld 5 <| oCv 5 1 f_X5_putWord <| oAld 0 <| oGetR 8 0 <| oGetI 5 1 <| oIret K
theorem s_X8_feed_2 (d : Nat) : zPb l G gh (d + 2) n_X8_feed p_X8_feed 14 b_X8_feed_2 := fun K jp hj =>
    z_aload_n (n := 0) (i := 0) (zd (i := .aload_n 0) (n := 1) (by decide +kernel)) rfl <|
    z_getR (ci := 8) (j := 0) (idx := 12) (zd (i := .getfield 12) (n := 3) (by decide +kernel)) (by decide +kernel) (by decide +kernel) rfl g452 <|
    z_iload_n (n := 1) (i := 1) (zd (i := .iload_n 1) (n := 1) (by decide +kernel)) rfl <|
    z_callV (idx := 83) (ci := 5) (N := n_X5_putWord) (zd (i := .invokevirtual 83) (n := 3) (by decide +kernel)) to_X5_putWord g503 g504 g505 (by decide +kernel) rfl rfl rfl (c_X5_putWord (l := l) (G := G) (gh := gh) (d)) <|
    z_aload_n (n := 0) (i := 0) (zd (i := .aload_n 0) (n := 1) (by decide +kernel)) rfl <|
    z_getR (ci := 8) (j := 0) (idx := 12) (zd (i := .getfield 12) (n := 3) (by decide +kernel)) (by decide +kernel) (by decide +kernel) rfl g452 <|
    z_iload_n (n := 2) (i := 2) (zd (i := .iload_n 2) (n := 1) (by decide +kernel)) rfl <|
    z_callV (idx := 83) (ci := 5) (N := n_X5_putWord) (zd (i := .invokevirtual 83) (n := 3) (by decide +kernel)) to_X5_putWord g503 g504 g505 (by decide +kernel) rfl rfl rfl (c_X5_putWord (l := l) (G := G) (gh := gh) (d)) <|
    z_aload_n (n := 0) (i := 0) (zd (i := .aload_n 0) (n := 1) (by decide +kernel)) rfl <|
    z_getR (ci := 8) (j := 0) (idx := 12) (zd (i := .getfield 12) (n := 3) (by decide +kernel)) (by decide +kernel) (by decide +kernel) rfl g452 <|
    z_iload_n (n := 3) (i := 3) (zd (i := .iload_n 3) (n := 1) (by decide +kernel)) rfl <|
    z_callV (idx := 83) (ci := 5) (N := n_X5_putWord) (zd (i := .invokevirtual 83) (n := 3) (by decide +kernel)) to_X5_putWord g503 g504 g505 (by decide +kernel) rfl rfl rfl (c_X5_putWord (l := l) (G := G) (gh := gh) (d)) <|
    z_aload_n (n := 0) (i := 0) (zd (i := .aload_n 0) (n := 1) (by decide +kernel)) rfl <|
    z_getR (ci := 8) (j := 0) (idx := 12) (zd (i := .getfield 12) (n := 3) (by decide +kernel)) (by decide +kernel) (by decide +kernel) rfl g452 <|
    z_iload (i := 4) (zd (i := .iload 4) (n := 2) (by decide +kernel)) <|
    z_callV (idx := 83) (ci := 5) (N := n_X5_putWord) (zd (i := .invokevirtual 83) (n := 3) (by decide +kernel)) to_X5_putWord g503 g504 g505 (by decide +kernel) rfl rfl rfl (c_X5_putWord (l := l) (G := G) (gh := gh) (d)) <|
    z_aload_n (n := 0) (i := 0) (zd (i := .aload_n 0) (n := 1) (by decide +kernel)) rfl <|
    z_getR (ci := 8) (j := 0) (idx := 12) (zd (i := .getfield 12) (n := 3) (by decide +kernel)) (by decide +kernel) (by decide +kernel) rfl g452 <|
    z_iload (i := 5) (zd (i := .iload 5) (n := 2) (by decide +kernel)) <|
    z_callV (idx := 83) (ci := 5) (N := n_X5_putWord) (zd (i := .invokevirtual 83) (n := 3) (by decide +kernel)) to_X5_putWord g503 g504 g505 (by decide +kernel) rfl rfl rfl (c_X5_putWord (l := l) (G := G) (gh := gh) (d)) <|
    z_aload_n (n := 0) (i := 0) (zd (i := .aload_n 0) (n := 1) (by decide +kernel)) rfl <|
    z_getR (ci := 8) (j := 0) (idx := 12) (zd (i := .getfield 12) (n := 3) (by decide +kernel)) (by decide +kernel) (by decide +kernel) rfl g452 <|
    z_getI (ci := 5) (j := 1) (idx := 87) (zd (i := .getfield 87) (n := 3) (by decide +kernel)) (by decide +kernel) (by decide +kernel) rfl g131 <|
    z_iret (zd (i := .ireturn) (n := 1) (by decide +kernel)) rfl
noncomputable def t_X8_feed : List zBl := [b_X8_feed_0, b_X8_feed_1, b_X8_feed_2]
theorem tt_X8_feed (d : Nat) : zT (zPb l G gh (d + 2) n_X8_feed p_X8_feed) t_X8_feed p_X8_feed := ⟨s_X8_feed_0 d, s_X8_feed_1 d, s_X8_feed_2 d, trivial⟩
def q_X8_feed_0 : List (Nat × Nat) := [(0, zk0), (1, zk14), (2, zk15)]
noncomputable def al_X8_feed_0 : zAq := [(some (.inl 9223372039002261456), [(0, zk0), (1, zk16), (2, zk17)])]
noncomputable def fm_X8_feed_0 : List zFm := [(0, [], (fun vs => [.inr (.ref 0), .inl 8589934591, .inl 8589934591, .inl 8589934591, .inl 8589934591, .inl 8589934591]), (fun vs => zP q_X8_feed_0), (fun vs => Nat.sub (Nat.add 0 0) 0))]
def bf_X8_feed_0 : List Nat := []
theorem r_X8_feed_0_0 : zbox [] (fun vs => zFrun (zpost (zAlq al_X8_feed_0)) 1000 t_X8_feed fm_X8_feed_0 bf_X8_feed_0 (0, vs)) = true := by decide +kernel
set_option maxRecDepth 100000 in
theorem x_X8_feed_0 (d : Nat) : zS l G gh (d + 2) (zpost (zAlq al_X8_feed_0)) n_X8_feed (zn 0 p_X8_feed 0) (zwc (0, [.inr (.ref 0), .inl 8589934591, .inl 8589934591, .inl 8589934591, .inl 8589934591, .inl 8589934591], zP q_X8_feed_0) 0) := zentry (tt_X8_feed d) fm_X8_feed_0 bf_X8_feed_0 1000 (by decide +kernel) rfl ⟨Nat.zero_lt_succ _, trivial⟩ (fun f hf => match f, hf with
  | 0, _ => fun vs hv => (zbox_t r_X8_feed_0_0) vs hv
  | f + 1, h => absurd (show f + 1 < 1 from h) (Nat.not_lt.mpr (Nat.le_add_left 1 f)))
noncomputable def gs_X8_feed_0 : zMt := zgq false [] 6 [.inr (.ref 0), .inl 8589934591, .inl 8589934591, .inl 8589934591, .inl 8589934591, .inl 8589934591] q_X8_feed_0 al_X8_feed_0
set_option maxRecDepth 100000 in
theorem cs_X8_feed_0 (d : Nat) : zC l G gh (d + 2) n_X8_feed gs_X8_feed_0 := zgq_ok0 (pcs := p_X8_feed) (by decide) rfl rfl (fun a ha => by simp only [al_X8_feed_0, List.mem_cons, List.not_mem_nil, or_false] at ha; rcases ha with rfl <;> decide +kernel) (fun gh => x_X8_feed_0 d) (by decide +kernel)
def q_X8_feed_1 : List (Nat × Nat) := [(0, zk1), (1, zk14), (2, zk15)]
noncomputable def al_X8_feed_1 : zAq := [(some (.inl 9223372039002261456), [(0, zk1), (1, zk16), (2, zk17)])]
noncomputable def fm_X8_feed_1 : List zFm := [(0, [], (fun vs => [.inr (.ref 0), .inl 8589934591, .inl 8589934591, .inl 8589934591, .inl 8589934591, .inl 8589934591]), (fun vs => zP q_X8_feed_1), (fun vs => Nat.sub (Nat.add 0 0) 0))]
def bf_X8_feed_1 : List Nat := []
theorem r_X8_feed_1_0 : zbox [] (fun vs => zFrun (zpost (zAlq al_X8_feed_1)) 1000 t_X8_feed fm_X8_feed_1 bf_X8_feed_1 (0, vs)) = true := by decide +kernel
set_option maxRecDepth 100000 in
theorem x_X8_feed_1 (d : Nat) : zS l G gh (d + 2) (zpost (zAlq al_X8_feed_1)) n_X8_feed (zn 0 p_X8_feed 0) (zwc (0, [.inr (.ref 0), .inl 8589934591, .inl 8589934591, .inl 8589934591, .inl 8589934591, .inl 8589934591], zP q_X8_feed_1) 0) := zentry (tt_X8_feed d) fm_X8_feed_1 bf_X8_feed_1 1000 (by decide +kernel) rfl ⟨Nat.zero_lt_succ _, trivial⟩ (fun f hf => match f, hf with
  | 0, _ => fun vs hv => (zbox_t r_X8_feed_1_0) vs hv
  | f + 1, h => absurd (show f + 1 < 1 from h) (Nat.not_lt.mpr (Nat.le_add_left 1 f)))
noncomputable def gs_X8_feed_1 : zMt := zgq false [] 6 [.inr (.ref 0), .inl 8589934591, .inl 8589934591, .inl 8589934591, .inl 8589934591, .inl 8589934591] q_X8_feed_1 al_X8_feed_1
set_option maxRecDepth 100000 in
theorem cs_X8_feed_1 (d : Nat) : zC l G gh (d + 2) n_X8_feed gs_X8_feed_1 := zgq_ok0 (pcs := p_X8_feed) (by decide) rfl rfl (fun a ha => by simp only [al_X8_feed_1, List.mem_cons, List.not_mem_nil, or_false] at ha; rcases ha with rfl <;> decide +kernel) (fun gh => x_X8_feed_1 d) (by decide +kernel)
noncomputable def gs_X8_feed : zMt := (zor gs_X8_feed_0 gs_X8_feed_1)
theorem cs_X8_feed (d : Nat) : zC l G gh (d + 2) n_X8_feed gs_X8_feed := (zor_ok (cs_X8_feed_0 d) (cs_X8_feed_1 d))
def p_X8_back : List Nat := [0, 11, 21, 22]
noncomputable def b_X8_back_0 : zBl := fun jp K => oAld 0 <| oGetR 8 0 <| oIld 1 <| oCv 5 1 f_X5_drop <| oIf zeq zne (jp 2) (jp 1)
theorem s_X8_back_0 (d : Nat) : zPb l G gh (d + 2) n_X8_back p_X8_back 0 b_X8_back_0 := fun K jp hj =>
    z_aload_n (n := 0) (i := 0) (zd (i := .aload_n 0) (n := 1) (by decide +kernel)) rfl <|
    z_getR (ci := 8) (j := 0) (idx := 12) (zd (i := .getfield 12) (n := 3) (by decide +kernel)) (by decide +kernel) (by decide +kernel) rfl g452 <|
    z_iload_n (n := 1) (i := 1) (zd (i := .iload_n 1) (n := 1) (by decide +kernel)) rfl <|
    z_callV (idx := 90) (ci := 5) (N := n_X5_drop) (zd (i := .invokevirtual 90) (n := 3) (by decide +kernel)) to_X5_drop g511 g512 g513 (by decide +kernel) rfl rfl rfl (c_X5_drop (l := l) (G := G) (gh := gh) (d)) <|
    z_if_eq (off := 13) (tgt := 21) (zd (i := .ifCond .eq (13)) (n := 3) (by decide +kernel)) (by decide +kernel) (zj (hj 2) (by decide +kernel)) (zj (hj 1) (by decide +kernel))
noncomputable def b_X8_back_1 : zBl := fun jp K => oAld 0 <| oGetR 8 0 <| oGetI 5 1 <| jp 3
theorem s_X8_back_1 (d : Nat) : zPb l G gh (d + 2) n_X8_back p_X8_back 11 b_X8_back_1 := fun K jp hj =>
    z_aload_n (n := 0) (i := 0) (zd (i := .aload_n 0) (n := 1) (by decide +kernel)) rfl <|
    z_getR (ci := 8) (j := 0) (idx := 12) (zd (i := .getfield 12) (n := 3) (by decide +kernel)) (by decide +kernel) (by decide +kernel) rfl g452 <|
    z_getI (ci := 5) (j := 1) (idx := 87) (zd (i := .getfield 87) (n := 3) (by decide +kernel)) (by decide +kernel) (by decide +kernel) rfl g131 <|
    z_goto (off := 4) (tgt := 22) (zd (i := .goto (4)) (n := 3) (by decide +kernel)) (by decide +kernel) (zj (hj 3) (by decide +kernel))
noncomputable def b_X8_back_2 : zBl := fun jp K => oInt 2147483647 <| jp 3
theorem s_X8_back_2 (d : Nat) : zPb l G gh (d + 2) n_X8_back p_X8_back 21 b_X8_back_2 := fun K jp hj =>
    z_iconst (n := -1) (zd (i := .iconst (-1)) (n := 1) (by decide +kernel)) (by decide +kernel) <|
    (zj (hj 3) (by decide +kernel))
noncomputable def b_X8_back_3 : zBl := fun jp K => oIret K
theorem s_X8_back_3 (d : Nat) : zPb l G gh (d + 2) n_X8_back p_X8_back 22 b_X8_back_3 := fun K jp hj =>
    z_iret (zd (i := .ireturn) (n := 1) (by decide +kernel)) rfl
noncomputable def t_X8_back : List zBl := [b_X8_back_0, b_X8_back_1, b_X8_back_2, b_X8_back_3]
theorem tt_X8_back (d : Nat) : zT (zPb l G gh (d + 2) n_X8_back p_X8_back) t_X8_back p_X8_back := ⟨s_X8_back_0 d, s_X8_back_1 d, s_X8_back_2 d, s_X8_back_3 d, trivial⟩
def q_X8_back_0 : List (Nat × Nat) := [(0, zk0), (1, zk14)]
noncomputable def al_X8_back_0 : zAq := [(some (.inl 9223372039002261456), [(0, zk0), (1, zk16)])]
noncomputable def fm_X8_back_0 : List zFm := [(0, [], (fun vs => [.inr (.ref 0), .inl 8589934591]), (fun vs => zP q_X8_back_0), (fun vs => Nat.sub (Nat.add 0 0) 0))]
def bf_X8_back_0 : List Nat := []
theorem r_X8_back_0_0 : zbox [] (fun vs => zFrun (zpost (zAlq al_X8_back_0)) 1000 t_X8_back fm_X8_back_0 bf_X8_back_0 (0, vs)) = true := by decide +kernel
set_option maxRecDepth 100000 in
theorem x_X8_back_0 (d : Nat) : zS l G gh (d + 2) (zpost (zAlq al_X8_back_0)) n_X8_back (zn 0 p_X8_back 0) (zwc (0, [.inr (.ref 0), .inl 8589934591], zP q_X8_back_0) 0) := zentry (tt_X8_back d) fm_X8_back_0 bf_X8_back_0 1000 (by decide +kernel) rfl ⟨Nat.zero_lt_succ _, trivial⟩ (fun f hf => match f, hf with
  | 0, _ => fun vs hv => (zbox_t r_X8_back_0_0) vs hv
  | f + 1, h => absurd (show f + 1 < 1 from h) (Nat.not_lt.mpr (Nat.le_add_left 1 f)))
noncomputable def gs_X8_back_0 : zMt := zgq false [] 2 [.inr (.ref 0), .inl 8589934591] q_X8_back_0 al_X8_back_0
set_option maxRecDepth 100000 in
theorem cs_X8_back_0 (d : Nat) : zC l G gh (d + 2) n_X8_back gs_X8_back_0 := zgq_ok0 (pcs := p_X8_back) (by decide) rfl rfl (fun a ha => by simp only [al_X8_back_0, List.mem_cons, List.not_mem_nil, or_false] at ha; rcases ha with rfl <;> decide +kernel) (fun gh => x_X8_back_0 d) (by decide +kernel)
def q_X8_back_1 : List (Nat × Nat) := [(0, zk1), (1, zk14)]
noncomputable def al_X8_back_1 : zAq := [(some (.inl 9223372039002261456), [(0, zk1), (1, zk16)])]
noncomputable def fm_X8_back_1 : List zFm := [(0, [], (fun vs => [.inr (.ref 0), .inl 8589934591]), (fun vs => zP q_X8_back_1), (fun vs => Nat.sub (Nat.add 0 0) 0))]
def bf_X8_back_1 : List Nat := []
theorem r_X8_back_1_0 : zbox [] (fun vs => zFrun (zpost (zAlq al_X8_back_1)) 1000 t_X8_back fm_X8_back_1 bf_X8_back_1 (0, vs)) = true := by decide +kernel
set_option maxRecDepth 100000 in
theorem x_X8_back_1 (d : Nat) : zS l G gh (d + 2) (zpost (zAlq al_X8_back_1)) n_X8_back (zn 0 p_X8_back 0) (zwc (0, [.inr (.ref 0), .inl 8589934591], zP q_X8_back_1) 0) := zentry (tt_X8_back d) fm_X8_back_1 bf_X8_back_1 1000 (by decide +kernel) rfl ⟨Nat.zero_lt_succ _, trivial⟩ (fun f hf => match f, hf with
  | 0, _ => fun vs hv => (zbox_t r_X8_back_1_0) vs hv
  | f + 1, h => absurd (show f + 1 < 1 from h) (Nat.not_lt.mpr (Nat.le_add_left 1 f)))
noncomputable def gs_X8_back_1 : zMt := zgq false [] 2 [.inr (.ref 0), .inl 8589934591] q_X8_back_1 al_X8_back_1
set_option maxRecDepth 100000 in
theorem cs_X8_back_1 (d : Nat) : zC l G gh (d + 2) n_X8_back gs_X8_back_1 := zgq_ok0 (pcs := p_X8_back) (by decide) rfl rfl (fun a ha => by simp only [al_X8_back_1, List.mem_cons, List.not_mem_nil, or_false] at ha; rcases ha with rfl <;> decide +kernel) (fun gh => x_X8_back_1 d) (by decide +kernel)
noncomputable def gs_X8_back : zMt := (zor gs_X8_back_0 gs_X8_back_1)
theorem cs_X8_back (d : Nat) : zC l G gh (d + 2) n_X8_back gs_X8_back := (zor_ok (cs_X8_back_0 d) (cs_X8_back_1 d))
def p_X2_reckon : List Nat := [0, 9, 13, 21, 46, 52, 54, 64, 69, 75, 82, 89, 93, 104, 105, 106, 111, 117, 128, 130, 140, 157, 161, 167, 171, 199, 202]
noncomputable def b_X2_reckon_0 : zBl := fun jp K => oInt 2147483648 <| oIst 2 <| oAld 0 <| oGetR 2 3 <| oIld 1 <| oXald 10 <| oIst 3 <| jp 1
theorem s_X2_reckon_0 (d : Nat) : zPb l G gh (d + 2) n_X2_reckon p_X2_reckon 0 b_X2_reckon_0 := fun K jp hj =>
    z_iconst (n := 0) (zd (i := .iconst (0)) (n := 1) (by decide +kernel)) (by decide +kernel) <|
    z_istore_n (n := 2) (i := 2) (zd (i := .istore_n 2) (n := 1) (by decide +kernel)) rfl (by decide +kernel) <|
    z_aload_n (n := 0) (i := 0) (zd (i := .aload_n 0) (n := 1) (by decide +kernel)) rfl <|
    z_getR (ci := 2) (j := 3) (idx := 22) (zd (i := .getfield 22) (n := 3) (by decide +kernel)) (by decide +kernel) (by decide +kernel) rfl g240 <|
    z_iload_n (n := 1) (i := 1) (zd (i := .iload_n 1) (n := 1) (by decide +kernel)) rfl <|
    z_iald (zd (i := .iaload) (n := 1) (by decide +kernel)) <|
    z_istore_n (n := 3) (i := 3) (zd (i := .istore_n 3) (n := 1) (by decide +kernel)) rfl (by decide +kernel) <|
    (zj (hj 1) (by decide +kernel))
noncomputable def b_X2_reckon_1 : zBl := fun jp K => oNLC 3 2147483648 zltN zgeN zn1_lt zn1_ge (jp 26) (jp 2)
theorem s_X2_reckon_1 (d : Nat) : zPb l G gh (d + 2) n_X2_reckon p_X2_reckon 9 b_X2_reckon_1 := fun K jp hj =>
    z_nL0_lt (i := 3) (a1 := 1) (off := 192) (tgt := 202) (zLd_n (n := 3) (i := 3) (zd (i := .iload_n 3) (n := 1) (by decide +kernel)) rfl) (zd (i := .ifCond .lt (192)) (n := 3) (by decide +kernel)) (by decide +kernel) (zj (hj 26) (by decide +kernel)) (zj (hj 2) (by decide +kernel))
noncomputable def b_X2_reckon_2 : zBl := fun jp K => oNLF 3 0 2 2 zgeN zltN zn1_ge zn1_lt (jp 26) (jp 3)
theorem s_X2_reckon_2 (d : Nat) : zPb l G gh (d + 2) n_X2_reckon p_X2_reckon 13 b_X2_reckon_2 := fun K jp hj =>
    z_nLF_ge (i := 3) (r := 0) (ci := 2) (j := 2) (a1 := 1) (a2 := 4) (off := 184) (tgt := 202) (zLd_n (n := 3) (i := 3) (zd (i := .iload_n 3) (n := 1) (by decide +kernel)) rfl) (zFd_n (n := 0) (r := 0) (ci := 2) (j := 2) (idx := 18) (zd (i := .aload_n 0) (n := 1) (by decide +kernel)) rfl (zd (i := .getfield 18) (n := 3) (by decide +kernel)) (by decide +kernel) (by decide +kernel) rfl g239) (by decide +kernel) rfl (zd (i := .if_icmp .ge (184)) (n := 3) (by decide +kernel)) (by decide +kernel) (zj (hj 26) (by decide +kernel)) (zj (hj 3) (by decide +kernel))
noncomputable def b_X2_reckon_3 : zBl := fun jp K => oAld 0 <| oGetR 2 0 <| oIld 3 <| oXald 10 <| oIst 4 <| oAld 0 <| oGetR 2 1 <| oIld 3 <| oXald 10 <| oIst 5 <| oInc 3 2147483649 <| oNLC 4 2147483649 zgtN zleN zn1_gt zn1_le (jp 10) (jp 4)
theorem s_X2_reckon_3 (d : Nat) : zPb l G gh (d + 2) n_X2_reckon p_X2_reckon 21 b_X2_reckon_3 := fun K jp hj =>
    z_aload_n (n := 0) (i := 0) (zd (i := .aload_n 0) (n := 1) (by decide +kernel)) rfl <|
    z_getR (ci := 2) (j := 0) (idx := 11) (zd (i := .getfield 11) (n := 3) (by decide +kernel)) (by decide +kernel) (by decide +kernel) rfl g237 <|
    z_iload_n (n := 3) (i := 3) (zd (i := .iload_n 3) (n := 1) (by decide +kernel)) rfl <|
    z_iald (zd (i := .iaload) (n := 1) (by decide +kernel)) <|
    z_istore (i := 4) (zd (i := .istore 4) (n := 2) (by decide +kernel)) (by decide +kernel) <|
    z_aload_n (n := 0) (i := 0) (zd (i := .aload_n 0) (n := 1) (by decide +kernel)) rfl <|
    z_getR (ci := 2) (j := 1) (idx := 15) (zd (i := .getfield 15) (n := 3) (by decide +kernel)) (by decide +kernel) (by decide +kernel) rfl g238 <|
    z_iload_n (n := 3) (i := 3) (zd (i := .iload_n 3) (n := 1) (by decide +kernel)) rfl <|
    z_iald (zd (i := .iaload) (n := 1) (by decide +kernel)) <|
    z_istore (i := 5) (zd (i := .istore 5) (n := 2) (by decide +kernel)) (by decide +kernel) <|
    z_iinc (i := 3) (n := 1) (zd (i := .iinc 3 (1)) (n := 3) (by decide +kernel)) (by decide +kernel) (by decide +kernel) <|
    z_nLC_gt (i := 4) (c0 := 2147483649) (a1 := 2) (a2 := 1) (off := 39) (tgt := 82) (zLd_w (i := 4) (zd (i := .iload 4) (n := 2) (by decide +kernel))) (zCn_c (n := 1) (zd (i := .iconst (1)) (n := 1) (by decide +kernel)) (by decide +kernel)) (zd (i := .if_icmp .gt (39)) (n := 3) (by decide +kernel)) (by decide +kernel) (zj (hj 10) (by decide +kernel)) (zj (hj 4) (by decide +kernel))
noncomputable def b_X2_reckon_4 : zBl := fun jp K => oNLC 2 2147483668 zltN zgeN zn1_lt zn1_ge (jp 6) (jp 5)
theorem s_X2_reckon_4 (d : Nat) : zPb l G gh (d + 2) n_X2_reckon p_X2_reckon 46 b_X2_reckon_4 := fun K jp hj =>
    z_nLC_lt (i := 2) (c0 := 2147483668) (a1 := 1) (a2 := 2) (off := 5) (tgt := 54) (zLd_n (n := 2) (i := 2) (zd (i := .iload_n 2) (n := 1) (by decide +kernel)) rfl) (zCn_b (n := 20) (zd (i := .bipush (20)) (n := 2) (by decide +kernel)) (by decide +kernel)) (zd (i := .if_icmp .lt (5)) (n := 3) (by decide +kernel)) (by decide +kernel) (zj (hj 6) (by decide +kernel)) (zj (hj 5) (by decide +kernel))
noncomputable def b_X2_reckon_5 : zBl := fun jp K => oInt 2147483648 <| oIret K
theorem s_X2_reckon_5 (d : Nat) : zPb l G gh (d + 2) n_X2_reckon p_X2_reckon 52 b_X2_reckon_5 := fun K jp hj =>
    z_iconst (n := 0) (zd (i := .iconst (0)) (n := 1) (by decide +kernel)) (by decide +kernel) <|
    z_iret (zd (i := .ireturn) (n := 1) (by decide +kernel)) rfl
noncomputable def b_X2_reckon_6 : zBl := fun jp K => oAld 0 <| oGetR 2 5 <| oIld 2 <| oNLC 4 2147483648 zneN zeqN zn1_ne zn1_eq (jp 8) (jp 7)
theorem s_X2_reckon_6 (d : Nat) : zPb l G gh (d + 2) n_X2_reckon p_X2_reckon 54 b_X2_reckon_6 := fun K jp hj =>
    z_aload_n (n := 0) (i := 0) (zd (i := .aload_n 0) (n := 1) (by decide +kernel)) rfl <|
    z_getR (ci := 2) (j := 5) (idx := 28) (zd (i := .getfield 28) (n := 3) (by decide +kernel)) (by decide +kernel) (by decide +kernel) rfl g242 <|
    z_iload_n (n := 2) (i := 2) (zd (i := .iload_n 2) (n := 1) (by decide +kernel)) rfl <|
    z_nL0_ne (i := 4) (a1 := 2) (off := 8) (tgt := 69) (zLd_w (i := 4) (zd (i := .iload 4) (n := 2) (by decide +kernel))) (zd (i := .ifCond .ne (8)) (n := 3) (by decide +kernel)) (by decide +kernel) (zj (hj 8) (by decide +kernel)) (zj (hj 7) (by decide +kernel))
noncomputable def b_X2_reckon_7 : zBl := fun jp K => oIld 5 <| jp 9
theorem s_X2_reckon_7 (d : Nat) : zPb l G gh (d + 2) n_X2_reckon p_X2_reckon 64 b_X2_reckon_7 := fun K jp hj =>
    z_iload (i := 5) (zd (i := .iload 5) (n := 2) (by decide +kernel)) <|
    z_goto (off := 9) (tgt := 75) (zd (i := .goto (9)) (n := 3) (by decide +kernel)) (by decide +kernel) (zj (hj 9) (by decide +kernel))
noncomputable def b_X2_reckon_8 : zBl := fun jp K => oAld 0 <| oIld 5 <| oCv 2 1 f_X2_variable <| jp 9
theorem s_X2_reckon_8 (d : Nat) : zPb l G gh (d + 2) n_X2_reckon p_X2_reckon 69 b_X2_reckon_8 := fun K jp hj =>
    z_aload_n (n := 0) (i := 0) (zd (i := .aload_n 0) (n := 1) (by decide +kernel)) rfl <|
    z_iload (i := 5) (zd (i := .iload 5) (n := 2) (by decide +kernel)) <|
    z_callV (idx := 67) (ci := 2) (N := n_X2_variable) (zd (i := .invokevirtual 67) (n := 3) (by decide +kernel)) to_X2_variable g732 g734 g21 (by decide +kernel) rfl rfl rfl (c_X2_variable (l := l) (G := G) (gh := gh) (d)) <|
    (zj (hj 9) (by decide +kernel))
noncomputable def b_X2_reckon_9 : zBl := fun jp K => oXast 10 zid <| oInc 2 2147483649 <| jp 25
theorem s_X2_reckon_9 (d : Nat) : zPb l G gh (d + 2) n_X2_reckon p_X2_reckon 75 b_X2_reckon_9 := fun K jp hj =>
    z_iast (zd (i := .iastore) (n := 1) (by decide +kernel)) <|
    z_iinc (i := 2) (n := 1) (zd (i := .iinc 2 (1)) (n := 3) (by decide +kernel)) (by decide +kernel) (by decide +kernel) <|
    z_goto (off := 120) (tgt := 199) (zd (i := .goto (120)) (n := 3) (by decide +kernel)) (by decide +kernel) (zj (hj 25) (by decide +kernel))
noncomputable def b_X2_reckon_10 : zBl := fun jp K => oNLC 4 2147483655 zneN zeqN zn1_ne zn1_eq (jp 15) (jp 11)
theorem s_X2_reckon_10 (d : Nat) : zPb l G gh (d + 2) n_X2_reckon p_X2_reckon 82 b_X2_reckon_10 := fun K jp hj =>
    z_nLC_ne (i := 4) (c0 := 2147483655) (a1 := 2) (a2 := 2) (off := 20) (tgt := 106) (zLd_w (i := 4) (zd (i := .iload 4) (n := 2) (by decide +kernel))) (zCn_b (n := 7) (zd (i := .bipush (7)) (n := 2) (by decide +kernel)) (by decide +kernel)) (zd (i := .if_icmp .ne (20)) (n := 3) (by decide +kernel)) (by decide +kernel) (zj (hj 15) (by decide +kernel)) (zj (hj 11) (by decide +kernel))
noncomputable def b_X2_reckon_11 : zBl := fun jp K => oNLC 2 2147483648 zleN zgtN zn1_le zn1_gt (jp 13) (jp 12)
theorem s_X2_reckon_11 (d : Nat) : zPb l G gh (d + 2) n_X2_reckon p_X2_reckon 89 b_X2_reckon_11 := fun K jp hj =>
    z_nL0_le (i := 2) (a1 := 1) (off := 14) (tgt := 104) (zLd_n (n := 2) (i := 2) (zd (i := .iload_n 2) (n := 1) (by decide +kernel)) rfl) (zd (i := .ifCond .le (14)) (n := 3) (by decide +kernel)) (by decide +kernel) (zj (hj 13) (by decide +kernel)) (zj (hj 12) (by decide +kernel))
noncomputable def b_X2_reckon_12 : zBl := fun jp K => oAld 0 <| oGetR 2 5 <| oIld 2 <| oInt 2147483649 <| oB2 zsub <| oXald 10 <| jp 14
theorem s_X2_reckon_12 (d : Nat) : zPb l G gh (d + 2) n_X2_reckon p_X2_reckon 93 b_X2_reckon_12 := fun K jp hj =>
    z_aload_n (n := 0) (i := 0) (zd (i := .aload_n 0) (n := 1) (by decide +kernel)) rfl <|
    z_getR (ci := 2) (j := 5) (idx := 28) (zd (i := .getfield 28) (n := 3) (by decide +kernel)) (by decide +kernel) (by decide +kernel) rfl g242 <|
    z_iload_n (n := 2) (i := 2) (zd (i := .iload_n 2) (n := 1) (by decide +kernel)) rfl <|
    z_iconst (n := 1) (zd (i := .iconst (1)) (n := 1) (by decide +kernel)) (by decide +kernel) <|
    z_isub (zd (i := .isub) (n := 1) (by decide +kernel)) <|
    z_iald (zd (i := .iaload) (n := 1) (by decide +kernel)) <|
    z_goto (off := 4) (tgt := 105) (zd (i := .goto (4)) (n := 3) (by decide +kernel)) (by decide +kernel) (zj (hj 14) (by decide +kernel))
noncomputable def b_X2_reckon_13 : zBl := fun jp K => oInt 2147483648 <| jp 14
theorem s_X2_reckon_13 (d : Nat) : zPb l G gh (d + 2) n_X2_reckon p_X2_reckon 104 b_X2_reckon_13 := fun K jp hj =>
    z_iconst (n := 0) (zd (i := .iconst (0)) (n := 1) (by decide +kernel)) (by decide +kernel) <|
    (zj (hj 14) (by decide +kernel))
noncomputable def b_X2_reckon_14 : zBl := fun jp K => oIret K
theorem s_X2_reckon_14 (d : Nat) : zPb l G gh (d + 2) n_X2_reckon p_X2_reckon 105 b_X2_reckon_14 := fun K jp hj =>
    z_iret (zd (i := .ireturn) (n := 1) (by decide +kernel)) rfl
noncomputable def b_X2_reckon_15 : zBl := fun jp K => oNLC 2 2147483650 zltN zgeN zn1_lt zn1_ge (jp 18) (jp 16)
theorem s_X2_reckon_15 (d : Nat) : zPb l G gh (d + 2) n_X2_reckon p_X2_reckon 106 b_X2_reckon_15 := fun K jp hj =>
    z_nLC_lt (i := 2) (c0 := 2147483650) (a1 := 1) (a2 := 1) (off := 20) (tgt := 128) (zLd_n (n := 2) (i := 2) (zd (i := .iload_n 2) (n := 1) (by decide +kernel)) rfl) (zCn_c (n := 2) (zd (i := .iconst (2)) (n := 1) (by decide +kernel)) (by decide +kernel)) (zd (i := .if_icmp .lt (20)) (n := 3) (by decide +kernel)) (by decide +kernel) (zj (hj 18) (by decide +kernel)) (zj (hj 16) (by decide +kernel))
noncomputable def b_X2_reckon_16 : zBl := fun jp K => oNLC 4 2147483653 zneN zeqN zn1_ne zn1_eq (jp 19) (jp 17)
theorem s_X2_reckon_16 (d : Nat) : zPb l G gh (d + 2) n_X2_reckon p_X2_reckon 111 b_X2_reckon_16 := fun K jp hj =>
    z_nLC_ne (i := 4) (c0 := 2147483653) (a1 := 2) (a2 := 1) (off := 16) (tgt := 130) (zLd_w (i := 4) (zd (i := .iload 4) (n := 2) (by decide +kernel))) (zCn_c (n := 5) (zd (i := .iconst (5)) (n := 1) (by decide +kernel)) (by decide +kernel)) (zd (i := .if_icmp .ne (16)) (n := 3) (by decide +kernel)) (by decide +kernel) (zj (hj 19) (by decide +kernel)) (zj (hj 17) (by decide +kernel))
noncomputable def b_X2_reckon_17 : zBl := fun jp K => oAld 0 <| oGetR 2 5 <| oIld 2 <| oInt 2147483649 <| oB2 zsub <| oXald 10 <| oIf zne zeq (jp 19) (jp 18)
theorem s_X2_reckon_17 (d : Nat) : zPb l G gh (d + 2) n_X2_reckon p_X2_reckon 117 b_X2_reckon_17 := fun K jp hj =>
    z_aload_n (n := 0) (i := 0) (zd (i := .aload_n 0) (n := 1) (by decide +kernel)) rfl <|
    z_getR (ci := 2) (j := 5) (idx := 28) (zd (i := .getfield 28) (n := 3) (by decide +kernel)) (by decide +kernel) (by decide +kernel) rfl g242 <|
    z_iload_n (n := 2) (i := 2) (zd (i := .iload_n 2) (n := 1) (by decide +kernel)) rfl <|
    z_iconst (n := 1) (zd (i := .iconst (1)) (n := 1) (by decide +kernel)) (by decide +kernel) <|
    z_isub (zd (i := .isub) (n := 1) (by decide +kernel)) <|
    z_iald (zd (i := .iaload) (n := 1) (by decide +kernel)) <|
    z_if_ne (off := 5) (tgt := 130) (zd (i := .ifCond .ne (5)) (n := 3) (by decide +kernel)) (by decide +kernel) (zj (hj 19) (by decide +kernel)) (zj (hj 18) (by decide +kernel))
noncomputable def b_X2_reckon_18 : zBl := fun jp K => oInt 2147483648 <| oIret K
theorem s_X2_reckon_18 (d : Nat) : zPb l G gh (d + 2) n_X2_reckon p_X2_reckon 128 b_X2_reckon_18 := fun K jp hj =>
    z_iconst (n := 0) (zd (i := .iconst (0)) (n := 1) (by decide +kernel)) (by decide +kernel) <|
    z_iret (zd (i := .ireturn) (n := 1) (by decide +kernel)) rfl
noncomputable def b_X2_reckon_19 : zBl := fun jp K => oInc 2 2147483646 <| oNLC 4 2147483654 zneN zeqN zn1_ne zn1_eq (jp 24) (jp 20)
theorem s_X2_reckon_19 (d : Nat) : zPb l G gh (d + 2) n_X2_reckon p_X2_reckon 130 b_X2_reckon_19 := fun K jp hj =>
    z_iinc (i := 2) (n := -2) (zd (i := .iinc 2 (-2)) (n := 3) (by decide +kernel)) (by decide +kernel) (by decide +kernel) <|
    z_nLC_ne (i := 4) (c0 := 2147483654) (a1 := 2) (a2 := 2) (off := 34) (tgt := 171) (zLd_w (i := 4) (zd (i := .iload 4) (n := 2) (by decide +kernel))) (zCn_b (n := 6) (zd (i := .bipush (6)) (n := 2) (by decide +kernel)) (by decide +kernel)) (zd (i := .if_icmp .ne (34)) (n := 3) (by decide +kernel)) (by decide +kernel) (zj (hj 24) (by decide +kernel)) (zj (hj 20) (by decide +kernel))
noncomputable def b_X2_reckon_20 : zBl := fun jp K => oAld 0 <| oGetR 2 5 <| oIld 2 <| oXald 10 <| oAld 0 <| oGetR 2 5 <| oIld 2 <| oInt 2147483649 <| oB2 zadd <| oXald 10 <| oIc zge zlt (jp 22) (jp 21)
theorem s_X2_reckon_20 (d : Nat) : zPb l G gh (d + 2) n_X2_reckon p_X2_reckon 140 b_X2_reckon_20 := fun K jp hj =>
    z_aload_n (n := 0) (i := 0) (zd (i := .aload_n 0) (n := 1) (by decide +kernel)) rfl <|
    z_getR (ci := 2) (j := 5) (idx := 28) (zd (i := .getfield 28) (n := 3) (by decide +kernel)) (by decide +kernel) (by decide +kernel) rfl g242 <|
    z_iload_n (n := 2) (i := 2) (zd (i := .iload_n 2) (n := 1) (by decide +kernel)) rfl <|
    z_iald (zd (i := .iaload) (n := 1) (by decide +kernel)) <|
    z_aload_n (n := 0) (i := 0) (zd (i := .aload_n 0) (n := 1) (by decide +kernel)) rfl <|
    z_getR (ci := 2) (j := 5) (idx := 28) (zd (i := .getfield 28) (n := 3) (by decide +kernel)) (by decide +kernel) (by decide +kernel) rfl g242 <|
    z_iload_n (n := 2) (i := 2) (zd (i := .iload_n 2) (n := 1) (by decide +kernel)) rfl <|
    z_iconst (n := 1) (zd (i := .iconst (1)) (n := 1) (by decide +kernel)) (by decide +kernel) <|
    z_iadd (zd (i := .iadd) (n := 1) (by decide +kernel)) <|
    z_iald (zd (i := .iaload) (n := 1) (by decide +kernel)) <|
    z_icmp_ge (off := 7) (tgt := 161) (zd (i := .if_icmp .ge (7)) (n := 3) (by decide +kernel)) (by decide +kernel) (zj (hj 22) (by decide +kernel)) (zj (hj 21) (by decide +kernel))
noncomputable def b_X2_reckon_21 : zBl := fun jp K => oIld 3 <| jp 23
theorem s_X2_reckon_21 (d : Nat) : zPb l G gh (d + 2) n_X2_reckon p_X2_reckon 157 b_X2_reckon_21 := fun K jp hj =>
    z_iload_n (n := 3) (i := 3) (zd (i := .iload_n 3) (n := 1) (by decide +kernel)) rfl <|
    z_goto (off := 9) (tgt := 167) (zd (i := .goto (9)) (n := 3) (by decide +kernel)) (by decide +kernel) (zj (hj 23) (by decide +kernel))
noncomputable def b_X2_reckon_22 : zBl := fun jp K => oIld 3 <| oIld 5 <| oM2 zmax <| jp 23
theorem s_X2_reckon_22 (d : Nat) : zPb l G gh (d + 2) n_X2_reckon p_X2_reckon 161 b_X2_reckon_22 := fun K jp hj =>
    z_iload_n (n := 3) (i := 3) (zd (i := .iload_n 3) (n := 1) (by decide +kernel)) rfl <|
    z_iload (i := 5) (zd (i := .iload 5) (n := 2) (by decide +kernel)) <|
    z_max (idx := 70) (zd (i := .invokestatic 70) (n := 3) (by decide +kernel)) g736 g575 g111 g576 <|
    (zj (hj 23) (by decide +kernel))
noncomputable def b_X2_reckon_23 : zBl := fun jp K => oIst 3 <| jp 25
theorem s_X2_reckon_23 (d : Nat) : zPb l G gh (d + 2) n_X2_reckon p_X2_reckon 167 b_X2_reckon_23 := fun K jp hj =>
    z_istore_n (n := 3) (i := 3) (zd (i := .istore_n 3) (n := 1) (by decide +kernel)) rfl (by decide +kernel) <|
    z_goto (off := 31) (tgt := 199) (zd (i := .goto (31)) (n := 3) (by decide +kernel)) (by decide +kernel) (zj (hj 25) (by decide +kernel))
noncomputable def b_X2_reckon_24 : zBl := fun jp K => oAld 0 <| oGetR 2 5 <| oIld 2 <| oIld 4 <| oAld 0 <| oGetR 2 5 <| oIld 2 <| oXald 10 <| oAld 0 <| oGetR 2 5 <| oIld 2 <| oInt 2147483649 <| oB2 zadd <| oXald 10 <| oCs 3 f_X2_joined <| oXast 10 zid <| oInc 2 2147483649 <| jp 25
theorem s_X2_reckon_24 (d : Nat) : zPb l G gh (d + 2) n_X2_reckon p_X2_reckon 171 b_X2_reckon_24 := fun K jp hj =>
    z_aload_n (n := 0) (i := 0) (zd (i := .aload_n 0) (n := 1) (by decide +kernel)) rfl <|
    z_getR (ci := 2) (j := 5) (idx := 28) (zd (i := .getfield 28) (n := 3) (by decide +kernel)) (by decide +kernel) (by decide +kernel) rfl g242 <|
    z_iload_n (n := 2) (i := 2) (zd (i := .iload_n 2) (n := 1) (by decide +kernel)) rfl <|
    z_iload (i := 4) (zd (i := .iload 4) (n := 2) (by decide +kernel)) <|
    z_aload_n (n := 0) (i := 0) (zd (i := .aload_n 0) (n := 1) (by decide +kernel)) rfl <|
    z_getR (ci := 2) (j := 5) (idx := 28) (zd (i := .getfield 28) (n := 3) (by decide +kernel)) (by decide +kernel) (by decide +kernel) rfl g242 <|
    z_iload_n (n := 2) (i := 2) (zd (i := .iload_n 2) (n := 1) (by decide +kernel)) rfl <|
    z_iald (zd (i := .iaload) (n := 1) (by decide +kernel)) <|
    z_aload_n (n := 0) (i := 0) (zd (i := .aload_n 0) (n := 1) (by decide +kernel)) rfl <|
    z_getR (ci := 2) (j := 5) (idx := 28) (zd (i := .getfield 28) (n := 3) (by decide +kernel)) (by decide +kernel) (by decide +kernel) rfl g242 <|
    z_iload_n (n := 2) (i := 2) (zd (i := .iload_n 2) (n := 1) (by decide +kernel)) rfl <|
    z_iconst (n := 1) (zd (i := .iconst (1)) (n := 1) (by decide +kernel)) (by decide +kernel) <|
    z_iadd (zd (i := .iadd) (n := 1) (by decide +kernel)) <|
    z_iald (zd (i := .iaload) (n := 1) (by decide +kernel)) <|
    z_callS (idx := 73) (N := n_X2_joined) (zd (i := .invokestatic 73) (n := 3) (by decide +kernel)) to_X2_joined g737 g738 rfl rfl (c_X2_joined (l := l) (G := G) (gh := gh) (d)) <|
    z_iast (zd (i := .iastore) (n := 1) (by decide +kernel)) <|
    z_iinc (i := 2) (n := 1) (zd (i := .iinc 2 (1)) (n := 3) (by decide +kernel)) (by decide +kernel) (by decide +kernel) <|
    (zj (hj 25) (by decide +kernel))
noncomputable def b_X2_reckon_25 : zBl := fun jp K => jp 1
theorem s_X2_reckon_25 (d : Nat) : zPb l G gh (d + 2) n_X2_reckon p_X2_reckon 199 b_X2_reckon_25 := fun K jp hj =>
    z_goto (off := -190) (tgt := 9) (zd (i := .goto (-190)) (n := 3) (by decide +kernel)) (by decide +kernel) (zj (hj 1) (by decide +kernel))
noncomputable def b_X2_reckon_26 : zBl := fun jp K => oInt 2147483648 <| oIret K
theorem s_X2_reckon_26 (d : Nat) : zPb l G gh (d + 2) n_X2_reckon p_X2_reckon 202 b_X2_reckon_26 := fun K jp hj =>
    z_iconst (n := 0) (zd (i := .iconst (0)) (n := 1) (by decide +kernel)) (by decide +kernel) <|
    z_iret (zd (i := .ireturn) (n := 1) (by decide +kernel)) rfl
noncomputable def t_X2_reckon : List zBl := [b_X2_reckon_0, b_X2_reckon_1, b_X2_reckon_2, b_X2_reckon_3, b_X2_reckon_4, b_X2_reckon_5, b_X2_reckon_6, b_X2_reckon_7, b_X2_reckon_8, b_X2_reckon_9, b_X2_reckon_10, b_X2_reckon_11, b_X2_reckon_12, b_X2_reckon_13, b_X2_reckon_14, b_X2_reckon_15, b_X2_reckon_16, b_X2_reckon_17, b_X2_reckon_18, b_X2_reckon_19, b_X2_reckon_20, b_X2_reckon_21, b_X2_reckon_22, b_X2_reckon_23, b_X2_reckon_24, b_X2_reckon_25, b_X2_reckon_26]
theorem tt_X2_reckon (d : Nat) : zT (zPb l G gh (d + 2) n_X2_reckon p_X2_reckon) t_X2_reckon p_X2_reckon := ⟨s_X2_reckon_0 d, s_X2_reckon_1 d, s_X2_reckon_2 d, s_X2_reckon_3 d, s_X2_reckon_4 d, s_X2_reckon_5 d, s_X2_reckon_6 d, s_X2_reckon_7 d, s_X2_reckon_8 d, s_X2_reckon_9 d, s_X2_reckon_10 d, s_X2_reckon_11 d, s_X2_reckon_12 d, s_X2_reckon_13 d, s_X2_reckon_14 d, s_X2_reckon_15 d, s_X2_reckon_16 d, s_X2_reckon_17 d, s_X2_reckon_18 d, s_X2_reckon_19 d, s_X2_reckon_20 d, s_X2_reckon_21 d, s_X2_reckon_22 d, s_X2_reckon_23 d, s_X2_reckon_24 d, s_X2_reckon_25 d, s_X2_reckon_26 d, trivial⟩
def q_X2_reckon_0 : List (Nat × Nat) := [(265, zk2), (266, zk18), (267, zk18), (268, zk19), (269, zk3), (270, zk7)]
noncomputable def al_X2_reckon_0 : zAq := [(some (.inl 8589934591), [(265, zk2), (266, zk18), (267, zk18), (268, zk19), (269, zk3), (270, zk9)])]
def mq_X2_reckon_0_1 : List (Nat × Nat) := [(265, zk2), (266, zk18), (267, zk18), (268, zk19), (269, zk3), (270, zk9)]
noncomputable def fm_X2_reckon_0 : List zFm := [(0, [], (fun vs => [.inr (.ref 265), .inl 9223372043297226756]), (fun vs => zP q_X2_reckon_0), (fun vs => Nat.sub (Nat.add 420 0) 0)),
  (3, [(3, 2147483648, 2147484067)], (fun vs => [.inr (.ref 265), .inl 9223372043297226756, .inl 9223372043297226772, .inl (zmkc (zn 0 vs 0) 2147484067)]), (fun vs => zP mq_X2_reckon_0_1), (fun vs => Nat.sub (Nat.add 2147484067 0) (Nat.add 0 (Nat.mul 1 (zn 0 vs 0)))))]
def bf_X2_reckon_0 : List Nat := [0, 0, 0, 2]
theorem r_X2_reckon_0_0 : zbox [] (fun vs => zFrun (zpost (zAlq al_X2_reckon_0)) 1000 t_X2_reckon fm_X2_reckon_0 bf_X2_reckon_0 (0, vs)) = true := by decide +kernel
theorem r_X2_reckon_0_1 : zbox [(3, 2147483648, 2147484067)] (fun vs => zFrun (zpost (zAlq al_X2_reckon_0)) 1000 t_X2_reckon fm_X2_reckon_0 bf_X2_reckon_0 (1, vs)) = true := by decide +kernel
set_option maxRecDepth 100000 in
theorem x_X2_reckon_0 (d : Nat) : zS l G gh (d + 2) (zpost (zAlq al_X2_reckon_0)) n_X2_reckon (zn 0 p_X2_reckon 0) (zwc (0, [.inr (.ref 265), .inl 9223372043297226756], zP q_X2_reckon_0) 0) := zentry (tt_X2_reckon d) fm_X2_reckon_0 bf_X2_reckon_0 1000 (by decide +kernel) rfl ⟨Nat.zero_lt_succ _, trivial⟩ (fun f hf => match f, hf with
  | 0, _ => fun vs hv => (zbox_t r_X2_reckon_0_0) vs hv
  | 1, _ => fun vs hv => (zbox_t r_X2_reckon_0_1) vs hv
  | f + 2, h => absurd (show f + 2 < 2 from h) (Nat.not_lt.mpr (Nat.le_add_left 2 f)))
noncomputable def gs_X2_reckon_0 : zMt := zgq false [] 6 [.inr (.ref 265), .inl 9223372043297226756] q_X2_reckon_0 al_X2_reckon_0
set_option maxRecDepth 100000 in
theorem cs_X2_reckon_0 (d : Nat) : zC l G gh (d + 2) n_X2_reckon gs_X2_reckon_0 := zgq_ok0 (pcs := p_X2_reckon) (by decide) rfl rfl (fun a ha => by simp only [al_X2_reckon_0, List.mem_cons, List.not_mem_nil, or_false] at ha; rcases ha with rfl <;> decide +kernel) (fun gh => x_X2_reckon_0 d) (by decide +kernel)
def q_X2_reckon_1 : List (Nat × Nat) := [(15, zk5), (16, zk18), (17, zk18), (18, zk19), (19, zk3), (20, zk7)]
noncomputable def al_X2_reckon_1 : zAq := [(some (.inl 8589934591), [(15, zk5), (16, zk18), (17, zk18), (18, zk19), (19, zk3), (20, zk9)])]
def mq_X2_reckon_1_1 : List (Nat × Nat) := [(15, zk5), (16, zk18), (17, zk18), (18, zk19), (19, zk3), (20, zk9)]
noncomputable def fm_X2_reckon_1 : List zFm := [(0, [], (fun vs => [.inr (.ref 15), .inl 9223372043297226756]), (fun vs => zP q_X2_reckon_1), (fun vs => Nat.sub (Nat.add 420 0) 0)),
  (3, [(3, 2147483648, 2147484067)], (fun vs => [.inr (.ref 15), .inl 9223372043297226756, .inl 9223372043297226772, .inl (zmkc (zn 0 vs 0) 2147484067)]), (fun vs => zP mq_X2_reckon_1_1), (fun vs => Nat.sub (Nat.add 2147484067 0) (Nat.add 0 (Nat.mul 1 (zn 0 vs 0)))))]
def bf_X2_reckon_1 : List Nat := [0, 0, 0, 2]
theorem r_X2_reckon_1_0 : zbox [] (fun vs => zFrun (zpost (zAlq al_X2_reckon_1)) 1000 t_X2_reckon fm_X2_reckon_1 bf_X2_reckon_1 (0, vs)) = true := by decide +kernel
theorem r_X2_reckon_1_1 : zbox [(3, 2147483648, 2147484067)] (fun vs => zFrun (zpost (zAlq al_X2_reckon_1)) 1000 t_X2_reckon fm_X2_reckon_1 bf_X2_reckon_1 (1, vs)) = true := by decide +kernel
set_option maxRecDepth 100000 in
theorem x_X2_reckon_1 (d : Nat) : zS l G gh (d + 2) (zpost (zAlq al_X2_reckon_1)) n_X2_reckon (zn 0 p_X2_reckon 0) (zwc (0, [.inr (.ref 15), .inl 9223372043297226756], zP q_X2_reckon_1) 0) := zentry (tt_X2_reckon d) fm_X2_reckon_1 bf_X2_reckon_1 1000 (by decide +kernel) rfl ⟨Nat.zero_lt_succ _, trivial⟩ (fun f hf => match f, hf with
  | 0, _ => fun vs hv => (zbox_t r_X2_reckon_1_0) vs hv
  | 1, _ => fun vs hv => (zbox_t r_X2_reckon_1_1) vs hv
  | f + 2, h => absurd (show f + 2 < 2 from h) (Nat.not_lt.mpr (Nat.le_add_left 2 f)))
noncomputable def gs_X2_reckon_1 : zMt := zgq false [] 6 [.inr (.ref 15), .inl 9223372043297226756] q_X2_reckon_1 al_X2_reckon_1
set_option maxRecDepth 100000 in
theorem cs_X2_reckon_1 (d : Nat) : zC l G gh (d + 2) n_X2_reckon gs_X2_reckon_1 := zgq_ok0 (pcs := p_X2_reckon) (by decide) rfl rfl (fun a ha => by simp only [al_X2_reckon_1, List.mem_cons, List.not_mem_nil, or_false] at ha; rcases ha with rfl <;> decide +kernel) (fun gh => x_X2_reckon_1 d) (by decide +kernel)
noncomputable def gs_X2_reckon : zMt := (zor gs_X2_reckon_0 gs_X2_reckon_1)
theorem cs_X2_reckon (d : Nat) : zC l G gh (d + 2) n_X2_reckon gs_X2_reckon := (zor_ok (cs_X2_reckon_0 d) (cs_X2_reckon_1 d))
def p_X8_seatsThatLent : List Nat := [0, 4, 15, 31, 37, 43]
noncomputable def b_X8_seatsThatLent_0 : zBl := fun jp K => oInt 2147483648 <| oIst 2 <| oInt 2147483648 <| oIst 3 <| jp 1
theorem s_X8_seatsThatLent_0 (d : Nat) : zPb l G gh (d + 2) n_X8_seatsThatLent p_X8_seatsThatLent 0 b_X8_seatsThatLent_0 := fun K jp hj =>
    z_iconst (n := 0) (zd (i := .iconst (0)) (n := 1) (by decide +kernel)) (by decide +kernel) <|
    z_istore_n (n := 2) (i := 2) (zd (i := .istore_n 2) (n := 1) (by decide +kernel)) rfl (by decide +kernel) <|
    z_iconst (n := 0) (zd (i := .iconst (0)) (n := 1) (by decide +kernel)) (by decide +kernel) <|
    z_istore_n (n := 3) (i := 3) (zd (i := .istore_n 3) (n := 1) (by decide +kernel)) rfl (by decide +kernel) <|
    (zj (hj 1) (by decide +kernel))
noncomputable def b_X8_seatsThatLent_1 : zBl := fun jp K => oIld 3 <| oAld 0 <| oGetR 8 12 <| oGetI 0 5 <| oIc zge zlt (jp 5) (jp 2)
theorem s_X8_seatsThatLent_1 (d : Nat) : zPb l G gh (d + 2) n_X8_seatsThatLent p_X8_seatsThatLent 4 b_X8_seatsThatLent_1 := fun K jp hj =>
    z_iload_n (n := 3) (i := 3) (zd (i := .iload_n 3) (n := 1) (by decide +kernel)) rfl <|
    z_aload_n (n := 0) (i := 0) (zd (i := .aload_n 0) (n := 1) (by decide +kernel)) rfl <|
    z_getR (ci := 8) (j := 12) (idx := 71) (zd (i := .getfield 71) (n := 3) (by decide +kernel)) (by decide +kernel) (by decide +kernel) rfl g464 <|
    z_getI (ci := 0) (j := 5) (idx := 230) (zd (i := .getfield 230) (n := 3) (by decide +kernel)) (by decide +kernel) (by decide +kernel) rfl g288 <|
    z_icmp_ge (off := 31) (tgt := 43) (zd (i := .if_icmp .ge (31)) (n := 3) (by decide +kernel)) (by decide +kernel) (zj (hj 5) (by decide +kernel)) (zj (hj 2) (by decide +kernel))
noncomputable def b_X8_seatsThatLent_2 : zBl := fun jp K => oAld 0 <| oGetR 8 2 <| oGetR 4 5 <| oIld 3 <| oIld 1 <| oCs 2 f_X8_loanOf <| oXald 10 <| oIf zeq zne (jp 4) (jp 3)
theorem s_X8_seatsThatLent_2 (d : Nat) : zPb l G gh (d + 2) n_X8_seatsThatLent p_X8_seatsThatLent 15 b_X8_seatsThatLent_2 := fun K jp hj =>
    z_aload_n (n := 0) (i := 0) (zd (i := .aload_n 0) (n := 1) (by decide +kernel)) rfl <|
    z_getR (ci := 8) (j := 2) (idx := 26) (zd (i := .getfield 26) (n := 3) (by decide +kernel)) (by decide +kernel) (by decide +kernel) rfl g454 <|
    z_getR (ci := 4) (j := 5) (idx := 169) (zd (i := .getfield 169) (n := 3) (by decide +kernel)) (by decide +kernel) (by decide +kernel) rfl g383 <|
    z_iload_n (n := 3) (i := 3) (zd (i := .iload_n 3) (n := 1) (by decide +kernel)) rfl <|
    z_iload_n (n := 1) (i := 1) (zd (i := .iload_n 1) (n := 1) (by decide +kernel)) rfl <|
    z_callS (idx := 166) (N := n_X8_loanOf) (zd (i := .invokestatic 166) (n := 3) (by decide +kernel)) to_X8_loanOf g764 g765 rfl rfl (c_X8_loanOf (l := l) (G := G) (gh := gh) (d)) <|
    z_iald (zd (i := .iaload) (n := 1) (by decide +kernel)) <|
    z_if_eq (off := 9) (tgt := 37) (zd (i := .ifCond .eq (9)) (n := 3) (by decide +kernel)) (by decide +kernel) (zj (hj 4) (by decide +kernel)) (zj (hj 3) (by decide +kernel))
noncomputable def b_X8_seatsThatLent_3 : zBl := fun jp K => oIld 2 <| oInt 2147483649 <| oIld 3 <| oB2 zishl <| oB2 zior <| oIst 2 <| jp 4
theorem s_X8_seatsThatLent_3 (d : Nat) : zPb l G gh (d + 2) n_X8_seatsThatLent p_X8_seatsThatLent 31 b_X8_seatsThatLent_3 := fun K jp hj =>
    z_iload_n (n := 2) (i := 2) (zd (i := .iload_n 2) (n := 1) (by decide +kernel)) rfl <|
    z_iconst (n := 1) (zd (i := .iconst (1)) (n := 1) (by decide +kernel)) (by decide +kernel) <|
    z_iload_n (n := 3) (i := 3) (zd (i := .iload_n 3) (n := 1) (by decide +kernel)) rfl <|
    z_ishl (zd (i := .ishl) (n := 1) (by decide +kernel)) <|
    z_ior (zd (i := .ior) (n := 1) (by decide +kernel)) <|
    z_istore_n (n := 2) (i := 2) (zd (i := .istore_n 2) (n := 1) (by decide +kernel)) rfl (by decide +kernel) <|
    (zj (hj 4) (by decide +kernel))
noncomputable def b_X8_seatsThatLent_4 : zBl := fun jp K => oInc 3 2147483649 <| jp 1
theorem s_X8_seatsThatLent_4 (d : Nat) : zPb l G gh (d + 2) n_X8_seatsThatLent p_X8_seatsThatLent 37 b_X8_seatsThatLent_4 := fun K jp hj =>
    z_iinc (i := 3) (n := 1) (zd (i := .iinc 3 (1)) (n := 3) (by decide +kernel)) (by decide +kernel) (by decide +kernel) <|
    z_goto (off := -36) (tgt := 4) (zd (i := .goto (-36)) (n := 3) (by decide +kernel)) (by decide +kernel) (zj (hj 1) (by decide +kernel))
noncomputable def b_X8_seatsThatLent_5 : zBl := fun jp K => oIld 2 <| oIret K
theorem s_X8_seatsThatLent_5 (d : Nat) : zPb l G gh (d + 2) n_X8_seatsThatLent p_X8_seatsThatLent 43 b_X8_seatsThatLent_5 := fun K jp hj =>
    z_iload_n (n := 2) (i := 2) (zd (i := .iload_n 2) (n := 1) (by decide +kernel)) rfl <|
    z_iret (zd (i := .ireturn) (n := 1) (by decide +kernel)) rfl
noncomputable def t_X8_seatsThatLent : List zBl := [b_X8_seatsThatLent_0, b_X8_seatsThatLent_1, b_X8_seatsThatLent_2, b_X8_seatsThatLent_3, b_X8_seatsThatLent_4, b_X8_seatsThatLent_5]
theorem tt_X8_seatsThatLent (d : Nat) : zT (zPb l G gh (d + 2) n_X8_seatsThatLent p_X8_seatsThatLent) t_X8_seatsThatLent p_X8_seatsThatLent := ⟨s_X8_seatsThatLent_0 d, s_X8_seatsThatLent_1 d, s_X8_seatsThatLent_2 d, s_X8_seatsThatLent_3 d, s_X8_seatsThatLent_4 d, s_X8_seatsThatLent_5 d, trivial⟩
def q_X8_seatsThatLent_0 : List (Nat × Nat) := [(0, zk0), (21, zk10), (26, zk11), (259, zk20)]
noncomputable def al_X8_seatsThatLent_0 : zAq := [(some (.inl 9223372043297226815), [(0, zk0), (21, zk10), (26, zk11), (259, zk20)])]
noncomputable def fm_X8_seatsThatLent_0 : List zFm := [(0, [], (fun vs => [.inr (.ref 0), .inl 9223372043297226757]), (fun vs => zP q_X8_seatsThatLent_0), (fun vs => Nat.sub (Nat.add 7 0) 0)),
  (1, [(3, 2147483648, 2147483654)], (fun vs => [.inr (.ref 0), .inl 9223372043297226757, .inl 9223372043297226815, .inl (zn 0 vs 0)]), (fun vs => zP q_X8_seatsThatLent_0), (fun vs => Nat.sub (Nat.add 2147483654 0) (Nat.add 0 (Nat.mul 1 (zn 0 vs 0)))))]
def bf_X8_seatsThatLent_0 : List Nat := [0, 2]
theorem r_X8_seatsThatLent_0_0 : zbox [] (fun vs => zFrun (zpost (zAlq al_X8_seatsThatLent_0)) 1000 t_X8_seatsThatLent fm_X8_seatsThatLent_0 bf_X8_seatsThatLent_0 (0, vs)) = true := by decide +kernel
theorem r_X8_seatsThatLent_0_1 : zbox [(3, 2147483648, 2147483654)] (fun vs => zFrun (zpost (zAlq al_X8_seatsThatLent_0)) 1000 t_X8_seatsThatLent fm_X8_seatsThatLent_0 bf_X8_seatsThatLent_0 (1, vs)) = true := by decide +kernel
set_option maxRecDepth 100000 in
theorem x_X8_seatsThatLent_0 (d : Nat) : zS l G gh (d + 2) (zpost (zAlq al_X8_seatsThatLent_0)) n_X8_seatsThatLent (zn 0 p_X8_seatsThatLent 0) (zwc (0, [.inr (.ref 0), .inl 9223372043297226757], zP q_X8_seatsThatLent_0) 0) := zentry (tt_X8_seatsThatLent d) fm_X8_seatsThatLent_0 bf_X8_seatsThatLent_0 1000 (by decide +kernel) rfl ⟨Nat.zero_lt_succ _, trivial⟩ (fun f hf => match f, hf with
  | 0, _ => fun vs hv => (zbox_t r_X8_seatsThatLent_0_0) vs hv
  | 1, _ => fun vs hv => (zbox_t r_X8_seatsThatLent_0_1) vs hv
  | f + 2, h => absurd (show f + 2 < 2 from h) (Nat.not_lt.mpr (Nat.le_add_left 2 f)))
noncomputable def gs_X8_seatsThatLent_0 : zMt := zgq false [] 4 [.inr (.ref 0), .inl 9223372043297226757] q_X8_seatsThatLent_0 al_X8_seatsThatLent_0
set_option maxRecDepth 100000 in
theorem cs_X8_seatsThatLent_0 (d : Nat) : zC l G gh (d + 2) n_X8_seatsThatLent gs_X8_seatsThatLent_0 := zgq_ok0 (pcs := p_X8_seatsThatLent) (by decide) rfl rfl (fun a ha => by simp only [al_X8_seatsThatLent_0, List.mem_cons, List.not_mem_nil, or_false] at ha; rcases ha with rfl <;> decide +kernel) (fun gh => x_X8_seatsThatLent_0 d) (by decide +kernel)
def q_X8_seatsThatLent_1 : List (Nat × Nat) := [(0, zk1), (9, zk21), (21, zk10), (26, zk11)]
noncomputable def al_X8_seatsThatLent_1 : zAq := [(some (.inl 9223372043297226815), [(0, zk1), (9, zk21), (21, zk10), (26, zk11)])]
noncomputable def fm_X8_seatsThatLent_1 : List zFm := [(0, [], (fun vs => [.inr (.ref 0), .inl 9223372043297226757]), (fun vs => zP q_X8_seatsThatLent_1), (fun vs => Nat.sub (Nat.add 7 0) 0)),
  (1, [(3, 2147483648, 2147483654)], (fun vs => [.inr (.ref 0), .inl 9223372043297226757, .inl 9223372043297226815, .inl (zn 0 vs 0)]), (fun vs => zP q_X8_seatsThatLent_1), (fun vs => Nat.sub (Nat.add 2147483654 0) (Nat.add 0 (Nat.mul 1 (zn 0 vs 0)))))]
def bf_X8_seatsThatLent_1 : List Nat := [0, 2]
theorem r_X8_seatsThatLent_1_0 : zbox [] (fun vs => zFrun (zpost (zAlq al_X8_seatsThatLent_1)) 1000 t_X8_seatsThatLent fm_X8_seatsThatLent_1 bf_X8_seatsThatLent_1 (0, vs)) = true := by decide +kernel
theorem r_X8_seatsThatLent_1_1 : zbox [(3, 2147483648, 2147483654)] (fun vs => zFrun (zpost (zAlq al_X8_seatsThatLent_1)) 1000 t_X8_seatsThatLent fm_X8_seatsThatLent_1 bf_X8_seatsThatLent_1 (1, vs)) = true := by decide +kernel
set_option maxRecDepth 100000 in
theorem x_X8_seatsThatLent_1 (d : Nat) : zS l G gh (d + 2) (zpost (zAlq al_X8_seatsThatLent_1)) n_X8_seatsThatLent (zn 0 p_X8_seatsThatLent 0) (zwc (0, [.inr (.ref 0), .inl 9223372043297226757], zP q_X8_seatsThatLent_1) 0) := zentry (tt_X8_seatsThatLent d) fm_X8_seatsThatLent_1 bf_X8_seatsThatLent_1 1000 (by decide +kernel) rfl ⟨Nat.zero_lt_succ _, trivial⟩ (fun f hf => match f, hf with
  | 0, _ => fun vs hv => (zbox_t r_X8_seatsThatLent_1_0) vs hv
  | 1, _ => fun vs hv => (zbox_t r_X8_seatsThatLent_1_1) vs hv
  | f + 2, h => absurd (show f + 2 < 2 from h) (Nat.not_lt.mpr (Nat.le_add_left 2 f)))
noncomputable def gs_X8_seatsThatLent_1 : zMt := zgq false [] 4 [.inr (.ref 0), .inl 9223372043297226757] q_X8_seatsThatLent_1 al_X8_seatsThatLent_1
set_option maxRecDepth 100000 in
theorem cs_X8_seatsThatLent_1 (d : Nat) : zC l G gh (d + 2) n_X8_seatsThatLent gs_X8_seatsThatLent_1 := zgq_ok0 (pcs := p_X8_seatsThatLent) (by decide) rfl rfl (fun a ha => by simp only [al_X8_seatsThatLent_1, List.mem_cons, List.not_mem_nil, or_false] at ha; rcases ha with rfl <;> decide +kernel) (fun gh => x_X8_seatsThatLent_1 d) (by decide +kernel)
noncomputable def gs_X8_seatsThatLent : zMt := (zor gs_X8_seatsThatLent_0 gs_X8_seatsThatLent_1)
theorem cs_X8_seatsThatLent (d : Nat) : zC l G gh (d + 2) n_X8_seatsThatLent gs_X8_seatsThatLent := (zor_ok (cs_X8_seatsThatLent_0 d) (cs_X8_seatsThatLent_1 d))
def p_X8_thingsLentOn : List Nat := [0, 4, 15, 31, 37, 43]
noncomputable def b_X8_thingsLentOn_0 : zBl := fun jp K => oInt 2147483648 <| oIst 2 <| oInt 2147483648 <| oIst 3 <| jp 1
theorem s_X8_thingsLentOn_0 (d : Nat) : zPb l G gh (d + 2) n_X8_thingsLentOn p_X8_thingsLentOn 0 b_X8_thingsLentOn_0 := fun K jp hj =>
    z_iconst (n := 0) (zd (i := .iconst (0)) (n := 1) (by decide +kernel)) (by decide +kernel) <|
    z_istore_n (n := 2) (i := 2) (zd (i := .istore_n 2) (n := 1) (by decide +kernel)) rfl (by decide +kernel) <|
    z_iconst (n := 0) (zd (i := .iconst (0)) (n := 1) (by decide +kernel)) (by decide +kernel) <|
    z_istore_n (n := 3) (i := 3) (zd (i := .istore_n 3) (n := 1) (by decide +kernel)) rfl (by decide +kernel) <|
    (zj (hj 1) (by decide +kernel))
noncomputable def b_X8_thingsLentOn_1 : zBl := fun jp K => oIld 3 <| oAld 0 <| oGetR 8 12 <| oGetI 0 2 <| oIc zge zlt (jp 5) (jp 2)
theorem s_X8_thingsLentOn_1 (d : Nat) : zPb l G gh (d + 2) n_X8_thingsLentOn p_X8_thingsLentOn 4 b_X8_thingsLentOn_1 := fun K jp hj =>
    z_iload_n (n := 3) (i := 3) (zd (i := .iload_n 3) (n := 1) (by decide +kernel)) rfl <|
    z_aload_n (n := 0) (i := 0) (zd (i := .aload_n 0) (n := 1) (by decide +kernel)) rfl <|
    z_getR (ci := 8) (j := 12) (idx := 71) (zd (i := .getfield 71) (n := 3) (by decide +kernel)) (by decide +kernel) (by decide +kernel) rfl g464 <|
    z_getI (ci := 0) (j := 2) (idx := 236) (zd (i := .getfield 236) (n := 3) (by decide +kernel)) (by decide +kernel) (by decide +kernel) rfl g280 <|
    z_icmp_ge (off := 31) (tgt := 43) (zd (i := .if_icmp .ge (31)) (n := 3) (by decide +kernel)) (by decide +kernel) (zj (hj 5) (by decide +kernel)) (zj (hj 2) (by decide +kernel))
noncomputable def b_X8_thingsLentOn_2 : zBl := fun jp K => oAld 0 <| oGetR 8 2 <| oGetR 4 5 <| oIld 1 <| oIld 3 <| oCs 2 f_X8_loanOf <| oXald 10 <| oIf zeq zne (jp 4) (jp 3)
theorem s_X8_thingsLentOn_2 (d : Nat) : zPb l G gh (d + 2) n_X8_thingsLentOn p_X8_thingsLentOn 15 b_X8_thingsLentOn_2 := fun K jp hj =>
    z_aload_n (n := 0) (i := 0) (zd (i := .aload_n 0) (n := 1) (by decide +kernel)) rfl <|
    z_getR (ci := 8) (j := 2) (idx := 26) (zd (i := .getfield 26) (n := 3) (by decide +kernel)) (by decide +kernel) (by decide +kernel) rfl g454 <|
    z_getR (ci := 4) (j := 5) (idx := 169) (zd (i := .getfield 169) (n := 3) (by decide +kernel)) (by decide +kernel) (by decide +kernel) rfl g383 <|
    z_iload_n (n := 1) (i := 1) (zd (i := .iload_n 1) (n := 1) (by decide +kernel)) rfl <|
    z_iload_n (n := 3) (i := 3) (zd (i := .iload_n 3) (n := 1) (by decide +kernel)) rfl <|
    z_callS (idx := 166) (N := n_X8_loanOf) (zd (i := .invokestatic 166) (n := 3) (by decide +kernel)) to_X8_loanOf g764 g765 rfl rfl (c_X8_loanOf (l := l) (G := G) (gh := gh) (d)) <|
    z_iald (zd (i := .iaload) (n := 1) (by decide +kernel)) <|
    z_if_eq (off := 9) (tgt := 37) (zd (i := .ifCond .eq (9)) (n := 3) (by decide +kernel)) (by decide +kernel) (zj (hj 4) (by decide +kernel)) (zj (hj 3) (by decide +kernel))
noncomputable def b_X8_thingsLentOn_3 : zBl := fun jp K => oIld 2 <| oInt 2147483649 <| oIld 3 <| oB2 zishl <| oB2 zior <| oIst 2 <| jp 4
theorem s_X8_thingsLentOn_3 (d : Nat) : zPb l G gh (d + 2) n_X8_thingsLentOn p_X8_thingsLentOn 31 b_X8_thingsLentOn_3 := fun K jp hj =>
    z_iload_n (n := 2) (i := 2) (zd (i := .iload_n 2) (n := 1) (by decide +kernel)) rfl <|
    z_iconst (n := 1) (zd (i := .iconst (1)) (n := 1) (by decide +kernel)) (by decide +kernel) <|
    z_iload_n (n := 3) (i := 3) (zd (i := .iload_n 3) (n := 1) (by decide +kernel)) rfl <|
    z_ishl (zd (i := .ishl) (n := 1) (by decide +kernel)) <|
    z_ior (zd (i := .ior) (n := 1) (by decide +kernel)) <|
    z_istore_n (n := 2) (i := 2) (zd (i := .istore_n 2) (n := 1) (by decide +kernel)) rfl (by decide +kernel) <|
    (zj (hj 4) (by decide +kernel))
noncomputable def b_X8_thingsLentOn_4 : zBl := fun jp K => oInc 3 2147483649 <| jp 1
theorem s_X8_thingsLentOn_4 (d : Nat) : zPb l G gh (d + 2) n_X8_thingsLentOn p_X8_thingsLentOn 37 b_X8_thingsLentOn_4 := fun K jp hj =>
    z_iinc (i := 3) (n := 1) (zd (i := .iinc 3 (1)) (n := 3) (by decide +kernel)) (by decide +kernel) (by decide +kernel) <|
    z_goto (off := -36) (tgt := 4) (zd (i := .goto (-36)) (n := 3) (by decide +kernel)) (by decide +kernel) (zj (hj 1) (by decide +kernel))
noncomputable def b_X8_thingsLentOn_5 : zBl := fun jp K => oIld 2 <| oIret K
theorem s_X8_thingsLentOn_5 (d : Nat) : zPb l G gh (d + 2) n_X8_thingsLentOn p_X8_thingsLentOn 43 b_X8_thingsLentOn_5 := fun K jp hj =>
    z_iload_n (n := 2) (i := 2) (zd (i := .iload_n 2) (n := 1) (by decide +kernel)) rfl <|
    z_iret (zd (i := .ireturn) (n := 1) (by decide +kernel)) rfl
noncomputable def t_X8_thingsLentOn : List zBl := [b_X8_thingsLentOn_0, b_X8_thingsLentOn_1, b_X8_thingsLentOn_2, b_X8_thingsLentOn_3, b_X8_thingsLentOn_4, b_X8_thingsLentOn_5]
theorem tt_X8_thingsLentOn (d : Nat) : zT (zPb l G gh (d + 2) n_X8_thingsLentOn p_X8_thingsLentOn) t_X8_thingsLentOn p_X8_thingsLentOn := ⟨s_X8_thingsLentOn_0 d, s_X8_thingsLentOn_1 d, s_X8_thingsLentOn_2 d, s_X8_thingsLentOn_3 d, s_X8_thingsLentOn_4 d, s_X8_thingsLentOn_5 d, trivial⟩
def q_X8_thingsLentOn_0 : List (Nat × Nat) := [(0, zk0), (21, zk10), (26, zk11), (259, zk20)]
noncomputable def al_X8_thingsLentOn_0 : zAq := [(some (.inl 9223372043297226815), [(0, zk0), (21, zk10), (26, zk11), (259, zk20)])]
noncomputable def fm_X8_thingsLentOn_0 : List zFm := [(0, [], (fun vs => [.inr (.ref 0), .inl 9223372043297226757]), (fun vs => zP q_X8_thingsLentOn_0), (fun vs => Nat.sub (Nat.add 7 0) 0)),
  (1, [(3, 2147483648, 2147483654)], (fun vs => [.inr (.ref 0), .inl 9223372043297226757, .inl 9223372043297226815, .inl (zn 0 vs 0)]), (fun vs => zP q_X8_thingsLentOn_0), (fun vs => Nat.sub (Nat.add 2147483654 0) (Nat.add 0 (Nat.mul 1 (zn 0 vs 0)))))]
def bf_X8_thingsLentOn_0 : List Nat := [0, 2]
theorem r_X8_thingsLentOn_0_0 : zbox [] (fun vs => zFrun (zpost (zAlq al_X8_thingsLentOn_0)) 1000 t_X8_thingsLentOn fm_X8_thingsLentOn_0 bf_X8_thingsLentOn_0 (0, vs)) = true := by decide +kernel
theorem r_X8_thingsLentOn_0_1 : zbox [(3, 2147483648, 2147483654)] (fun vs => zFrun (zpost (zAlq al_X8_thingsLentOn_0)) 1000 t_X8_thingsLentOn fm_X8_thingsLentOn_0 bf_X8_thingsLentOn_0 (1, vs)) = true := by decide +kernel
set_option maxRecDepth 100000 in
theorem x_X8_thingsLentOn_0 (d : Nat) : zS l G gh (d + 2) (zpost (zAlq al_X8_thingsLentOn_0)) n_X8_thingsLentOn (zn 0 p_X8_thingsLentOn 0) (zwc (0, [.inr (.ref 0), .inl 9223372043297226757], zP q_X8_thingsLentOn_0) 0) := zentry (tt_X8_thingsLentOn d) fm_X8_thingsLentOn_0 bf_X8_thingsLentOn_0 1000 (by decide +kernel) rfl ⟨Nat.zero_lt_succ _, trivial⟩ (fun f hf => match f, hf with
  | 0, _ => fun vs hv => (zbox_t r_X8_thingsLentOn_0_0) vs hv
  | 1, _ => fun vs hv => (zbox_t r_X8_thingsLentOn_0_1) vs hv
  | f + 2, h => absurd (show f + 2 < 2 from h) (Nat.not_lt.mpr (Nat.le_add_left 2 f)))
noncomputable def gs_X8_thingsLentOn_0 : zMt := zgq false [] 4 [.inr (.ref 0), .inl 9223372043297226757] q_X8_thingsLentOn_0 al_X8_thingsLentOn_0
set_option maxRecDepth 100000 in
theorem cs_X8_thingsLentOn_0 (d : Nat) : zC l G gh (d + 2) n_X8_thingsLentOn gs_X8_thingsLentOn_0 := zgq_ok0 (pcs := p_X8_thingsLentOn) (by decide) rfl rfl (fun a ha => by simp only [al_X8_thingsLentOn_0, List.mem_cons, List.not_mem_nil, or_false] at ha; rcases ha with rfl <;> decide +kernel) (fun gh => x_X8_thingsLentOn_0 d) (by decide +kernel)
def q_X8_thingsLentOn_1 : List (Nat × Nat) := [(0, zk1), (9, zk21), (21, zk10), (26, zk11)]
noncomputable def al_X8_thingsLentOn_1 : zAq := [(some (.inl 9223372043297226815), [(0, zk1), (9, zk21), (21, zk10), (26, zk11)])]
noncomputable def fm_X8_thingsLentOn_1 : List zFm := [(0, [], (fun vs => [.inr (.ref 0), .inl 9223372043297226757]), (fun vs => zP q_X8_thingsLentOn_1), (fun vs => Nat.sub (Nat.add 7 0) 0)),
  (1, [(3, 2147483648, 2147483654)], (fun vs => [.inr (.ref 0), .inl 9223372043297226757, .inl 9223372043297226815, .inl (zn 0 vs 0)]), (fun vs => zP q_X8_thingsLentOn_1), (fun vs => Nat.sub (Nat.add 2147483654 0) (Nat.add 0 (Nat.mul 1 (zn 0 vs 0)))))]
def bf_X8_thingsLentOn_1 : List Nat := [0, 2]
theorem r_X8_thingsLentOn_1_0 : zbox [] (fun vs => zFrun (zpost (zAlq al_X8_thingsLentOn_1)) 1000 t_X8_thingsLentOn fm_X8_thingsLentOn_1 bf_X8_thingsLentOn_1 (0, vs)) = true := by decide +kernel
theorem r_X8_thingsLentOn_1_1 : zbox [(3, 2147483648, 2147483654)] (fun vs => zFrun (zpost (zAlq al_X8_thingsLentOn_1)) 1000 t_X8_thingsLentOn fm_X8_thingsLentOn_1 bf_X8_thingsLentOn_1 (1, vs)) = true := by decide +kernel
set_option maxRecDepth 100000 in
theorem x_X8_thingsLentOn_1 (d : Nat) : zS l G gh (d + 2) (zpost (zAlq al_X8_thingsLentOn_1)) n_X8_thingsLentOn (zn 0 p_X8_thingsLentOn 0) (zwc (0, [.inr (.ref 0), .inl 9223372043297226757], zP q_X8_thingsLentOn_1) 0) := zentry (tt_X8_thingsLentOn d) fm_X8_thingsLentOn_1 bf_X8_thingsLentOn_1 1000 (by decide +kernel) rfl ⟨Nat.zero_lt_succ _, trivial⟩ (fun f hf => match f, hf with
  | 0, _ => fun vs hv => (zbox_t r_X8_thingsLentOn_1_0) vs hv
  | 1, _ => fun vs hv => (zbox_t r_X8_thingsLentOn_1_1) vs hv
  | f + 2, h => absurd (show f + 2 < 2 from h) (Nat.not_lt.mpr (Nat.le_add_left 2 f)))
noncomputable def gs_X8_thingsLentOn_1 : zMt := zgq false [] 4 [.inr (.ref 0), .inl 9223372043297226757] q_X8_thingsLentOn_1 al_X8_thingsLentOn_1
set_option maxRecDepth 100000 in
theorem cs_X8_thingsLentOn_1 (d : Nat) : zC l G gh (d + 2) n_X8_thingsLentOn gs_X8_thingsLentOn_1 := zgq_ok0 (pcs := p_X8_thingsLentOn) (by decide) rfl rfl (fun a ha => by simp only [al_X8_thingsLentOn_1, List.mem_cons, List.not_mem_nil, or_false] at ha; rcases ha with rfl <;> decide +kernel) (fun gh => x_X8_thingsLentOn_1 d) (by decide +kernel)
noncomputable def gs_X8_thingsLentOn : zMt := (zor gs_X8_thingsLentOn_0 gs_X8_thingsLentOn_1)
theorem cs_X8_thingsLentOn (d : Nat) : zC l G gh (d + 2) n_X8_thingsLentOn gs_X8_thingsLentOn := (zor_ok (cs_X8_thingsLentOn_0 d) (cs_X8_thingsLentOn_1 d))
def p_X4_lentBy : List Nat := [0, 4, 10, 29]
noncomputable def b_X4_lentBy_0 : zBl := fun jp K => oInt 2147483648 <| oIst 2 <| oInt 2147483648 <| oIst 3 <| jp 1
theorem s_X4_lentBy_0 (d : Nat) : zPb l G gh (d + 2) n_X4_lentBy p_X4_lentBy 0 b_X4_lentBy_0 := fun K jp hj =>
    z_iconst (n := 0) (zd (i := .iconst (0)) (n := 1) (by decide +kernel)) (by decide +kernel) <|
    z_istore_n (n := 2) (i := 2) (zd (i := .istore_n 2) (n := 1) (by decide +kernel)) rfl (by decide +kernel) <|
    z_iconst (n := 0) (zd (i := .iconst (0)) (n := 1) (by decide +kernel)) (by decide +kernel) <|
    z_istore_n (n := 3) (i := 3) (zd (i := .istore_n 3) (n := 1) (by decide +kernel)) rfl (by decide +kernel) <|
    (zj (hj 1) (by decide +kernel))
noncomputable def b_X4_lentBy_1 : zBl := fun jp K => oNLC 3 2147483654 zgeN zltN zn1_ge zn1_lt (jp 3) (jp 2)
theorem s_X4_lentBy_1 (d : Nat) : zPb l G gh (d + 2) n_X4_lentBy p_X4_lentBy 4 b_X4_lentBy_1 := fun K jp hj =>
    z_nLC_ge (i := 3) (c0 := 2147483654) (a1 := 1) (a2 := 2) (off := 22) (tgt := 29) (zLd_n (n := 3) (i := 3) (zd (i := .iload_n 3) (n := 1) (by decide +kernel)) rfl) (zCn_b (n := 6) (zd (i := .bipush (6)) (n := 2) (by decide +kernel)) (by decide +kernel)) (zd (i := .if_icmp .ge (22)) (n := 3) (by decide +kernel)) (by decide +kernel) (zj (hj 3) (by decide +kernel)) (zj (hj 2) (by decide +kernel))
noncomputable def b_X4_lentBy_2 : zBl := fun jp K => oIld 2 <| oAld 0 <| oGetR 4 5 <| oIld 1 <| oIld 3 <| oCs 2 f_X8_loanOf <| oXald 10 <| oB2 zadd <| oIst 2 <| oInc 3 2147483649 <| jp 1
theorem s_X4_lentBy_2 (d : Nat) : zPb l G gh (d + 2) n_X4_lentBy p_X4_lentBy 10 b_X4_lentBy_2 := fun K jp hj =>
    z_iload_n (n := 2) (i := 2) (zd (i := .iload_n 2) (n := 1) (by decide +kernel)) rfl <|
    z_aload_n (n := 0) (i := 0) (zd (i := .aload_n 0) (n := 1) (by decide +kernel)) rfl <|
    z_getR (ci := 4) (j := 5) (idx := 28) (zd (i := .getfield 28) (n := 3) (by decide +kernel)) (by decide +kernel) (by decide +kernel) rfl g382 <|
    z_iload_n (n := 1) (i := 1) (zd (i := .iload_n 1) (n := 1) (by decide +kernel)) rfl <|
    z_iload_n (n := 3) (i := 3) (zd (i := .iload_n 3) (n := 1) (by decide +kernel)) rfl <|
    z_callSN (idx := 59) (N := n_X8_loanOf) (host := "MirageLoans") (zd (i := .invokestatic 59) (n := 3) (by decide +kernel)) to_X8_loanOf (by decide +kernel) g765 rfl rfl (c_X8_loanOf (l := l) (G := G) (gh := gh) (d)) <|
    z_iald (zd (i := .iaload) (n := 1) (by decide +kernel)) <|
    z_iadd (zd (i := .iadd) (n := 1) (by decide +kernel)) <|
    z_istore_n (n := 2) (i := 2) (zd (i := .istore_n 2) (n := 1) (by decide +kernel)) rfl (by decide +kernel) <|
    z_iinc (i := 3) (n := 1) (zd (i := .iinc 3 (1)) (n := 3) (by decide +kernel)) (by decide +kernel) (by decide +kernel) <|
    z_goto (off := -22) (tgt := 4) (zd (i := .goto (-22)) (n := 3) (by decide +kernel)) (by decide +kernel) (zj (hj 1) (by decide +kernel))
noncomputable def b_X4_lentBy_3 : zBl := fun jp K => oIld 2 <| oIret K
theorem s_X4_lentBy_3 (d : Nat) : zPb l G gh (d + 2) n_X4_lentBy p_X4_lentBy 29 b_X4_lentBy_3 := fun K jp hj =>
    z_iload_n (n := 2) (i := 2) (zd (i := .iload_n 2) (n := 1) (by decide +kernel)) rfl <|
    z_iret (zd (i := .ireturn) (n := 1) (by decide +kernel)) rfl
noncomputable def t_X4_lentBy : List zBl := [b_X4_lentBy_0, b_X4_lentBy_1, b_X4_lentBy_2, b_X4_lentBy_3]
theorem tt_X4_lentBy (d : Nat) : zT (zPb l G gh (d + 2) n_X4_lentBy p_X4_lentBy) t_X4_lentBy p_X4_lentBy := ⟨s_X4_lentBy_0 d, s_X4_lentBy_1 d, s_X4_lentBy_2 d, s_X4_lentBy_3 d, trivial⟩
def q_X4_lentBy_0 : List (Nat × Nat) := [(21, zk10), (26, zk11)]
noncomputable def al_X4_lentBy_0 : zAq := [(some (.inl 8589934591), [(21, zk10), (26, zk11)])]
noncomputable def fm_X4_lentBy_0 : List zFm := [(0, [], (fun vs => [.inr (.ref 21), .inl 9223372043297226757]), (fun vs => zP q_X4_lentBy_0), (fun vs => Nat.sub (Nat.add 7 0) 0)),
  (1, [(3, 2147483648, 2147483654)], (fun vs => [.inr (.ref 21), .inl 9223372043297226757, .inl 8589934591, .inl (zn 0 vs 0)]), (fun vs => zP q_X4_lentBy_0), (fun vs => Nat.sub (Nat.add 2147483654 0) (Nat.add 0 (Nat.mul 1 (zn 0 vs 0)))))]
def bf_X4_lentBy_0 : List Nat := [0, 2]
theorem r_X4_lentBy_0_0 : zbox [] (fun vs => zFrun (zpost (zAlq al_X4_lentBy_0)) 1000 t_X4_lentBy fm_X4_lentBy_0 bf_X4_lentBy_0 (0, vs)) = true := by decide +kernel
theorem r_X4_lentBy_0_1 : zbox [(3, 2147483648, 2147483654)] (fun vs => zFrun (zpost (zAlq al_X4_lentBy_0)) 1000 t_X4_lentBy fm_X4_lentBy_0 bf_X4_lentBy_0 (1, vs)) = true := by decide +kernel
set_option maxRecDepth 100000 in
theorem x_X4_lentBy_0 (d : Nat) : zS l G gh (d + 2) (zpost (zAlq al_X4_lentBy_0)) n_X4_lentBy (zn 0 p_X4_lentBy 0) (zwc (0, [.inr (.ref 21), .inl 9223372043297226757], zP q_X4_lentBy_0) 0) := zentry (tt_X4_lentBy d) fm_X4_lentBy_0 bf_X4_lentBy_0 1000 (by decide +kernel) rfl ⟨Nat.zero_lt_succ _, trivial⟩ (fun f hf => match f, hf with
  | 0, _ => fun vs hv => (zbox_t r_X4_lentBy_0_0) vs hv
  | 1, _ => fun vs hv => (zbox_t r_X4_lentBy_0_1) vs hv
  | f + 2, h => absurd (show f + 2 < 2 from h) (Nat.not_lt.mpr (Nat.le_add_left 2 f)))
noncomputable def gs_X4_lentBy_0 : zMt := zgq false [] 4 [.inr (.ref 21), .inl 9223372043297226757] q_X4_lentBy_0 al_X4_lentBy_0
set_option maxRecDepth 100000 in
theorem cs_X4_lentBy_0 (d : Nat) : zC l G gh (d + 2) n_X4_lentBy gs_X4_lentBy_0 := zgq_ok0 (pcs := p_X4_lentBy) (by decide) rfl rfl (fun a ha => by simp only [al_X4_lentBy_0, List.mem_cons, List.not_mem_nil, or_false] at ha; rcases ha with rfl <;> decide +kernel) (fun gh => x_X4_lentBy_0 d) (by decide +kernel)
def q_X4_lentBy_1 : List (Nat × Nat) := [(28, zk22), (33, zk11)]
noncomputable def al_X4_lentBy_1 : zAq := [(some (.inl 8589934591), [(28, zk22), (33, zk11)])]
noncomputable def fm_X4_lentBy_1 : List zFm := [(0, [], (fun vs => [.inr (.ref 28), .inl 9223372043297226757]), (fun vs => zP q_X4_lentBy_1), (fun vs => Nat.sub (Nat.add 7 0) 0)),
  (1, [(3, 2147483648, 2147483654)], (fun vs => [.inr (.ref 28), .inl 9223372043297226757, .inl 8589934591, .inl (zn 0 vs 0)]), (fun vs => zP q_X4_lentBy_1), (fun vs => Nat.sub (Nat.add 2147483654 0) (Nat.add 0 (Nat.mul 1 (zn 0 vs 0)))))]
def bf_X4_lentBy_1 : List Nat := [0, 2]
theorem r_X4_lentBy_1_0 : zbox [] (fun vs => zFrun (zpost (zAlq al_X4_lentBy_1)) 1000 t_X4_lentBy fm_X4_lentBy_1 bf_X4_lentBy_1 (0, vs)) = true := by decide +kernel
theorem r_X4_lentBy_1_1 : zbox [(3, 2147483648, 2147483654)] (fun vs => zFrun (zpost (zAlq al_X4_lentBy_1)) 1000 t_X4_lentBy fm_X4_lentBy_1 bf_X4_lentBy_1 (1, vs)) = true := by decide +kernel
set_option maxRecDepth 100000 in
theorem x_X4_lentBy_1 (d : Nat) : zS l G gh (d + 2) (zpost (zAlq al_X4_lentBy_1)) n_X4_lentBy (zn 0 p_X4_lentBy 0) (zwc (0, [.inr (.ref 28), .inl 9223372043297226757], zP q_X4_lentBy_1) 0) := zentry (tt_X4_lentBy d) fm_X4_lentBy_1 bf_X4_lentBy_1 1000 (by decide +kernel) rfl ⟨Nat.zero_lt_succ _, trivial⟩ (fun f hf => match f, hf with
  | 0, _ => fun vs hv => (zbox_t r_X4_lentBy_1_0) vs hv
  | 1, _ => fun vs hv => (zbox_t r_X4_lentBy_1_1) vs hv
  | f + 2, h => absurd (show f + 2 < 2 from h) (Nat.not_lt.mpr (Nat.le_add_left 2 f)))
noncomputable def gs_X4_lentBy_1 : zMt := zgq false [] 4 [.inr (.ref 28), .inl 9223372043297226757] q_X4_lentBy_1 al_X4_lentBy_1
set_option maxRecDepth 100000 in
theorem cs_X4_lentBy_1 (d : Nat) : zC l G gh (d + 2) n_X4_lentBy gs_X4_lentBy_1 := zgq_ok0 (pcs := p_X4_lentBy) (by decide) rfl rfl (fun a ha => by simp only [al_X4_lentBy_1, List.mem_cons, List.not_mem_nil, or_false] at ha; rcases ha with rfl <;> decide +kernel) (fun gh => x_X4_lentBy_1 d) (by decide +kernel)
noncomputable def gs_X4_lentBy : zMt := (zor gs_X4_lentBy_0 gs_X4_lentBy_1)
theorem cs_X4_lentBy (d : Nat) : zC l G gh (d + 2) n_X4_lentBy gs_X4_lentBy := (zor_ok (cs_X4_lentBy_0 d) (cs_X4_lentBy_1 d))
def p_X8_isPair : List Nat := [0, 8, 16, 20, 21]
noncomputable def b_X8_isPair_0 : zBl := fun jp K => oAld 0 <| oIld 1 <| oCv 8 1 f_X8_isSeat <| oIf zeq zne (jp 3) (jp 1)
theorem s_X8_isPair_0 (d : Nat) : zPb l G gh (d + 2) n_X8_isPair p_X8_isPair 0 b_X8_isPair_0 := fun K jp hj =>
    z_aload_n (n := 0) (i := 0) (zd (i := .aload_n 0) (n := 1) (by decide +kernel)) rfl <|
    z_iload_n (n := 1) (i := 1) (zd (i := .iload_n 1) (n := 1) (by decide +kernel)) rfl <|
    z_callV (idx := 131) (ci := 8) (N := n_X8_isSeat) (zd (i := .invokevirtual 131) (n := 3) (by decide +kernel)) to_X8_isSeat g771 g773 g23 (by decide +kernel) rfl rfl rfl (c_X8_isSeat (l := l) (G := G) (gh := gh) (d)) <|
    z_if_eq (off := 15) (tgt := 20) (zd (i := .ifCond .eq (15)) (n := 3) (by decide +kernel)) (by decide +kernel) (zj (hj 3) (by decide +kernel)) (zj (hj 1) (by decide +kernel))
noncomputable def b_X8_isPair_1 : zBl := fun jp K => oAld 0 <| oIld 2 <| oCv 8 1 f_X8_isThing <| oIf zeq zne (jp 3) (jp 2)
theorem s_X8_isPair_1 (d : Nat) : zPb l G gh (d + 2) n_X8_isPair p_X8_isPair 8 b_X8_isPair_1 := fun K jp hj =>
    z_aload_n (n := 0) (i := 0) (zd (i := .aload_n 0) (n := 1) (by decide +kernel)) rfl <|
    z_iload_n (n := 2) (i := 2) (zd (i := .iload_n 2) (n := 1) (by decide +kernel)) rfl <|
    z_callV (idx := 115) (ci := 8) (N := n_X8_isThing) (zd (i := .invokevirtual 115) (n := 3) (by decide +kernel)) to_X8_isThing g708 g710 g17 (by decide +kernel) rfl rfl rfl (c_X8_isThing (l := l) (G := G) (gh := gh) (d)) <|
    z_if_eq (off := 7) (tgt := 20) (zd (i := .ifCond .eq (7)) (n := 3) (by decide +kernel)) (by decide +kernel) (zj (hj 3) (by decide +kernel)) (zj (hj 2) (by decide +kernel))
noncomputable def b_X8_isPair_2 : zBl := fun jp K => oInt 2147483649 <| jp 4
theorem s_X8_isPair_2 (d : Nat) : zPb l G gh (d + 2) n_X8_isPair p_X8_isPair 16 b_X8_isPair_2 := fun K jp hj =>
    z_iconst (n := 1) (zd (i := .iconst (1)) (n := 1) (by decide +kernel)) (by decide +kernel) <|
    z_goto (off := 4) (tgt := 21) (zd (i := .goto (4)) (n := 3) (by decide +kernel)) (by decide +kernel) (zj (hj 4) (by decide +kernel))
noncomputable def b_X8_isPair_3 : zBl := fun jp K => oInt 2147483648 <| jp 4
theorem s_X8_isPair_3 (d : Nat) : zPb l G gh (d + 2) n_X8_isPair p_X8_isPair 20 b_X8_isPair_3 := fun K jp hj =>
    z_iconst (n := 0) (zd (i := .iconst (0)) (n := 1) (by decide +kernel)) (by decide +kernel) <|
    (zj (hj 4) (by decide +kernel))
noncomputable def b_X8_isPair_4 : zBl := fun jp K => oZret K
theorem s_X8_isPair_4 (d : Nat) : zPb l G gh (d + 2) n_X8_isPair p_X8_isPair 21 b_X8_isPair_4 := fun K jp hj =>
    z_zret (zd (i := .ireturn) (n := 1) (by decide +kernel)) rfl
noncomputable def t_X8_isPair : List zBl := [b_X8_isPair_0, b_X8_isPair_1, b_X8_isPair_2, b_X8_isPair_3, b_X8_isPair_4]
theorem tt_X8_isPair (d : Nat) : zT (zPb l G gh (d + 2) n_X8_isPair p_X8_isPair) t_X8_isPair p_X8_isPair := ⟨s_X8_isPair_0 d, s_X8_isPair_1 d, s_X8_isPair_2 d, s_X8_isPair_3 d, s_X8_isPair_4 d, trivial⟩
noncomputable def f_X8_isPair : zMt := zmet 3 t_X8_isPair
theorem c_X8_isPair (d : Nat) : zC l G gh (d + 2) n_X8_isPair f_X8_isPair := zmet_ok (pcs := p_X8_isPair) (by decide) rfl rfl (tt_X8_isPair d)
end
