section
variable {l : Launch} {G : qG} {gh : zGh}
def p_X4_keepOnly : List Nat := [0, 2, 11, 16, 21, 27]
noncomputable def b_X4_keepOnly_0 : zBl := fun jp K => oInt 2147483648 <| oIst 2 <| jp 1
theorem s_X4_keepOnly_0 (d : Nat) : zPb l G gh (d + 2) n_X4_keepOnly p_X4_keepOnly 0 b_X4_keepOnly_0 := fun K jp hj =>
    z_iconst (n := 0) (zd (i := .iconst (0)) (n := 1) (by decide +kernel)) (by decide +kernel) <|
    z_istore_n (n := 2) (i := 2) (zd (i := .istore_n 2) (n := 1) (by decide +kernel)) rfl (by decide +kernel) <|
    (zj (hj 1) (by decide +kernel))
noncomputable def b_X4_keepOnly_1 : zBl := fun jp K => oIld 2 <| oAld 0 <| oGetR 4 5 <| oAlen <| oIc zge zlt (jp 5) (jp 2)
theorem s_X4_keepOnly_1 (d : Nat) : zPb l G gh (d + 2) n_X4_keepOnly p_X4_keepOnly 2 b_X4_keepOnly_1 := fun K jp hj =>
    z_iload_n (n := 2) (i := 2) (zd (i := .iload_n 2) (n := 1) (by decide +kernel)) rfl <|
    z_aload_n (n := 0) (i := 0) (zd (i := .aload_n 0) (n := 1) (by decide +kernel)) rfl <|
    z_getR (ci := 4) (j := 5) (idx := 28) (zd (i := .getfield 28) (n := 3) (by decide +kernel)) (by decide +kernel) (by decide +kernel) rfl g382 <|
    z_alen (zd (i := .arraylength) (n := 1) (by decide +kernel)) <|
    z_icmp_ge (off := 19) (tgt := 27) (zd (i := .if_icmp .ge (19)) (n := 3) (by decide +kernel)) (by decide +kernel) (zj (hj 5) (by decide +kernel)) (zj (hj 2) (by decide +kernel))
noncomputable def b_X4_keepOnly_2 : zBl := fun jp K => oNLL 2 1 zeqN zneN zn1_eq zn2_eq zn1_ne zn2_ne (jp 4) (jp 3)
theorem s_X4_keepOnly_2 (d : Nat) : zPb l G gh (d + 2) n_X4_keepOnly p_X4_keepOnly 11 b_X4_keepOnly_2 := fun K jp hj =>
    z_nLL_eq (i := 2) (j := 1) (a1 := 1) (a2 := 1) (off := 8) (tgt := 21) (zLd_n (n := 2) (i := 2) (zd (i := .iload_n 2) (n := 1) (by decide +kernel)) rfl) (zLd_n (n := 1) (i := 1) (zd (i := .iload_n 1) (n := 1) (by decide +kernel)) rfl) (zd (i := .if_icmp .eq (8)) (n := 3) (by decide +kernel)) (by decide +kernel) (zj (hj 4) (by decide +kernel)) (zj (hj 3) (by decide +kernel))
noncomputable def b_X4_keepOnly_3 : zBl := fun jp K => oAld 0 <| oIld 2 <| oCv 4 1 f_X4_end <| jp 4
theorem s_X4_keepOnly_3 (d : Nat) : zPb l G gh (d + 2) n_X4_keepOnly p_X4_keepOnly 16 b_X4_keepOnly_3 := fun K jp hj =>
    z_aload_n (n := 0) (i := 0) (zd (i := .aload_n 0) (n := 1) (by decide +kernel)) rfl <|
    z_iload_n (n := 2) (i := 2) (zd (i := .iload_n 2) (n := 1) (by decide +kernel)) rfl <|
    z_callV (idx := 56) (ci := 4) (N := n_X4_end) (zd (i := .invokevirtual 56) (n := 3) (by decide +kernel)) to_X4_end g692 g693 g694 (by decide +kernel) rfl rfl rfl (c_X4_end (l := l) (G := G) (gh := gh) (d)) <|
    (zj (hj 4) (by decide +kernel))
noncomputable def b_X4_keepOnly_4 : zBl := fun jp K => oInc 2 2147483649 <| jp 1
theorem s_X4_keepOnly_4 (d : Nat) : zPb l G gh (d + 2) n_X4_keepOnly p_X4_keepOnly 21 b_X4_keepOnly_4 := fun K jp hj =>
    z_iinc (i := 2) (n := 1) (zd (i := .iinc 2 (1)) (n := 3) (by decide +kernel)) (by decide +kernel) (by decide +kernel) <|
    z_goto (off := -22) (tgt := 2) (zd (i := .goto (-22)) (n := 3) (by decide +kernel)) (by decide +kernel) (zj (hj 1) (by decide +kernel))
noncomputable def b_X4_keepOnly_5 : zBl := fun jp K => oVret K
theorem s_X4_keepOnly_5 (d : Nat) : zPb l G gh (d + 2) n_X4_keepOnly p_X4_keepOnly 27 b_X4_keepOnly_5 := fun K jp hj =>
    z_vret (zd (i := .return_) (n := 1) (by decide +kernel)) rfl
noncomputable def t_X4_keepOnly : List zBl := [b_X4_keepOnly_0, b_X4_keepOnly_1, b_X4_keepOnly_2, b_X4_keepOnly_3, b_X4_keepOnly_4, b_X4_keepOnly_5]
theorem tt_X4_keepOnly (d : Nat) : zT (zPb l G gh (d + 2) n_X4_keepOnly p_X4_keepOnly) t_X4_keepOnly p_X4_keepOnly := ⟨s_X4_keepOnly_0 d, s_X4_keepOnly_1 d, s_X4_keepOnly_2 d, s_X4_keepOnly_3 d, s_X4_keepOnly_4 d, s_X4_keepOnly_5 d, trivial⟩
def q_X4_keepOnly_0 : List (Nat × Nat) := [(28, zk22), (33, zk11), (34, zk11)]
noncomputable def al_X4_keepOnly_0 : zAq := [(none, [(28, zk22), (33, zk58), (34, zk58)])]
def mq_X4_keepOnly_0_1 : List (Nat × Nat) := [(28, zk22), (33, zk58), (34, zk58)]
noncomputable def fm_X4_keepOnly_0 : List zFm := [(0, [], (fun vs => [.inr (.ref 28), .inl 8589934591]), (fun vs => zP q_X4_keepOnly_0), (fun vs => Nat.sub (Nat.add 37 0) 0)),
  (1, [(2, 2147483648, 2147483684)], (fun vs => [.inr (.ref 28), .inl 8589934591, .inl (zn 0 vs 0)]), (fun vs => zP mq_X4_keepOnly_0_1), (fun vs => Nat.sub (Nat.add 2147483684 0) (Nat.add 0 (Nat.mul 1 (zn 0 vs 0)))))]
def bf_X4_keepOnly_0 : List Nat := [0, 2]
theorem r_X4_keepOnly_0_0 : zbox [] (fun vs => zFrun (zpost (zAlq al_X4_keepOnly_0)) 1000 t_X4_keepOnly fm_X4_keepOnly_0 bf_X4_keepOnly_0 (0, vs)) = true := by decide +kernel
theorem r_X4_keepOnly_0_1 : zbox [(2, 2147483648, 2147483684)] (fun vs => zFrun (zpost (zAlq al_X4_keepOnly_0)) 1000 t_X4_keepOnly fm_X4_keepOnly_0 bf_X4_keepOnly_0 (1, vs)) = true := by decide +kernel
set_option maxRecDepth 100000 in
theorem x_X4_keepOnly_0 (d : Nat) : zS l G gh (d + 2) (zpost (zAlq al_X4_keepOnly_0)) n_X4_keepOnly (zn 0 p_X4_keepOnly 0) (zwc (0, [.inr (.ref 28), .inl 8589934591], zP q_X4_keepOnly_0) 0) := zentry (tt_X4_keepOnly d) fm_X4_keepOnly_0 bf_X4_keepOnly_0 1000 (by decide +kernel) rfl ⟨Nat.zero_lt_succ _, trivial⟩ (fun f hf => match f, hf with
  | 0, _ => fun vs hv => (zbox_t r_X4_keepOnly_0_0) vs hv
  | 1, _ => fun vs hv => (zbox_t r_X4_keepOnly_0_1) vs hv
  | f + 2, h => absurd (show f + 2 < 2 from h) (Nat.not_lt.mpr (Nat.le_add_left 2 f)))
noncomputable def gs_X4_keepOnly_0 : zMt := zgq false [] 3 [.inr (.ref 28), .inl 8589934591] q_X4_keepOnly_0 al_X4_keepOnly_0
set_option maxRecDepth 100000 in
theorem cs_X4_keepOnly_0 (d : Nat) : zC l G gh (d + 2) n_X4_keepOnly gs_X4_keepOnly_0 := zgq_ok0 (pcs := p_X4_keepOnly) (by decide) rfl rfl (fun a ha => by simp only [al_X4_keepOnly_0, List.mem_cons, List.not_mem_nil, or_false] at ha; rcases ha with rfl <;> decide +kernel) (fun gh => x_X4_keepOnly_0 d) (by decide +kernel)
def q_X4_keepOnly_1 : List (Nat × Nat) := [(21, zk10), (26, zk11), (27, zk11)]
noncomputable def al_X4_keepOnly_1 : zAq := [(none, [(21, zk10), (26, zk58), (27, zk58)])]
def mq_X4_keepOnly_1_1 : List (Nat × Nat) := [(21, zk10), (26, zk58), (27, zk58)]
noncomputable def fm_X4_keepOnly_1 : List zFm := [(0, [], (fun vs => [.inr (.ref 21), .inl 8589934591]), (fun vs => zP q_X4_keepOnly_1), (fun vs => Nat.sub (Nat.add 37 0) 0)),
  (1, [(2, 2147483648, 2147483684)], (fun vs => [.inr (.ref 21), .inl 8589934591, .inl (zn 0 vs 0)]), (fun vs => zP mq_X4_keepOnly_1_1), (fun vs => Nat.sub (Nat.add 2147483684 0) (Nat.add 0 (Nat.mul 1 (zn 0 vs 0)))))]
def bf_X4_keepOnly_1 : List Nat := [0, 2]
theorem r_X4_keepOnly_1_0 : zbox [] (fun vs => zFrun (zpost (zAlq al_X4_keepOnly_1)) 1000 t_X4_keepOnly fm_X4_keepOnly_1 bf_X4_keepOnly_1 (0, vs)) = true := by decide +kernel
theorem r_X4_keepOnly_1_1 : zbox [(2, 2147483648, 2147483684)] (fun vs => zFrun (zpost (zAlq al_X4_keepOnly_1)) 1000 t_X4_keepOnly fm_X4_keepOnly_1 bf_X4_keepOnly_1 (1, vs)) = true := by decide +kernel
set_option maxRecDepth 100000 in
theorem x_X4_keepOnly_1 (d : Nat) : zS l G gh (d + 2) (zpost (zAlq al_X4_keepOnly_1)) n_X4_keepOnly (zn 0 p_X4_keepOnly 0) (zwc (0, [.inr (.ref 21), .inl 8589934591], zP q_X4_keepOnly_1) 0) := zentry (tt_X4_keepOnly d) fm_X4_keepOnly_1 bf_X4_keepOnly_1 1000 (by decide +kernel) rfl ⟨Nat.zero_lt_succ _, trivial⟩ (fun f hf => match f, hf with
  | 0, _ => fun vs hv => (zbox_t r_X4_keepOnly_1_0) vs hv
  | 1, _ => fun vs hv => (zbox_t r_X4_keepOnly_1_1) vs hv
  | f + 2, h => absurd (show f + 2 < 2 from h) (Nat.not_lt.mpr (Nat.le_add_left 2 f)))
noncomputable def gs_X4_keepOnly_1 : zMt := zgq false [] 3 [.inr (.ref 21), .inl 8589934591] q_X4_keepOnly_1 al_X4_keepOnly_1
set_option maxRecDepth 100000 in
theorem cs_X4_keepOnly_1 (d : Nat) : zC l G gh (d + 2) n_X4_keepOnly gs_X4_keepOnly_1 := zgq_ok0 (pcs := p_X4_keepOnly) (by decide) rfl rfl (fun a ha => by simp only [al_X4_keepOnly_1, List.mem_cons, List.not_mem_nil, or_false] at ha; rcases ha with rfl <;> decide +kernel) (fun gh => x_X4_keepOnly_1 d) (by decide +kernel)
noncomputable def gs_X4_keepOnly : zMt := (zor gs_X4_keepOnly_0 gs_X4_keepOnly_1)
theorem cs_X4_keepOnly (d : Nat) : zC l G gh (d + 2) n_X4_keepOnly gs_X4_keepOnly := (zor_ok (cs_X4_keepOnly_0 d) (cs_X4_keepOnly_1 d))
def p_X4_begin : List Nat := [0, 10, 16, 29, 38, 39, 53, 62, 63, 84]
noncomputable def b_X4_begin_0 : zBl := fun jp K => oAld 0 <| oAld 1 <| oGetI 0 10 <| oPutI 4 0 <| oInt 2147483648 <| oIst 2 <| jp 1
theorem s_X4_begin_0 (d : Nat) : zPb l G gh (d + 3) n_X4_begin p_X4_begin 0 b_X4_begin_0 := fun K jp hj =>
    z_aload_n (n := 0) (i := 0) (zd (i := .aload_n 0) (n := 1) (by decide +kernel)) rfl <|
    z_aload_n (n := 1) (i := 1) (zd (i := .aload_n 1) (n := 1) (by decide +kernel)) rfl <|
    z_getI (ci := 0) (j := 10) (idx := 34) (zd (i := .getfield 34) (n := 3) (by decide +kernel)) (by decide +kernel) (by decide +kernel) rfl g299 <|
    z_putI (ci := 4) (j := 0) (idx := 9) (zd (i := .putfield 9) (n := 3) (by decide +kernel)) (by decide +kernel) (by decide +kernel) rfl g367 (Or.inl rfl) <|
    z_iconst (n := 0) (zd (i := .iconst (0)) (n := 1) (by decide +kernel)) (by decide +kernel) <|
    z_istore_n (n := 2) (i := 2) (zd (i := .istore_n 2) (n := 1) (by decide +kernel)) rfl (by decide +kernel) <|
    (zj (hj 1) (by decide +kernel))
noncomputable def b_X4_begin_1 : zBl := fun jp K => oNLC 2 2147483654 zgeN zltN zn1_ge zn1_lt (jp 9) (jp 2)
theorem s_X4_begin_1 (d : Nat) : zPb l G gh (d + 3) n_X4_begin p_X4_begin 10 b_X4_begin_1 := fun K jp hj =>
    z_nLC_ge (i := 2) (c0 := 2147483654) (a1 := 1) (a2 := 2) (off := 71) (tgt := 84) (zLd_n (n := 2) (i := 2) (zd (i := .iload_n 2) (n := 1) (by decide +kernel)) rfl) (zCn_b (n := 6) (zd (i := .bipush (6)) (n := 2) (by decide +kernel)) (by decide +kernel)) (zd (i := .if_icmp .ge (71)) (n := 3) (by decide +kernel)) (by decide +kernel) (zj (hj 9) (by decide +kernel)) (zj (hj 2) (by decide +kernel))
noncomputable def b_X4_begin_2 : zBl := fun jp K => oAld 0 <| oGetR 4 1 <| oIld 2 <| oNLF 2 1 0 5 zgeN zltN zn1_ge zn1_lt (jp 4) (jp 3)
theorem s_X4_begin_2 (d : Nat) : zPb l G gh (d + 3) n_X4_begin p_X4_begin 16 b_X4_begin_2 := fun K jp hj =>
    z_aload_n (n := 0) (i := 0) (zd (i := .aload_n 0) (n := 1) (by decide +kernel)) rfl <|
    z_getR (ci := 4) (j := 1) (idx := 15) (zd (i := .getfield 15) (n := 3) (by decide +kernel)) (by decide +kernel) (by decide +kernel) rfl g370 <|
    z_iload_n (n := 2) (i := 2) (zd (i := .iload_n 2) (n := 1) (by decide +kernel)) rfl <|
    z_nLF_ge (i := 2) (r := 1) (ci := 0) (j := 5) (a1 := 1) (a2 := 4) (off := 12) (tgt := 38) (zLd_n (n := 2) (i := 2) (zd (i := .iload_n 2) (n := 1) (by decide +kernel)) rfl) (zFd_n (n := 1) (r := 1) (ci := 0) (j := 5) (idx := 39) (zd (i := .aload_n 1) (n := 1) (by decide +kernel)) rfl (zd (i := .getfield 39) (n := 3) (by decide +kernel)) (by decide +kernel) (by decide +kernel) rfl g286) (by decide +kernel) rfl (zd (i := .if_icmp .ge (12)) (n := 3) (by decide +kernel)) (by decide +kernel) (zj (hj 4) (by decide +kernel)) (zj (hj 3) (by decide +kernel))
noncomputable def b_X4_begin_3 : zBl := fun jp K => oAld 1 <| oGetR 0 6 <| oIld 2 <| oXald 10 <| jp 5
theorem s_X4_begin_3 (d : Nat) : zPb l G gh (d + 3) n_X4_begin p_X4_begin 29 b_X4_begin_3 := fun K jp hj =>
    z_aload_n (n := 1) (i := 1) (zd (i := .aload_n 1) (n := 1) (by decide +kernel)) rfl <|
    z_getR (ci := 0) (j := 6) (idx := 42) (zd (i := .getfield 42) (n := 3) (by decide +kernel)) (by decide +kernel) (by decide +kernel) rfl g290 <|
    z_iload_n (n := 2) (i := 2) (zd (i := .iload_n 2) (n := 1) (by decide +kernel)) rfl <|
    z_iald (zd (i := .iaload) (n := 1) (by decide +kernel)) <|
    z_goto (off := 4) (tgt := 39) (zd (i := .goto (4)) (n := 3) (by decide +kernel)) (by decide +kernel) (zj (hj 5) (by decide +kernel))
noncomputable def b_X4_begin_4 : zBl := fun jp K => oInt 2147483648 <| jp 5
theorem s_X4_begin_4 (d : Nat) : zPb l G gh (d + 3) n_X4_begin p_X4_begin 38 b_X4_begin_4 := fun K jp hj =>
    z_iconst (n := 0) (zd (i := .iconst (0)) (n := 1) (by decide +kernel)) (by decide +kernel) <|
    (zj (hj 5) (by decide +kernel))
noncomputable def b_X4_begin_5 : zBl := fun jp K => oXast 10 zid <| oAld 0 <| oGetR 4 2 <| oIld 2 <| oNLF 2 1 0 5 zgeN zltN zn1_ge zn1_lt (jp 7) (jp 6)
theorem s_X4_begin_5 (d : Nat) : zPb l G gh (d + 3) n_X4_begin p_X4_begin 39 b_X4_begin_5 := fun K jp hj =>
    z_iast (zd (i := .iastore) (n := 1) (by decide +kernel)) <|
    z_aload_n (n := 0) (i := 0) (zd (i := .aload_n 0) (n := 1) (by decide +kernel)) rfl <|
    z_getR (ci := 4) (j := 2) (idx := 19) (zd (i := .getfield 19) (n := 3) (by decide +kernel)) (by decide +kernel) (by decide +kernel) rfl g373 <|
    z_iload_n (n := 2) (i := 2) (zd (i := .iload_n 2) (n := 1) (by decide +kernel)) rfl <|
    z_nLF_ge (i := 2) (r := 1) (ci := 0) (j := 5) (a1 := 1) (a2 := 4) (off := 12) (tgt := 62) (zLd_n (n := 2) (i := 2) (zd (i := .iload_n 2) (n := 1) (by decide +kernel)) rfl) (zFd_n (n := 1) (r := 1) (ci := 0) (j := 5) (idx := 39) (zd (i := .aload_n 1) (n := 1) (by decide +kernel)) rfl (zd (i := .getfield 39) (n := 3) (by decide +kernel)) (by decide +kernel) (by decide +kernel) rfl g286) (by decide +kernel) rfl (zd (i := .if_icmp .ge (12)) (n := 3) (by decide +kernel)) (by decide +kernel) (zj (hj 7) (by decide +kernel)) (zj (hj 6) (by decide +kernel))
noncomputable def b_X4_begin_6 : zBl := fun jp K => oAld 1 <| oGetR 0 7 <| oIld 2 <| oXald 10 <| jp 8
theorem s_X4_begin_6 (d : Nat) : zPb l G gh (d + 3) n_X4_begin p_X4_begin 53 b_X4_begin_6 := fun K jp hj =>
    z_aload_n (n := 1) (i := 1) (zd (i := .aload_n 1) (n := 1) (by decide +kernel)) rfl <|
    z_getR (ci := 0) (j := 7) (idx := 45) (zd (i := .getfield 45) (n := 3) (by decide +kernel)) (by decide +kernel) (by decide +kernel) rfl g292 <|
    z_iload_n (n := 2) (i := 2) (zd (i := .iload_n 2) (n := 1) (by decide +kernel)) rfl <|
    z_iald (zd (i := .iaload) (n := 1) (by decide +kernel)) <|
    z_goto (off := 4) (tgt := 63) (zd (i := .goto (4)) (n := 3) (by decide +kernel)) (by decide +kernel) (zj (hj 8) (by decide +kernel))
noncomputable def b_X4_begin_7 : zBl := fun jp K => oInt 2147483648 <| jp 8
theorem s_X4_begin_7 (d : Nat) : zPb l G gh (d + 3) n_X4_begin p_X4_begin 62 b_X4_begin_7 := fun K jp hj =>
    z_iconst (n := 0) (zd (i := .iconst (0)) (n := 1) (by decide +kernel)) (by decide +kernel) <|
    (zj (hj 8) (by decide +kernel))
noncomputable def b_X4_begin_8 : zBl := fun jp K => oXast 10 zid <| oAld 0 <| oGetR 4 3 <| oIld 2 <| oInt 2147483648 <| oXast 10 zid <| oAld 0 <| oGetR 4 4 <| oIld 2 <| oInt 2147483648 <| oXast 10 zid <| oInc 2 2147483649 <| jp 1
theorem s_X4_begin_8 (d : Nat) : zPb l G gh (d + 3) n_X4_begin p_X4_begin 63 b_X4_begin_8 := fun K jp hj =>
    z_iast (zd (i := .iastore) (n := 1) (by decide +kernel)) <|
    z_aload_n (n := 0) (i := 0) (zd (i := .aload_n 0) (n := 1) (by decide +kernel)) rfl <|
    z_getR (ci := 4) (j := 3) (idx := 22) (zd (i := .getfield 22) (n := 3) (by decide +kernel)) (by decide +kernel) (by decide +kernel) rfl g376 <|
    z_iload_n (n := 2) (i := 2) (zd (i := .iload_n 2) (n := 1) (by decide +kernel)) rfl <|
    z_iconst (n := 0) (zd (i := .iconst (0)) (n := 1) (by decide +kernel)) (by decide +kernel) <|
    z_iast (zd (i := .iastore) (n := 1) (by decide +kernel)) <|
    z_aload_n (n := 0) (i := 0) (zd (i := .aload_n 0) (n := 1) (by decide +kernel)) rfl <|
    z_getR (ci := 4) (j := 4) (idx := 25) (zd (i := .getfield 25) (n := 3) (by decide +kernel)) (by decide +kernel) (by decide +kernel) rfl g379 <|
    z_iload_n (n := 2) (i := 2) (zd (i := .iload_n 2) (n := 1) (by decide +kernel)) rfl <|
    z_iconst (n := 0) (zd (i := .iconst (0)) (n := 1) (by decide +kernel)) (by decide +kernel) <|
    z_iast (zd (i := .iastore) (n := 1) (by decide +kernel)) <|
    z_iinc (i := 2) (n := 1) (zd (i := .iinc 2 (1)) (n := 3) (by decide +kernel)) (by decide +kernel) (by decide +kernel) <|
    z_goto (off := -71) (tgt := 10) (zd (i := .goto (-71)) (n := 3) (by decide +kernel)) (by decide +kernel) (zj (hj 1) (by decide +kernel))
noncomputable def b_X4_begin_9 : zBl := fun jp K => oAld 0 <| oInt 2147483647 <| oCv 4 1 gs_X4_keepOnly <| oVret K
theorem s_X4_begin_9 (d : Nat) : zPb l G gh (d + 3) n_X4_begin p_X4_begin 84 b_X4_begin_9 := fun K jp hj =>
    z_aload_n (n := 0) (i := 0) (zd (i := .aload_n 0) (n := 1) (by decide +kernel)) rfl <|
    z_iconst (n := -1) (zd (i := .iconst (-1)) (n := 1) (by decide +kernel)) (by decide +kernel) <|
    z_callV (idx := 46) (ci := 4) (N := n_X4_keepOnly) (zd (i := .invokevirtual 46) (n := 3) (by decide +kernel)) to_X4_keepOnly g688 g689 g690 (by decide +kernel) rfl rfl rfl (cs_X4_keepOnly (l := l) (G := G) (gh := gh) (d)) <|
    z_vret (zd (i := .return_) (n := 1) (by decide +kernel)) rfl
noncomputable def t_X4_begin : List zBl := [b_X4_begin_0, b_X4_begin_1, b_X4_begin_2, b_X4_begin_3, b_X4_begin_4, b_X4_begin_5, b_X4_begin_6, b_X4_begin_7, b_X4_begin_8, b_X4_begin_9]
theorem tt_X4_begin (d : Nat) : zT (zPb l G gh (d + 3) n_X4_begin p_X4_begin) t_X4_begin p_X4_begin := ⟨s_X4_begin_0 d, s_X4_begin_1 d, s_X4_begin_2 d, s_X4_begin_3 d, s_X4_begin_4 d, s_X4_begin_5 d, s_X4_begin_6 d, s_X4_begin_7 d, s_X4_begin_8 d, s_X4_begin_9 d, trivial⟩
def q_X4_begin_0 : List (Nat × Nat) := [(9, zk21), (13, zk12), (14, zk12), (21, zk10), (22, zk12), (23, zk12), (24, zk12), (25, zk12), (26, zk11), (27, zk11)]
noncomputable def al_X4_begin_0 : zAq := [(none, [(9, zk21), (13, zk12), (14, zk12), (21, zk88), (22, zk57), (23, zk57), (24, zk57), (25, zk57), (26, zk58), (27, zk58)])]
def mq_X4_begin_0_1 : List (Nat × Nat) := [(9, zk21), (13, zk12), (14, zk12), (21, zk88), (22, zk57), (23, zk57), (24, zk57), (25, zk57), (26, zk11), (27, zk11)]
noncomputable def fm_X4_begin_0 : List zFm := [(0, [], (fun vs => [.inr (.ref 21), .inr (.ref 9)]), (fun vs => zP q_X4_begin_0), (fun vs => Nat.sub (Nat.add 7 0) 0)),
  (1, [(2, 2147483648, 2147483654)], (fun vs => [.inr (.ref 21), .inr (.ref 9), .inl (zn 0 vs 0)]), (fun vs => zP mq_X4_begin_0_1), (fun vs => Nat.sub (Nat.add 2147483654 0) (Nat.add 0 (Nat.mul 1 (zn 0 vs 0)))))]
def bf_X4_begin_0 : List Nat := [0, 2]
theorem r_X4_begin_0_0 : zbox [] (fun vs => zFrun (zpost (zAlq al_X4_begin_0)) 1000 t_X4_begin fm_X4_begin_0 bf_X4_begin_0 (0, vs)) = true := by decide +kernel
theorem r_X4_begin_0_1 : zbox [(2, 2147483648, 2147483654)] (fun vs => zFrun (zpost (zAlq al_X4_begin_0)) 1000 t_X4_begin fm_X4_begin_0 bf_X4_begin_0 (1, vs)) = true := by decide +kernel
set_option maxRecDepth 100000 in
theorem x_X4_begin_0 (d : Nat) : zS l G gh (d + 3) (zpost (zAlq al_X4_begin_0)) n_X4_begin (zn 0 p_X4_begin 0) (zwc (0, [.inr (.ref 21), .inr (.ref 9)], zP q_X4_begin_0) 0) := zentry (tt_X4_begin d) fm_X4_begin_0 bf_X4_begin_0 1000 (by decide +kernel) rfl ⟨Nat.zero_lt_succ _, trivial⟩ (fun f hf => match f, hf with
  | 0, _ => fun vs hv => (zbox_t r_X4_begin_0_0) vs hv
  | 1, _ => fun vs hv => (zbox_t r_X4_begin_0_1) vs hv
  | f + 2, h => absurd (show f + 2 < 2 from h) (Nat.not_lt.mpr (Nat.le_add_left 2 f)))
noncomputable def gs_X4_begin_0 : zMt := zgq false [] 3 [.inr (.ref 21), .inr (.ref 9)] q_X4_begin_0 al_X4_begin_0
set_option maxRecDepth 100000 in
theorem cs_X4_begin_0 (d : Nat) : zC l G gh (d + 3) n_X4_begin gs_X4_begin_0 := zgq_ok0 (pcs := p_X4_begin) (by decide) rfl rfl (fun a ha => by simp only [al_X4_begin_0, List.mem_cons, List.not_mem_nil, or_false] at ha; rcases ha with rfl <;> decide +kernel) (fun gh => x_X4_begin_0 d) (by decide +kernel)
def q_X4_begin_1 : List (Nat × Nat) := [(21, zk10), (22, zk12), (23, zk12), (24, zk12), (25, zk12), (26, zk11), (27, zk11), (259, zk20), (263, zk12), (264, zk12)]
noncomputable def al_X4_begin_1 : zAq := [(none, [(21, zk88), (22, zk57), (23, zk57), (24, zk57), (25, zk57), (26, zk58), (27, zk58), (259, zk20), (263, zk12), (264, zk12)])]
def mq_X4_begin_1_1 : List (Nat × Nat) := [(21, zk88), (22, zk57), (23, zk57), (24, zk57), (25, zk57), (26, zk11), (27, zk11), (259, zk20), (263, zk12), (264, zk12)]
noncomputable def fm_X4_begin_1 : List zFm := [(0, [], (fun vs => [.inr (.ref 21), .inr (.ref 259)]), (fun vs => zP q_X4_begin_1), (fun vs => Nat.sub (Nat.add 7 0) 0)),
  (1, [(2, 2147483648, 2147483654)], (fun vs => [.inr (.ref 21), .inr (.ref 259), .inl (zn 0 vs 0)]), (fun vs => zP mq_X4_begin_1_1), (fun vs => Nat.sub (Nat.add 2147483654 0) (Nat.add 0 (Nat.mul 1 (zn 0 vs 0)))))]
def bf_X4_begin_1 : List Nat := [0, 2]
theorem r_X4_begin_1_0 : zbox [] (fun vs => zFrun (zpost (zAlq al_X4_begin_1)) 1000 t_X4_begin fm_X4_begin_1 bf_X4_begin_1 (0, vs)) = true := by decide +kernel
theorem r_X4_begin_1_1 : zbox [(2, 2147483648, 2147483654)] (fun vs => zFrun (zpost (zAlq al_X4_begin_1)) 1000 t_X4_begin fm_X4_begin_1 bf_X4_begin_1 (1, vs)) = true := by decide +kernel
set_option maxRecDepth 100000 in
theorem x_X4_begin_1 (d : Nat) : zS l G gh (d + 3) (zpost (zAlq al_X4_begin_1)) n_X4_begin (zn 0 p_X4_begin 0) (zwc (0, [.inr (.ref 21), .inr (.ref 259)], zP q_X4_begin_1) 0) := zentry (tt_X4_begin d) fm_X4_begin_1 bf_X4_begin_1 1000 (by decide +kernel) rfl ⟨Nat.zero_lt_succ _, trivial⟩ (fun f hf => match f, hf with
  | 0, _ => fun vs hv => (zbox_t r_X4_begin_1_0) vs hv
  | 1, _ => fun vs hv => (zbox_t r_X4_begin_1_1) vs hv
  | f + 2, h => absurd (show f + 2 < 2 from h) (Nat.not_lt.mpr (Nat.le_add_left 2 f)))
noncomputable def gs_X4_begin_1 : zMt := zgq false [] 3 [.inr (.ref 21), .inr (.ref 259)] q_X4_begin_1 al_X4_begin_1
set_option maxRecDepth 100000 in
theorem cs_X4_begin_1 (d : Nat) : zC l G gh (d + 3) n_X4_begin gs_X4_begin_1 := zgq_ok0 (pcs := p_X4_begin) (by decide) rfl rfl (fun a ha => by simp only [al_X4_begin_1, List.mem_cons, List.not_mem_nil, or_false] at ha; rcases ha with rfl <;> decide +kernel) (fun gh => x_X4_begin_1 d) (by decide +kernel)
noncomputable def gs_X4_begin : zMt := (zor gs_X4_begin_0 gs_X4_begin_1)
theorem cs_X4_begin (d : Nat) : zC l G gh (d + 3) n_X4_begin gs_X4_begin := (zor_ok (cs_X4_begin_0 d) (cs_X4_begin_1 d))
end
