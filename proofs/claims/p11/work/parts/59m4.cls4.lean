section
variable {l : Launch} {G : qG} {gh : zGh}
def p_X8_year : List Nat := [0, 9, 16, 22, 29, 31, 44, 51, 64, 128, 132, 133, 142]
noncomputable def b_X8_year_0 : zBl := fun jp K => oAld 0 <| oIld 1 <| oIld 2 <| oCv 8 2 f_X8_isPair <| oIf zeq zne (jp 4) (jp 1)
theorem s_X8_year_0 (d : Nat) : zPb l G gh (d + 6) n_X8_year p_X8_year 0 b_X8_year_0 := fun K jp hj =>
    z_aload_n (n := 0) (i := 0) (zd (i := .aload_n 0) (n := 1) (by decide +kernel)) rfl <|
    z_iload_n (n := 1) (i := 1) (zd (i := .iload_n 1) (n := 1) (by decide +kernel)) rfl <|
    z_iload_n (n := 2) (i := 2) (zd (i := .iload_n 2) (n := 1) (by decide +kernel)) rfl <|
    z_callV (idx := 162) (ci := 8) (N := n_X8_isPair) (zd (i := .invokevirtual 162) (n := 3) (by decide +kernel)) to_X8_isPair g797 g799 g26 (by decide +kernel) rfl rfl rfl (c_X8_isPair (l := l) (G := G) (gh := gh) (d + 3)) <|
    z_if_eq (off := 23) (tgt := 29) (zd (i := .ifCond .eq (23)) (n := 3) (by decide +kernel)) (by decide +kernel) (zj (hj 4) (by decide +kernel)) (zj (hj 1) (by decide +kernel))
noncomputable def b_X8_year_1 : zBl := fun jp K => oIld 3 <| oCs 1 f_X8_isAhead <| oIf zeq zne (jp 4) (jp 2)
theorem s_X8_year_1 (d : Nat) : zPb l G gh (d + 6) n_X8_year p_X8_year 9 b_X8_year_1 := fun K jp hj =>
    z_iload_n (n := 3) (i := 3) (zd (i := .iload_n 3) (n := 1) (by decide +kernel)) rfl <|
    z_callS (idx := 207) (N := n_X8_isAhead) (zd (i := .invokestatic 207) (n := 3) (by decide +kernel)) to_X8_isAhead g862 g863 rfl rfl (c_X8_isAhead (l := l) (G := G) (gh := gh) (d + 4)) <|
    z_if_eq (off := 16) (tgt := 29) (zd (i := .ifCond .eq (16)) (n := 3) (by decide +kernel)) (by decide +kernel) (zj (hj 4) (by decide +kernel)) (zj (hj 2) (by decide +kernel))
noncomputable def b_X8_year_2 : zBl := fun jp K => oNLC 4 2147483649 zltN zgeN zn1_lt zn1_ge (jp 4) (jp 3)
theorem s_X8_year_2 (d : Nat) : zPb l G gh (d + 6) n_X8_year p_X8_year 16 b_X8_year_2 := fun K jp hj =>
    z_nLC_lt (i := 4) (c0 := 2147483649) (a1 := 2) (a2 := 1) (off := 10) (tgt := 29) (zLd_w (i := 4) (zd (i := .iload 4) (n := 2) (by decide +kernel))) (zCn_c (n := 1) (zd (i := .iconst (1)) (n := 1) (by decide +kernel)) (by decide +kernel)) (zd (i := .if_icmp .lt (10)) (n := 3) (by decide +kernel)) (by decide +kernel) (zj (hj 4) (by decide +kernel)) (zj (hj 3) (by decide +kernel))
noncomputable def b_X8_year_3 : zBl := fun jp K => oNLC 4 2147483668 zleN zgtN zn1_le zn1_gt (jp 5) (jp 4)
theorem s_X8_year_3 (d : Nat) : zPb l G gh (d + 6) n_X8_year p_X8_year 22 b_X8_year_3 := fun K jp hj =>
    z_nLC_le (i := 4) (c0 := 2147483668) (a1 := 2) (a2 := 2) (off := 5) (tgt := 31) (zLd_w (i := 4) (zd (i := .iload 4) (n := 2) (by decide +kernel))) (zCn_b (n := 20) (zd (i := .bipush (20)) (n := 2) (by decide +kernel)) (by decide +kernel)) (zd (i := .if_icmp .le (5)) (n := 3) (by decide +kernel)) (by decide +kernel) (zj (hj 5) (by decide +kernel)) (zj (hj 4) (by decide +kernel))
noncomputable def b_X8_year_4 : zBl := fun jp K => oInt 2147483647 <| oIret K
theorem s_X8_year_4 (d : Nat) : zPb l G gh (d + 6) n_X8_year p_X8_year 29 b_X8_year_4 := fun K jp hj =>
    z_iconst (n := -1) (zd (i := .iconst (-1)) (n := 1) (by decide +kernel)) (by decide +kernel) <|
    z_iret (zd (i := .ireturn) (n := 1) (by decide +kernel)) rfl
noncomputable def b_X8_year_5 : zBl := fun jp K => oIld 1 <| oIld 2 <| oCs 2 f_X8_loanOf <| oIst 5 <| oInt 2147483648 <| oIst 6 <| oInt 2147483648 <| oIst 7 <| jp 6
theorem s_X8_year_5 (d : Nat) : zPb l G gh (d + 6) n_X8_year p_X8_year 31 b_X8_year_5 := fun K jp hj =>
    z_iload_n (n := 1) (i := 1) (zd (i := .iload_n 1) (n := 1) (by decide +kernel)) rfl <|
    z_iload_n (n := 2) (i := 2) (zd (i := .iload_n 2) (n := 1) (by decide +kernel)) rfl <|
    z_callS (idx := 166) (N := n_X8_loanOf) (zd (i := .invokestatic 166) (n := 3) (by decide +kernel)) to_X8_loanOf g764 g765 rfl rfl (c_X8_loanOf (l := l) (G := G) (gh := gh) (d + 4)) <|
    z_istore (i := 5) (zd (i := .istore 5) (n := 2) (by decide +kernel)) (by decide +kernel) <|
    z_iconst (n := 0) (zd (i := .iconst (0)) (n := 1) (by decide +kernel)) (by decide +kernel) <|
    z_istore (i := 6) (zd (i := .istore 6) (n := 2) (by decide +kernel)) (by decide +kernel) <|
    z_iconst (n := 0) (zd (i := .iconst (0)) (n := 1) (by decide +kernel)) (by decide +kernel) <|
    z_istore (i := 7) (zd (i := .istore 7) (n := 2) (by decide +kernel)) (by decide +kernel) <|
    (zj (hj 6) (by decide +kernel))
noncomputable def b_X8_year_6 : zBl := fun jp K => oNLL 7 4 zgeN zltN zn1_ge zn2_ge zn1_lt zn2_lt (jp 12) (jp 7)
theorem s_X8_year_6 (d : Nat) : zPb l G gh (d + 6) n_X8_year p_X8_year 44 b_X8_year_6 := fun K jp hj =>
    z_nLL_ge (i := 7) (j := 4) (a1 := 2) (a2 := 2) (off := 94) (tgt := 142) (zLd_w (i := 7) (zd (i := .iload 7) (n := 2) (by decide +kernel))) (zLd_w (i := 4) (zd (i := .iload 4) (n := 2) (by decide +kernel))) (zd (i := .if_icmp .ge (94)) (n := 3) (by decide +kernel)) (by decide +kernel) (zj (hj 12) (by decide +kernel)) (zj (hj 7) (by decide +kernel))
noncomputable def b_X8_year_7 : zBl := fun jp K => oAld 0 <| oGetR 8 2 <| oGetR 4 5 <| oIld 5 <| oXald 10 <| oIf zeq zne (jp 12) (jp 8)
theorem s_X8_year_7 (d : Nat) : zPb l G gh (d + 6) n_X8_year p_X8_year 51 b_X8_year_7 := fun K jp hj =>
    z_aload_n (n := 0) (i := 0) (zd (i := .aload_n 0) (n := 1) (by decide +kernel)) rfl <|
    z_getR (ci := 8) (j := 2) (idx := 26) (zd (i := .getfield 26) (n := 3) (by decide +kernel)) (by decide +kernel) (by decide +kernel) rfl g454 <|
    z_getR (ci := 4) (j := 5) (idx := 169) (zd (i := .getfield 169) (n := 3) (by decide +kernel)) (by decide +kernel) (by decide +kernel) rfl g383 <|
    z_iload (i := 5) (zd (i := .iload 5) (n := 2) (by decide +kernel)) <|
    z_iald (zd (i := .iaload) (n := 1) (by decide +kernel)) <|
    z_if_eq (off := 81) (tgt := 142) (zd (i := .ifCond .eq (81)) (n := 3) (by decide +kernel)) (by decide +kernel) (zj (hj 12) (by decide +kernel)) (zj (hj 8) (by decide +kernel))
noncomputable def b_X8_year_8 : zBl := fun jp K => oAld 0 <| oGetR 8 3 <| oAld 0 <| oGetR 8 2 <| oCv 4 1 f_X4_copy <| oAld 0 <| oGetR 8 3 <| oIld 5 <| oCv 4 1 gs_X4_keepOnly <| oAld 0 <| oGetR 8 12 <| oAld 0 <| oGetR 8 3 <| oIld 3 <| oAld 0 <| oGetR 8 12 <| oGetI 0 11 <| oIld 7 <| oB2 zadd <| oAld 0 <| oGetR 8 12 <| oGetI 0 9 <| oCv 0 4 gs_X0_pass <| oIld 6 <| oAld 0 <| oGetR 8 3 <| oGetR 4 5 <| oIld 5 <| oXald 10 <| oIf zeq zne (jp 10) (jp 9)
theorem s_X8_year_8 (d : Nat) : zPb l G gh (d + 6) n_X8_year p_X8_year 64 b_X8_year_8 := fun K jp hj =>
    z_aload_n (n := 0) (i := 0) (zd (i := .aload_n 0) (n := 1) (by decide +kernel)) rfl <|
    z_getR (ci := 8) (j := 3) (idx := 30) (zd (i := .getfield 30) (n := 3) (by decide +kernel)) (by decide +kernel) (by decide +kernel) rfl g455 <|
    z_aload_n (n := 0) (i := 0) (zd (i := .aload_n 0) (n := 1) (by decide +kernel)) rfl <|
    z_getR (ci := 8) (j := 2) (idx := 26) (zd (i := .getfield 26) (n := 3) (by decide +kernel)) (by decide +kernel) (by decide +kernel) rfl g454 <|
    z_callV (idx := 258) (ci := 4) (N := n_X4_copy) (zd (i := .invokevirtual 258) (n := 3) (by decide +kernel)) to_X4_copy g956 g841 g842 (by decide +kernel) rfl rfl rfl (c_X4_copy (l := l) (G := G) (gh := gh) (d + 4)) <|
    z_aload_n (n := 0) (i := 0) (zd (i := .aload_n 0) (n := 1) (by decide +kernel)) rfl <|
    z_getR (ci := 8) (j := 3) (idx := 30) (zd (i := .getfield 30) (n := 3) (by decide +kernel)) (by decide +kernel) (by decide +kernel) rfl g455 <|
    z_iload (i := 5) (zd (i := .iload 5) (n := 2) (by decide +kernel)) <|
    z_callV (idx := 279) (ci := 4) (N := n_X4_keepOnly) (zd (i := .invokevirtual 279) (n := 3) (by decide +kernel)) to_X4_keepOnly g986 g689 g690 (by decide +kernel) rfl rfl rfl (cs_X4_keepOnly (l := l) (G := G) (gh := gh) (d + 3)) <|
    z_aload_n (n := 0) (i := 0) (zd (i := .aload_n 0) (n := 1) (by decide +kernel)) rfl <|
    z_getR (ci := 8) (j := 12) (idx := 71) (zd (i := .getfield 71) (n := 3) (by decide +kernel)) (by decide +kernel) (by decide +kernel) rfl g464 <|
    z_aload_n (n := 0) (i := 0) (zd (i := .aload_n 0) (n := 1) (by decide +kernel)) rfl <|
    z_getR (ci := 8) (j := 3) (idx := 30) (zd (i := .getfield 30) (n := 3) (by decide +kernel)) (by decide +kernel) (by decide +kernel) rfl g455 <|
    z_iload_n (n := 3) (i := 3) (zd (i := .iload_n 3) (n := 1) (by decide +kernel)) rfl <|
    z_aload_n (n := 0) (i := 0) (zd (i := .aload_n 0) (n := 1) (by decide +kernel)) rfl <|
    z_getR (ci := 8) (j := 12) (idx := 71) (zd (i := .getfield 71) (n := 3) (by decide +kernel)) (by decide +kernel) (by decide +kernel) rfl g464 <|
    z_getI (ci := 0) (j := 11) (idx := 210) (zd (i := .getfield 210) (n := 3) (by decide +kernel)) (by decide +kernel) (by decide +kernel) rfl g303 <|
    z_iload (i := 7) (zd (i := .iload 7) (n := 2) (by decide +kernel)) <|
    z_iadd (zd (i := .iadd) (n := 1) (by decide +kernel)) <|
    z_aload_n (n := 0) (i := 0) (zd (i := .aload_n 0) (n := 1) (by decide +kernel)) rfl <|
    z_getR (ci := 8) (j := 12) (idx := 71) (zd (i := .getfield 71) (n := 3) (by decide +kernel)) (by decide +kernel) (by decide +kernel) rfl g464 <|
    z_getI (ci := 0) (j := 9) (idx := 213) (zd (i := .getfield 213) (n := 3) (by decide +kernel)) (by decide +kernel) (by decide +kernel) rfl g297 <|
    z_callV (idx := 216) (ci := 0) (N := n_X0_pass) (zd (i := .invokevirtual 216) (n := 3) (by decide +kernel)) to_X0_pass g865 g866 g867 (by decide +kernel) rfl rfl rfl (cs_X0_pass (l := l) (G := G) (gh := gh) (d)) <|
    z_iload (i := 6) (zd (i := .iload 6) (n := 2) (by decide +kernel)) <|
    z_aload_n (n := 0) (i := 0) (zd (i := .aload_n 0) (n := 1) (by decide +kernel)) rfl <|
    z_getR (ci := 8) (j := 3) (idx := 30) (zd (i := .getfield 30) (n := 3) (by decide +kernel)) (by decide +kernel) (by decide +kernel) rfl g455 <|
    z_getR (ci := 4) (j := 5) (idx := 169) (zd (i := .getfield 169) (n := 3) (by decide +kernel)) (by decide +kernel) (by decide +kernel) rfl g383 <|
    z_iload (i := 5) (zd (i := .iload 5) (n := 2) (by decide +kernel)) <|
    z_iald (zd (i := .iaload) (n := 1) (by decide +kernel)) <|
    z_if_eq (off := 7) (tgt := 132) (zd (i := .ifCond .eq (7)) (n := 3) (by decide +kernel)) (by decide +kernel) (zj (hj 10) (by decide +kernel)) (zj (hj 9) (by decide +kernel))
noncomputable def b_X8_year_9 : zBl := fun jp K => oInt 2147483649 <| jp 11
theorem s_X8_year_9 (d : Nat) : zPb l G gh (d + 6) n_X8_year p_X8_year 128 b_X8_year_9 := fun K jp hj =>
    z_iconst (n := 1) (zd (i := .iconst (1)) (n := 1) (by decide +kernel)) (by decide +kernel) <|
    z_goto (off := 4) (tgt := 133) (zd (i := .goto (4)) (n := 3) (by decide +kernel)) (by decide +kernel) (zj (hj 11) (by decide +kernel))
noncomputable def b_X8_year_10 : zBl := fun jp K => oInt 2147483648 <| jp 11
theorem s_X8_year_10 (d : Nat) : zPb l G gh (d + 6) n_X8_year p_X8_year 132 b_X8_year_10 := fun K jp hj =>
    z_iconst (n := 0) (zd (i := .iconst (0)) (n := 1) (by decide +kernel)) (by decide +kernel) <|
    (zj (hj 11) (by decide +kernel))
noncomputable def b_X8_year_11 : zBl := fun jp K => oB2 zadd <| oIst 6 <| oInc 7 2147483649 <| jp 6
theorem s_X8_year_11 (d : Nat) : zPb l G gh (d + 6) n_X8_year p_X8_year 133 b_X8_year_11 := fun K jp hj =>
    z_iadd (zd (i := .iadd) (n := 1) (by decide +kernel)) <|
    z_istore (i := 6) (zd (i := .istore 6) (n := 2) (by decide +kernel)) (by decide +kernel) <|
    z_iinc (i := 7) (n := 1) (zd (i := .iinc 7 (1)) (n := 3) (by decide +kernel)) (by decide +kernel) (by decide +kernel) <|
    z_goto (off := -95) (tgt := 44) (zd (i := .goto (-95)) (n := 3) (by decide +kernel)) (by decide +kernel) (zj (hj 6) (by decide +kernel))
noncomputable def b_X8_year_12 : zBl := fun jp K => oIld 6 <| oIret K
theorem s_X8_year_12 (d : Nat) : zPb l G gh (d + 6) n_X8_year p_X8_year 142 b_X8_year_12 := fun K jp hj =>
    z_iload (i := 6) (zd (i := .iload 6) (n := 2) (by decide +kernel)) <|
    z_iret (zd (i := .ireturn) (n := 1) (by decide +kernel)) rfl
noncomputable def t_X8_year : List zBl := [b_X8_year_0, b_X8_year_1, b_X8_year_2, b_X8_year_3, b_X8_year_4, b_X8_year_5, b_X8_year_6, b_X8_year_7, b_X8_year_8, b_X8_year_9, b_X8_year_10, b_X8_year_11, b_X8_year_12]
theorem tt_X8_year (d : Nat) : zT (zPb l G gh (d + 6) n_X8_year p_X8_year) t_X8_year p_X8_year := ⟨s_X8_year_0 d, s_X8_year_1 d, s_X8_year_2 d, s_X8_year_3 d, s_X8_year_4 d, s_X8_year_5 d, s_X8_year_6 d, s_X8_year_7 d, s_X8_year_8 d, s_X8_year_9 d, s_X8_year_10 d, s_X8_year_11 d, s_X8_year_12 d, trivial⟩
def q_X8_year_0 : List (Nat × Nat) := [(0, zk0), (21, zk10), (22, zk12), (23, zk12), (24, zk12), (25, zk12), (26, zk11), (27, zk11), (28, zk22), (29, zk12), (30, zk12), (31, zk12), (32, zk12), (33, zk11), (34, zk11), (259, zk20), (261, zk12), (262, zk12), (265, zk2), (266, zk18), (267, zk18), (268, zk19), (269, zk3), (270, zk7)]
noncomputable def al_X8_year_0 : zAq := [(some (.inl 8589934591), [(0, zk0), (21, zk10), (22, zk12), (23, zk12), (24, zk12), (25, zk12), (26, zk11), (27, zk11), (28, zk98), (29, zk57), (30, zk57), (31, zk57), (32, zk57), (33, zk58), (34, zk58), (259, zk20), (261, zk12), (262, zk12), (265, zk2), (266, zk18), (267, zk18), (268, zk19), (269, zk4), (270, zk9)])]
def mq_X8_year_0_1 : List (Nat × Nat) := [(0, zk0), (21, zk10), (22, zk12), (23, zk12), (24, zk12), (25, zk12), (26, zk11), (27, zk11), (28, zk98), (29, zk57), (30, zk57), (31, zk57), (32, zk57), (33, zk58), (34, zk58), (259, zk20), (261, zk12), (262, zk12), (265, zk2), (266, zk18), (267, zk18), (268, zk19), (269, zk4), (270, zk9)]
noncomputable def fm_X8_year_0 : List zFm := [(0, [], (fun vs => [.inr (.ref 0), .inl 9223372043297226757, .inl 9223372043297226757, .inl 9223372043297226800, .inl 9223372047592194068]), (fun vs => zP q_X8_year_0), (fun vs => Nat.sub (Nat.add 21 0) 0)),
  (6, [(7, 2147483648, 2147483668)], (fun vs => [.inr (.ref 0), .inl 9223372043297226757, .inl 9223372043297226757, .inl 9223372043297226800, .inl 9223372047592194068, .inl 9223372043297226787, .inl 8589934591, .inl (zn 0 vs 0)]), (fun vs => zP mq_X8_year_0_1), (fun vs => Nat.sub (Nat.add 2147483668 0) (Nat.add 0 (Nat.mul 1 (zn 0 vs 0)))))]
def bf_X8_year_0 : List Nat := [0, 0, 0, 0, 0, 0, 2]
theorem r_X8_year_0_0 : zbox [] (fun vs => zFrun (zpost (zAlq al_X8_year_0)) 1000 t_X8_year fm_X8_year_0 bf_X8_year_0 (0, vs)) = true := by decide +kernel
theorem r_X8_year_0_1 : zbox [(7, 2147483648, 2147483668)] (fun vs => zFrun (zpost (zAlq al_X8_year_0)) 1000 t_X8_year fm_X8_year_0 bf_X8_year_0 (1, vs)) = true := by decide +kernel
set_option maxRecDepth 100000 in
theorem x_X8_year_0 (d : Nat) : zS l G gh (d + 6) (zpost (zAlq al_X8_year_0)) n_X8_year (zn 0 p_X8_year 0) (zwc (0, [.inr (.ref 0), .inl 9223372043297226757, .inl 9223372043297226757, .inl 9223372043297226800, .inl 9223372047592194068], zP q_X8_year_0) 0) := zentry (tt_X8_year d) fm_X8_year_0 bf_X8_year_0 1000 (by decide +kernel) rfl ⟨Nat.zero_lt_succ _, trivial⟩ (fun f hf => match f, hf with
  | 0, _ => fun vs hv => (zbox_t r_X8_year_0_0) vs hv
  | 1, _ => fun vs hv => (zbox_t r_X8_year_0_1) vs hv
  | f + 2, h => absurd (show f + 2 < 2 from h) (Nat.not_lt.mpr (Nat.le_add_left 2 f)))
noncomputable def gs_X8_year_0 : zMt := zgq false [] 8 [.inr (.ref 0), .inl 9223372043297226757, .inl 9223372043297226757, .inl 9223372043297226800, .inl 9223372047592194068] q_X8_year_0 al_X8_year_0
set_option maxRecDepth 100000 in
theorem cs_X8_year_0 (d : Nat) : zC l G gh (d + 6) n_X8_year gs_X8_year_0 := zgq_ok0 (pcs := p_X8_year) (by decide) rfl rfl (fun a ha => by simp only [al_X8_year_0, List.mem_cons, List.not_mem_nil, or_false] at ha; rcases ha with rfl <;> decide +kernel) (fun gh => x_X8_year_0 d) (by decide +kernel)
def q_X8_year_1 : List (Nat × Nat) := [(0, zk0), (259, zk20)]
noncomputable def al_X8_year_1 : zAq := [(some (.inl 2147483647), [(0, zk0), (259, zk20)])]
noncomputable def fm_X8_year_1 : List zFm := [(0, [], (fun vs => [.inr (.ref 0), .inl 9223372043297226757, .inl 9223372043297226757, .inl 9223372043297226800, .inl 6442450944]), (fun vs => zP q_X8_year_1), (fun vs => Nat.sub (Nat.add 0 0) 0))]
def bf_X8_year_1 : List Nat := []
theorem r_X8_year_1_0 : zbox [] (fun vs => zFrun (zpost (zAlq al_X8_year_1)) 1000 t_X8_year fm_X8_year_1 bf_X8_year_1 (0, vs)) = true := by decide +kernel
set_option maxRecDepth 100000 in
theorem x_X8_year_1 (d : Nat) : zS l G gh (d + 6) (zpost (zAlq al_X8_year_1)) n_X8_year (zn 0 p_X8_year 0) (zwc (0, [.inr (.ref 0), .inl 9223372043297226757, .inl 9223372043297226757, .inl 9223372043297226800, .inl 6442450944], zP q_X8_year_1) 0) := zentry (tt_X8_year d) fm_X8_year_1 bf_X8_year_1 1000 (by decide +kernel) rfl ⟨Nat.zero_lt_succ _, trivial⟩ (fun f hf => match f, hf with
  | 0, _ => fun vs hv => (zbox_t r_X8_year_1_0) vs hv
  | f + 1, h => absurd (show f + 1 < 1 from h) (Nat.not_lt.mpr (Nat.le_add_left 1 f)))
noncomputable def gs_X8_year_1 : zMt := zgq false [] 8 [.inr (.ref 0), .inl 9223372043297226757, .inl 9223372043297226757, .inl 9223372043297226800, .inl 6442450944] q_X8_year_1 al_X8_year_1
set_option maxRecDepth 100000 in
theorem cs_X8_year_1 (d : Nat) : zC l G gh (d + 6) n_X8_year gs_X8_year_1 := zgq_ok0 (pcs := p_X8_year) (by decide) rfl rfl (fun a ha => by simp only [al_X8_year_1, List.mem_cons, List.not_mem_nil, or_false] at ha; rcases ha with rfl <;> decide +kernel) (fun gh => x_X8_year_1 d) (by decide +kernel)
def q_X8_year_2 : List (Nat × Nat) := [(0, zk0), (259, zk20)]
noncomputable def al_X8_year_2 : zAq := [(some (.inl 2147483647), [(0, zk0), (259, zk20)])]
noncomputable def fm_X8_year_2 : List zFm := [(0, [], (fun vs => [.inr (.ref 0), .inl 9223372043297226757, .inl 9223372043297226757, .inl 9223372043297226800, .inl 9223372135639023615]), (fun vs => zP q_X8_year_2), (fun vs => Nat.sub (Nat.add 0 0) 0))]
def bf_X8_year_2 : List Nat := []
theorem r_X8_year_2_0 : zbox [] (fun vs => zFrun (zpost (zAlq al_X8_year_2)) 1000 t_X8_year fm_X8_year_2 bf_X8_year_2 (0, vs)) = true := by decide +kernel
set_option maxRecDepth 100000 in
theorem x_X8_year_2 (d : Nat) : zS l G gh (d + 6) (zpost (zAlq al_X8_year_2)) n_X8_year (zn 0 p_X8_year 0) (zwc (0, [.inr (.ref 0), .inl 9223372043297226757, .inl 9223372043297226757, .inl 9223372043297226800, .inl 9223372135639023615], zP q_X8_year_2) 0) := zentry (tt_X8_year d) fm_X8_year_2 bf_X8_year_2 1000 (by decide +kernel) rfl ⟨Nat.zero_lt_succ _, trivial⟩ (fun f hf => match f, hf with
  | 0, _ => fun vs hv => (zbox_t r_X8_year_2_0) vs hv
  | f + 1, h => absurd (show f + 1 < 1 from h) (Nat.not_lt.mpr (Nat.le_add_left 1 f)))
noncomputable def gs_X8_year_2 : zMt := zgq false [] 8 [.inr (.ref 0), .inl 9223372043297226757, .inl 9223372043297226757, .inl 9223372043297226800, .inl 9223372135639023615] q_X8_year_2 al_X8_year_2
set_option maxRecDepth 100000 in
theorem cs_X8_year_2 (d : Nat) : zC l G gh (d + 6) n_X8_year gs_X8_year_2 := zgq_ok0 (pcs := p_X8_year) (by decide) rfl rfl (fun a ha => by simp only [al_X8_year_2, List.mem_cons, List.not_mem_nil, or_false] at ha; rcases ha with rfl <;> decide +kernel) (fun gh => x_X8_year_2 d) (by decide +kernel)
def q_X8_year_3 : List (Nat × Nat) := [(0, zk0), (259, zk20)]
noncomputable def al_X8_year_3 : zAq := [(some (.inl 2147483647), [(0, zk0), (259, zk20)])]
noncomputable def fm_X8_year_3 : List zFm := [(0, [], (fun vs => [.inr (.ref 0), .inl 9223372043297226757, .inl 9223372043297226757, .inl 6442450943, .inl 8589934591]), (fun vs => zP q_X8_year_3), (fun vs => Nat.sub (Nat.add 0 0) 0))]
def bf_X8_year_3 : List Nat := []
theorem r_X8_year_3_0 : zbox [] (fun vs => zFrun (zpost (zAlq al_X8_year_3)) 1000 t_X8_year fm_X8_year_3 bf_X8_year_3 (0, vs)) = true := by decide +kernel
set_option maxRecDepth 100000 in
theorem x_X8_year_3 (d : Nat) : zS l G gh (d + 6) (zpost (zAlq al_X8_year_3)) n_X8_year (zn 0 p_X8_year 0) (zwc (0, [.inr (.ref 0), .inl 9223372043297226757, .inl 9223372043297226757, .inl 6442450943, .inl 8589934591], zP q_X8_year_3) 0) := zentry (tt_X8_year d) fm_X8_year_3 bf_X8_year_3 1000 (by decide +kernel) rfl ⟨Nat.zero_lt_succ _, trivial⟩ (fun f hf => match f, hf with
  | 0, _ => fun vs hv => (zbox_t r_X8_year_3_0) vs hv
  | f + 1, h => absurd (show f + 1 < 1 from h) (Nat.not_lt.mpr (Nat.le_add_left 1 f)))
noncomputable def gs_X8_year_3 : zMt := zgq false [] 8 [.inr (.ref 0), .inl 9223372043297226757, .inl 9223372043297226757, .inl 6442450943, .inl 8589934591] q_X8_year_3 al_X8_year_3
set_option maxRecDepth 100000 in
theorem cs_X8_year_3 (d : Nat) : zC l G gh (d + 6) n_X8_year gs_X8_year_3 := zgq_ok0 (pcs := p_X8_year) (by decide) rfl rfl (fun a ha => by simp only [al_X8_year_3, List.mem_cons, List.not_mem_nil, or_false] at ha; rcases ha with rfl <;> decide +kernel) (fun gh => x_X8_year_3 d) (by decide +kernel)
def q_X8_year_4 : List (Nat × Nat) := [(0, zk0), (259, zk20)]
noncomputable def al_X8_year_4 : zAq := [(some (.inl 2147483647), [(0, zk0), (259, zk20)])]
noncomputable def fm_X8_year_4 : List zFm := [(0, [], (fun vs => [.inr (.ref 0), .inl 9223372043297226757, .inl 9223372043297226757, .inl 9223372255898107903, .inl 8589934591]), (fun vs => zP q_X8_year_4), (fun vs => Nat.sub (Nat.add 0 0) 0))]
def bf_X8_year_4 : List Nat := []
theorem r_X8_year_4_0 : zbox [] (fun vs => zFrun (zpost (zAlq al_X8_year_4)) 1000 t_X8_year fm_X8_year_4 bf_X8_year_4 (0, vs)) = true := by decide +kernel
set_option maxRecDepth 100000 in
theorem x_X8_year_4 (d : Nat) : zS l G gh (d + 6) (zpost (zAlq al_X8_year_4)) n_X8_year (zn 0 p_X8_year 0) (zwc (0, [.inr (.ref 0), .inl 9223372043297226757, .inl 9223372043297226757, .inl 9223372255898107903, .inl 8589934591], zP q_X8_year_4) 0) := zentry (tt_X8_year d) fm_X8_year_4 bf_X8_year_4 1000 (by decide +kernel) rfl ⟨Nat.zero_lt_succ _, trivial⟩ (fun f hf => match f, hf with
  | 0, _ => fun vs hv => (zbox_t r_X8_year_4_0) vs hv
  | f + 1, h => absurd (show f + 1 < 1 from h) (Nat.not_lt.mpr (Nat.le_add_left 1 f)))
noncomputable def gs_X8_year_4 : zMt := zgq false [] 8 [.inr (.ref 0), .inl 9223372043297226757, .inl 9223372043297226757, .inl 9223372255898107903, .inl 8589934591] q_X8_year_4 al_X8_year_4
set_option maxRecDepth 100000 in
theorem cs_X8_year_4 (d : Nat) : zC l G gh (d + 6) n_X8_year gs_X8_year_4 := zgq_ok0 (pcs := p_X8_year) (by decide) rfl rfl (fun a ha => by simp only [al_X8_year_4, List.mem_cons, List.not_mem_nil, or_false] at ha; rcases ha with rfl <;> decide +kernel) (fun gh => x_X8_year_4 d) (by decide +kernel)
def q_X8_year_5 : List (Nat × Nat) := [(0, zk0), (259, zk20)]
noncomputable def al_X8_year_5 : zAq := [(some (.inl 2147483647), [(0, zk0), (259, zk20)])]
noncomputable def fm_X8_year_5 : List zFm := [(0, [], (fun vs => [.inr (.ref 0), .inl 9223372043297226757, .inl 6442450943, .inl 8589934591, .inl 8589934591]), (fun vs => zP q_X8_year_5), (fun vs => Nat.sub (Nat.add 0 0) 0))]
def bf_X8_year_5 : List Nat := []
theorem r_X8_year_5_0 : zbox [] (fun vs => zFrun (zpost (zAlq al_X8_year_5)) 1000 t_X8_year fm_X8_year_5 bf_X8_year_5 (0, vs)) = true := by decide +kernel
set_option maxRecDepth 100000 in
theorem x_X8_year_5 (d : Nat) : zS l G gh (d + 6) (zpost (zAlq al_X8_year_5)) n_X8_year (zn 0 p_X8_year 0) (zwc (0, [.inr (.ref 0), .inl 9223372043297226757, .inl 6442450943, .inl 8589934591, .inl 8589934591], zP q_X8_year_5) 0) := zentry (tt_X8_year d) fm_X8_year_5 bf_X8_year_5 1000 (by decide +kernel) rfl ⟨Nat.zero_lt_succ _, trivial⟩ (fun f hf => match f, hf with
  | 0, _ => fun vs hv => (zbox_t r_X8_year_5_0) vs hv
  | f + 1, h => absurd (show f + 1 < 1 from h) (Nat.not_lt.mpr (Nat.le_add_left 1 f)))
noncomputable def gs_X8_year_5 : zMt := zgq false [] 8 [.inr (.ref 0), .inl 9223372043297226757, .inl 6442450943, .inl 8589934591, .inl 8589934591] q_X8_year_5 al_X8_year_5
set_option maxRecDepth 100000 in
theorem cs_X8_year_5 (d : Nat) : zC l G gh (d + 6) n_X8_year gs_X8_year_5 := zgq_ok0 (pcs := p_X8_year) (by decide) rfl rfl (fun a ha => by simp only [al_X8_year_5, List.mem_cons, List.not_mem_nil, or_false] at ha; rcases ha with rfl <;> decide +kernel) (fun gh => x_X8_year_5 d) (by decide +kernel)
def q_X8_year_6 : List (Nat × Nat) := [(0, zk0), (259, zk20)]
noncomputable def al_X8_year_6 : zAq := [(some (.inl 2147483647), [(0, zk0), (259, zk20)])]
noncomputable def fm_X8_year_6 : List zFm := [(0, [], (fun vs => [.inr (.ref 0), .inl 9223372043297226757, .inl 9223372071214514175, .inl 8589934591, .inl 8589934591]), (fun vs => zP q_X8_year_6), (fun vs => Nat.sub (Nat.add 0 0) 0))]
def bf_X8_year_6 : List Nat := []
theorem r_X8_year_6_0 : zbox [] (fun vs => zFrun (zpost (zAlq al_X8_year_6)) 1000 t_X8_year fm_X8_year_6 bf_X8_year_6 (0, vs)) = true := by decide +kernel
set_option maxRecDepth 100000 in
theorem x_X8_year_6 (d : Nat) : zS l G gh (d + 6) (zpost (zAlq al_X8_year_6)) n_X8_year (zn 0 p_X8_year 0) (zwc (0, [.inr (.ref 0), .inl 9223372043297226757, .inl 9223372071214514175, .inl 8589934591, .inl 8589934591], zP q_X8_year_6) 0) := zentry (tt_X8_year d) fm_X8_year_6 bf_X8_year_6 1000 (by decide +kernel) rfl ⟨Nat.zero_lt_succ _, trivial⟩ (fun f hf => match f, hf with
  | 0, _ => fun vs hv => (zbox_t r_X8_year_6_0) vs hv
  | f + 1, h => absurd (show f + 1 < 1 from h) (Nat.not_lt.mpr (Nat.le_add_left 1 f)))
noncomputable def gs_X8_year_6 : zMt := zgq false [] 8 [.inr (.ref 0), .inl 9223372043297226757, .inl 9223372071214514175, .inl 8589934591, .inl 8589934591] q_X8_year_6 al_X8_year_6
set_option maxRecDepth 100000 in
theorem cs_X8_year_6 (d : Nat) : zC l G gh (d + 6) n_X8_year gs_X8_year_6 := zgq_ok0 (pcs := p_X8_year) (by decide) rfl rfl (fun a ha => by simp only [al_X8_year_6, List.mem_cons, List.not_mem_nil, or_false] at ha; rcases ha with rfl <;> decide +kernel) (fun gh => x_X8_year_6 d) (by decide +kernel)
def q_X8_year_7 : List (Nat × Nat) := [(0, zk0)]
noncomputable def al_X8_year_7 : zAq := [(some (.inl 2147483647), [(0, zk0)])]
noncomputable def fm_X8_year_7 : List zFm := [(0, [], (fun vs => [.inr (.ref 0), .inl 6442450943, .inl 8589934591, .inl 8589934591, .inl 8589934591]), (fun vs => zP q_X8_year_7), (fun vs => Nat.sub (Nat.add 0 0) 0))]
def bf_X8_year_7 : List Nat := []
theorem r_X8_year_7_0 : zbox [] (fun vs => zFrun (zpost (zAlq al_X8_year_7)) 1000 t_X8_year fm_X8_year_7 bf_X8_year_7 (0, vs)) = true := by decide +kernel
set_option maxRecDepth 100000 in
theorem x_X8_year_7 (d : Nat) : zS l G gh (d + 6) (zpost (zAlq al_X8_year_7)) n_X8_year (zn 0 p_X8_year 0) (zwc (0, [.inr (.ref 0), .inl 6442450943, .inl 8589934591, .inl 8589934591, .inl 8589934591], zP q_X8_year_7) 0) := zentry (tt_X8_year d) fm_X8_year_7 bf_X8_year_7 1000 (by decide +kernel) rfl ⟨Nat.zero_lt_succ _, trivial⟩ (fun f hf => match f, hf with
  | 0, _ => fun vs hv => (zbox_t r_X8_year_7_0) vs hv
  | f + 1, h => absurd (show f + 1 < 1 from h) (Nat.not_lt.mpr (Nat.le_add_left 1 f)))
noncomputable def gs_X8_year_7 : zMt := zgq false [] 8 [.inr (.ref 0), .inl 6442450943, .inl 8589934591, .inl 8589934591, .inl 8589934591] q_X8_year_7 al_X8_year_7
set_option maxRecDepth 100000 in
theorem cs_X8_year_7 (d : Nat) : zC l G gh (d + 6) n_X8_year gs_X8_year_7 := zgq_ok0 (pcs := p_X8_year) (by decide) rfl rfl (fun a ha => by simp only [al_X8_year_7, List.mem_cons, List.not_mem_nil, or_false] at ha; rcases ha with rfl <;> decide +kernel) (fun gh => x_X8_year_7 d) (by decide +kernel)
def q_X8_year_8 : List (Nat × Nat) := [(0, zk0), (259, zk20)]
noncomputable def al_X8_year_8 : zAq := [(some (.inl 2147483647), [(0, zk0), (259, zk20)])]
noncomputable def fm_X8_year_8 : List zFm := [(0, [], (fun vs => [.inr (.ref 0), .inl 9223372071214514175, .inl 8589934591, .inl 8589934591, .inl 8589934591]), (fun vs => zP q_X8_year_8), (fun vs => Nat.sub (Nat.add 0 0) 0))]
def bf_X8_year_8 : List Nat := []
theorem r_X8_year_8_0 : zbox [] (fun vs => zFrun (zpost (zAlq al_X8_year_8)) 1000 t_X8_year fm_X8_year_8 bf_X8_year_8 (0, vs)) = true := by decide +kernel
set_option maxRecDepth 100000 in
theorem x_X8_year_8 (d : Nat) : zS l G gh (d + 6) (zpost (zAlq al_X8_year_8)) n_X8_year (zn 0 p_X8_year 0) (zwc (0, [.inr (.ref 0), .inl 9223372071214514175, .inl 8589934591, .inl 8589934591, .inl 8589934591], zP q_X8_year_8) 0) := zentry (tt_X8_year d) fm_X8_year_8 bf_X8_year_8 1000 (by decide +kernel) rfl ⟨Nat.zero_lt_succ _, trivial⟩ (fun f hf => match f, hf with
  | 0, _ => fun vs hv => (zbox_t r_X8_year_8_0) vs hv
  | f + 1, h => absurd (show f + 1 < 1 from h) (Nat.not_lt.mpr (Nat.le_add_left 1 f)))
noncomputable def gs_X8_year_8 : zMt := zgq false [] 8 [.inr (.ref 0), .inl 9223372071214514175, .inl 8589934591, .inl 8589934591, .inl 8589934591] q_X8_year_8 al_X8_year_8
set_option maxRecDepth 100000 in
theorem cs_X8_year_8 (d : Nat) : zC l G gh (d + 6) n_X8_year gs_X8_year_8 := zgq_ok0 (pcs := p_X8_year) (by decide) rfl rfl (fun a ha => by simp only [al_X8_year_8, List.mem_cons, List.not_mem_nil, or_false] at ha; rcases ha with rfl <;> decide +kernel) (fun gh => x_X8_year_8 d) (by decide +kernel)
def q_X8_year_9 : List (Nat × Nat) := [(0, zk1), (9, zk21), (11, zk12), (12, zk12), (15, zk5), (16, zk18), (17, zk18), (18, zk19), (19, zk3), (20, zk7), (21, zk10), (22, zk12), (23, zk12), (24, zk12), (25, zk12), (26, zk11), (27, zk11), (28, zk22), (29, zk12), (30, zk12), (31, zk12), (32, zk12), (33, zk11), (34, zk11)]
noncomputable def al_X8_year_9 : zAq := [(some (.inl 8589934591), [(0, zk1), (9, zk21), (11, zk12), (12, zk12), (15, zk5), (16, zk18), (17, zk18), (18, zk19), (19, zk4), (20, zk9), (21, zk10), (22, zk12), (23, zk12), (24, zk12), (25, zk12), (26, zk11), (27, zk11), (28, zk98), (29, zk57), (30, zk57), (31, zk57), (32, zk57), (33, zk58), (34, zk58)])]
def mq_X8_year_9_1 : List (Nat × Nat) := [(0, zk1), (9, zk21), (11, zk12), (12, zk12), (15, zk5), (16, zk18), (17, zk18), (18, zk19), (19, zk4), (20, zk9), (21, zk10), (22, zk12), (23, zk12), (24, zk12), (25, zk12), (26, zk11), (27, zk11), (28, zk98), (29, zk57), (30, zk57), (31, zk57), (32, zk57), (33, zk58), (34, zk58)]
noncomputable def fm_X8_year_9 : List zFm := [(0, [], (fun vs => [.inr (.ref 0), .inl 9223372043297226757, .inl 9223372043297226757, .inl 9223372043297226800, .inl 9223372047592194068]), (fun vs => zP q_X8_year_9), (fun vs => Nat.sub (Nat.add 21 0) 0)),
  (6, [(7, 2147483648, 2147483668)], (fun vs => [.inr (.ref 0), .inl 9223372043297226757, .inl 9223372043297226757, .inl 9223372043297226800, .inl 9223372047592194068, .inl 9223372043297226787, .inl 8589934591, .inl (zn 0 vs 0)]), (fun vs => zP mq_X8_year_9_1), (fun vs => Nat.sub (Nat.add 2147483668 0) (Nat.add 0 (Nat.mul 1 (zn 0 vs 0)))))]
def bf_X8_year_9 : List Nat := [0, 0, 0, 0, 0, 0, 2]
theorem r_X8_year_9_0 : zbox [] (fun vs => zFrun (zpost (zAlq al_X8_year_9)) 1000 t_X8_year fm_X8_year_9 bf_X8_year_9 (0, vs)) = true := by decide +kernel
theorem r_X8_year_9_1 : zbox [(7, 2147483648, 2147483668)] (fun vs => zFrun (zpost (zAlq al_X8_year_9)) 1000 t_X8_year fm_X8_year_9 bf_X8_year_9 (1, vs)) = true := by decide +kernel
set_option maxRecDepth 100000 in
theorem x_X8_year_9 (d : Nat) : zS l G gh (d + 6) (zpost (zAlq al_X8_year_9)) n_X8_year (zn 0 p_X8_year 0) (zwc (0, [.inr (.ref 0), .inl 9223372043297226757, .inl 9223372043297226757, .inl 9223372043297226800, .inl 9223372047592194068], zP q_X8_year_9) 0) := zentry (tt_X8_year d) fm_X8_year_9 bf_X8_year_9 1000 (by decide +kernel) rfl ⟨Nat.zero_lt_succ _, trivial⟩ (fun f hf => match f, hf with
  | 0, _ => fun vs hv => (zbox_t r_X8_year_9_0) vs hv
  | 1, _ => fun vs hv => (zbox_t r_X8_year_9_1) vs hv
  | f + 2, h => absurd (show f + 2 < 2 from h) (Nat.not_lt.mpr (Nat.le_add_left 2 f)))
noncomputable def gs_X8_year_9 : zMt := zgq false [] 8 [.inr (.ref 0), .inl 9223372043297226757, .inl 9223372043297226757, .inl 9223372043297226800, .inl 9223372047592194068] q_X8_year_9 al_X8_year_9
set_option maxRecDepth 100000 in
theorem cs_X8_year_9 (d : Nat) : zC l G gh (d + 6) n_X8_year gs_X8_year_9 := zgq_ok0 (pcs := p_X8_year) (by decide) rfl rfl (fun a ha => by simp only [al_X8_year_9, List.mem_cons, List.not_mem_nil, or_false] at ha; rcases ha with rfl <;> decide +kernel) (fun gh => x_X8_year_9 d) (by decide +kernel)
def q_X8_year_10 : List (Nat × Nat) := [(0, zk1), (9, zk21)]
noncomputable def al_X8_year_10 : zAq := [(some (.inl 2147483647), [(0, zk1), (9, zk21)])]
noncomputable def fm_X8_year_10 : List zFm := [(0, [], (fun vs => [.inr (.ref 0), .inl 9223372043297226757, .inl 9223372043297226757, .inl 9223372043297226800, .inl 6442450944]), (fun vs => zP q_X8_year_10), (fun vs => Nat.sub (Nat.add 0 0) 0))]
def bf_X8_year_10 : List Nat := []
theorem r_X8_year_10_0 : zbox [] (fun vs => zFrun (zpost (zAlq al_X8_year_10)) 1000 t_X8_year fm_X8_year_10 bf_X8_year_10 (0, vs)) = true := by decide +kernel
set_option maxRecDepth 100000 in
theorem x_X8_year_10 (d : Nat) : zS l G gh (d + 6) (zpost (zAlq al_X8_year_10)) n_X8_year (zn 0 p_X8_year 0) (zwc (0, [.inr (.ref 0), .inl 9223372043297226757, .inl 9223372043297226757, .inl 9223372043297226800, .inl 6442450944], zP q_X8_year_10) 0) := zentry (tt_X8_year d) fm_X8_year_10 bf_X8_year_10 1000 (by decide +kernel) rfl ⟨Nat.zero_lt_succ _, trivial⟩ (fun f hf => match f, hf with
  | 0, _ => fun vs hv => (zbox_t r_X8_year_10_0) vs hv
  | f + 1, h => absurd (show f + 1 < 1 from h) (Nat.not_lt.mpr (Nat.le_add_left 1 f)))
noncomputable def gs_X8_year_10 : zMt := zgq false [] 8 [.inr (.ref 0), .inl 9223372043297226757, .inl 9223372043297226757, .inl 9223372043297226800, .inl 6442450944] q_X8_year_10 al_X8_year_10
set_option maxRecDepth 100000 in
theorem cs_X8_year_10 (d : Nat) : zC l G gh (d + 6) n_X8_year gs_X8_year_10 := zgq_ok0 (pcs := p_X8_year) (by decide) rfl rfl (fun a ha => by simp only [al_X8_year_10, List.mem_cons, List.not_mem_nil, or_false] at ha; rcases ha with rfl <;> decide +kernel) (fun gh => x_X8_year_10 d) (by decide +kernel)
def q_X8_year_11 : List (Nat × Nat) := [(0, zk1), (9, zk21)]
noncomputable def al_X8_year_11 : zAq := [(some (.inl 2147483647), [(0, zk1), (9, zk21)])]
noncomputable def fm_X8_year_11 : List zFm := [(0, [], (fun vs => [.inr (.ref 0), .inl 9223372043297226757, .inl 9223372043297226757, .inl 9223372043297226800, .inl 9223372135639023615]), (fun vs => zP q_X8_year_11), (fun vs => Nat.sub (Nat.add 0 0) 0))]
def bf_X8_year_11 : List Nat := []
theorem r_X8_year_11_0 : zbox [] (fun vs => zFrun (zpost (zAlq al_X8_year_11)) 1000 t_X8_year fm_X8_year_11 bf_X8_year_11 (0, vs)) = true := by decide +kernel
set_option maxRecDepth 100000 in
theorem x_X8_year_11 (d : Nat) : zS l G gh (d + 6) (zpost (zAlq al_X8_year_11)) n_X8_year (zn 0 p_X8_year 0) (zwc (0, [.inr (.ref 0), .inl 9223372043297226757, .inl 9223372043297226757, .inl 9223372043297226800, .inl 9223372135639023615], zP q_X8_year_11) 0) := zentry (tt_X8_year d) fm_X8_year_11 bf_X8_year_11 1000 (by decide +kernel) rfl ⟨Nat.zero_lt_succ _, trivial⟩ (fun f hf => match f, hf with
  | 0, _ => fun vs hv => (zbox_t r_X8_year_11_0) vs hv
  | f + 1, h => absurd (show f + 1 < 1 from h) (Nat.not_lt.mpr (Nat.le_add_left 1 f)))
noncomputable def gs_X8_year_11 : zMt := zgq false [] 8 [.inr (.ref 0), .inl 9223372043297226757, .inl 9223372043297226757, .inl 9223372043297226800, .inl 9223372135639023615] q_X8_year_11 al_X8_year_11
set_option maxRecDepth 100000 in
theorem cs_X8_year_11 (d : Nat) : zC l G gh (d + 6) n_X8_year gs_X8_year_11 := zgq_ok0 (pcs := p_X8_year) (by decide) rfl rfl (fun a ha => by simp only [al_X8_year_11, List.mem_cons, List.not_mem_nil, or_false] at ha; rcases ha with rfl <;> decide +kernel) (fun gh => x_X8_year_11 d) (by decide +kernel)
def q_X8_year_12 : List (Nat × Nat) := [(0, zk1), (9, zk21)]
noncomputable def al_X8_year_12 : zAq := [(some (.inl 2147483647), [(0, zk1), (9, zk21)])]
noncomputable def fm_X8_year_12 : List zFm := [(0, [], (fun vs => [.inr (.ref 0), .inl 9223372043297226757, .inl 9223372043297226757, .inl 6442450943, .inl 8589934591]), (fun vs => zP q_X8_year_12), (fun vs => Nat.sub (Nat.add 0 0) 0))]
def bf_X8_year_12 : List Nat := []
theorem r_X8_year_12_0 : zbox [] (fun vs => zFrun (zpost (zAlq al_X8_year_12)) 1000 t_X8_year fm_X8_year_12 bf_X8_year_12 (0, vs)) = true := by decide +kernel
set_option maxRecDepth 100000 in
theorem x_X8_year_12 (d : Nat) : zS l G gh (d + 6) (zpost (zAlq al_X8_year_12)) n_X8_year (zn 0 p_X8_year 0) (zwc (0, [.inr (.ref 0), .inl 9223372043297226757, .inl 9223372043297226757, .inl 6442450943, .inl 8589934591], zP q_X8_year_12) 0) := zentry (tt_X8_year d) fm_X8_year_12 bf_X8_year_12 1000 (by decide +kernel) rfl ⟨Nat.zero_lt_succ _, trivial⟩ (fun f hf => match f, hf with
  | 0, _ => fun vs hv => (zbox_t r_X8_year_12_0) vs hv
  | f + 1, h => absurd (show f + 1 < 1 from h) (Nat.not_lt.mpr (Nat.le_add_left 1 f)))
noncomputable def gs_X8_year_12 : zMt := zgq false [] 8 [.inr (.ref 0), .inl 9223372043297226757, .inl 9223372043297226757, .inl 6442450943, .inl 8589934591] q_X8_year_12 al_X8_year_12
set_option maxRecDepth 100000 in
theorem cs_X8_year_12 (d : Nat) : zC l G gh (d + 6) n_X8_year gs_X8_year_12 := zgq_ok0 (pcs := p_X8_year) (by decide) rfl rfl (fun a ha => by simp only [al_X8_year_12, List.mem_cons, List.not_mem_nil, or_false] at ha; rcases ha with rfl <;> decide +kernel) (fun gh => x_X8_year_12 d) (by decide +kernel)
def q_X8_year_13 : List (Nat × Nat) := [(0, zk1), (9, zk21)]
noncomputable def al_X8_year_13 : zAq := [(some (.inl 2147483647), [(0, zk1), (9, zk21)])]
noncomputable def fm_X8_year_13 : List zFm := [(0, [], (fun vs => [.inr (.ref 0), .inl 9223372043297226757, .inl 9223372043297226757, .inl 9223372255898107903, .inl 8589934591]), (fun vs => zP q_X8_year_13), (fun vs => Nat.sub (Nat.add 0 0) 0))]
def bf_X8_year_13 : List Nat := []
theorem r_X8_year_13_0 : zbox [] (fun vs => zFrun (zpost (zAlq al_X8_year_13)) 1000 t_X8_year fm_X8_year_13 bf_X8_year_13 (0, vs)) = true := by decide +kernel
set_option maxRecDepth 100000 in
theorem x_X8_year_13 (d : Nat) : zS l G gh (d + 6) (zpost (zAlq al_X8_year_13)) n_X8_year (zn 0 p_X8_year 0) (zwc (0, [.inr (.ref 0), .inl 9223372043297226757, .inl 9223372043297226757, .inl 9223372255898107903, .inl 8589934591], zP q_X8_year_13) 0) := zentry (tt_X8_year d) fm_X8_year_13 bf_X8_year_13 1000 (by decide +kernel) rfl ⟨Nat.zero_lt_succ _, trivial⟩ (fun f hf => match f, hf with
  | 0, _ => fun vs hv => (zbox_t r_X8_year_13_0) vs hv
  | f + 1, h => absurd (show f + 1 < 1 from h) (Nat.not_lt.mpr (Nat.le_add_left 1 f)))
noncomputable def gs_X8_year_13 : zMt := zgq false [] 8 [.inr (.ref 0), .inl 9223372043297226757, .inl 9223372043297226757, .inl 9223372255898107903, .inl 8589934591] q_X8_year_13 al_X8_year_13
set_option maxRecDepth 100000 in
theorem cs_X8_year_13 (d : Nat) : zC l G gh (d + 6) n_X8_year gs_X8_year_13 := zgq_ok0 (pcs := p_X8_year) (by decide) rfl rfl (fun a ha => by simp only [al_X8_year_13, List.mem_cons, List.not_mem_nil, or_false] at ha; rcases ha with rfl <;> decide +kernel) (fun gh => x_X8_year_13 d) (by decide +kernel)
def q_X8_year_14 : List (Nat × Nat) := [(0, zk1), (9, zk21)]
noncomputable def al_X8_year_14 : zAq := [(some (.inl 2147483647), [(0, zk1), (9, zk21)])]
noncomputable def fm_X8_year_14 : List zFm := [(0, [], (fun vs => [.inr (.ref 0), .inl 9223372043297226757, .inl 6442450943, .inl 8589934591, .inl 8589934591]), (fun vs => zP q_X8_year_14), (fun vs => Nat.sub (Nat.add 0 0) 0))]
def bf_X8_year_14 : List Nat := []
theorem r_X8_year_14_0 : zbox [] (fun vs => zFrun (zpost (zAlq al_X8_year_14)) 1000 t_X8_year fm_X8_year_14 bf_X8_year_14 (0, vs)) = true := by decide +kernel
set_option maxRecDepth 100000 in
theorem x_X8_year_14 (d : Nat) : zS l G gh (d + 6) (zpost (zAlq al_X8_year_14)) n_X8_year (zn 0 p_X8_year 0) (zwc (0, [.inr (.ref 0), .inl 9223372043297226757, .inl 6442450943, .inl 8589934591, .inl 8589934591], zP q_X8_year_14) 0) := zentry (tt_X8_year d) fm_X8_year_14 bf_X8_year_14 1000 (by decide +kernel) rfl ⟨Nat.zero_lt_succ _, trivial⟩ (fun f hf => match f, hf with
  | 0, _ => fun vs hv => (zbox_t r_X8_year_14_0) vs hv
  | f + 1, h => absurd (show f + 1 < 1 from h) (Nat.not_lt.mpr (Nat.le_add_left 1 f)))
noncomputable def gs_X8_year_14 : zMt := zgq false [] 8 [.inr (.ref 0), .inl 9223372043297226757, .inl 6442450943, .inl 8589934591, .inl 8589934591] q_X8_year_14 al_X8_year_14
set_option maxRecDepth 100000 in
theorem cs_X8_year_14 (d : Nat) : zC l G gh (d + 6) n_X8_year gs_X8_year_14 := zgq_ok0 (pcs := p_X8_year) (by decide) rfl rfl (fun a ha => by simp only [al_X8_year_14, List.mem_cons, List.not_mem_nil, or_false] at ha; rcases ha with rfl <;> decide +kernel) (fun gh => x_X8_year_14 d) (by decide +kernel)
def q_X8_year_15 : List (Nat × Nat) := [(0, zk1), (9, zk21)]
noncomputable def al_X8_year_15 : zAq := [(some (.inl 2147483647), [(0, zk1), (9, zk21)])]
noncomputable def fm_X8_year_15 : List zFm := [(0, [], (fun vs => [.inr (.ref 0), .inl 9223372043297226757, .inl 9223372071214514175, .inl 8589934591, .inl 8589934591]), (fun vs => zP q_X8_year_15), (fun vs => Nat.sub (Nat.add 0 0) 0))]
def bf_X8_year_15 : List Nat := []
theorem r_X8_year_15_0 : zbox [] (fun vs => zFrun (zpost (zAlq al_X8_year_15)) 1000 t_X8_year fm_X8_year_15 bf_X8_year_15 (0, vs)) = true := by decide +kernel
set_option maxRecDepth 100000 in
theorem x_X8_year_15 (d : Nat) : zS l G gh (d + 6) (zpost (zAlq al_X8_year_15)) n_X8_year (zn 0 p_X8_year 0) (zwc (0, [.inr (.ref 0), .inl 9223372043297226757, .inl 9223372071214514175, .inl 8589934591, .inl 8589934591], zP q_X8_year_15) 0) := zentry (tt_X8_year d) fm_X8_year_15 bf_X8_year_15 1000 (by decide +kernel) rfl ⟨Nat.zero_lt_succ _, trivial⟩ (fun f hf => match f, hf with
  | 0, _ => fun vs hv => (zbox_t r_X8_year_15_0) vs hv
  | f + 1, h => absurd (show f + 1 < 1 from h) (Nat.not_lt.mpr (Nat.le_add_left 1 f)))
noncomputable def gs_X8_year_15 : zMt := zgq false [] 8 [.inr (.ref 0), .inl 9223372043297226757, .inl 9223372071214514175, .inl 8589934591, .inl 8589934591] q_X8_year_15 al_X8_year_15
set_option maxRecDepth 100000 in
theorem cs_X8_year_15 (d : Nat) : zC l G gh (d + 6) n_X8_year gs_X8_year_15 := zgq_ok0 (pcs := p_X8_year) (by decide) rfl rfl (fun a ha => by simp only [al_X8_year_15, List.mem_cons, List.not_mem_nil, or_false] at ha; rcases ha with rfl <;> decide +kernel) (fun gh => x_X8_year_15 d) (by decide +kernel)
def q_X8_year_16 : List (Nat × Nat) := [(0, zk1)]
noncomputable def al_X8_year_16 : zAq := [(some (.inl 2147483647), [(0, zk1)])]
noncomputable def fm_X8_year_16 : List zFm := [(0, [], (fun vs => [.inr (.ref 0), .inl 6442450943, .inl 8589934591, .inl 8589934591, .inl 8589934591]), (fun vs => zP q_X8_year_16), (fun vs => Nat.sub (Nat.add 0 0) 0))]
def bf_X8_year_16 : List Nat := []
theorem r_X8_year_16_0 : zbox [] (fun vs => zFrun (zpost (zAlq al_X8_year_16)) 1000 t_X8_year fm_X8_year_16 bf_X8_year_16 (0, vs)) = true := by decide +kernel
set_option maxRecDepth 100000 in
theorem x_X8_year_16 (d : Nat) : zS l G gh (d + 6) (zpost (zAlq al_X8_year_16)) n_X8_year (zn 0 p_X8_year 0) (zwc (0, [.inr (.ref 0), .inl 6442450943, .inl 8589934591, .inl 8589934591, .inl 8589934591], zP q_X8_year_16) 0) := zentry (tt_X8_year d) fm_X8_year_16 bf_X8_year_16 1000 (by decide +kernel) rfl ⟨Nat.zero_lt_succ _, trivial⟩ (fun f hf => match f, hf with
  | 0, _ => fun vs hv => (zbox_t r_X8_year_16_0) vs hv
  | f + 1, h => absurd (show f + 1 < 1 from h) (Nat.not_lt.mpr (Nat.le_add_left 1 f)))
noncomputable def gs_X8_year_16 : zMt := zgq false [] 8 [.inr (.ref 0), .inl 6442450943, .inl 8589934591, .inl 8589934591, .inl 8589934591] q_X8_year_16 al_X8_year_16
set_option maxRecDepth 100000 in
theorem cs_X8_year_16 (d : Nat) : zC l G gh (d + 6) n_X8_year gs_X8_year_16 := zgq_ok0 (pcs := p_X8_year) (by decide) rfl rfl (fun a ha => by simp only [al_X8_year_16, List.mem_cons, List.not_mem_nil, or_false] at ha; rcases ha with rfl <;> decide +kernel) (fun gh => x_X8_year_16 d) (by decide +kernel)
def q_X8_year_17 : List (Nat × Nat) := [(0, zk1), (9, zk21)]
noncomputable def al_X8_year_17 : zAq := [(some (.inl 2147483647), [(0, zk1), (9, zk21)])]
noncomputable def fm_X8_year_17 : List zFm := [(0, [], (fun vs => [.inr (.ref 0), .inl 9223372071214514175, .inl 8589934591, .inl 8589934591, .inl 8589934591]), (fun vs => zP q_X8_year_17), (fun vs => Nat.sub (Nat.add 0 0) 0))]
def bf_X8_year_17 : List Nat := []
theorem r_X8_year_17_0 : zbox [] (fun vs => zFrun (zpost (zAlq al_X8_year_17)) 1000 t_X8_year fm_X8_year_17 bf_X8_year_17 (0, vs)) = true := by decide +kernel
set_option maxRecDepth 100000 in
theorem x_X8_year_17 (d : Nat) : zS l G gh (d + 6) (zpost (zAlq al_X8_year_17)) n_X8_year (zn 0 p_X8_year 0) (zwc (0, [.inr (.ref 0), .inl 9223372071214514175, .inl 8589934591, .inl 8589934591, .inl 8589934591], zP q_X8_year_17) 0) := zentry (tt_X8_year d) fm_X8_year_17 bf_X8_year_17 1000 (by decide +kernel) rfl ⟨Nat.zero_lt_succ _, trivial⟩ (fun f hf => match f, hf with
  | 0, _ => fun vs hv => (zbox_t r_X8_year_17_0) vs hv
  | f + 1, h => absurd (show f + 1 < 1 from h) (Nat.not_lt.mpr (Nat.le_add_left 1 f)))
noncomputable def gs_X8_year_17 : zMt := zgq false [] 8 [.inr (.ref 0), .inl 9223372071214514175, .inl 8589934591, .inl 8589934591, .inl 8589934591] q_X8_year_17 al_X8_year_17
set_option maxRecDepth 100000 in
theorem cs_X8_year_17 (d : Nat) : zC l G gh (d + 6) n_X8_year gs_X8_year_17 := zgq_ok0 (pcs := p_X8_year) (by decide) rfl rfl (fun a ha => by simp only [al_X8_year_17, List.mem_cons, List.not_mem_nil, or_false] at ha; rcases ha with rfl <;> decide +kernel) (fun gh => x_X8_year_17 d) (by decide +kernel)
noncomputable def gs_X8_year : zMt := (zor gs_X8_year_0 (zor gs_X8_year_1 (zor gs_X8_year_2 (zor gs_X8_year_3 (zor gs_X8_year_4 (zor gs_X8_year_5 (zor gs_X8_year_6 (zor gs_X8_year_7 (zor gs_X8_year_8 (zor gs_X8_year_9 (zor gs_X8_year_10 (zor gs_X8_year_11 (zor gs_X8_year_12 (zor gs_X8_year_13 (zor gs_X8_year_14 (zor gs_X8_year_15 (zor gs_X8_year_16 gs_X8_year_17)))))))))))))))))
theorem cs_X8_year (d : Nat) : zC l G gh (d + 6) n_X8_year gs_X8_year := (zor_ok (cs_X8_year_0 d) (zor_ok (cs_X8_year_1 d) (zor_ok (cs_X8_year_2 d) (zor_ok (cs_X8_year_3 d) (zor_ok (cs_X8_year_4 d) (zor_ok (cs_X8_year_5 d) (zor_ok (cs_X8_year_6 d) (zor_ok (cs_X8_year_7 d) (zor_ok (cs_X8_year_8 d) (zor_ok (cs_X8_year_9 d) (zor_ok (cs_X8_year_10 d) (zor_ok (cs_X8_year_11 d) (zor_ok (cs_X8_year_12 d) (zor_ok (cs_X8_year_13 d) (zor_ok (cs_X8_year_14 d) (zor_ok (cs_X8_year_15 d) (zor_ok (cs_X8_year_16 d) (cs_X8_year_17 d))))))))))))))))))
def p_X7_sift : List Nat := [0, 2, 9, 22, 29, 35, 44, 60, 68, 78, 92, 103, 109, 115]
noncomputable def b_X7_sift_0 : zBl := fun jp K => oInt 2147483648 <| oIst 3 <| jp 1
theorem s_X7_sift_0 (d : Nat) : zPb l G gh (d + 6) n_X7_sift p_X7_sift 0 b_X7_sift_0 := fun K jp hj =>
    z_iconst (n := 0) (zd (i := .iconst (0)) (n := 1) (by decide +kernel)) (by decide +kernel) <|
    z_istore_n (n := 3) (i := 3) (zd (i := .istore_n 3) (n := 1) (by decide +kernel)) rfl (by decide +kernel) <|
    (zj (hj 1) (by decide +kernel))
noncomputable def b_X7_sift_1 : zBl := fun jp K => oNLC 3 2147483828 zgeN zltN zn1_ge zn1_lt (jp 3) (jp 2)
theorem s_X7_sift_1 (d : Nat) : zPb l G gh (d + 6) n_X7_sift p_X7_sift 2 b_X7_sift_1 := fun K jp hj =>
    z_nLC_ge (i := 3) (c0 := 2147483828) (a1 := 1) (a2 := 3) (off := 16) (tgt := 22) (zLd_n (n := 3) (i := 3) (zd (i := .iload_n 3) (n := 1) (by decide +kernel)) rfl) (zCn_s (n := 180) (zd (i := .sipush (180)) (n := 3) (by decide +kernel)) (by decide +kernel)) (zd (i := .if_icmp .ge (16)) (n := 3) (by decide +kernel)) (by decide +kernel) (zj (hj 3) (by decide +kernel)) (zj (hj 2) (by decide +kernel))
noncomputable def b_X7_sift_2 : zBl := fun jp K => oAld 0 <| oGetR 7 4 <| oIld 3 <| oInt 2147483649 <| oXast 12 znz1 <| oInc 3 2147483649 <| jp 1
theorem s_X7_sift_2 (d : Nat) : zPb l G gh (d + 6) n_X7_sift p_X7_sift 9 b_X7_sift_2 := fun K jp hj =>
    z_aload_n (n := 0) (i := 0) (zd (i := .aload_n 0) (n := 1) (by decide +kernel)) rfl <|
    z_getR (ci := 7) (j := 4) (idx := 25) (zd (i := .getfield 25) (n := 3) (by decide +kernel)) (by decide +kernel) (by decide +kernel) rfl g434 <|
    z_iload_n (n := 3) (i := 3) (zd (i := .iload_n 3) (n := 1) (by decide +kernel)) rfl <|
    z_iconst (n := 1) (zd (i := .iconst (1)) (n := 1) (by decide +kernel)) (by decide +kernel) <|
    z_zast (zd (i := .bastore) (n := 1) (by decide +kernel)) <|
    z_iinc (i := 3) (n := 1) (zd (i := .iinc 3 (1)) (n := 3) (by decide +kernel)) (by decide +kernel) (by decide +kernel) <|
    z_goto (off := -17) (tgt := 2) (zd (i := .goto (-17)) (n := 3) (by decide +kernel)) (by decide +kernel) (zj (hj 1) (by decide +kernel))
noncomputable def b_X7_sift_3 : zBl := fun jp K => oInt 2147483828 <| oIst 3 <| oInt 2147483648 <| oIst 4 <| jp 4
theorem s_X7_sift_3 (d : Nat) : zPb l G gh (d + 6) n_X7_sift p_X7_sift 22 b_X7_sift_3 := fun K jp hj =>
    z_sipush (n := 180) (zd (i := .sipush (180)) (n := 3) (by decide +kernel)) (by decide +kernel) <|
    z_istore_n (n := 3) (i := 3) (zd (i := .istore_n 3) (n := 1) (by decide +kernel)) rfl (by decide +kernel) <|
    z_iconst (n := 0) (zd (i := .iconst (0)) (n := 1) (by decide +kernel)) (by decide +kernel) <|
    z_istore (i := 4) (zd (i := .istore 4) (n := 2) (by decide +kernel)) (by decide +kernel) <|
    (zj (hj 4) (by decide +kernel))
noncomputable def b_X7_sift_4 : zBl := fun jp K => oNLL 4 2 zgeN zltN zn1_ge zn2_ge zn1_lt zn2_lt (jp 13) (jp 5)
theorem s_X7_sift_4 (d : Nat) : zPb l G gh (d + 6) n_X7_sift p_X7_sift 29 b_X7_sift_4 := fun K jp hj =>
    z_nLL_ge (i := 4) (j := 2) (a1 := 2) (a2 := 1) (off := 83) (tgt := 115) (zLd_w (i := 4) (zd (i := .iload 4) (n := 2) (by decide +kernel))) (zLd_n (n := 2) (i := 2) (zd (i := .iload_n 2) (n := 1) (by decide +kernel)) rfl) (zd (i := .if_icmp .ge (83)) (n := 3) (by decide +kernel)) (by decide +kernel) (zj (hj 13) (by decide +kernel)) (zj (hj 5) (by decide +kernel))
noncomputable def b_X7_sift_5 : zBl := fun jp K => oNLF 4 0 7 0 zgeN zltN zn1_ge zn1_lt (jp 13) (jp 6)
theorem s_X7_sift_5 (d : Nat) : zPb l G gh (d + 6) n_X7_sift p_X7_sift 35 b_X7_sift_5 := fun K jp hj =>
    z_nLF_ge (i := 4) (r := 0) (ci := 7) (j := 0) (a1 := 2) (a2 := 4) (off := 74) (tgt := 115) (zLd_w (i := 4) (zd (i := .iload 4) (n := 2) (by decide +kernel))) (zFd_n (n := 0) (r := 0) (ci := 7) (j := 0) (idx := 9) (zd (i := .aload_n 0) (n := 1) (by decide +kernel)) rfl (zd (i := .getfield 9) (n := 3) (by decide +kernel)) (by decide +kernel) (by decide +kernel) rfl g429) (by decide +kernel) rfl (zd (i := .if_icmp .ge (74)) (n := 3) (by decide +kernel)) (by decide +kernel) (zj (hj 13) (by decide +kernel)) (zj (hj 6) (by decide +kernel))
noncomputable def b_X7_sift_6 : zBl := fun jp K => oAld 1 <| oAld 0 <| oGetR 7 3 <| oIld 4 <| oXald 10 <| oCv 0 1 f_X0_heat <| oIst 5 <| oInt 2147483648 <| oIst 6 <| jp 7
theorem s_X7_sift_6 (d : Nat) : zPb l G gh (d + 6) n_X7_sift p_X7_sift 44 b_X7_sift_6 := fun K jp hj =>
    z_aload_n (n := 1) (i := 1) (zd (i := .aload_n 1) (n := 1) (by decide +kernel)) rfl <|
    z_aload_n (n := 0) (i := 0) (zd (i := .aload_n 0) (n := 1) (by decide +kernel)) rfl <|
    z_getR (ci := 7) (j := 3) (idx := 22) (zd (i := .getfield 22) (n := 3) (by decide +kernel)) (by decide +kernel) (by decide +kernel) rfl g433 <|
    z_iload (i := 4) (zd (i := .iload 4) (n := 2) (by decide +kernel)) <|
    z_iald (zd (i := .iaload) (n := 1) (by decide +kernel)) <|
    z_callV (idx := 32) (ci := 0) (N := n_X0_heat) (zd (i := .invokevirtual 32) (n := 3) (by decide +kernel)) to_X0_heat g1046 g717 g718 (by decide +kernel) rfl rfl rfl (c_X0_heat (l := l) (G := G) (gh := gh) (d + 1)) <|
    z_istore (i := 5) (zd (i := .istore 5) (n := 2) (by decide +kernel)) (by decide +kernel) <|
    z_iconst (n := 0) (zd (i := .iconst (0)) (n := 1) (by decide +kernel)) (by decide +kernel) <|
    z_istore (i := 6) (zd (i := .istore 6) (n := 2) (by decide +kernel)) (by decide +kernel) <|
    (zj (hj 7) (by decide +kernel))
noncomputable def b_X7_sift_7 : zBl := fun jp K => oNLC 6 2147483828 zgeN zltN zn1_ge zn1_lt (jp 12) (jp 8)
theorem s_X7_sift_7 (d : Nat) : zPb l G gh (d + 6) n_X7_sift p_X7_sift 60 b_X7_sift_7 := fun K jp hj =>
    z_nLC_ge (i := 6) (c0 := 2147483828) (a1 := 2) (a2 := 3) (off := 44) (tgt := 109) (zLd_w (i := 6) (zd (i := .iload 6) (n := 2) (by decide +kernel))) (zCn_s (n := 180) (zd (i := .sipush (180)) (n := 3) (by decide +kernel)) (by decide +kernel)) (zd (i := .if_icmp .ge (44)) (n := 3) (by decide +kernel)) (by decide +kernel) (zj (hj 12) (by decide +kernel)) (zj (hj 8) (by decide +kernel))
noncomputable def b_X7_sift_8 : zBl := fun jp K => oAld 0 <| oGetR 7 4 <| oIld 6 <| oXald 12 <| oIf zeq zne (jp 11) (jp 9)
theorem s_X7_sift_8 (d : Nat) : zPb l G gh (d + 6) n_X7_sift p_X7_sift 68 b_X7_sift_8 := fun K jp hj =>
    z_aload_n (n := 0) (i := 0) (zd (i := .aload_n 0) (n := 1) (by decide +kernel)) rfl <|
    z_getR (ci := 7) (j := 4) (idx := 25) (zd (i := .getfield 25) (n := 3) (by decide +kernel)) (by decide +kernel) (by decide +kernel) rfl g434 <|
    z_iload (i := 6) (zd (i := .iload 6) (n := 2) (by decide +kernel)) <|
    z_zald (zd (i := .baload) (n := 1) (by decide +kernel)) <|
    z_if_eq (off := 28) (tgt := 103) (zd (i := .ifCond .eq (28)) (n := 3) (by decide +kernel)) (by decide +kernel) (zj (hj 11) (by decide +kernel)) (zj (hj 9) (by decide +kernel))
noncomputable def b_X7_sift_9 : zBl := fun jp K => oAld 0 <| oAld 1 <| oIld 4 <| oIld 6 <| oIld 5 <| oCv 7 4 gs_X7_isSo <| oIf zne zeq (jp 11) (jp 10)
theorem s_X7_sift_9 (d : Nat) : zPb l G gh (d + 6) n_X7_sift p_X7_sift 78 b_X7_sift_9 := fun K jp hj =>
    z_aload_n (n := 0) (i := 0) (zd (i := .aload_n 0) (n := 1) (by decide +kernel)) rfl <|
    z_aload_n (n := 1) (i := 1) (zd (i := .aload_n 1) (n := 1) (by decide +kernel)) rfl <|
    z_iload (i := 4) (zd (i := .iload 4) (n := 2) (by decide +kernel)) <|
    z_iload (i := 6) (zd (i := .iload 6) (n := 2) (by decide +kernel)) <|
    z_iload (i := 5) (zd (i := .iload 5) (n := 2) (by decide +kernel)) <|
    z_callV (idx := 38) (ci := 7) (N := n_X7_isSo) (zd (i := .invokevirtual 38) (n := 3) (by decide +kernel)) to_X7_isSo g1047 g1049 g38 (by decide +kernel) rfl rfl rfl (cs_X7_isSo (l := l) (G := G) (gh := gh) (d)) <|
    z_if_ne (off := 14) (tgt := 103) (zd (i := .ifCond .ne (14)) (n := 3) (by decide +kernel)) (by decide +kernel) (zj (hj 11) (by decide +kernel)) (zj (hj 10) (by decide +kernel))
noncomputable def b_X7_sift_10 : zBl := fun jp K => oAld 0 <| oGetR 7 4 <| oIld 6 <| oInt 2147483648 <| oXast 12 znz1 <| oInc 3 2147483647 <| jp 11
theorem s_X7_sift_10 (d : Nat) : zPb l G gh (d + 6) n_X7_sift p_X7_sift 92 b_X7_sift_10 := fun K jp hj =>
    z_aload_n (n := 0) (i := 0) (zd (i := .aload_n 0) (n := 1) (by decide +kernel)) rfl <|
    z_getR (ci := 7) (j := 4) (idx := 25) (zd (i := .getfield 25) (n := 3) (by decide +kernel)) (by decide +kernel) (by decide +kernel) rfl g434 <|
    z_iload (i := 6) (zd (i := .iload 6) (n := 2) (by decide +kernel)) <|
    z_iconst (n := 0) (zd (i := .iconst (0)) (n := 1) (by decide +kernel)) (by decide +kernel) <|
    z_zast (zd (i := .bastore) (n := 1) (by decide +kernel)) <|
    z_iinc (i := 3) (n := -1) (zd (i := .iinc 3 (-1)) (n := 3) (by decide +kernel)) (by decide +kernel) (by decide +kernel) <|
    (zj (hj 11) (by decide +kernel))
noncomputable def b_X7_sift_11 : zBl := fun jp K => oInc 6 2147483649 <| jp 7
theorem s_X7_sift_11 (d : Nat) : zPb l G gh (d + 6) n_X7_sift p_X7_sift 103 b_X7_sift_11 := fun K jp hj =>
    z_iinc (i := 6) (n := 1) (zd (i := .iinc 6 (1)) (n := 3) (by decide +kernel)) (by decide +kernel) (by decide +kernel) <|
    z_goto (off := -46) (tgt := 60) (zd (i := .goto (-46)) (n := 3) (by decide +kernel)) (by decide +kernel) (zj (hj 7) (by decide +kernel))
noncomputable def b_X7_sift_12 : zBl := fun jp K => oInc 4 2147483649 <| jp 4
theorem s_X7_sift_12 (d : Nat) : zPb l G gh (d + 6) n_X7_sift p_X7_sift 109 b_X7_sift_12 := fun K jp hj =>
    z_iinc (i := 4) (n := 1) (zd (i := .iinc 4 (1)) (n := 3) (by decide +kernel)) (by decide +kernel) (by decide +kernel) <|
    z_goto (off := -83) (tgt := 29) (zd (i := .goto (-83)) (n := 3) (by decide +kernel)) (by decide +kernel) (zj (hj 4) (by decide +kernel))
noncomputable def b_X7_sift_13 : zBl := fun jp K => oIld 3 <| oIret K
theorem s_X7_sift_13 (d : Nat) : zPb l G gh (d + 6) n_X7_sift p_X7_sift 115 b_X7_sift_13 := fun K jp hj =>
    z_iload_n (n := 3) (i := 3) (zd (i := .iload_n 3) (n := 1) (by decide +kernel)) rfl <|
    z_iret (zd (i := .ireturn) (n := 1) (by decide +kernel)) rfl
noncomputable def t_X7_sift : List zBl := [b_X7_sift_0, b_X7_sift_1, b_X7_sift_2, b_X7_sift_3, b_X7_sift_4, b_X7_sift_5, b_X7_sift_6, b_X7_sift_7, b_X7_sift_8, b_X7_sift_9, b_X7_sift_10, b_X7_sift_11, b_X7_sift_12, b_X7_sift_13]
theorem tt_X7_sift (d : Nat) : zT (zPb l G gh (d + 6) n_X7_sift p_X7_sift) t_X7_sift p_X7_sift := ⟨s_X7_sift_0 d, s_X7_sift_1 d, s_X7_sift_2 d, s_X7_sift_3 d, s_X7_sift_4 d, s_X7_sift_5 d, s_X7_sift_6 d, s_X7_sift_7 d, s_X7_sift_8 d, s_X7_sift_9 d, s_X7_sift_10 d, s_X7_sift_11 d, s_X7_sift_12 d, s_X7_sift_13 d, trivial⟩
def q_X7_sift_0 : List (Nat × Nat) := [(249, zk6), (250, zk7), (251, zk7), (252, zk7), (253, zk89), (259, zk20), (265, zk2), (266, zk18), (267, zk18), (268, zk19), (269, zk3), (270, zk7)]
noncomputable def al_X7_sift_0 : zAq := [(some (.inl 8589934591), [(249, zk6), (250, zk7), (251, zk7), (252, zk7), (253, zk101), (259, zk20), (265, zk2), (266, zk18), (267, zk18), (268, zk19), (269, zk4), (270, zk9)])]
def mq_X7_sift_0_1 : List (Nat × Nat) := [(249, zk6), (250, zk7), (251, zk7), (252, zk7), (253, zk101), (259, zk20), (265, zk2), (266, zk18), (267, zk18), (268, zk19), (269, zk3), (270, zk7)]
def mq_X7_sift_0_2 : List (Nat × Nat) := [(249, zk6), (250, zk7), (251, zk7), (252, zk7), (253, zk101), (259, zk20), (265, zk2), (266, zk18), (267, zk18), (268, zk19), (269, zk4), (270, zk9)]
def mq_X7_sift_0_3 : List (Nat × Nat) := [(249, zk6), (250, zk7), (251, zk7), (252, zk7), (253, zk101), (259, zk20), (265, zk2), (266, zk18), (267, zk18), (268, zk19), (269, zk4), (270, zk9)]
noncomputable def fm_X7_sift_0 : List zFm := [(0, [], (fun vs => [.inr (.ref 249), .inr (.ref 259), .inl 9223372043297226772]), (fun vs => zP q_X7_sift_0), (fun vs => Nat.sub (Nat.add 131044 0) 0)),
  (1, [(3, 2147483648, 2147483828)], (fun vs => [.inr (.ref 249), .inr (.ref 259), .inl 9223372043297226772, .inl (zn 0 vs 0)]), (fun vs => zP mq_X7_sift_0_1), (fun vs => Nat.sub (Nat.add 777389211439 0) (Nat.add 0 (Nat.mul 362 (zn 0 vs 0))))),
  (4, [(4, 2147483648, 2147483668)], (fun vs => [.inr (.ref 249), .inr (.ref 259), .inl 9223372043297226772, .inl 8589934591, .inl (zn 0 vs 0)]), (fun vs => zP mq_X7_sift_0_2), (fun vs => Nat.sub (Nat.add 777389145917 0) (Nat.add 0 (Nat.mul 362 (zn 0 vs 0))))),
  (7, [(4, 2147483648, 2147483667), (6, 2147483648, 2147483828)], (fun vs => [.inr (.ref 249), .inr (.ref 259), .inl 9223372047592194068, .inl 8589934591, .inl (zn 0 vs 0), .inl 9223372043297226851, .inl (zn 0 vs 1)]), (fun vs => zP mq_X7_sift_0_3), (fun vs => Nat.sub (Nat.add 779536629564 0) (Nat.add (Nat.add 0 (Nat.mul 362 (zn 0 vs 0))) (Nat.mul 1 (zn 0 vs 1)))))]
def bf_X7_sift_0 : List Nat := [0, 2, 0, 0, 3, 0, 0, 4]
theorem r_X7_sift_0_0 : zbox [] (fun vs => zFrun (zpost (zAlq al_X7_sift_0)) 1000 t_X7_sift fm_X7_sift_0 bf_X7_sift_0 (0, vs)) = true := by decide +kernel
theorem r_X7_sift_0_1 : zbox [(3, 2147483648, 2147483828)] (fun vs => zFrun (zpost (zAlq al_X7_sift_0)) 1000 t_X7_sift fm_X7_sift_0 bf_X7_sift_0 (1, vs)) = true := by decide +kernel
theorem r_X7_sift_0_2 : zbox [(4, 2147483648, 2147483668)] (fun vs => zFrun (zpost (zAlq al_X7_sift_0)) 1000 t_X7_sift fm_X7_sift_0 bf_X7_sift_0 (2, vs)) = true := by decide +kernel
theorem r_X7_sift_0_3 : zbox [(4, 2147483648, 2147483667), (6, 2147483648, 2147483828)] (fun vs => zFrun (zpost (zAlq al_X7_sift_0)) 1000 t_X7_sift fm_X7_sift_0 bf_X7_sift_0 (3, vs)) = true := by decide +kernel
set_option maxRecDepth 100000 in
theorem x_X7_sift_0 (d : Nat) : zS l G gh (d + 6) (zpost (zAlq al_X7_sift_0)) n_X7_sift (zn 0 p_X7_sift 0) (zwc (0, [.inr (.ref 249), .inr (.ref 259), .inl 9223372043297226772], zP q_X7_sift_0) 0) := zentry (tt_X7_sift d) fm_X7_sift_0 bf_X7_sift_0 1000 (by decide +kernel) rfl ⟨Nat.zero_lt_succ _, trivial⟩ (fun f hf => match f, hf with
  | 0, _ => fun vs hv => (zbox_t r_X7_sift_0_0) vs hv
  | 1, _ => fun vs hv => (zbox_t r_X7_sift_0_1) vs hv
  | 2, _ => fun vs hv => (zbox_t r_X7_sift_0_2) vs hv
  | 3, _ => fun vs hv => (zbox_t r_X7_sift_0_3) vs hv
  | f + 4, h => absurd (show f + 4 < 4 from h) (Nat.not_lt.mpr (Nat.le_add_left 4 f)))
noncomputable def gs_X7_sift_0 : zMt := zgq false [] 7 [.inr (.ref 249), .inr (.ref 259), .inl 9223372043297226772] q_X7_sift_0 al_X7_sift_0
set_option maxRecDepth 100000 in
theorem cs_X7_sift_0 (d : Nat) : zC l G gh (d + 6) n_X7_sift gs_X7_sift_0 := zgq_ok0 (pcs := p_X7_sift) (by decide) rfl rfl (fun a ha => by simp only [al_X7_sift_0, List.mem_cons, List.not_mem_nil, or_false] at ha; rcases ha with rfl <;> decide +kernel) (fun gh => x_X7_sift_0 d) (by decide +kernel)
def q_X7_sift_1 : List (Nat × Nat) := [(9, zk21), (15, zk5), (16, zk18), (17, zk18), (18, zk19), (19, zk3), (20, zk7), (249, zk6), (250, zk7), (251, zk7), (252, zk7), (253, zk89)]
noncomputable def al_X7_sift_1 : zAq := [(some (.inl 8589934591), [(9, zk21), (15, zk5), (16, zk18), (17, zk18), (18, zk19), (19, zk4), (20, zk9), (249, zk6), (250, zk7), (251, zk7), (252, zk7), (253, zk101)])]
def mq_X7_sift_1_1 : List (Nat × Nat) := [(9, zk21), (15, zk5), (16, zk18), (17, zk18), (18, zk19), (19, zk3), (20, zk7), (249, zk6), (250, zk7), (251, zk7), (252, zk7), (253, zk101)]
def mq_X7_sift_1_2 : List (Nat × Nat) := [(9, zk21), (15, zk5), (16, zk18), (17, zk18), (18, zk19), (19, zk4), (20, zk9), (249, zk6), (250, zk7), (251, zk7), (252, zk7), (253, zk101)]
def mq_X7_sift_1_3 : List (Nat × Nat) := [(9, zk21), (15, zk5), (16, zk18), (17, zk18), (18, zk19), (19, zk4), (20, zk9), (249, zk6), (250, zk7), (251, zk7), (252, zk7), (253, zk101)]
noncomputable def fm_X7_sift_1 : List zFm := [(0, [], (fun vs => [.inr (.ref 249), .inr (.ref 9), .inl 9223372043297226772]), (fun vs => zP q_X7_sift_1), (fun vs => Nat.sub (Nat.add 131044 0) 0)),
  (1, [(3, 2147483648, 2147483828)], (fun vs => [.inr (.ref 249), .inr (.ref 9), .inl 9223372043297226772, .inl (zn 0 vs 0)]), (fun vs => zP mq_X7_sift_1_1), (fun vs => Nat.sub (Nat.add 777389211439 0) (Nat.add 0 (Nat.mul 362 (zn 0 vs 0))))),
  (4, [(4, 2147483648, 2147483668)], (fun vs => [.inr (.ref 249), .inr (.ref 9), .inl 9223372043297226772, .inl 8589934591, .inl (zn 0 vs 0)]), (fun vs => zP mq_X7_sift_1_2), (fun vs => Nat.sub (Nat.add 777389145917 0) (Nat.add 0 (Nat.mul 362 (zn 0 vs 0))))),
  (7, [(4, 2147483648, 2147483667), (6, 2147483648, 2147483828)], (fun vs => [.inr (.ref 249), .inr (.ref 9), .inl 9223372047592194068, .inl 8589934591, .inl (zn 0 vs 0), .inl 9223372043297226851, .inl (zn 0 vs 1)]), (fun vs => zP mq_X7_sift_1_3), (fun vs => Nat.sub (Nat.add 779536629564 0) (Nat.add (Nat.add 0 (Nat.mul 362 (zn 0 vs 0))) (Nat.mul 1 (zn 0 vs 1)))))]
def bf_X7_sift_1 : List Nat := [0, 2, 0, 0, 3, 0, 0, 4]
theorem r_X7_sift_1_0 : zbox [] (fun vs => zFrun (zpost (zAlq al_X7_sift_1)) 1000 t_X7_sift fm_X7_sift_1 bf_X7_sift_1 (0, vs)) = true := by decide +kernel
theorem r_X7_sift_1_1 : zbox [(3, 2147483648, 2147483828)] (fun vs => zFrun (zpost (zAlq al_X7_sift_1)) 1000 t_X7_sift fm_X7_sift_1 bf_X7_sift_1 (1, vs)) = true := by decide +kernel
theorem r_X7_sift_1_2 : zbox [(4, 2147483648, 2147483668)] (fun vs => zFrun (zpost (zAlq al_X7_sift_1)) 1000 t_X7_sift fm_X7_sift_1 bf_X7_sift_1 (2, vs)) = true := by decide +kernel
theorem r_X7_sift_1_3 : zbox [(4, 2147483648, 2147483667), (6, 2147483648, 2147483828)] (fun vs => zFrun (zpost (zAlq al_X7_sift_1)) 1000 t_X7_sift fm_X7_sift_1 bf_X7_sift_1 (3, vs)) = true := by decide +kernel
set_option maxRecDepth 100000 in
theorem x_X7_sift_1 (d : Nat) : zS l G gh (d + 6) (zpost (zAlq al_X7_sift_1)) n_X7_sift (zn 0 p_X7_sift 0) (zwc (0, [.inr (.ref 249), .inr (.ref 9), .inl 9223372043297226772], zP q_X7_sift_1) 0) := zentry (tt_X7_sift d) fm_X7_sift_1 bf_X7_sift_1 1000 (by decide +kernel) rfl ⟨Nat.zero_lt_succ _, trivial⟩ (fun f hf => match f, hf with
  | 0, _ => fun vs hv => (zbox_t r_X7_sift_1_0) vs hv
  | 1, _ => fun vs hv => (zbox_t r_X7_sift_1_1) vs hv
  | 2, _ => fun vs hv => (zbox_t r_X7_sift_1_2) vs hv
  | 3, _ => fun vs hv => (zbox_t r_X7_sift_1_3) vs hv
  | f + 4, h => absurd (show f + 4 < 4 from h) (Nat.not_lt.mpr (Nat.le_add_left 4 f)))
noncomputable def gs_X7_sift_1 : zMt := zgq false [] 7 [.inr (.ref 249), .inr (.ref 9), .inl 9223372043297226772] q_X7_sift_1 al_X7_sift_1
set_option maxRecDepth 100000 in
theorem cs_X7_sift_1 (d : Nat) : zC l G gh (d + 6) n_X7_sift gs_X7_sift_1 := zgq_ok0 (pcs := p_X7_sift) (by decide) rfl rfl (fun a ha => by simp only [al_X7_sift_1, List.mem_cons, List.not_mem_nil, or_false] at ha; rcases ha with rfl <;> decide +kernel) (fun gh => x_X7_sift_1 d) (by decide +kernel)
noncomputable def gs_X7_sift : zMt := (zor gs_X7_sift_0 gs_X7_sift_1)
theorem cs_X7_sift (d : Nat) : zC l G gh (d + 6) n_X7_sift gs_X7_sift := (zor_ok (cs_X7_sift_0 d) (cs_X7_sift_1 d))
def p_X7_lookFrom : List Nat := [0, 17, 24, 42, 50, 56]
noncomputable def b_X7_lookFrom_0 : zBl := fun jp K => oAld 1 <| oIld 2 <| oCv 0 1 f_X0_heat <| oIst 3 <| oInt 2147483648 <| oIst 4 <| oInt 2147483829 <| oIst 5 <| oInt 2147483648 <| oIst 6 <| jp 1
theorem s_X7_lookFrom_0 (d : Nat) : zPb l G gh (d + 6) n_X7_lookFrom p_X7_lookFrom 0 b_X7_lookFrom_0 := fun K jp hj =>
    z_aload_n (n := 1) (i := 1) (zd (i := .aload_n 1) (n := 1) (by decide +kernel)) rfl <|
    z_iload_n (n := 2) (i := 2) (zd (i := .iload_n 2) (n := 1) (by decide +kernel)) rfl <|
    z_callV (idx := 32) (ci := 0) (N := n_X0_heat) (zd (i := .invokevirtual 32) (n := 3) (by decide +kernel)) to_X0_heat g1046 g717 g718 (by decide +kernel) rfl rfl rfl (c_X0_heat (l := l) (G := G) (gh := gh) (d + 1)) <|
    z_istore_n (n := 3) (i := 3) (zd (i := .istore_n 3) (n := 1) (by decide +kernel)) rfl (by decide +kernel) <|
    z_iconst (n := 0) (zd (i := .iconst (0)) (n := 1) (by decide +kernel)) (by decide +kernel) <|
    z_istore (i := 4) (zd (i := .istore 4) (n := 2) (by decide +kernel)) (by decide +kernel) <|
    z_sipush (n := 181) (zd (i := .sipush (181)) (n := 3) (by decide +kernel)) (by decide +kernel) <|
    z_istore (i := 5) (zd (i := .istore 5) (n := 2) (by decide +kernel)) (by decide +kernel) <|
    z_iconst (n := 0) (zd (i := .iconst (0)) (n := 1) (by decide +kernel)) (by decide +kernel) <|
    z_istore (i := 6) (zd (i := .istore 6) (n := 2) (by decide +kernel)) (by decide +kernel) <|
    (zj (hj 1) (by decide +kernel))
noncomputable def b_X7_lookFrom_1 : zBl := fun jp K => oNLC 6 2147483668 zgeN zltN zn1_ge zn1_lt (jp 5) (jp 2)
theorem s_X7_lookFrom_1 (d : Nat) : zPb l G gh (d + 6) n_X7_lookFrom p_X7_lookFrom 17 b_X7_lookFrom_1 := fun K jp hj =>
    z_nLC_ge (i := 6) (c0 := 2147483668) (a1 := 2) (a2 := 2) (off := 35) (tgt := 56) (zLd_w (i := 6) (zd (i := .iload 6) (n := 2) (by decide +kernel))) (zCn_b (n := 20) (zd (i := .bipush (20)) (n := 2) (by decide +kernel)) (by decide +kernel)) (zd (i := .if_icmp .ge (35)) (n := 3) (by decide +kernel)) (by decide +kernel) (zj (hj 5) (by decide +kernel)) (zj (hj 2) (by decide +kernel))
noncomputable def b_X7_lookFrom_2 : zBl := fun jp K => oAld 0 <| oAld 1 <| oIld 6 <| oIld 2 <| oIld 3 <| oCv 7 4 gs_X7_worstLeft <| oIst 7 <| oNLL 7 5 zgeN zltN zn1_ge zn2_ge zn1_lt zn2_lt (jp 4) (jp 3)
theorem s_X7_lookFrom_2 (d : Nat) : zPb l G gh (d + 6) n_X7_lookFrom p_X7_lookFrom 24 b_X7_lookFrom_2 := fun K jp hj =>
    z_aload_n (n := 0) (i := 0) (zd (i := .aload_n 0) (n := 1) (by decide +kernel)) rfl <|
    z_aload_n (n := 1) (i := 1) (zd (i := .aload_n 1) (n := 1) (by decide +kernel)) rfl <|
    z_iload (i := 6) (zd (i := .iload 6) (n := 2) (by decide +kernel)) <|
    z_iload_n (n := 2) (i := 2) (zd (i := .iload_n 2) (n := 1) (by decide +kernel)) rfl <|
    z_iload_n (n := 3) (i := 3) (zd (i := .iload_n 3) (n := 1) (by decide +kernel)) rfl <|
    z_callV (idx := 62) (ci := 7) (N := n_X7_worstLeft) (zd (i := .invokevirtual 62) (n := 3) (by decide +kernel)) to_X7_worstLeft g1075 g1077 g39 (by decide +kernel) rfl rfl rfl (cs_X7_worstLeft (l := l) (G := G) (gh := gh) (d)) <|
    z_istore (i := 7) (zd (i := .istore 7) (n := 2) (by decide +kernel)) (by decide +kernel) <|
    z_nLL_ge (i := 7) (j := 5) (a1 := 2) (a2 := 2) (off := 11) (tgt := 50) (zLd_w (i := 7) (zd (i := .iload 7) (n := 2) (by decide +kernel))) (zLd_w (i := 5) (zd (i := .iload 5) (n := 2) (by decide +kernel))) (zd (i := .if_icmp .ge (11)) (n := 3) (by decide +kernel)) (by decide +kernel) (zj (hj 4) (by decide +kernel)) (zj (hj 3) (by decide +kernel))
noncomputable def b_X7_lookFrom_3 : zBl := fun jp K => oIld 7 <| oIst 5 <| oIld 6 <| oIst 4 <| jp 4
theorem s_X7_lookFrom_3 (d : Nat) : zPb l G gh (d + 6) n_X7_lookFrom p_X7_lookFrom 42 b_X7_lookFrom_3 := fun K jp hj =>
    z_iload (i := 7) (zd (i := .iload 7) (n := 2) (by decide +kernel)) <|
    z_istore (i := 5) (zd (i := .istore 5) (n := 2) (by decide +kernel)) (by decide +kernel) <|
    z_iload (i := 6) (zd (i := .iload 6) (n := 2) (by decide +kernel)) <|
    z_istore (i := 4) (zd (i := .istore 4) (n := 2) (by decide +kernel)) (by decide +kernel) <|
    (zj (hj 4) (by decide +kernel))
noncomputable def b_X7_lookFrom_4 : zBl := fun jp K => oInc 6 2147483649 <| jp 1
theorem s_X7_lookFrom_4 (d : Nat) : zPb l G gh (d + 6) n_X7_lookFrom p_X7_lookFrom 50 b_X7_lookFrom_4 := fun K jp hj =>
    z_iinc (i := 6) (n := 1) (zd (i := .iinc 6 (1)) (n := 3) (by decide +kernel)) (by decide +kernel) (by decide +kernel) <|
    z_goto (off := -36) (tgt := 17) (zd (i := .goto (-36)) (n := 3) (by decide +kernel)) (by decide +kernel) (zj (hj 1) (by decide +kernel))
noncomputable def b_X7_lookFrom_5 : zBl := fun jp K => oIld 4 <| oIret K
theorem s_X7_lookFrom_5 (d : Nat) : zPb l G gh (d + 6) n_X7_lookFrom p_X7_lookFrom 56 b_X7_lookFrom_5 := fun K jp hj =>
    z_iload (i := 4) (zd (i := .iload 4) (n := 2) (by decide +kernel)) <|
    z_iret (zd (i := .ireturn) (n := 1) (by decide +kernel)) rfl
noncomputable def t_X7_lookFrom : List zBl := [b_X7_lookFrom_0, b_X7_lookFrom_1, b_X7_lookFrom_2, b_X7_lookFrom_3, b_X7_lookFrom_4, b_X7_lookFrom_5]
theorem tt_X7_lookFrom (d : Nat) : zT (zPb l G gh (d + 6) n_X7_lookFrom p_X7_lookFrom) t_X7_lookFrom p_X7_lookFrom := ⟨s_X7_lookFrom_0 d, s_X7_lookFrom_1 d, s_X7_lookFrom_2 d, s_X7_lookFrom_3 d, s_X7_lookFrom_4 d, s_X7_lookFrom_5 d, trivial⟩
def q_X7_lookFrom_0 : List (Nat × Nat) := [(249, zk6), (253, zk89), (254, zk99), (259, zk20), (265, zk2), (266, zk18), (267, zk18), (268, zk19), (269, zk3), (270, zk7)]
noncomputable def al_X7_lookFrom_0 : zAq := [(some (.inl 9223372043297226771), [(249, zk6), (253, zk89), (254, zk100), (259, zk20), (265, zk2), (266, zk18), (267, zk18), (268, zk19), (269, zk4), (270, zk9)])]
def mq_X7_lookFrom_0_1 : List (Nat × Nat) := [(249, zk6), (253, zk89), (254, zk100), (259, zk20), (265, zk2), (266, zk18), (267, zk18), (268, zk19), (269, zk4), (270, zk9)]
noncomputable def fm_X7_lookFrom_0 : List zFm := [(0, [], (fun vs => [.inr (.ref 249), .inr (.ref 259), .inl 8589934591]), (fun vs => zP q_X7_lookFrom_0), (fun vs => Nat.sub (Nat.add 21 0) 0)),
  (1, [(6, 2147483648, 2147483668)], (fun vs => [.inr (.ref 249), .inr (.ref 259), .inl 8589934591, .inl 9223372043297226851, .inl 9223372043297226771, .inl 9223372043297226933, .inl (zn 0 vs 0)]), (fun vs => zP mq_X7_lookFrom_0_1), (fun vs => Nat.sub (Nat.add 2147483668 0) (Nat.add 0 (Nat.mul 1 (zn 0 vs 0)))))]
def bf_X7_lookFrom_0 : List Nat := [0, 2]
theorem r_X7_lookFrom_0_0 : zbox [] (fun vs => zFrun (zpost (zAlq al_X7_lookFrom_0)) 1000 t_X7_lookFrom fm_X7_lookFrom_0 bf_X7_lookFrom_0 (0, vs)) = true := by decide +kernel
theorem r_X7_lookFrom_0_1 : zbox [(6, 2147483648, 2147483668)] (fun vs => zFrun (zpost (zAlq al_X7_lookFrom_0)) 1000 t_X7_lookFrom fm_X7_lookFrom_0 bf_X7_lookFrom_0 (1, vs)) = true := by decide +kernel
set_option maxRecDepth 100000 in
theorem x_X7_lookFrom_0 (d : Nat) : zS l G gh (d + 6) (zpost (zAlq al_X7_lookFrom_0)) n_X7_lookFrom (zn 0 p_X7_lookFrom 0) (zwc (0, [.inr (.ref 249), .inr (.ref 259), .inl 8589934591], zP q_X7_lookFrom_0) 0) := zentry (tt_X7_lookFrom d) fm_X7_lookFrom_0 bf_X7_lookFrom_0 1000 (by decide +kernel) rfl ⟨Nat.zero_lt_succ _, trivial⟩ (fun f hf => match f, hf with
  | 0, _ => fun vs hv => (zbox_t r_X7_lookFrom_0_0) vs hv
  | 1, _ => fun vs hv => (zbox_t r_X7_lookFrom_0_1) vs hv
  | f + 2, h => absurd (show f + 2 < 2 from h) (Nat.not_lt.mpr (Nat.le_add_left 2 f)))
noncomputable def gs_X7_lookFrom_0 : zMt := zgq false [] 8 [.inr (.ref 249), .inr (.ref 259), .inl 8589934591] q_X7_lookFrom_0 al_X7_lookFrom_0
set_option maxRecDepth 100000 in
theorem cs_X7_lookFrom_0 (d : Nat) : zC l G gh (d + 6) n_X7_lookFrom gs_X7_lookFrom_0 := zgq_ok0 (pcs := p_X7_lookFrom) (by decide) rfl rfl (fun a ha => by simp only [al_X7_lookFrom_0, List.mem_cons, List.not_mem_nil, or_false] at ha; rcases ha with rfl <;> decide +kernel) (fun gh => x_X7_lookFrom_0 d) (by decide +kernel)
def q_X7_lookFrom_1 : List (Nat × Nat) := [(9, zk21), (15, zk5), (16, zk18), (17, zk18), (18, zk19), (19, zk3), (20, zk7), (249, zk6), (253, zk89), (254, zk99)]
noncomputable def al_X7_lookFrom_1 : zAq := [(some (.inl 9223372043297226771), [(9, zk21), (15, zk5), (16, zk18), (17, zk18), (18, zk19), (19, zk4), (20, zk9), (249, zk6), (253, zk89), (254, zk100)])]
def mq_X7_lookFrom_1_1 : List (Nat × Nat) := [(9, zk21), (15, zk5), (16, zk18), (17, zk18), (18, zk19), (19, zk4), (20, zk9), (249, zk6), (253, zk89), (254, zk100)]
noncomputable def fm_X7_lookFrom_1 : List zFm := [(0, [], (fun vs => [.inr (.ref 249), .inr (.ref 9), .inl 8589934591]), (fun vs => zP q_X7_lookFrom_1), (fun vs => Nat.sub (Nat.add 21 0) 0)),
  (1, [(6, 2147483648, 2147483668)], (fun vs => [.inr (.ref 249), .inr (.ref 9), .inl 8589934591, .inl 9223372043297226851, .inl 9223372043297226771, .inl 9223372043297226933, .inl (zn 0 vs 0)]), (fun vs => zP mq_X7_lookFrom_1_1), (fun vs => Nat.sub (Nat.add 2147483668 0) (Nat.add 0 (Nat.mul 1 (zn 0 vs 0)))))]
def bf_X7_lookFrom_1 : List Nat := [0, 2]
theorem r_X7_lookFrom_1_0 : zbox [] (fun vs => zFrun (zpost (zAlq al_X7_lookFrom_1)) 1000 t_X7_lookFrom fm_X7_lookFrom_1 bf_X7_lookFrom_1 (0, vs)) = true := by decide +kernel
theorem r_X7_lookFrom_1_1 : zbox [(6, 2147483648, 2147483668)] (fun vs => zFrun (zpost (zAlq al_X7_lookFrom_1)) 1000 t_X7_lookFrom fm_X7_lookFrom_1 bf_X7_lookFrom_1 (1, vs)) = true := by decide +kernel
set_option maxRecDepth 100000 in
theorem x_X7_lookFrom_1 (d : Nat) : zS l G gh (d + 6) (zpost (zAlq al_X7_lookFrom_1)) n_X7_lookFrom (zn 0 p_X7_lookFrom 0) (zwc (0, [.inr (.ref 249), .inr (.ref 9), .inl 8589934591], zP q_X7_lookFrom_1) 0) := zentry (tt_X7_lookFrom d) fm_X7_lookFrom_1 bf_X7_lookFrom_1 1000 (by decide +kernel) rfl ⟨Nat.zero_lt_succ _, trivial⟩ (fun f hf => match f, hf with
  | 0, _ => fun vs hv => (zbox_t r_X7_lookFrom_1_0) vs hv
  | 1, _ => fun vs hv => (zbox_t r_X7_lookFrom_1_1) vs hv
  | f + 2, h => absurd (show f + 2 < 2 from h) (Nat.not_lt.mpr (Nat.le_add_left 2 f)))
noncomputable def gs_X7_lookFrom_1 : zMt := zgq false [] 8 [.inr (.ref 249), .inr (.ref 9), .inl 8589934591] q_X7_lookFrom_1 al_X7_lookFrom_1
set_option maxRecDepth 100000 in
theorem cs_X7_lookFrom_1 (d : Nat) : zC l G gh (d + 6) n_X7_lookFrom gs_X7_lookFrom_1 := zgq_ok0 (pcs := p_X7_lookFrom) (by decide) rfl rfl (fun a ha => by simp only [al_X7_lookFrom_1, List.mem_cons, List.not_mem_nil, or_false] at ha; rcases ha with rfl <;> decide +kernel) (fun gh => x_X7_lookFrom_1 d) (by decide +kernel)
noncomputable def gs_X7_lookFrom : zMt := (zor gs_X7_lookFrom_0 gs_X7_lookFrom_1)
theorem cs_X7_lookFrom (d : Nat) : zC l G gh (d + 6) n_X7_lookFrom gs_X7_lookFrom := (zor_ok (cs_X7_lookFrom_0 d) (cs_X7_lookFrom_1 d))
def p_X8_seat : List Nat := [0, 8, 10, 52, 62, 72, 100, 106, 115, 125, 135]
noncomputable def b_X8_seat_0 : zBl := fun jp K => oAld 0 <| oIld 1 <| oCv 8 1 f_X8_isSeat <| oIf zne zeq (jp 2) (jp 1)
theorem s_X8_seat_0 (d : Nat) : zPb l G gh (d + 7) n_X8_seat p_X8_seat 0 b_X8_seat_0 := fun K jp hj =>
    z_aload_n (n := 0) (i := 0) (zd (i := .aload_n 0) (n := 1) (by decide +kernel)) rfl <|
    z_iload_n (n := 1) (i := 1) (zd (i := .iload_n 1) (n := 1) (by decide +kernel)) rfl <|
    z_callV (idx := 131) (ci := 8) (N := n_X8_isSeat) (zd (i := .invokevirtual 131) (n := 3) (by decide +kernel)) to_X8_isSeat g771 g773 g23 (by decide +kernel) rfl rfl rfl (c_X8_isSeat (l := l) (G := G) (gh := gh) (d + 5)) <|
    z_if_ne (off := 5) (tgt := 10) (zd (i := .ifCond .ne (5)) (n := 3) (by decide +kernel)) (by decide +kernel) (zj (hj 2) (by decide +kernel)) (zj (hj 1) (by decide +kernel))
noncomputable def b_X8_seat_1 : zBl := fun jp K => oInt 2147483647 <| oIret K
theorem s_X8_seat_1 (d : Nat) : zPb l G gh (d + 7) n_X8_seat p_X8_seat 8 b_X8_seat_1 := fun K jp hj =>
    z_iconst (n := -1) (zd (i := .iconst (-1)) (n := 1) (by decide +kernel)) (by decide +kernel) <|
    z_iret (zd (i := .ireturn) (n := 1) (by decide +kernel)) rfl
noncomputable def b_X8_seat_2 : zBl := fun jp K => oIld 2 <| oTab 2147483648 [jp 3, jp 4, jp 5, jp 6, jp 7, jp 8, jp 9] (jp 10)
theorem s_X8_seat_2 (d : Nat) : zPb l G gh (d + 7) n_X8_seat p_X8_seat 10 b_X8_seat_2 := fun K jp hj =>
    z_iload_n (n := 2) (i := 2) (zd (i := .iload_n 2) (n := 1) (by decide +kernel)) rfl <|
    z_table (v := 2147483648) (df := 135) (len := 41) (x := 0) (dflt := 124) (lo := 0) (hi := 6) (offs := #[41, 51, 61, 89, 95, 104, 114]) (tgts := [52, 62, 72, 100, 106, 115, 125]) (zd (i := .tableswitch (124) (0) (6) #[41, 51, 61, 89, 95, 104, 114]) (n := 41) (by decide +kernel)) (by decide +kernel) rfl rfl (by decide +kernel) (by decide +kernel) (by decide +kernel) ⟨(zj (hj 3) (by decide +kernel)), (zj (hj 4) (by decide +kernel)), (zj (hj 5) (by decide +kernel)), (zj (hj 6) (by decide +kernel)), (zj (hj 7) (by decide +kernel)), (zj (hj 8) (by decide +kernel)), (zj (hj 9) (by decide +kernel)), trivial⟩ (zj (hj 10) (by decide +kernel))
noncomputable def b_X8_seat_3 : zBl := fun jp K => oAld 0 <| oGetR 8 2 <| oGetR 4 1 <| oIld 1 <| oXald 10 <| oIret K
theorem s_X8_seat_3 (d : Nat) : zPb l G gh (d + 7) n_X8_seat p_X8_seat 52 b_X8_seat_3 := fun K jp hj =>
    z_aload_n (n := 0) (i := 0) (zd (i := .aload_n 0) (n := 1) (by decide +kernel)) rfl <|
    z_getR (ci := 8) (j := 2) (idx := 26) (zd (i := .getfield 26) (n := 3) (by decide +kernel)) (by decide +kernel) (by decide +kernel) rfl g454 <|
    z_getR (ci := 4) (j := 1) (idx := 134) (zd (i := .getfield 134) (n := 3) (by decide +kernel)) (by decide +kernel) (by decide +kernel) rfl g371 <|
    z_iload_n (n := 1) (i := 1) (zd (i := .iload_n 1) (n := 1) (by decide +kernel)) rfl <|
    z_iald (zd (i := .iaload) (n := 1) (by decide +kernel)) <|
    z_iret (zd (i := .ireturn) (n := 1) (by decide +kernel)) rfl
noncomputable def b_X8_seat_4 : zBl := fun jp K => oAld 0 <| oGetR 8 2 <| oGetR 4 2 <| oIld 1 <| oXald 10 <| oIret K
theorem s_X8_seat_4 (d : Nat) : zPb l G gh (d + 7) n_X8_seat p_X8_seat 62 b_X8_seat_4 := fun K jp hj =>
    z_aload_n (n := 0) (i := 0) (zd (i := .aload_n 0) (n := 1) (by decide +kernel)) rfl <|
    z_getR (ci := 8) (j := 2) (idx := 26) (zd (i := .getfield 26) (n := 3) (by decide +kernel)) (by decide +kernel) (by decide +kernel) rfl g454 <|
    z_getR (ci := 4) (j := 2) (idx := 137) (zd (i := .getfield 137) (n := 3) (by decide +kernel)) (by decide +kernel) (by decide +kernel) rfl g374 <|
    z_iload_n (n := 1) (i := 1) (zd (i := .iload_n 1) (n := 1) (by decide +kernel)) rfl <|
    z_iald (zd (i := .iaload) (n := 1) (by decide +kernel)) <|
    z_iret (zd (i := .ireturn) (n := 1) (by decide +kernel)) rfl
noncomputable def b_X8_seat_5 : zBl := fun jp K => oAld 0 <| oAld 0 <| oGetR 8 2 <| oGetR 4 1 <| oIld 1 <| oXald 10 <| oAld 0 <| oGetR 8 12 <| oAld 0 <| oGetR 8 2 <| oGetI 4 0 <| oCv 0 1 f_X0_heat <| oCv 8 2 f_X8_thingsSeenFrom <| oIret K
theorem s_X8_seat_5 (d : Nat) : zPb l G gh (d + 7) n_X8_seat p_X8_seat 72 b_X8_seat_5 := fun K jp hj =>
    z_aload_n (n := 0) (i := 0) (zd (i := .aload_n 0) (n := 1) (by decide +kernel)) rfl <|
    z_aload_n (n := 0) (i := 0) (zd (i := .aload_n 0) (n := 1) (by decide +kernel)) rfl <|
    z_getR (ci := 8) (j := 2) (idx := 26) (zd (i := .getfield 26) (n := 3) (by decide +kernel)) (by decide +kernel) (by decide +kernel) rfl g454 <|
    z_getR (ci := 4) (j := 1) (idx := 134) (zd (i := .getfield 134) (n := 3) (by decide +kernel)) (by decide +kernel) (by decide +kernel) rfl g371 <|
    z_iload_n (n := 1) (i := 1) (zd (i := .iload_n 1) (n := 1) (by decide +kernel)) rfl <|
    z_iald (zd (i := .iaload) (n := 1) (by decide +kernel)) <|
    z_aload_n (n := 0) (i := 0) (zd (i := .aload_n 0) (n := 1) (by decide +kernel)) rfl <|
    z_getR (ci := 8) (j := 12) (idx := 71) (zd (i := .getfield 71) (n := 3) (by decide +kernel)) (by decide +kernel) (by decide +kernel) rfl g464 <|
    z_aload_n (n := 0) (i := 0) (zd (i := .aload_n 0) (n := 1) (by decide +kernel)) rfl <|
    z_getR (ci := 8) (j := 2) (idx := 26) (zd (i := .getfield 26) (n := 3) (by decide +kernel)) (by decide +kernel) (by decide +kernel) rfl g454 <|
    z_getI (ci := 4) (j := 0) (idx := 140) (zd (i := .getfield 140) (n := 3) (by decide +kernel)) (by decide +kernel) (by decide +kernel) rfl g368 <|
    z_callV (idx := 143) (ci := 0) (N := n_X0_heat) (zd (i := .invokevirtual 143) (n := 3) (by decide +kernel)) to_X0_heat g716 g717 g718 (by decide +kernel) rfl rfl rfl (c_X0_heat (l := l) (G := G) (gh := gh) (d + 2)) <|
    z_callV (idx := 146) (ci := 8) (N := n_X8_thingsSeenFrom) (zd (i := .invokevirtual 146) (n := 3) (by decide +kernel)) to_X8_thingsSeenFrom g775 g777 g24 (by decide +kernel) rfl rfl rfl (c_X8_thingsSeenFrom (l := l) (G := G) (gh := gh) (d)) <|
    z_iret (zd (i := .ireturn) (n := 1) (by decide +kernel)) rfl
noncomputable def b_X8_seat_6 : zBl := fun jp K => oAld 0 <| oIld 1 <| oCv 8 1 gs_X8_thingsLentOn <| oIret K
theorem s_X8_seat_6 (d : Nat) : zPb l G gh (d + 7) n_X8_seat p_X8_seat 100 b_X8_seat_6 := fun K jp hj =>
    z_aload_n (n := 0) (i := 0) (zd (i := .aload_n 0) (n := 1) (by decide +kernel)) rfl <|
    z_iload_n (n := 1) (i := 1) (zd (i := .iload_n 1) (n := 1) (by decide +kernel)) rfl <|
    z_callV (idx := 150) (ci := 8) (N := n_X8_thingsLentOn) (zd (i := .invokevirtual 150) (n := 3) (by decide +kernel)) to_X8_thingsLentOn g784 g786 g25 (by decide +kernel) rfl rfl rfl (cs_X8_thingsLentOn (l := l) (G := G) (gh := gh) (d + 4)) <|
    z_iret (zd (i := .ireturn) (n := 1) (by decide +kernel)) rfl
noncomputable def b_X8_seat_7 : zBl := fun jp K => oAld 0 <| oGetR 8 2 <| oIld 1 <| oCv 4 1 gs_X4_lentBy <| oIret K
theorem s_X8_seat_7 (d : Nat) : zPb l G gh (d + 7) n_X8_seat p_X8_seat 106 b_X8_seat_7 := fun K jp hj =>
    z_aload_n (n := 0) (i := 0) (zd (i := .aload_n 0) (n := 1) (by decide +kernel)) rfl <|
    z_getR (ci := 8) (j := 2) (idx := 26) (zd (i := .getfield 26) (n := 3) (by decide +kernel)) (by decide +kernel) (by decide +kernel) rfl g454 <|
    z_iload_n (n := 1) (i := 1) (zd (i := .iload_n 1) (n := 1) (by decide +kernel)) rfl <|
    z_callV (idx := 153) (ci := 4) (N := n_X4_lentBy) (zd (i := .invokevirtual 153) (n := 3) (by decide +kernel)) to_X4_lentBy g788 g789 g790 (by decide +kernel) rfl rfl rfl (cs_X4_lentBy (l := l) (G := G) (gh := gh) (d + 4)) <|
    z_iret (zd (i := .ireturn) (n := 1) (by decide +kernel)) rfl
noncomputable def b_X8_seat_8 : zBl := fun jp K => oAld 0 <| oGetR 8 2 <| oGetR 4 3 <| oIld 1 <| oXald 10 <| oIret K
theorem s_X8_seat_8 (d : Nat) : zPb l G gh (d + 7) n_X8_seat p_X8_seat 115 b_X8_seat_8 := fun K jp hj =>
    z_aload_n (n := 0) (i := 0) (zd (i := .aload_n 0) (n := 1) (by decide +kernel)) rfl <|
    z_getR (ci := 8) (j := 2) (idx := 26) (zd (i := .getfield 26) (n := 3) (by decide +kernel)) (by decide +kernel) (by decide +kernel) rfl g454 <|
    z_getR (ci := 4) (j := 3) (idx := 156) (zd (i := .getfield 156) (n := 3) (by decide +kernel)) (by decide +kernel) (by decide +kernel) rfl g377 <|
    z_iload_n (n := 1) (i := 1) (zd (i := .iload_n 1) (n := 1) (by decide +kernel)) rfl <|
    z_iald (zd (i := .iaload) (n := 1) (by decide +kernel)) <|
    z_iret (zd (i := .ireturn) (n := 1) (by decide +kernel)) rfl
noncomputable def b_X8_seat_9 : zBl := fun jp K => oAld 0 <| oGetR 8 2 <| oGetR 4 4 <| oIld 1 <| oXald 10 <| oIret K
theorem s_X8_seat_9 (d : Nat) : zPb l G gh (d + 7) n_X8_seat p_X8_seat 125 b_X8_seat_9 := fun K jp hj =>
    z_aload_n (n := 0) (i := 0) (zd (i := .aload_n 0) (n := 1) (by decide +kernel)) rfl <|
    z_getR (ci := 8) (j := 2) (idx := 26) (zd (i := .getfield 26) (n := 3) (by decide +kernel)) (by decide +kernel) (by decide +kernel) rfl g454 <|
    z_getR (ci := 4) (j := 4) (idx := 159) (zd (i := .getfield 159) (n := 3) (by decide +kernel)) (by decide +kernel) (by decide +kernel) rfl g380 <|
    z_iload_n (n := 1) (i := 1) (zd (i := .iload_n 1) (n := 1) (by decide +kernel)) rfl <|
    z_iald (zd (i := .iaload) (n := 1) (by decide +kernel)) <|
    z_iret (zd (i := .ireturn) (n := 1) (by decide +kernel)) rfl
noncomputable def b_X8_seat_10 : zBl := fun jp K => oInt 2147483647 <| oIret K
theorem s_X8_seat_10 (d : Nat) : zPb l G gh (d + 7) n_X8_seat p_X8_seat 135 b_X8_seat_10 := fun K jp hj =>
    z_iconst (n := -1) (zd (i := .iconst (-1)) (n := 1) (by decide +kernel)) (by decide +kernel) <|
    z_iret (zd (i := .ireturn) (n := 1) (by decide +kernel)) rfl
noncomputable def t_X8_seat : List zBl := [b_X8_seat_0, b_X8_seat_1, b_X8_seat_2, b_X8_seat_3, b_X8_seat_4, b_X8_seat_5, b_X8_seat_6, b_X8_seat_7, b_X8_seat_8, b_X8_seat_9, b_X8_seat_10]
theorem tt_X8_seat (d : Nat) : zT (zPb l G gh (d + 7) n_X8_seat p_X8_seat) t_X8_seat p_X8_seat := ⟨s_X8_seat_0 d, s_X8_seat_1 d, s_X8_seat_2 d, s_X8_seat_3 d, s_X8_seat_4 d, s_X8_seat_5 d, s_X8_seat_6 d, s_X8_seat_7 d, s_X8_seat_8 d, s_X8_seat_9 d, s_X8_seat_10 d, trivial⟩
def q_X8_seat_0 : List (Nat × Nat) := [(0, zk0), (21, zk10), (22, zk12), (23, zk12), (24, zk12), (25, zk12), (26, zk11), (259, zk20), (261, zk12), (262, zk12), (265, zk2), (266, zk18), (267, zk18), (268, zk19), (269, zk3), (270, zk7)]
noncomputable def al_X8_seat_0 : zAq := [(some (.inl 8589934591), [(0, zk0), (21, zk10), (22, zk12), (23, zk12), (24, zk12), (25, zk12), (26, zk11), (259, zk20), (261, zk12), (262, zk12), (265, zk2), (266, zk18), (267, zk18), (268, zk19), (269, zk4), (270, zk9)])]
noncomputable def fm_X8_seat_0 : List zFm := [(0, [], (fun vs => [.inr (.ref 0), .inl 9223372043297226757, .inl 8589934591]), (fun vs => zP q_X8_seat_0), (fun vs => Nat.sub (Nat.add 0 0) 0))]
def bf_X8_seat_0 : List Nat := []
theorem r_X8_seat_0_0 : zbox [] (fun vs => zFrun (zpost (zAlq al_X8_seat_0)) 1000 t_X8_seat fm_X8_seat_0 bf_X8_seat_0 (0, vs)) = true := by decide +kernel
set_option maxRecDepth 100000 in
theorem x_X8_seat_0 (d : Nat) : zS l G gh (d + 7) (zpost (zAlq al_X8_seat_0)) n_X8_seat (zn 0 p_X8_seat 0) (zwc (0, [.inr (.ref 0), .inl 9223372043297226757, .inl 8589934591], zP q_X8_seat_0) 0) := zentry (tt_X8_seat d) fm_X8_seat_0 bf_X8_seat_0 1000 (by decide +kernel) rfl ⟨Nat.zero_lt_succ _, trivial⟩ (fun f hf => match f, hf with
  | 0, _ => fun vs hv => (zbox_t r_X8_seat_0_0) vs hv
  | f + 1, h => absurd (show f + 1 < 1 from h) (Nat.not_lt.mpr (Nat.le_add_left 1 f)))
noncomputable def gs_X8_seat_0 : zMt := zgq false [] 3 [.inr (.ref 0), .inl 9223372043297226757, .inl 8589934591] q_X8_seat_0 al_X8_seat_0
set_option maxRecDepth 100000 in
theorem cs_X8_seat_0 (d : Nat) : zC l G gh (d + 7) n_X8_seat gs_X8_seat_0 := zgq_ok0 (pcs := p_X8_seat) (by decide) rfl rfl (fun a ha => by simp only [al_X8_seat_0, List.mem_cons, List.not_mem_nil, or_false] at ha; rcases ha with rfl <;> decide +kernel) (fun gh => x_X8_seat_0 d) (by decide +kernel)
def q_X8_seat_1 : List (Nat × Nat) := [(0, zk0)]
noncomputable def al_X8_seat_1 : zAq := [(some (.inl 2147483647), [(0, zk0)])]
noncomputable def fm_X8_seat_1 : List zFm := [(0, [], (fun vs => [.inr (.ref 0), .inl 6442450943, .inl 8589934591]), (fun vs => zP q_X8_seat_1), (fun vs => Nat.sub (Nat.add 0 0) 0))]
def bf_X8_seat_1 : List Nat := []
theorem r_X8_seat_1_0 : zbox [] (fun vs => zFrun (zpost (zAlq al_X8_seat_1)) 1000 t_X8_seat fm_X8_seat_1 bf_X8_seat_1 (0, vs)) = true := by decide +kernel
set_option maxRecDepth 100000 in
theorem x_X8_seat_1 (d : Nat) : zS l G gh (d + 7) (zpost (zAlq al_X8_seat_1)) n_X8_seat (zn 0 p_X8_seat 0) (zwc (0, [.inr (.ref 0), .inl 6442450943, .inl 8589934591], zP q_X8_seat_1) 0) := zentry (tt_X8_seat d) fm_X8_seat_1 bf_X8_seat_1 1000 (by decide +kernel) rfl ⟨Nat.zero_lt_succ _, trivial⟩ (fun f hf => match f, hf with
  | 0, _ => fun vs hv => (zbox_t r_X8_seat_1_0) vs hv
  | f + 1, h => absurd (show f + 1 < 1 from h) (Nat.not_lt.mpr (Nat.le_add_left 1 f)))
noncomputable def gs_X8_seat_1 : zMt := zgq false [] 3 [.inr (.ref 0), .inl 6442450943, .inl 8589934591] q_X8_seat_1 al_X8_seat_1
set_option maxRecDepth 100000 in
theorem cs_X8_seat_1 (d : Nat) : zC l G gh (d + 7) n_X8_seat gs_X8_seat_1 := zgq_ok0 (pcs := p_X8_seat) (by decide) rfl rfl (fun a ha => by simp only [al_X8_seat_1, List.mem_cons, List.not_mem_nil, or_false] at ha; rcases ha with rfl <;> decide +kernel) (fun gh => x_X8_seat_1 d) (by decide +kernel)
def q_X8_seat_2 : List (Nat × Nat) := [(0, zk0), (259, zk20)]
noncomputable def al_X8_seat_2 : zAq := [(some (.inl 2147483647), [(0, zk0), (259, zk20)])]
noncomputable def fm_X8_seat_2 : List zFm := [(0, [], (fun vs => [.inr (.ref 0), .inl 9223372071214514175, .inl 8589934591]), (fun vs => zP q_X8_seat_2), (fun vs => Nat.sub (Nat.add 0 0) 0))]
def bf_X8_seat_2 : List Nat := []
theorem r_X8_seat_2_0 : zbox [] (fun vs => zFrun (zpost (zAlq al_X8_seat_2)) 1000 t_X8_seat fm_X8_seat_2 bf_X8_seat_2 (0, vs)) = true := by decide +kernel
set_option maxRecDepth 100000 in
theorem x_X8_seat_2 (d : Nat) : zS l G gh (d + 7) (zpost (zAlq al_X8_seat_2)) n_X8_seat (zn 0 p_X8_seat 0) (zwc (0, [.inr (.ref 0), .inl 9223372071214514175, .inl 8589934591], zP q_X8_seat_2) 0) := zentry (tt_X8_seat d) fm_X8_seat_2 bf_X8_seat_2 1000 (by decide +kernel) rfl ⟨Nat.zero_lt_succ _, trivial⟩ (fun f hf => match f, hf with
  | 0, _ => fun vs hv => (zbox_t r_X8_seat_2_0) vs hv
  | f + 1, h => absurd (show f + 1 < 1 from h) (Nat.not_lt.mpr (Nat.le_add_left 1 f)))
noncomputable def gs_X8_seat_2 : zMt := zgq false [] 3 [.inr (.ref 0), .inl 9223372071214514175, .inl 8589934591] q_X8_seat_2 al_X8_seat_2
set_option maxRecDepth 100000 in
theorem cs_X8_seat_2 (d : Nat) : zC l G gh (d + 7) n_X8_seat gs_X8_seat_2 := zgq_ok0 (pcs := p_X8_seat) (by decide) rfl rfl (fun a ha => by simp only [al_X8_seat_2, List.mem_cons, List.not_mem_nil, or_false] at ha; rcases ha with rfl <;> decide +kernel) (fun gh => x_X8_seat_2 d) (by decide +kernel)
def q_X8_seat_3 : List (Nat × Nat) := [(0, zk1), (9, zk21), (11, zk12), (12, zk12), (15, zk5), (16, zk18), (17, zk18), (18, zk19), (19, zk3), (20, zk7), (21, zk10), (22, zk12), (23, zk12), (24, zk12), (25, zk12), (26, zk11)]
noncomputable def al_X8_seat_3 : zAq := [(some (.inl 8589934591), [(0, zk1), (9, zk21), (11, zk12), (12, zk12), (15, zk5), (16, zk18), (17, zk18), (18, zk19), (19, zk4), (20, zk9), (21, zk10), (22, zk12), (23, zk12), (24, zk12), (25, zk12), (26, zk11)])]
noncomputable def fm_X8_seat_3 : List zFm := [(0, [], (fun vs => [.inr (.ref 0), .inl 9223372043297226757, .inl 8589934591]), (fun vs => zP q_X8_seat_3), (fun vs => Nat.sub (Nat.add 0 0) 0))]
def bf_X8_seat_3 : List Nat := []
theorem r_X8_seat_3_0 : zbox [] (fun vs => zFrun (zpost (zAlq al_X8_seat_3)) 1000 t_X8_seat fm_X8_seat_3 bf_X8_seat_3 (0, vs)) = true := by decide +kernel
set_option maxRecDepth 100000 in
theorem x_X8_seat_3 (d : Nat) : zS l G gh (d + 7) (zpost (zAlq al_X8_seat_3)) n_X8_seat (zn 0 p_X8_seat 0) (zwc (0, [.inr (.ref 0), .inl 9223372043297226757, .inl 8589934591], zP q_X8_seat_3) 0) := zentry (tt_X8_seat d) fm_X8_seat_3 bf_X8_seat_3 1000 (by decide +kernel) rfl ⟨Nat.zero_lt_succ _, trivial⟩ (fun f hf => match f, hf with
  | 0, _ => fun vs hv => (zbox_t r_X8_seat_3_0) vs hv
  | f + 1, h => absurd (show f + 1 < 1 from h) (Nat.not_lt.mpr (Nat.le_add_left 1 f)))
noncomputable def gs_X8_seat_3 : zMt := zgq false [] 3 [.inr (.ref 0), .inl 9223372043297226757, .inl 8589934591] q_X8_seat_3 al_X8_seat_3
set_option maxRecDepth 100000 in
theorem cs_X8_seat_3 (d : Nat) : zC l G gh (d + 7) n_X8_seat gs_X8_seat_3 := zgq_ok0 (pcs := p_X8_seat) (by decide) rfl rfl (fun a ha => by simp only [al_X8_seat_3, List.mem_cons, List.not_mem_nil, or_false] at ha; rcases ha with rfl <;> decide +kernel) (fun gh => x_X8_seat_3 d) (by decide +kernel)
def q_X8_seat_4 : List (Nat × Nat) := [(0, zk1)]
noncomputable def al_X8_seat_4 : zAq := [(some (.inl 2147483647), [(0, zk1)])]
noncomputable def fm_X8_seat_4 : List zFm := [(0, [], (fun vs => [.inr (.ref 0), .inl 6442450943, .inl 8589934591]), (fun vs => zP q_X8_seat_4), (fun vs => Nat.sub (Nat.add 0 0) 0))]
def bf_X8_seat_4 : List Nat := []
theorem r_X8_seat_4_0 : zbox [] (fun vs => zFrun (zpost (zAlq al_X8_seat_4)) 1000 t_X8_seat fm_X8_seat_4 bf_X8_seat_4 (0, vs)) = true := by decide +kernel
set_option maxRecDepth 100000 in
theorem x_X8_seat_4 (d : Nat) : zS l G gh (d + 7) (zpost (zAlq al_X8_seat_4)) n_X8_seat (zn 0 p_X8_seat 0) (zwc (0, [.inr (.ref 0), .inl 6442450943, .inl 8589934591], zP q_X8_seat_4) 0) := zentry (tt_X8_seat d) fm_X8_seat_4 bf_X8_seat_4 1000 (by decide +kernel) rfl ⟨Nat.zero_lt_succ _, trivial⟩ (fun f hf => match f, hf with
  | 0, _ => fun vs hv => (zbox_t r_X8_seat_4_0) vs hv
  | f + 1, h => absurd (show f + 1 < 1 from h) (Nat.not_lt.mpr (Nat.le_add_left 1 f)))
noncomputable def gs_X8_seat_4 : zMt := zgq false [] 3 [.inr (.ref 0), .inl 6442450943, .inl 8589934591] q_X8_seat_4 al_X8_seat_4
set_option maxRecDepth 100000 in
theorem cs_X8_seat_4 (d : Nat) : zC l G gh (d + 7) n_X8_seat gs_X8_seat_4 := zgq_ok0 (pcs := p_X8_seat) (by decide) rfl rfl (fun a ha => by simp only [al_X8_seat_4, List.mem_cons, List.not_mem_nil, or_false] at ha; rcases ha with rfl <;> decide +kernel) (fun gh => x_X8_seat_4 d) (by decide +kernel)
def q_X8_seat_5 : List (Nat × Nat) := [(0, zk1), (9, zk21)]
noncomputable def al_X8_seat_5 : zAq := [(some (.inl 2147483647), [(0, zk1), (9, zk21)])]
noncomputable def fm_X8_seat_5 : List zFm := [(0, [], (fun vs => [.inr (.ref 0), .inl 9223372071214514175, .inl 8589934591]), (fun vs => zP q_X8_seat_5), (fun vs => Nat.sub (Nat.add 0 0) 0))]
def bf_X8_seat_5 : List Nat := []
theorem r_X8_seat_5_0 : zbox [] (fun vs => zFrun (zpost (zAlq al_X8_seat_5)) 1000 t_X8_seat fm_X8_seat_5 bf_X8_seat_5 (0, vs)) = true := by decide +kernel
set_option maxRecDepth 100000 in
theorem x_X8_seat_5 (d : Nat) : zS l G gh (d + 7) (zpost (zAlq al_X8_seat_5)) n_X8_seat (zn 0 p_X8_seat 0) (zwc (0, [.inr (.ref 0), .inl 9223372071214514175, .inl 8589934591], zP q_X8_seat_5) 0) := zentry (tt_X8_seat d) fm_X8_seat_5 bf_X8_seat_5 1000 (by decide +kernel) rfl ⟨Nat.zero_lt_succ _, trivial⟩ (fun f hf => match f, hf with
  | 0, _ => fun vs hv => (zbox_t r_X8_seat_5_0) vs hv
  | f + 1, h => absurd (show f + 1 < 1 from h) (Nat.not_lt.mpr (Nat.le_add_left 1 f)))
noncomputable def gs_X8_seat_5 : zMt := zgq false [] 3 [.inr (.ref 0), .inl 9223372071214514175, .inl 8589934591] q_X8_seat_5 al_X8_seat_5
set_option maxRecDepth 100000 in
theorem cs_X8_seat_5 (d : Nat) : zC l G gh (d + 7) n_X8_seat gs_X8_seat_5 := zgq_ok0 (pcs := p_X8_seat) (by decide) rfl rfl (fun a ha => by simp only [al_X8_seat_5, List.mem_cons, List.not_mem_nil, or_false] at ha; rcases ha with rfl <;> decide +kernel) (fun gh => x_X8_seat_5 d) (by decide +kernel)
noncomputable def gs_X8_seat : zMt := (zor gs_X8_seat_0 (zor gs_X8_seat_1 (zor gs_X8_seat_2 (zor gs_X8_seat_3 (zor gs_X8_seat_4 gs_X8_seat_5)))))
theorem cs_X8_seat (d : Nat) : zC l G gh (d + 7) n_X8_seat gs_X8_seat := (zor_ok (cs_X8_seat_0 d) (zor_ok (cs_X8_seat_1 d) (zor_ok (cs_X8_seat_2 d) (zor_ok (cs_X8_seat_3 d) (zor_ok (cs_X8_seat_4 d) (cs_X8_seat_5 d))))))
def p_X8_clash : List Nat := [0, 4, 9, 11, 23, 35, 41, 53, 64, 68, 79, 80, 84, 90, 96, 100, 104, 105]
noncomputable def b_X8_clash_0 : zBl := fun jp K => oNLC 1 2147483648 zltN zgeN zn1_lt zn1_ge (jp 2) (jp 1)
theorem s_X8_clash_0 (d : Nat) : zPb l G gh (d + 7) n_X8_clash p_X8_clash 0 b_X8_clash_0 := fun K jp hj =>
    z_nL0_lt (i := 1) (a1 := 1) (off := 8) (tgt := 9) (zLd_n (n := 1) (i := 1) (zd (i := .iload_n 1) (n := 1) (by decide +kernel)) rfl) (zd (i := .ifCond .lt (8)) (n := 3) (by decide +kernel)) (by decide +kernel) (zj (hj 2) (by decide +kernel)) (zj (hj 1) (by decide +kernel))
noncomputable def b_X8_clash_1 : zBl := fun jp K => oNLC 1 2147483649 zleN zgtN zn1_le zn1_gt (jp 3) (jp 2)
theorem s_X8_clash_1 (d : Nat) : zPb l G gh (d + 7) n_X8_clash p_X8_clash 4 b_X8_clash_1 := fun K jp hj =>
    z_nLC_le (i := 1) (c0 := 2147483649) (a1 := 1) (a2 := 1) (off := 5) (tgt := 11) (zLd_n (n := 1) (i := 1) (zd (i := .iload_n 1) (n := 1) (by decide +kernel)) rfl) (zCn_c (n := 1) (zd (i := .iconst (1)) (n := 1) (by decide +kernel)) (by decide +kernel)) (zd (i := .if_icmp .le (5)) (n := 3) (by decide +kernel)) (by decide +kernel) (zj (hj 3) (by decide +kernel)) (zj (hj 2) (by decide +kernel))
noncomputable def b_X8_clash_2 : zBl := fun jp K => oInt 2147483647 <| oIret K
theorem s_X8_clash_2 (d : Nat) : zPb l G gh (d + 7) n_X8_clash p_X8_clash 9 b_X8_clash_2 := fun K jp hj =>
    z_iconst (n := -1) (zd (i := .iconst (-1)) (n := 1) (by decide +kernel)) (by decide +kernel) <|
    z_iret (zd (i := .ireturn) (n := 1) (by decide +kernel)) rfl
noncomputable def b_X8_clash_3 : zBl := fun jp K => oAld 0 <| oCv 8 0 gs_X8_findSpotsLentOn <| oInt 2147483648 <| oIst 2 <| oInt 2147483646 <| oIst 3 <| oInt 2147483648 <| oIst 4 <| jp 4
theorem s_X8_clash_3 (d : Nat) : zPb l G gh (d + 7) n_X8_clash p_X8_clash 11 b_X8_clash_3 := fun K jp hj =>
    z_aload_n (n := 0) (i := 0) (zd (i := .aload_n 0) (n := 1) (by decide +kernel)) rfl <|
    z_callV (idx := 227) (ci := 8) (N := n_X8_findSpotsLentOn) (zd (i := .invokevirtual 227) (n := 3) (by decide +kernel)) to_X8_findSpotsLentOn g915 g917 g29 (by decide +kernel) rfl rfl rfl (cs_X8_findSpotsLentOn (l := l) (G := G) (gh := gh) (d)) <|
    z_iconst (n := 0) (zd (i := .iconst (0)) (n := 1) (by decide +kernel)) (by decide +kernel) <|
    z_istore_n (n := 2) (i := 2) (zd (i := .istore_n 2) (n := 1) (by decide +kernel)) rfl (by decide +kernel) <|
    z_bipush (n := -2) (zd (i := .bipush (-2)) (n := 2) (by decide +kernel)) (by decide +kernel) <|
    z_istore_n (n := 3) (i := 3) (zd (i := .istore_n 3) (n := 1) (by decide +kernel)) rfl (by decide +kernel) <|
    z_iconst (n := 0) (zd (i := .iconst (0)) (n := 1) (by decide +kernel)) (by decide +kernel) <|
    z_istore (i := 4) (zd (i := .istore 4) (n := 2) (by decide +kernel)) (by decide +kernel) <|
    (zj (hj 4) (by decide +kernel))
noncomputable def b_X8_clash_4 : zBl := fun jp K => oIld 4 <| oAld 0 <| oGetR 8 12 <| oGetI 0 5 <| oIc zge zlt (jp 14) (jp 5)
theorem s_X8_clash_4 (d : Nat) : zPb l G gh (d + 7) n_X8_clash p_X8_clash 23 b_X8_clash_4 := fun K jp hj =>
    z_iload (i := 4) (zd (i := .iload 4) (n := 2) (by decide +kernel)) <|
    z_aload_n (n := 0) (i := 0) (zd (i := .aload_n 0) (n := 1) (by decide +kernel)) rfl <|
    z_getR (ci := 8) (j := 12) (idx := 71) (zd (i := .getfield 71) (n := 3) (by decide +kernel)) (by decide +kernel) (by decide +kernel) rfl g464 <|
    z_getI (ci := 0) (j := 5) (idx := 230) (zd (i := .getfield 230) (n := 3) (by decide +kernel)) (by decide +kernel) (by decide +kernel) rfl g288 <|
    z_icmp_ge (off := 64) (tgt := 96) (zd (i := .if_icmp .ge (64)) (n := 3) (by decide +kernel)) (by decide +kernel) (zj (hj 14) (by decide +kernel)) (zj (hj 5) (by decide +kernel))
noncomputable def b_X8_clash_5 : zBl := fun jp K => oIld 4 <| oInt 2147483649 <| oB2 zadd <| oIst 5 <| jp 6
theorem s_X8_clash_5 (d : Nat) : zPb l G gh (d + 7) n_X8_clash p_X8_clash 35 b_X8_clash_5 := fun K jp hj =>
    z_iload (i := 4) (zd (i := .iload 4) (n := 2) (by decide +kernel)) <|
    z_iconst (n := 1) (zd (i := .iconst (1)) (n := 1) (by decide +kernel)) (by decide +kernel) <|
    z_iadd (zd (i := .iadd) (n := 1) (by decide +kernel)) <|
    z_istore (i := 5) (zd (i := .istore 5) (n := 2) (by decide +kernel)) (by decide +kernel) <|
    (zj (hj 6) (by decide +kernel))
noncomputable def b_X8_clash_6 : zBl := fun jp K => oIld 5 <| oAld 0 <| oGetR 8 12 <| oGetI 0 5 <| oIc zge zlt (jp 13) (jp 7)
theorem s_X8_clash_6 (d : Nat) : zPb l G gh (d + 7) n_X8_clash p_X8_clash 41 b_X8_clash_6 := fun K jp hj =>
    z_iload (i := 5) (zd (i := .iload 5) (n := 2) (by decide +kernel)) <|
    z_aload_n (n := 0) (i := 0) (zd (i := .aload_n 0) (n := 1) (by decide +kernel)) rfl <|
    z_getR (ci := 8) (j := 12) (idx := 71) (zd (i := .getfield 71) (n := 3) (by decide +kernel)) (by decide +kernel) (by decide +kernel) rfl g464 <|
    z_getI (ci := 0) (j := 5) (idx := 230) (zd (i := .getfield 230) (n := 3) (by decide +kernel)) (by decide +kernel) (by decide +kernel) rfl g288 <|
    z_icmp_ge (off := 40) (tgt := 90) (zd (i := .if_icmp .ge (40)) (n := 3) (by decide +kernel)) (by decide +kernel) (zj (hj 13) (by decide +kernel)) (zj (hj 7) (by decide +kernel))
noncomputable def b_X8_clash_7 : zBl := fun jp K => oAld 0 <| oIld 4 <| oIld 5 <| oCv 8 2 gs_X8_titlesClash <| oIf zeq zne (jp 12) (jp 8)
theorem s_X8_clash_7 (d : Nat) : zPb l G gh (d + 7) n_X8_clash p_X8_clash 53 b_X8_clash_7 := fun K jp hj =>
    z_aload_n (n := 0) (i := 0) (zd (i := .aload_n 0) (n := 1) (by decide +kernel)) rfl <|
    z_iload (i := 4) (zd (i := .iload 4) (n := 2) (by decide +kernel)) <|
    z_iload (i := 5) (zd (i := .iload 5) (n := 2) (by decide +kernel)) <|
    z_callV (idx := 233) (ci := 8) (N := n_X8_titlesClash) (zd (i := .invokevirtual 233) (n := 3) (by decide +kernel)) to_X8_titlesClash g919 g921 g30 (by decide +kernel) rfl rfl rfl (cs_X8_titlesClash (l := l) (G := G) (gh := gh) (d + 4)) <|
    z_if_eq (off := 23) (tgt := 84) (zd (i := .ifCond .eq (23)) (n := 3) (by decide +kernel)) (by decide +kernel) (zj (hj 12) (by decide +kernel)) (zj (hj 8) (by decide +kernel))
noncomputable def b_X8_clash_8 : zBl := fun jp K => oNLC 2 2147483648 zneN zeqN zn1_ne zn1_eq (jp 10) (jp 9)
theorem s_X8_clash_8 (d : Nat) : zPb l G gh (d + 7) n_X8_clash p_X8_clash 64 b_X8_clash_8 := fun K jp hj =>
    z_nL0_ne (i := 2) (a1 := 1) (off := 14) (tgt := 79) (zLd_n (n := 2) (i := 2) (zd (i := .iload_n 2) (n := 1) (by decide +kernel)) rfl) (zd (i := .ifCond .ne (14)) (n := 3) (by decide +kernel)) (by decide +kernel) (zj (hj 10) (by decide +kernel)) (zj (hj 9) (by decide +kernel))
noncomputable def b_X8_clash_9 : zBl := fun jp K => oInt 2147483658 <| oIld 4 <| oB2 zimul <| oIld 5 <| oB2 zadd <| jp 11
theorem s_X8_clash_9 (d : Nat) : zPb l G gh (d + 7) n_X8_clash p_X8_clash 68 b_X8_clash_9 := fun K jp hj =>
    z_bipush (n := 10) (zd (i := .bipush (10)) (n := 2) (by decide +kernel)) (by decide +kernel) <|
    z_iload (i := 4) (zd (i := .iload 4) (n := 2) (by decide +kernel)) <|
    z_imul (zd (i := .imul) (n := 1) (by decide +kernel)) <|
    z_iload (i := 5) (zd (i := .iload 5) (n := 2) (by decide +kernel)) <|
    z_iadd (zd (i := .iadd) (n := 1) (by decide +kernel)) <|
    z_goto (off := 4) (tgt := 80) (zd (i := .goto (4)) (n := 3) (by decide +kernel)) (by decide +kernel) (zj (hj 11) (by decide +kernel))
noncomputable def b_X8_clash_10 : zBl := fun jp K => oIld 3 <| jp 11
theorem s_X8_clash_10 (d : Nat) : zPb l G gh (d + 7) n_X8_clash p_X8_clash 79 b_X8_clash_10 := fun K jp hj =>
    z_iload_n (n := 3) (i := 3) (zd (i := .iload_n 3) (n := 1) (by decide +kernel)) rfl <|
    (zj (hj 11) (by decide +kernel))
noncomputable def b_X8_clash_11 : zBl := fun jp K => oIst 3 <| oInc 2 2147483649 <| jp 12
theorem s_X8_clash_11 (d : Nat) : zPb l G gh (d + 7) n_X8_clash p_X8_clash 80 b_X8_clash_11 := fun K jp hj =>
    z_istore_n (n := 3) (i := 3) (zd (i := .istore_n 3) (n := 1) (by decide +kernel)) rfl (by decide +kernel) <|
    z_iinc (i := 2) (n := 1) (zd (i := .iinc 2 (1)) (n := 3) (by decide +kernel)) (by decide +kernel) (by decide +kernel) <|
    (zj (hj 12) (by decide +kernel))
noncomputable def b_X8_clash_12 : zBl := fun jp K => oInc 5 2147483649 <| jp 6
theorem s_X8_clash_12 (d : Nat) : zPb l G gh (d + 7) n_X8_clash p_X8_clash 84 b_X8_clash_12 := fun K jp hj =>
    z_iinc (i := 5) (n := 1) (zd (i := .iinc 5 (1)) (n := 3) (by decide +kernel)) (by decide +kernel) (by decide +kernel) <|
    z_goto (off := -46) (tgt := 41) (zd (i := .goto (-46)) (n := 3) (by decide +kernel)) (by decide +kernel) (zj (hj 6) (by decide +kernel))
noncomputable def b_X8_clash_13 : zBl := fun jp K => oInc 4 2147483649 <| jp 4
theorem s_X8_clash_13 (d : Nat) : zPb l G gh (d + 7) n_X8_clash p_X8_clash 90 b_X8_clash_13 := fun K jp hj =>
    z_iinc (i := 4) (n := 1) (zd (i := .iinc 4 (1)) (n := 3) (by decide +kernel)) (by decide +kernel) (by decide +kernel) <|
    z_goto (off := -70) (tgt := 23) (zd (i := .goto (-70)) (n := 3) (by decide +kernel)) (by decide +kernel) (zj (hj 4) (by decide +kernel))
noncomputable def b_X8_clash_14 : zBl := fun jp K => oNLC 1 2147483648 zneN zeqN zn1_ne zn1_eq (jp 16) (jp 15)
theorem s_X8_clash_14 (d : Nat) : zPb l G gh (d + 7) n_X8_clash p_X8_clash 96 b_X8_clash_14 := fun K jp hj =>
    z_nL0_ne (i := 1) (a1 := 1) (off := 7) (tgt := 104) (zLd_n (n := 1) (i := 1) (zd (i := .iload_n 1) (n := 1) (by decide +kernel)) rfl) (zd (i := .ifCond .ne (7)) (n := 3) (by decide +kernel)) (by decide +kernel) (zj (hj 16) (by decide +kernel)) (zj (hj 15) (by decide +kernel))
noncomputable def b_X8_clash_15 : zBl := fun jp K => oIld 2 <| jp 17
theorem s_X8_clash_15 (d : Nat) : zPb l G gh (d + 7) n_X8_clash p_X8_clash 100 b_X8_clash_15 := fun K jp hj =>
    z_iload_n (n := 2) (i := 2) (zd (i := .iload_n 2) (n := 1) (by decide +kernel)) rfl <|
    z_goto (off := 4) (tgt := 105) (zd (i := .goto (4)) (n := 3) (by decide +kernel)) (by decide +kernel) (zj (hj 17) (by decide +kernel))
noncomputable def b_X8_clash_16 : zBl := fun jp K => oIld 3 <| jp 17
theorem s_X8_clash_16 (d : Nat) : zPb l G gh (d + 7) n_X8_clash p_X8_clash 104 b_X8_clash_16 := fun K jp hj =>
    z_iload_n (n := 3) (i := 3) (zd (i := .iload_n 3) (n := 1) (by decide +kernel)) rfl <|
    (zj (hj 17) (by decide +kernel))
noncomputable def b_X8_clash_17 : zBl := fun jp K => oIret K
theorem s_X8_clash_17 (d : Nat) : zPb l G gh (d + 7) n_X8_clash p_X8_clash 105 b_X8_clash_17 := fun K jp hj =>
    z_iret (zd (i := .ireturn) (n := 1) (by decide +kernel)) rfl
noncomputable def t_X8_clash : List zBl := [b_X8_clash_0, b_X8_clash_1, b_X8_clash_2, b_X8_clash_3, b_X8_clash_4, b_X8_clash_5, b_X8_clash_6, b_X8_clash_7, b_X8_clash_8, b_X8_clash_9, b_X8_clash_10, b_X8_clash_11, b_X8_clash_12, b_X8_clash_13, b_X8_clash_14, b_X8_clash_15, b_X8_clash_16, b_X8_clash_17]
theorem tt_X8_clash (d : Nat) : zT (zPb l G gh (d + 7) n_X8_clash p_X8_clash) t_X8_clash p_X8_clash := ⟨s_X8_clash_0 d, s_X8_clash_1 d, s_X8_clash_2 d, s_X8_clash_3 d, s_X8_clash_4 d, s_X8_clash_5 d, s_X8_clash_6 d, s_X8_clash_7 d, s_X8_clash_8 d, s_X8_clash_9 d, s_X8_clash_10 d, s_X8_clash_11 d, s_X8_clash_12 d, s_X8_clash_13 d, s_X8_clash_14 d, s_X8_clash_15 d, s_X8_clash_16 d, s_X8_clash_17 d, trivial⟩
def q_X8_clash_0 : List (Nat × Nat) := [(0, zk0), (21, zk10), (22, zk12), (26, zk11), (256, zk11), (259, zk20), (261, zk12), (262, zk12), (265, zk2), (266, zk18), (267, zk18), (268, zk19), (269, zk3), (270, zk7)]
noncomputable def al_X8_clash_0 : zAq := [(some (.inl 8589934591), [(0, zk0), (21, zk10), (22, zk12), (26, zk11), (256, zk58), (259, zk20), (261, zk12), (262, zk12), (265, zk2), (266, zk18), (267, zk18), (268, zk19), (269, zk4), (270, zk9)])]
def mq_X8_clash_0_1 : List (Nat × Nat) := [(0, zk0), (21, zk10), (22, zk12), (26, zk11), (256, zk58), (259, zk20), (261, zk12), (262, zk12), (265, zk2), (266, zk18), (267, zk18), (268, zk19), (269, zk4), (270, zk9)]
def mq_X8_clash_0_2 : List (Nat × Nat) := [(0, zk0), (21, zk10), (22, zk12), (26, zk11), (256, zk58), (259, zk20), (261, zk12), (262, zk12), (265, zk2), (266, zk18), (267, zk18), (268, zk19), (269, zk4), (270, zk9)]
noncomputable def fm_X8_clash_0 : List zFm := [(0, [], (fun vs => [.inr (.ref 0), .inl 8589934591]), (fun vs => zP q_X8_clash_0), (fun vs => Nat.sub (Nat.add 84 0) 0)),
  (4, [(4, 2147483648, 2147483654)], (fun vs => [.inr (.ref 0), .inl 9223372043297226753, .inl 8589934591, .inl 9223372034707292215, .inl (zn 0 vs 0)]), (fun vs => zP mq_X8_clash_0_1), (fun vs => Nat.sub (Nat.add 25769803854 0) (Nat.add 0 (Nat.mul 12 (zn 0 vs 0))))),
  (6, [(4, 2147483648, 2147483653), (5, 2147483649, 2147483654)], (fun vs => [.inr (.ref 0), .inl 9223372043297226753, .inl 8589934591, .inl 9223372034707292215, .inl (zn 0 vs 0), .inl (zn 0 vs 1)]), (fun vs => zP mq_X8_clash_0_2), (fun vs => Nat.sub (Nat.add 27917287502 0) (Nat.add (Nat.add 0 (Nat.mul 12 (zn 0 vs 0))) (Nat.mul 1 (zn 0 vs 1)))))]
def bf_X8_clash_0 : List Nat := [0, 0, 0, 0, 2, 0, 3]
theorem r_X8_clash_0_0 : zbox [] (fun vs => zFrun (zpost (zAlq al_X8_clash_0)) 1000 t_X8_clash fm_X8_clash_0 bf_X8_clash_0 (0, vs)) = true := by decide +kernel
theorem r_X8_clash_0_1 : zbox [(4, 2147483648, 2147483654)] (fun vs => zFrun (zpost (zAlq al_X8_clash_0)) 1000 t_X8_clash fm_X8_clash_0 bf_X8_clash_0 (1, vs)) = true := by decide +kernel
theorem r_X8_clash_0_2 : zbox [(4, 2147483648, 2147483653), (5, 2147483649, 2147483654)] (fun vs => zFrun (zpost (zAlq al_X8_clash_0)) 1000 t_X8_clash fm_X8_clash_0 bf_X8_clash_0 (2, vs)) = true := by decide +kernel
set_option maxRecDepth 100000 in
theorem x_X8_clash_0 (d : Nat) : zS l G gh (d + 7) (zpost (zAlq al_X8_clash_0)) n_X8_clash (zn 0 p_X8_clash 0) (zwc (0, [.inr (.ref 0), .inl 8589934591], zP q_X8_clash_0) 0) := zentry (tt_X8_clash d) fm_X8_clash_0 bf_X8_clash_0 1000 (by decide +kernel) rfl ⟨Nat.zero_lt_succ _, trivial⟩ (fun f hf => match f, hf with
  | 0, _ => fun vs hv => (zbox_t r_X8_clash_0_0) vs hv
  | 1, _ => fun vs hv => (zbox_t r_X8_clash_0_1) vs hv
  | 2, _ => fun vs hv => (zbox_t r_X8_clash_0_2) vs hv
  | f + 3, h => absurd (show f + 3 < 3 from h) (Nat.not_lt.mpr (Nat.le_add_left 3 f)))
noncomputable def gs_X8_clash_0 : zMt := zgq false [] 6 [.inr (.ref 0), .inl 8589934591] q_X8_clash_0 al_X8_clash_0
set_option maxRecDepth 100000 in
theorem cs_X8_clash_0 (d : Nat) : zC l G gh (d + 7) n_X8_clash gs_X8_clash_0 := zgq_ok0 (pcs := p_X8_clash) (by decide) rfl rfl (fun a ha => by simp only [al_X8_clash_0, List.mem_cons, List.not_mem_nil, or_false] at ha; rcases ha with rfl <;> decide +kernel) (fun gh => x_X8_clash_0 d) (by decide +kernel)
def q_X8_clash_1 : List (Nat × Nat) := [(0, zk1), (9, zk21), (11, zk12), (12, zk12), (15, zk5), (16, zk18), (17, zk18), (18, zk19), (19, zk3), (20, zk7), (21, zk10), (22, zk12), (26, zk11), (256, zk11)]
noncomputable def al_X8_clash_1 : zAq := [(some (.inl 8589934591), [(0, zk1), (9, zk21), (11, zk12), (12, zk12), (15, zk5), (16, zk18), (17, zk18), (18, zk19), (19, zk4), (20, zk9), (21, zk10), (22, zk12), (26, zk11), (256, zk58)])]
def mq_X8_clash_1_1 : List (Nat × Nat) := [(0, zk1), (9, zk21), (11, zk12), (12, zk12), (15, zk5), (16, zk18), (17, zk18), (18, zk19), (19, zk4), (20, zk9), (21, zk10), (22, zk12), (26, zk11), (256, zk58)]
def mq_X8_clash_1_2 : List (Nat × Nat) := [(0, zk1), (9, zk21), (11, zk12), (12, zk12), (15, zk5), (16, zk18), (17, zk18), (18, zk19), (19, zk4), (20, zk9), (21, zk10), (22, zk12), (26, zk11), (256, zk58)]
noncomputable def fm_X8_clash_1 : List zFm := [(0, [], (fun vs => [.inr (.ref 0), .inl 8589934591]), (fun vs => zP q_X8_clash_1), (fun vs => Nat.sub (Nat.add 84 0) 0)),
  (4, [(4, 2147483648, 2147483654)], (fun vs => [.inr (.ref 0), .inl 9223372043297226753, .inl 8589934591, .inl 9223372034707292215, .inl (zn 0 vs 0)]), (fun vs => zP mq_X8_clash_1_1), (fun vs => Nat.sub (Nat.add 25769803854 0) (Nat.add 0 (Nat.mul 12 (zn 0 vs 0))))),
  (6, [(4, 2147483648, 2147483653), (5, 2147483649, 2147483654)], (fun vs => [.inr (.ref 0), .inl 9223372043297226753, .inl 8589934591, .inl 9223372034707292215, .inl (zn 0 vs 0), .inl (zn 0 vs 1)]), (fun vs => zP mq_X8_clash_1_2), (fun vs => Nat.sub (Nat.add 27917287502 0) (Nat.add (Nat.add 0 (Nat.mul 12 (zn 0 vs 0))) (Nat.mul 1 (zn 0 vs 1)))))]
def bf_X8_clash_1 : List Nat := [0, 0, 0, 0, 2, 0, 3]
theorem r_X8_clash_1_0 : zbox [] (fun vs => zFrun (zpost (zAlq al_X8_clash_1)) 1000 t_X8_clash fm_X8_clash_1 bf_X8_clash_1 (0, vs)) = true := by decide +kernel
theorem r_X8_clash_1_1 : zbox [(4, 2147483648, 2147483654)] (fun vs => zFrun (zpost (zAlq al_X8_clash_1)) 1000 t_X8_clash fm_X8_clash_1 bf_X8_clash_1 (1, vs)) = true := by decide +kernel
theorem r_X8_clash_1_2 : zbox [(4, 2147483648, 2147483653), (5, 2147483649, 2147483654)] (fun vs => zFrun (zpost (zAlq al_X8_clash_1)) 1000 t_X8_clash fm_X8_clash_1 bf_X8_clash_1 (2, vs)) = true := by decide +kernel
set_option maxRecDepth 100000 in
theorem x_X8_clash_1 (d : Nat) : zS l G gh (d + 7) (zpost (zAlq al_X8_clash_1)) n_X8_clash (zn 0 p_X8_clash 0) (zwc (0, [.inr (.ref 0), .inl 8589934591], zP q_X8_clash_1) 0) := zentry (tt_X8_clash d) fm_X8_clash_1 bf_X8_clash_1 1000 (by decide +kernel) rfl ⟨Nat.zero_lt_succ _, trivial⟩ (fun f hf => match f, hf with
  | 0, _ => fun vs hv => (zbox_t r_X8_clash_1_0) vs hv
  | 1, _ => fun vs hv => (zbox_t r_X8_clash_1_1) vs hv
  | 2, _ => fun vs hv => (zbox_t r_X8_clash_1_2) vs hv
  | f + 3, h => absurd (show f + 3 < 3 from h) (Nat.not_lt.mpr (Nat.le_add_left 3 f)))
noncomputable def gs_X8_clash_1 : zMt := zgq false [] 6 [.inr (.ref 0), .inl 8589934591] q_X8_clash_1 al_X8_clash_1
set_option maxRecDepth 100000 in
theorem cs_X8_clash_1 (d : Nat) : zC l G gh (d + 7) n_X8_clash gs_X8_clash_1 := zgq_ok0 (pcs := p_X8_clash) (by decide) rfl rfl (fun a ha => by simp only [al_X8_clash_1, List.mem_cons, List.not_mem_nil, or_false] at ha; rcases ha with rfl <;> decide +kernel) (fun gh => x_X8_clash_1 d) (by decide +kernel)
noncomputable def gs_X8_clash : zMt := (zor gs_X8_clash_0 gs_X8_clash_1)
theorem cs_X8_clash (d : Nat) : zC l G gh (d + 7) n_X8_clash gs_X8_clash := (zor_ok (cs_X8_clash_0 d) (cs_X8_clash_1 d))
def p_X8_rich : List Nat := [0, 7, 11, 16, 18, 28, 31, 41, 53, 73, 76, 82, 86, 90, 98]
noncomputable def b_X8_rich_0 : zBl := fun jp K => oIld 1 <| oCs 1 f_X8_isAhead <| oIf zeq zne (jp 3) (jp 1)
theorem s_X8_rich_0 (d : Nat) : zPb l G gh (d + 7) n_X8_rich p_X8_rich 0 b_X8_rich_0 := fun K jp hj =>
    z_iload_n (n := 1) (i := 1) (zd (i := .iload_n 1) (n := 1) (by decide +kernel)) rfl <|
    z_callS (idx := 207) (N := n_X8_isAhead) (zd (i := .invokestatic 207) (n := 3) (by decide +kernel)) to_X8_isAhead g862 g863 rfl rfl (c_X8_isAhead (l := l) (G := G) (gh := gh) (d + 5)) <|
    z_if_eq (off := 12) (tgt := 16) (zd (i := .ifCond .eq (12)) (n := 3) (by decide +kernel)) (by decide +kernel) (zj (hj 3) (by decide +kernel)) (zj (hj 1) (by decide +kernel))
noncomputable def b_X8_rich_1 : zBl := fun jp K => oNLC 2 2147483648 zltN zgeN zn1_lt zn1_ge (jp 3) (jp 2)
theorem s_X8_rich_1 (d : Nat) : zPb l G gh (d + 7) n_X8_rich p_X8_rich 7 b_X8_rich_1 := fun K jp hj =>
    z_nL0_lt (i := 2) (a1 := 1) (off := 8) (tgt := 16) (zLd_n (n := 2) (i := 2) (zd (i := .iload_n 2) (n := 1) (by decide +kernel)) rfl) (zd (i := .ifCond .lt (8)) (n := 3) (by decide +kernel)) (by decide +kernel) (zj (hj 3) (by decide +kernel)) (zj (hj 2) (by decide +kernel))
noncomputable def b_X8_rich_2 : zBl := fun jp K => oNLC 2 2147483649 zleN zgtN zn1_le zn1_gt (jp 4) (jp 3)
theorem s_X8_rich_2 (d : Nat) : zPb l G gh (d + 7) n_X8_rich p_X8_rich 11 b_X8_rich_2 := fun K jp hj =>
    z_nLC_le (i := 2) (c0 := 2147483649) (a1 := 1) (a2 := 1) (off := 5) (tgt := 18) (zLd_n (n := 2) (i := 2) (zd (i := .iload_n 2) (n := 1) (by decide +kernel)) rfl) (zCn_c (n := 1) (zd (i := .iconst (1)) (n := 1) (by decide +kernel)) (by decide +kernel)) (zd (i := .if_icmp .le (5)) (n := 3) (by decide +kernel)) (by decide +kernel) (zj (hj 4) (by decide +kernel)) (zj (hj 3) (by decide +kernel))
noncomputable def b_X8_rich_3 : zBl := fun jp K => oInt 2147483647 <| oIret K
theorem s_X8_rich_3 (d : Nat) : zPb l G gh (d + 7) n_X8_rich p_X8_rich 16 b_X8_rich_3 := fun K jp hj =>
    z_iconst (n := -1) (zd (i := .iconst (-1)) (n := 1) (by decide +kernel)) (by decide +kernel) <|
    z_iret (zd (i := .ireturn) (n := 1) (by decide +kernel)) rfl
noncomputable def b_X8_rich_4 : zBl := fun jp K => oAld 0 <| oGetR 8 12 <| oGetI 0 5 <| oIf zne zeq (jp 6) (jp 5)
theorem s_X8_rich_4 (d : Nat) : zPb l G gh (d + 7) n_X8_rich p_X8_rich 18 b_X8_rich_4 := fun K jp hj =>
    z_aload_n (n := 0) (i := 0) (zd (i := .aload_n 0) (n := 1) (by decide +kernel)) rfl <|
    z_getR (ci := 8) (j := 12) (idx := 71) (zd (i := .getfield 71) (n := 3) (by decide +kernel)) (by decide +kernel) (by decide +kernel) rfl g464 <|
    z_getI (ci := 0) (j := 5) (idx := 230) (zd (i := .getfield 230) (n := 3) (by decide +kernel)) (by decide +kernel) (by decide +kernel) rfl g288 <|
    z_if_ne (off := 6) (tgt := 31) (zd (i := .ifCond .ne (6)) (n := 3) (by decide +kernel)) (by decide +kernel) (zj (hj 6) (by decide +kernel)) (zj (hj 5) (by decide +kernel))
noncomputable def b_X8_rich_5 : zBl := fun jp K => oInt 2147483646 <| oIret K
theorem s_X8_rich_5 (d : Nat) : zPb l G gh (d + 7) n_X8_rich p_X8_rich 28 b_X8_rich_5 := fun K jp hj =>
    z_bipush (n := -2) (zd (i := .bipush (-2)) (n := 2) (by decide +kernel)) (by decide +kernel) <|
    z_iret (zd (i := .ireturn) (n := 1) (by decide +kernel)) rfl
noncomputable def b_X8_rich_6 : zBl := fun jp K => oAld 0 <| oIld 1 <| oCv 8 1 gs_X8_goAhead <| oInt 2147483648 <| oIst 3 <| oInt 2147483649 <| oIst 4 <| jp 7
theorem s_X8_rich_6 (d : Nat) : zPb l G gh (d + 7) n_X8_rich p_X8_rich 31 b_X8_rich_6 := fun K jp hj =>
    z_aload_n (n := 0) (i := 0) (zd (i := .aload_n 0) (n := 1) (by decide +kernel)) rfl <|
    z_iload_n (n := 1) (i := 1) (zd (i := .iload_n 1) (n := 1) (by decide +kernel)) rfl <|
    z_callV (idx := 252) (ci := 8) (N := n_X8_goAhead) (zd (i := .invokevirtual 252) (n := 3) (by decide +kernel)) to_X8_goAhead g952 g954 g32 (by decide +kernel) rfl rfl rfl (cs_X8_goAhead (l := l) (G := G) (gh := gh) (d)) <|
    z_iconst (n := 0) (zd (i := .iconst (0)) (n := 1) (by decide +kernel)) (by decide +kernel) <|
    z_istore_n (n := 3) (i := 3) (zd (i := .istore_n 3) (n := 1) (by decide +kernel)) rfl (by decide +kernel) <|
    z_iconst (n := 1) (zd (i := .iconst (1)) (n := 1) (by decide +kernel)) (by decide +kernel) <|
    z_istore (i := 4) (zd (i := .istore 4) (n := 2) (by decide +kernel)) (by decide +kernel) <|
    (zj (hj 7) (by decide +kernel))
noncomputable def b_X8_rich_7 : zBl := fun jp K => oIld 4 <| oAld 0 <| oGetR 8 12 <| oGetI 0 5 <| oIc zge zlt (jp 11) (jp 8)
theorem s_X8_rich_7 (d : Nat) : zPb l G gh (d + 7) n_X8_rich p_X8_rich 41 b_X8_rich_7 := fun K jp hj =>
    z_iload (i := 4) (zd (i := .iload 4) (n := 2) (by decide +kernel)) <|
    z_aload_n (n := 0) (i := 0) (zd (i := .aload_n 0) (n := 1) (by decide +kernel)) rfl <|
    z_getR (ci := 8) (j := 12) (idx := 71) (zd (i := .getfield 71) (n := 3) (by decide +kernel)) (by decide +kernel) (by decide +kernel) rfl g464 <|
    z_getI (ci := 0) (j := 5) (idx := 230) (zd (i := .getfield 230) (n := 3) (by decide +kernel)) (by decide +kernel) (by decide +kernel) rfl g288 <|
    z_icmp_ge (off := 32) (tgt := 82) (zd (i := .if_icmp .ge (32)) (n := 3) (by decide +kernel)) (by decide +kernel) (zj (hj 11) (by decide +kernel)) (zj (hj 8) (by decide +kernel))
noncomputable def b_X8_rich_8 : zBl := fun jp K => oAld 0 <| oGetR 8 3 <| oIld 4 <| oCv 4 1 gs_X4_wealth <| oAld 0 <| oGetR 8 3 <| oIld 3 <| oCv 4 1 gs_X4_wealth <| oIc zle zgt (jp 10) (jp 9)
theorem s_X8_rich_8 (d : Nat) : zPb l G gh (d + 7) n_X8_rich p_X8_rich 53 b_X8_rich_8 := fun K jp hj =>
    z_aload_n (n := 0) (i := 0) (zd (i := .aload_n 0) (n := 1) (by decide +kernel)) rfl <|
    z_getR (ci := 8) (j := 3) (idx := 30) (zd (i := .getfield 30) (n := 3) (by decide +kernel)) (by decide +kernel) (by decide +kernel) rfl g455 <|
    z_iload (i := 4) (zd (i := .iload 4) (n := 2) (by decide +kernel)) <|
    z_callV (idx := 255) (ci := 4) (N := n_X4_wealth) (zd (i := .invokevirtual 255) (n := 3) (by decide +kernel)) to_X4_wealth g957 g958 g959 (by decide +kernel) rfl rfl rfl (cs_X4_wealth (l := l) (G := G) (gh := gh) (d + 3)) <|
    z_aload_n (n := 0) (i := 0) (zd (i := .aload_n 0) (n := 1) (by decide +kernel)) rfl <|
    z_getR (ci := 8) (j := 3) (idx := 30) (zd (i := .getfield 30) (n := 3) (by decide +kernel)) (by decide +kernel) (by decide +kernel) rfl g455 <|
    z_iload_n (n := 3) (i := 3) (zd (i := .iload_n 3) (n := 1) (by decide +kernel)) rfl <|
    z_callV (idx := 255) (ci := 4) (N := n_X4_wealth) (zd (i := .invokevirtual 255) (n := 3) (by decide +kernel)) to_X4_wealth g957 g958 g959 (by decide +kernel) rfl rfl rfl (cs_X4_wealth (l := l) (G := G) (gh := gh) (d + 3)) <|
    z_icmp_le (off := 6) (tgt := 76) (zd (i := .if_icmp .le (6)) (n := 3) (by decide +kernel)) (by decide +kernel) (zj (hj 10) (by decide +kernel)) (zj (hj 9) (by decide +kernel))
noncomputable def b_X8_rich_9 : zBl := fun jp K => oIld 4 <| oIst 3 <| jp 10
theorem s_X8_rich_9 (d : Nat) : zPb l G gh (d + 7) n_X8_rich p_X8_rich 73 b_X8_rich_9 := fun K jp hj =>
    z_iload (i := 4) (zd (i := .iload 4) (n := 2) (by decide +kernel)) <|
    z_istore_n (n := 3) (i := 3) (zd (i := .istore_n 3) (n := 1) (by decide +kernel)) rfl (by decide +kernel) <|
    (zj (hj 10) (by decide +kernel))
noncomputable def b_X8_rich_10 : zBl := fun jp K => oInc 4 2147483649 <| jp 7
theorem s_X8_rich_10 (d : Nat) : zPb l G gh (d + 7) n_X8_rich p_X8_rich 76 b_X8_rich_10 := fun K jp hj =>
    z_iinc (i := 4) (n := 1) (zd (i := .iinc 4 (1)) (n := 3) (by decide +kernel)) (by decide +kernel) (by decide +kernel) <|
    z_goto (off := -38) (tgt := 41) (zd (i := .goto (-38)) (n := 3) (by decide +kernel)) (by decide +kernel) (zj (hj 7) (by decide +kernel))
noncomputable def b_X8_rich_11 : zBl := fun jp K => oNLC 2 2147483648 zneN zeqN zn1_ne zn1_eq (jp 13) (jp 12)
theorem s_X8_rich_11 (d : Nat) : zPb l G gh (d + 7) n_X8_rich p_X8_rich 82 b_X8_rich_11 := fun K jp hj =>
    z_nL0_ne (i := 2) (a1 := 1) (off := 7) (tgt := 90) (zLd_n (n := 2) (i := 2) (zd (i := .iload_n 2) (n := 1) (by decide +kernel)) rfl) (zd (i := .ifCond .ne (7)) (n := 3) (by decide +kernel)) (by decide +kernel) (zj (hj 13) (by decide +kernel)) (zj (hj 12) (by decide +kernel))
noncomputable def b_X8_rich_12 : zBl := fun jp K => oIld 3 <| jp 14
theorem s_X8_rich_12 (d : Nat) : zPb l G gh (d + 7) n_X8_rich p_X8_rich 86 b_X8_rich_12 := fun K jp hj =>
    z_iload_n (n := 3) (i := 3) (zd (i := .iload_n 3) (n := 1) (by decide +kernel)) rfl <|
    z_goto (off := 11) (tgt := 98) (zd (i := .goto (11)) (n := 3) (by decide +kernel)) (by decide +kernel) (zj (hj 14) (by decide +kernel))
noncomputable def b_X8_rich_13 : zBl := fun jp K => oAld 0 <| oGetR 8 3 <| oIld 3 <| oCv 4 1 gs_X4_wealth <| jp 14
theorem s_X8_rich_13 (d : Nat) : zPb l G gh (d + 7) n_X8_rich p_X8_rich 90 b_X8_rich_13 := fun K jp hj =>
    z_aload_n (n := 0) (i := 0) (zd (i := .aload_n 0) (n := 1) (by decide +kernel)) rfl <|
    z_getR (ci := 8) (j := 3) (idx := 30) (zd (i := .getfield 30) (n := 3) (by decide +kernel)) (by decide +kernel) (by decide +kernel) rfl g455 <|
    z_iload_n (n := 3) (i := 3) (zd (i := .iload_n 3) (n := 1) (by decide +kernel)) rfl <|
    z_callV (idx := 255) (ci := 4) (N := n_X4_wealth) (zd (i := .invokevirtual 255) (n := 3) (by decide +kernel)) to_X4_wealth g957 g958 g959 (by decide +kernel) rfl rfl rfl (cs_X4_wealth (l := l) (G := G) (gh := gh) (d + 3)) <|
    (zj (hj 14) (by decide +kernel))
noncomputable def b_X8_rich_14 : zBl := fun jp K => oIret K
theorem s_X8_rich_14 (d : Nat) : zPb l G gh (d + 7) n_X8_rich p_X8_rich 98 b_X8_rich_14 := fun K jp hj =>
    z_iret (zd (i := .ireturn) (n := 1) (by decide +kernel)) rfl
noncomputable def t_X8_rich : List zBl := [b_X8_rich_0, b_X8_rich_1, b_X8_rich_2, b_X8_rich_3, b_X8_rich_4, b_X8_rich_5, b_X8_rich_6, b_X8_rich_7, b_X8_rich_8, b_X8_rich_9, b_X8_rich_10, b_X8_rich_11, b_X8_rich_12, b_X8_rich_13, b_X8_rich_14]
theorem tt_X8_rich (d : Nat) : zT (zPb l G gh (d + 7) n_X8_rich p_X8_rich) t_X8_rich p_X8_rich := ⟨s_X8_rich_0 d, s_X8_rich_1 d, s_X8_rich_2 d, s_X8_rich_3 d, s_X8_rich_4 d, s_X8_rich_5 d, s_X8_rich_6 d, s_X8_rich_7 d, s_X8_rich_8 d, s_X8_rich_9 d, s_X8_rich_10 d, s_X8_rich_11 d, s_X8_rich_12 d, s_X8_rich_13 d, s_X8_rich_14 d, trivial⟩
def q_X8_rich_0 : List (Nat × Nat) := [(0, zk0), (21, zk10), (22, zk12), (23, zk12), (24, zk12), (25, zk12), (26, zk11), (27, zk11), (28, zk22), (29, zk12), (30, zk12), (31, zk12), (32, zk12), (33, zk11), (34, zk11), (259, zk20), (261, zk12), (262, zk12), (265, zk2), (266, zk18), (267, zk18), (268, zk19), (269, zk3), (270, zk7)]
noncomputable def al_X8_rich_0 : zAq := [(some (.inl 8589934591), [(0, zk0), (21, zk10), (22, zk12), (23, zk12), (24, zk12), (25, zk12), (26, zk11), (27, zk11), (28, zk98), (29, zk57), (30, zk57), (31, zk57), (32, zk57), (33, zk58), (34, zk58), (259, zk20), (261, zk12), (262, zk12), (265, zk2), (266, zk18), (267, zk18), (268, zk19), (269, zk4), (270, zk9)])]
def mq_X8_rich_0_1 : List (Nat × Nat) := [(0, zk0), (21, zk10), (22, zk12), (23, zk12), (24, zk12), (25, zk12), (26, zk11), (27, zk11), (28, zk98), (29, zk57), (30, zk57), (31, zk57), (32, zk57), (33, zk58), (34, zk58), (259, zk20), (261, zk12), (262, zk12), (265, zk2), (266, zk18), (267, zk18), (268, zk19), (269, zk4), (270, zk9)]
noncomputable def fm_X8_rich_0 : List zFm := [(0, [], (fun vs => [.inr (.ref 0), .inl 9223372043297226800, .inl 8589934591]), (fun vs => zP q_X8_rich_0), (fun vs => Nat.sub (Nat.add 6 0) 0)),
  (7, [(4, 2147483649, 2147483654)], (fun vs => [.inr (.ref 0), .inl 9223372043297226800, .inl 9223372043297226753, .inl 9223372043297226757, .inl (zn 0 vs 0)]), (fun vs => zP mq_X8_rich_0_1), (fun vs => Nat.sub (Nat.add 2147483654 0) (Nat.add 0 (Nat.mul 1 (zn 0 vs 0)))))]
def bf_X8_rich_0 : List Nat := [0, 0, 0, 0, 0, 0, 0, 2]
theorem r_X8_rich_0_0 : zbox [] (fun vs => zFrun (zpost (zAlq al_X8_rich_0)) 1000 t_X8_rich fm_X8_rich_0 bf_X8_rich_0 (0, vs)) = true := by decide +kernel
theorem r_X8_rich_0_1 : zbox [(4, 2147483649, 2147483654)] (fun vs => zFrun (zpost (zAlq al_X8_rich_0)) 1000 t_X8_rich fm_X8_rich_0 bf_X8_rich_0 (1, vs)) = true := by decide +kernel
set_option maxRecDepth 100000 in
theorem x_X8_rich_0 (d : Nat) : zS l G gh (d + 7) (zpost (zAlq al_X8_rich_0)) n_X8_rich (zn 0 p_X8_rich 0) (zwc (0, [.inr (.ref 0), .inl 9223372043297226800, .inl 8589934591], zP q_X8_rich_0) 0) := zentry (tt_X8_rich d) fm_X8_rich_0 bf_X8_rich_0 1000 (by decide +kernel) rfl ⟨Nat.zero_lt_succ _, trivial⟩ (fun f hf => match f, hf with
  | 0, _ => fun vs hv => (zbox_t r_X8_rich_0_0) vs hv
  | 1, _ => fun vs hv => (zbox_t r_X8_rich_0_1) vs hv
  | f + 2, h => absurd (show f + 2 < 2 from h) (Nat.not_lt.mpr (Nat.le_add_left 2 f)))
noncomputable def gs_X8_rich_0 : zMt := zgq false [] 5 [.inr (.ref 0), .inl 9223372043297226800, .inl 8589934591] q_X8_rich_0 al_X8_rich_0
set_option maxRecDepth 100000 in
theorem cs_X8_rich_0 (d : Nat) : zC l G gh (d + 7) n_X8_rich gs_X8_rich_0 := zgq_ok0 (pcs := p_X8_rich) (by decide) rfl rfl (fun a ha => by simp only [al_X8_rich_0, List.mem_cons, List.not_mem_nil, or_false] at ha; rcases ha with rfl <;> decide +kernel) (fun gh => x_X8_rich_0 d) (by decide +kernel)
def q_X8_rich_1 : List (Nat × Nat) := []
noncomputable def al_X8_rich_1 : zAq := [(some (.inl 2147483647), [])]
noncomputable def fm_X8_rich_1 : List zFm := [(0, [], (fun vs => [.inr (.ref 0), .inl 6442450943, .inl 8589934591]), (fun vs => zP q_X8_rich_1), (fun vs => Nat.sub (Nat.add 0 0) 0))]
def bf_X8_rich_1 : List Nat := []
theorem r_X8_rich_1_0 : zbox [] (fun vs => zFrun (zpost (zAlq al_X8_rich_1)) 1000 t_X8_rich fm_X8_rich_1 bf_X8_rich_1 (0, vs)) = true := by decide +kernel
set_option maxRecDepth 100000 in
theorem x_X8_rich_1 (d : Nat) : zS l G gh (d + 7) (zpost (zAlq al_X8_rich_1)) n_X8_rich (zn 0 p_X8_rich 0) (zwc (0, [.inr (.ref 0), .inl 6442450943, .inl 8589934591], zP q_X8_rich_1) 0) := zentry (tt_X8_rich d) fm_X8_rich_1 bf_X8_rich_1 1000 (by decide +kernel) rfl ⟨Nat.zero_lt_succ _, trivial⟩ (fun f hf => match f, hf with
  | 0, _ => fun vs hv => (zbox_t r_X8_rich_1_0) vs hv
  | f + 1, h => absurd (show f + 1 < 1 from h) (Nat.not_lt.mpr (Nat.le_add_left 1 f)))
noncomputable def gs_X8_rich_1 : zMt := zgq false [] 5 [.inr (.ref 0), .inl 6442450943, .inl 8589934591] q_X8_rich_1 al_X8_rich_1
set_option maxRecDepth 100000 in
theorem cs_X8_rich_1 (d : Nat) : zC l G gh (d + 7) n_X8_rich gs_X8_rich_1 := zgq_ok0 (pcs := p_X8_rich) (by decide) rfl rfl (fun a ha => by simp only [al_X8_rich_1, List.mem_cons, List.not_mem_nil, or_false] at ha; rcases ha with rfl <;> decide +kernel) (fun gh => x_X8_rich_1 d) (by decide +kernel)
def q_X8_rich_2 : List (Nat × Nat) := []
noncomputable def al_X8_rich_2 : zAq := [(some (.inl 2147483647), [])]
noncomputable def fm_X8_rich_2 : List zFm := [(0, [], (fun vs => [.inr (.ref 0), .inl 9223372255898107903, .inl 8589934591]), (fun vs => zP q_X8_rich_2), (fun vs => Nat.sub (Nat.add 0 0) 0))]
def bf_X8_rich_2 : List Nat := []
theorem r_X8_rich_2_0 : zbox [] (fun vs => zFrun (zpost (zAlq al_X8_rich_2)) 1000 t_X8_rich fm_X8_rich_2 bf_X8_rich_2 (0, vs)) = true := by decide +kernel
set_option maxRecDepth 100000 in
theorem x_X8_rich_2 (d : Nat) : zS l G gh (d + 7) (zpost (zAlq al_X8_rich_2)) n_X8_rich (zn 0 p_X8_rich 0) (zwc (0, [.inr (.ref 0), .inl 9223372255898107903, .inl 8589934591], zP q_X8_rich_2) 0) := zentry (tt_X8_rich d) fm_X8_rich_2 bf_X8_rich_2 1000 (by decide +kernel) rfl ⟨Nat.zero_lt_succ _, trivial⟩ (fun f hf => match f, hf with
  | 0, _ => fun vs hv => (zbox_t r_X8_rich_2_0) vs hv
  | f + 1, h => absurd (show f + 1 < 1 from h) (Nat.not_lt.mpr (Nat.le_add_left 1 f)))
noncomputable def gs_X8_rich_2 : zMt := zgq false [] 5 [.inr (.ref 0), .inl 9223372255898107903, .inl 8589934591] q_X8_rich_2 al_X8_rich_2
set_option maxRecDepth 100000 in
theorem cs_X8_rich_2 (d : Nat) : zC l G gh (d + 7) n_X8_rich gs_X8_rich_2 := zgq_ok0 (pcs := p_X8_rich) (by decide) rfl rfl (fun a ha => by simp only [al_X8_rich_2, List.mem_cons, List.not_mem_nil, or_false] at ha; rcases ha with rfl <;> decide +kernel) (fun gh => x_X8_rich_2 d) (by decide +kernel)
def q_X8_rich_3 : List (Nat × Nat) := [(0, zk1), (9, zk21), (11, zk12), (12, zk12), (15, zk5), (16, zk18), (17, zk18), (18, zk19), (19, zk3), (20, zk7), (21, zk10), (22, zk12), (23, zk12), (24, zk12), (25, zk12), (26, zk11), (27, zk11), (28, zk22), (29, zk12), (30, zk12), (31, zk12), (32, zk12), (33, zk11), (34, zk11)]
noncomputable def al_X8_rich_3 : zAq := [(some (.inl 8589934591), [(0, zk1), (9, zk21), (11, zk12), (12, zk12), (15, zk5), (16, zk18), (17, zk18), (18, zk19), (19, zk4), (20, zk9), (21, zk10), (22, zk12), (23, zk12), (24, zk12), (25, zk12), (26, zk11), (27, zk11), (28, zk98), (29, zk57), (30, zk57), (31, zk57), (32, zk57), (33, zk58), (34, zk58)])]
def mq_X8_rich_3_1 : List (Nat × Nat) := [(0, zk1), (9, zk21), (11, zk12), (12, zk12), (15, zk5), (16, zk18), (17, zk18), (18, zk19), (19, zk4), (20, zk9), (21, zk10), (22, zk12), (23, zk12), (24, zk12), (25, zk12), (26, zk11), (27, zk11), (28, zk98), (29, zk57), (30, zk57), (31, zk57), (32, zk57), (33, zk58), (34, zk58)]
noncomputable def fm_X8_rich_3 : List zFm := [(0, [], (fun vs => [.inr (.ref 0), .inl 9223372043297226800, .inl 8589934591]), (fun vs => zP q_X8_rich_3), (fun vs => Nat.sub (Nat.add 6 0) 0)),
  (7, [(4, 2147483649, 2147483654)], (fun vs => [.inr (.ref 0), .inl 9223372043297226800, .inl 9223372043297226753, .inl 9223372043297226757, .inl (zn 0 vs 0)]), (fun vs => zP mq_X8_rich_3_1), (fun vs => Nat.sub (Nat.add 2147483654 0) (Nat.add 0 (Nat.mul 1 (zn 0 vs 0)))))]
def bf_X8_rich_3 : List Nat := [0, 0, 0, 0, 0, 0, 0, 2]
theorem r_X8_rich_3_0 : zbox [] (fun vs => zFrun (zpost (zAlq al_X8_rich_3)) 1000 t_X8_rich fm_X8_rich_3 bf_X8_rich_3 (0, vs)) = true := by decide +kernel
theorem r_X8_rich_3_1 : zbox [(4, 2147483649, 2147483654)] (fun vs => zFrun (zpost (zAlq al_X8_rich_3)) 1000 t_X8_rich fm_X8_rich_3 bf_X8_rich_3 (1, vs)) = true := by decide +kernel
set_option maxRecDepth 100000 in
theorem x_X8_rich_3 (d : Nat) : zS l G gh (d + 7) (zpost (zAlq al_X8_rich_3)) n_X8_rich (zn 0 p_X8_rich 0) (zwc (0, [.inr (.ref 0), .inl 9223372043297226800, .inl 8589934591], zP q_X8_rich_3) 0) := zentry (tt_X8_rich d) fm_X8_rich_3 bf_X8_rich_3 1000 (by decide +kernel) rfl ⟨Nat.zero_lt_succ _, trivial⟩ (fun f hf => match f, hf with
  | 0, _ => fun vs hv => (zbox_t r_X8_rich_3_0) vs hv
  | 1, _ => fun vs hv => (zbox_t r_X8_rich_3_1) vs hv
  | f + 2, h => absurd (show f + 2 < 2 from h) (Nat.not_lt.mpr (Nat.le_add_left 2 f)))
noncomputable def gs_X8_rich_3 : zMt := zgq false [] 5 [.inr (.ref 0), .inl 9223372043297226800, .inl 8589934591] q_X8_rich_3 al_X8_rich_3
set_option maxRecDepth 100000 in
theorem cs_X8_rich_3 (d : Nat) : zC l G gh (d + 7) n_X8_rich gs_X8_rich_3 := zgq_ok0 (pcs := p_X8_rich) (by decide) rfl rfl (fun a ha => by simp only [al_X8_rich_3, List.mem_cons, List.not_mem_nil, or_false] at ha; rcases ha with rfl <;> decide +kernel) (fun gh => x_X8_rich_3 d) (by decide +kernel)
def q_X8_rich_4 : List (Nat × Nat) := []
noncomputable def al_X8_rich_4 : zAq := [(some (.inl 2147483647), [])]
noncomputable def fm_X8_rich_4 : List zFm := [(0, [], (fun vs => [.inr (.ref 0), .inl 6442450943, .inl 8589934591]), (fun vs => zP q_X8_rich_4), (fun vs => Nat.sub (Nat.add 0 0) 0))]
def bf_X8_rich_4 : List Nat := []
theorem r_X8_rich_4_0 : zbox [] (fun vs => zFrun (zpost (zAlq al_X8_rich_4)) 1000 t_X8_rich fm_X8_rich_4 bf_X8_rich_4 (0, vs)) = true := by decide +kernel
set_option maxRecDepth 100000 in
theorem x_X8_rich_4 (d : Nat) : zS l G gh (d + 7) (zpost (zAlq al_X8_rich_4)) n_X8_rich (zn 0 p_X8_rich 0) (zwc (0, [.inr (.ref 0), .inl 6442450943, .inl 8589934591], zP q_X8_rich_4) 0) := zentry (tt_X8_rich d) fm_X8_rich_4 bf_X8_rich_4 1000 (by decide +kernel) rfl ⟨Nat.zero_lt_succ _, trivial⟩ (fun f hf => match f, hf with
  | 0, _ => fun vs hv => (zbox_t r_X8_rich_4_0) vs hv
  | f + 1, h => absurd (show f + 1 < 1 from h) (Nat.not_lt.mpr (Nat.le_add_left 1 f)))
noncomputable def gs_X8_rich_4 : zMt := zgq false [] 5 [.inr (.ref 0), .inl 6442450943, .inl 8589934591] q_X8_rich_4 al_X8_rich_4
set_option maxRecDepth 100000 in
theorem cs_X8_rich_4 (d : Nat) : zC l G gh (d + 7) n_X8_rich gs_X8_rich_4 := zgq_ok0 (pcs := p_X8_rich) (by decide) rfl rfl (fun a ha => by simp only [al_X8_rich_4, List.mem_cons, List.not_mem_nil, or_false] at ha; rcases ha with rfl <;> decide +kernel) (fun gh => x_X8_rich_4 d) (by decide +kernel)
def q_X8_rich_5 : List (Nat × Nat) := []
noncomputable def al_X8_rich_5 : zAq := [(some (.inl 2147483647), [])]
noncomputable def fm_X8_rich_5 : List zFm := [(0, [], (fun vs => [.inr (.ref 0), .inl 9223372255898107903, .inl 8589934591]), (fun vs => zP q_X8_rich_5), (fun vs => Nat.sub (Nat.add 0 0) 0))]
def bf_X8_rich_5 : List Nat := []
theorem r_X8_rich_5_0 : zbox [] (fun vs => zFrun (zpost (zAlq al_X8_rich_5)) 1000 t_X8_rich fm_X8_rich_5 bf_X8_rich_5 (0, vs)) = true := by decide +kernel
set_option maxRecDepth 100000 in
theorem x_X8_rich_5 (d : Nat) : zS l G gh (d + 7) (zpost (zAlq al_X8_rich_5)) n_X8_rich (zn 0 p_X8_rich 0) (zwc (0, [.inr (.ref 0), .inl 9223372255898107903, .inl 8589934591], zP q_X8_rich_5) 0) := zentry (tt_X8_rich d) fm_X8_rich_5 bf_X8_rich_5 1000 (by decide +kernel) rfl ⟨Nat.zero_lt_succ _, trivial⟩ (fun f hf => match f, hf with
  | 0, _ => fun vs hv => (zbox_t r_X8_rich_5_0) vs hv
  | f + 1, h => absurd (show f + 1 < 1 from h) (Nat.not_lt.mpr (Nat.le_add_left 1 f)))
noncomputable def gs_X8_rich_5 : zMt := zgq false [] 5 [.inr (.ref 0), .inl 9223372255898107903, .inl 8589934591] q_X8_rich_5 al_X8_rich_5
set_option maxRecDepth 100000 in
theorem cs_X8_rich_5 (d : Nat) : zC l G gh (d + 7) n_X8_rich gs_X8_rich_5 := zgq_ok0 (pcs := p_X8_rich) (by decide) rfl rfl (fun a ha => by simp only [al_X8_rich_5, List.mem_cons, List.not_mem_nil, or_false] at ha; rcases ha with rfl <;> decide +kernel) (fun gh => x_X8_rich_5 d) (by decide +kernel)
noncomputable def gs_X8_rich : zMt := (zor gs_X8_rich_0 (zor gs_X8_rich_1 (zor gs_X8_rich_2 (zor gs_X8_rich_3 (zor gs_X8_rich_4 gs_X8_rich_5)))))
theorem cs_X8_rich (d : Nat) : zC l G gh (d + 7) n_X8_rich gs_X8_rich := (zor_ok (cs_X8_rich_0 d) (zor_ok (cs_X8_rich_1 d) (zor_ok (cs_X8_rich_2 d) (zor_ok (cs_X8_rich_3 d) (zor_ok (cs_X8_rich_4 d) (cs_X8_rich_5 d))))))
def p_X8_book : List Nat := [0, 8, 15, 17]
noncomputable def b_X8_book_0 : zBl := fun jp K => oAld 0 <| oIld 1 <| oCv 8 1 f_X8_isSeat <| oIf zeq zne (jp 2) (jp 1)
theorem s_X8_book_0 (d : Nat) : zPb l G gh (d + 7) n_X8_book p_X8_book 0 b_X8_book_0 := fun K jp hj =>
    z_aload_n (n := 0) (i := 0) (zd (i := .aload_n 0) (n := 1) (by decide +kernel)) rfl <|
    z_iload_n (n := 1) (i := 1) (zd (i := .iload_n 1) (n := 1) (by decide +kernel)) rfl <|
    z_callV (idx := 131) (ci := 8) (N := n_X8_isSeat) (zd (i := .invokevirtual 131) (n := 3) (by decide +kernel)) to_X8_isSeat g771 g773 g23 (by decide +kernel) rfl rfl rfl (c_X8_isSeat (l := l) (G := G) (gh := gh) (d + 5)) <|
    z_if_eq (off := 10) (tgt := 15) (zd (i := .ifCond .eq (10)) (n := 3) (by decide +kernel)) (by decide +kernel) (zj (hj 2) (by decide +kernel)) (zj (hj 1) (by decide +kernel))
noncomputable def b_X8_book_1 : zBl := fun jp K => oIld 2 <| oCs 1 f_X8_isAhead <| oIf zne zeq (jp 3) (jp 2)
theorem s_X8_book_1 (d : Nat) : zPb l G gh (d + 7) n_X8_book p_X8_book 8 b_X8_book_1 := fun K jp hj =>
    z_iload_n (n := 2) (i := 2) (zd (i := .iload_n 2) (n := 1) (by decide +kernel)) rfl <|
    z_callS (idx := 207) (N := n_X8_isAhead) (zd (i := .invokestatic 207) (n := 3) (by decide +kernel)) to_X8_isAhead g862 g863 rfl rfl (c_X8_isAhead (l := l) (G := G) (gh := gh) (d + 5)) <|
    z_if_ne (off := 5) (tgt := 17) (zd (i := .ifCond .ne (5)) (n := 3) (by decide +kernel)) (by decide +kernel) (zj (hj 3) (by decide +kernel)) (zj (hj 2) (by decide +kernel))
noncomputable def b_X8_book_2 : zBl := fun jp K => oInt 2147483647 <| oIret K
theorem s_X8_book_2 (d : Nat) : zPb l G gh (d + 7) n_X8_book p_X8_book 15 b_X8_book_2 := fun K jp hj =>
    z_iconst (n := -1) (zd (i := .iconst (-1)) (n := 1) (by decide +kernel)) (by decide +kernel) <|
    z_iret (zd (i := .ireturn) (n := 1) (by decide +kernel)) rfl
noncomputable def b_X8_book_3 : zBl := fun jp K => oAld 0 <| oIld 2 <| oCv 8 1 gs_X8_goAhead <| oAld 0 <| oGetR 8 3 <| oIld 1 <| oCv 4 1 gs_X4_wealth <| oIret K
theorem s_X8_book_3 (d : Nat) : zPb l G gh (d + 7) n_X8_book p_X8_book 17 b_X8_book_3 := fun K jp hj =>
    z_aload_n (n := 0) (i := 0) (zd (i := .aload_n 0) (n := 1) (by decide +kernel)) rfl <|
    z_iload_n (n := 2) (i := 2) (zd (i := .iload_n 2) (n := 1) (by decide +kernel)) rfl <|
    z_callV (idx := 252) (ci := 8) (N := n_X8_goAhead) (zd (i := .invokevirtual 252) (n := 3) (by decide +kernel)) to_X8_goAhead g952 g954 g32 (by decide +kernel) rfl rfl rfl (cs_X8_goAhead (l := l) (G := G) (gh := gh) (d)) <|
    z_aload_n (n := 0) (i := 0) (zd (i := .aload_n 0) (n := 1) (by decide +kernel)) rfl <|
    z_getR (ci := 8) (j := 3) (idx := 30) (zd (i := .getfield 30) (n := 3) (by decide +kernel)) (by decide +kernel) (by decide +kernel) rfl g455 <|
    z_iload_n (n := 1) (i := 1) (zd (i := .iload_n 1) (n := 1) (by decide +kernel)) rfl <|
    z_callV (idx := 255) (ci := 4) (N := n_X4_wealth) (zd (i := .invokevirtual 255) (n := 3) (by decide +kernel)) to_X4_wealth g957 g958 g959 (by decide +kernel) rfl rfl rfl (cs_X4_wealth (l := l) (G := G) (gh := gh) (d + 3)) <|
    z_iret (zd (i := .ireturn) (n := 1) (by decide +kernel)) rfl
noncomputable def t_X8_book : List zBl := [b_X8_book_0, b_X8_book_1, b_X8_book_2, b_X8_book_3]
theorem tt_X8_book (d : Nat) : zT (zPb l G gh (d + 7) n_X8_book p_X8_book) t_X8_book p_X8_book := ⟨s_X8_book_0 d, s_X8_book_1 d, s_X8_book_2 d, s_X8_book_3 d, trivial⟩
def q_X8_book_0 : List (Nat × Nat) := [(0, zk0), (21, zk10), (22, zk12), (23, zk12), (24, zk12), (25, zk12), (26, zk11), (27, zk11), (28, zk22), (29, zk12), (30, zk12), (31, zk12), (32, zk12), (33, zk11), (34, zk11), (259, zk20), (261, zk12), (262, zk12), (265, zk2), (266, zk18), (267, zk18), (268, zk19), (269, zk3), (270, zk7)]
noncomputable def al_X8_book_0 : zAq := [(some (.inl 8589934591), [(0, zk0), (21, zk10), (22, zk12), (23, zk12), (24, zk12), (25, zk12), (26, zk11), (27, zk11), (28, zk98), (29, zk57), (30, zk57), (31, zk57), (32, zk57), (33, zk58), (34, zk58), (259, zk20), (261, zk12), (262, zk12), (265, zk2), (266, zk18), (267, zk18), (268, zk19), (269, zk4), (270, zk9)])]
noncomputable def fm_X8_book_0 : List zFm := [(0, [], (fun vs => [.inr (.ref 0), .inl 9223372043297226757, .inl 9223372043297226800]), (fun vs => zP q_X8_book_0), (fun vs => Nat.sub (Nat.add 0 0) 0))]
def bf_X8_book_0 : List Nat := []
theorem r_X8_book_0_0 : zbox [] (fun vs => zFrun (zpost (zAlq al_X8_book_0)) 1000 t_X8_book fm_X8_book_0 bf_X8_book_0 (0, vs)) = true := by decide +kernel
set_option maxRecDepth 100000 in
theorem x_X8_book_0 (d : Nat) : zS l G gh (d + 7) (zpost (zAlq al_X8_book_0)) n_X8_book (zn 0 p_X8_book 0) (zwc (0, [.inr (.ref 0), .inl 9223372043297226757, .inl 9223372043297226800], zP q_X8_book_0) 0) := zentry (tt_X8_book d) fm_X8_book_0 bf_X8_book_0 1000 (by decide +kernel) rfl ⟨Nat.zero_lt_succ _, trivial⟩ (fun f hf => match f, hf with
  | 0, _ => fun vs hv => (zbox_t r_X8_book_0_0) vs hv
  | f + 1, h => absurd (show f + 1 < 1 from h) (Nat.not_lt.mpr (Nat.le_add_left 1 f)))
noncomputable def gs_X8_book_0 : zMt := zgq false [] 3 [.inr (.ref 0), .inl 9223372043297226757, .inl 9223372043297226800] q_X8_book_0 al_X8_book_0
set_option maxRecDepth 100000 in
theorem cs_X8_book_0 (d : Nat) : zC l G gh (d + 7) n_X8_book gs_X8_book_0 := zgq_ok0 (pcs := p_X8_book) (by decide) rfl rfl (fun a ha => by simp only [al_X8_book_0, List.mem_cons, List.not_mem_nil, or_false] at ha; rcases ha with rfl <;> decide +kernel) (fun gh => x_X8_book_0 d) (by decide +kernel)
def q_X8_book_1 : List (Nat × Nat) := [(0, zk0), (259, zk20)]
noncomputable def al_X8_book_1 : zAq := [(some (.inl 2147483647), [(0, zk0), (259, zk20)])]
noncomputable def fm_X8_book_1 : List zFm := [(0, [], (fun vs => [.inr (.ref 0), .inl 9223372043297226757, .inl 6442450943]), (fun vs => zP q_X8_book_1), (fun vs => Nat.sub (Nat.add 0 0) 0))]
def bf_X8_book_1 : List Nat := []
theorem r_X8_book_1_0 : zbox [] (fun vs => zFrun (zpost (zAlq al_X8_book_1)) 1000 t_X8_book fm_X8_book_1 bf_X8_book_1 (0, vs)) = true := by decide +kernel
set_option maxRecDepth 100000 in
theorem x_X8_book_1 (d : Nat) : zS l G gh (d + 7) (zpost (zAlq al_X8_book_1)) n_X8_book (zn 0 p_X8_book 0) (zwc (0, [.inr (.ref 0), .inl 9223372043297226757, .inl 6442450943], zP q_X8_book_1) 0) := zentry (tt_X8_book d) fm_X8_book_1 bf_X8_book_1 1000 (by decide +kernel) rfl ⟨Nat.zero_lt_succ _, trivial⟩ (fun f hf => match f, hf with
  | 0, _ => fun vs hv => (zbox_t r_X8_book_1_0) vs hv
  | f + 1, h => absurd (show f + 1 < 1 from h) (Nat.not_lt.mpr (Nat.le_add_left 1 f)))
noncomputable def gs_X8_book_1 : zMt := zgq false [] 3 [.inr (.ref 0), .inl 9223372043297226757, .inl 6442450943] q_X8_book_1 al_X8_book_1
set_option maxRecDepth 100000 in
theorem cs_X8_book_1 (d : Nat) : zC l G gh (d + 7) n_X8_book gs_X8_book_1 := zgq_ok0 (pcs := p_X8_book) (by decide) rfl rfl (fun a ha => by simp only [al_X8_book_1, List.mem_cons, List.not_mem_nil, or_false] at ha; rcases ha with rfl <;> decide +kernel) (fun gh => x_X8_book_1 d) (by decide +kernel)
def q_X8_book_2 : List (Nat × Nat) := [(0, zk0), (259, zk20)]
noncomputable def al_X8_book_2 : zAq := [(some (.inl 2147483647), [(0, zk0), (259, zk20)])]
noncomputable def fm_X8_book_2 : List zFm := [(0, [], (fun vs => [.inr (.ref 0), .inl 9223372043297226757, .inl 9223372255898107903]), (fun vs => zP q_X8_book_2), (fun vs => Nat.sub (Nat.add 0 0) 0))]
def bf_X8_book_2 : List Nat := []
theorem r_X8_book_2_0 : zbox [] (fun vs => zFrun (zpost (zAlq al_X8_book_2)) 1000 t_X8_book fm_X8_book_2 bf_X8_book_2 (0, vs)) = true := by decide +kernel
set_option maxRecDepth 100000 in
theorem x_X8_book_2 (d : Nat) : zS l G gh (d + 7) (zpost (zAlq al_X8_book_2)) n_X8_book (zn 0 p_X8_book 0) (zwc (0, [.inr (.ref 0), .inl 9223372043297226757, .inl 9223372255898107903], zP q_X8_book_2) 0) := zentry (tt_X8_book d) fm_X8_book_2 bf_X8_book_2 1000 (by decide +kernel) rfl ⟨Nat.zero_lt_succ _, trivial⟩ (fun f hf => match f, hf with
  | 0, _ => fun vs hv => (zbox_t r_X8_book_2_0) vs hv
  | f + 1, h => absurd (show f + 1 < 1 from h) (Nat.not_lt.mpr (Nat.le_add_left 1 f)))
noncomputable def gs_X8_book_2 : zMt := zgq false [] 3 [.inr (.ref 0), .inl 9223372043297226757, .inl 9223372255898107903] q_X8_book_2 al_X8_book_2
set_option maxRecDepth 100000 in
theorem cs_X8_book_2 (d : Nat) : zC l G gh (d + 7) n_X8_book gs_X8_book_2 := zgq_ok0 (pcs := p_X8_book) (by decide) rfl rfl (fun a ha => by simp only [al_X8_book_2, List.mem_cons, List.not_mem_nil, or_false] at ha; rcases ha with rfl <;> decide +kernel) (fun gh => x_X8_book_2 d) (by decide +kernel)
def q_X8_book_3 : List (Nat × Nat) := [(0, zk0)]
noncomputable def al_X8_book_3 : zAq := [(some (.inl 2147483647), [(0, zk0)])]
noncomputable def fm_X8_book_3 : List zFm := [(0, [], (fun vs => [.inr (.ref 0), .inl 6442450943, .inl 8589934591]), (fun vs => zP q_X8_book_3), (fun vs => Nat.sub (Nat.add 0 0) 0))]
def bf_X8_book_3 : List Nat := []
theorem r_X8_book_3_0 : zbox [] (fun vs => zFrun (zpost (zAlq al_X8_book_3)) 1000 t_X8_book fm_X8_book_3 bf_X8_book_3 (0, vs)) = true := by decide +kernel
set_option maxRecDepth 100000 in
theorem x_X8_book_3 (d : Nat) : zS l G gh (d + 7) (zpost (zAlq al_X8_book_3)) n_X8_book (zn 0 p_X8_book 0) (zwc (0, [.inr (.ref 0), .inl 6442450943, .inl 8589934591], zP q_X8_book_3) 0) := zentry (tt_X8_book d) fm_X8_book_3 bf_X8_book_3 1000 (by decide +kernel) rfl ⟨Nat.zero_lt_succ _, trivial⟩ (fun f hf => match f, hf with
  | 0, _ => fun vs hv => (zbox_t r_X8_book_3_0) vs hv
  | f + 1, h => absurd (show f + 1 < 1 from h) (Nat.not_lt.mpr (Nat.le_add_left 1 f)))
noncomputable def gs_X8_book_3 : zMt := zgq false [] 3 [.inr (.ref 0), .inl 6442450943, .inl 8589934591] q_X8_book_3 al_X8_book_3
set_option maxRecDepth 100000 in
theorem cs_X8_book_3 (d : Nat) : zC l G gh (d + 7) n_X8_book gs_X8_book_3 := zgq_ok0 (pcs := p_X8_book) (by decide) rfl rfl (fun a ha => by simp only [al_X8_book_3, List.mem_cons, List.not_mem_nil, or_false] at ha; rcases ha with rfl <;> decide +kernel) (fun gh => x_X8_book_3 d) (by decide +kernel)
def q_X8_book_4 : List (Nat × Nat) := [(0, zk0), (259, zk20)]
noncomputable def al_X8_book_4 : zAq := [(some (.inl 2147483647), [(0, zk0), (259, zk20)])]
noncomputable def fm_X8_book_4 : List zFm := [(0, [], (fun vs => [.inr (.ref 0), .inl 9223372071214514175, .inl 8589934591]), (fun vs => zP q_X8_book_4), (fun vs => Nat.sub (Nat.add 0 0) 0))]
def bf_X8_book_4 : List Nat := []
theorem r_X8_book_4_0 : zbox [] (fun vs => zFrun (zpost (zAlq al_X8_book_4)) 1000 t_X8_book fm_X8_book_4 bf_X8_book_4 (0, vs)) = true := by decide +kernel
set_option maxRecDepth 100000 in
theorem x_X8_book_4 (d : Nat) : zS l G gh (d + 7) (zpost (zAlq al_X8_book_4)) n_X8_book (zn 0 p_X8_book 0) (zwc (0, [.inr (.ref 0), .inl 9223372071214514175, .inl 8589934591], zP q_X8_book_4) 0) := zentry (tt_X8_book d) fm_X8_book_4 bf_X8_book_4 1000 (by decide +kernel) rfl ⟨Nat.zero_lt_succ _, trivial⟩ (fun f hf => match f, hf with
  | 0, _ => fun vs hv => (zbox_t r_X8_book_4_0) vs hv
  | f + 1, h => absurd (show f + 1 < 1 from h) (Nat.not_lt.mpr (Nat.le_add_left 1 f)))
noncomputable def gs_X8_book_4 : zMt := zgq false [] 3 [.inr (.ref 0), .inl 9223372071214514175, .inl 8589934591] q_X8_book_4 al_X8_book_4
set_option maxRecDepth 100000 in
theorem cs_X8_book_4 (d : Nat) : zC l G gh (d + 7) n_X8_book gs_X8_book_4 := zgq_ok0 (pcs := p_X8_book) (by decide) rfl rfl (fun a ha => by simp only [al_X8_book_4, List.mem_cons, List.not_mem_nil, or_false] at ha; rcases ha with rfl <;> decide +kernel) (fun gh => x_X8_book_4 d) (by decide +kernel)
def q_X8_book_5 : List (Nat × Nat) := [(0, zk1), (9, zk21), (11, zk12), (12, zk12), (15, zk5), (16, zk18), (17, zk18), (18, zk19), (19, zk3), (20, zk7), (21, zk10), (22, zk12), (23, zk12), (24, zk12), (25, zk12), (26, zk11), (27, zk11), (28, zk22), (29, zk12), (30, zk12), (31, zk12), (32, zk12), (33, zk11), (34, zk11)]
noncomputable def al_X8_book_5 : zAq := [(some (.inl 8589934591), [(0, zk1), (9, zk21), (11, zk12), (12, zk12), (15, zk5), (16, zk18), (17, zk18), (18, zk19), (19, zk4), (20, zk9), (21, zk10), (22, zk12), (23, zk12), (24, zk12), (25, zk12), (26, zk11), (27, zk11), (28, zk98), (29, zk57), (30, zk57), (31, zk57), (32, zk57), (33, zk58), (34, zk58)])]
noncomputable def fm_X8_book_5 : List zFm := [(0, [], (fun vs => [.inr (.ref 0), .inl 9223372043297226757, .inl 9223372043297226800]), (fun vs => zP q_X8_book_5), (fun vs => Nat.sub (Nat.add 0 0) 0))]
def bf_X8_book_5 : List Nat := []
theorem r_X8_book_5_0 : zbox [] (fun vs => zFrun (zpost (zAlq al_X8_book_5)) 1000 t_X8_book fm_X8_book_5 bf_X8_book_5 (0, vs)) = true := by decide +kernel
set_option maxRecDepth 100000 in
theorem x_X8_book_5 (d : Nat) : zS l G gh (d + 7) (zpost (zAlq al_X8_book_5)) n_X8_book (zn 0 p_X8_book 0) (zwc (0, [.inr (.ref 0), .inl 9223372043297226757, .inl 9223372043297226800], zP q_X8_book_5) 0) := zentry (tt_X8_book d) fm_X8_book_5 bf_X8_book_5 1000 (by decide +kernel) rfl ⟨Nat.zero_lt_succ _, trivial⟩ (fun f hf => match f, hf with
  | 0, _ => fun vs hv => (zbox_t r_X8_book_5_0) vs hv
  | f + 1, h => absurd (show f + 1 < 1 from h) (Nat.not_lt.mpr (Nat.le_add_left 1 f)))
noncomputable def gs_X8_book_5 : zMt := zgq false [] 3 [.inr (.ref 0), .inl 9223372043297226757, .inl 9223372043297226800] q_X8_book_5 al_X8_book_5
set_option maxRecDepth 100000 in
theorem cs_X8_book_5 (d : Nat) : zC l G gh (d + 7) n_X8_book gs_X8_book_5 := zgq_ok0 (pcs := p_X8_book) (by decide) rfl rfl (fun a ha => by simp only [al_X8_book_5, List.mem_cons, List.not_mem_nil, or_false] at ha; rcases ha with rfl <;> decide +kernel) (fun gh => x_X8_book_5 d) (by decide +kernel)
def q_X8_book_6 : List (Nat × Nat) := [(0, zk1), (9, zk21)]
noncomputable def al_X8_book_6 : zAq := [(some (.inl 2147483647), [(0, zk1), (9, zk21)])]
noncomputable def fm_X8_book_6 : List zFm := [(0, [], (fun vs => [.inr (.ref 0), .inl 9223372043297226757, .inl 6442450943]), (fun vs => zP q_X8_book_6), (fun vs => Nat.sub (Nat.add 0 0) 0))]
def bf_X8_book_6 : List Nat := []
theorem r_X8_book_6_0 : zbox [] (fun vs => zFrun (zpost (zAlq al_X8_book_6)) 1000 t_X8_book fm_X8_book_6 bf_X8_book_6 (0, vs)) = true := by decide +kernel
set_option maxRecDepth 100000 in
theorem x_X8_book_6 (d : Nat) : zS l G gh (d + 7) (zpost (zAlq al_X8_book_6)) n_X8_book (zn 0 p_X8_book 0) (zwc (0, [.inr (.ref 0), .inl 9223372043297226757, .inl 6442450943], zP q_X8_book_6) 0) := zentry (tt_X8_book d) fm_X8_book_6 bf_X8_book_6 1000 (by decide +kernel) rfl ⟨Nat.zero_lt_succ _, trivial⟩ (fun f hf => match f, hf with
  | 0, _ => fun vs hv => (zbox_t r_X8_book_6_0) vs hv
  | f + 1, h => absurd (show f + 1 < 1 from h) (Nat.not_lt.mpr (Nat.le_add_left 1 f)))
noncomputable def gs_X8_book_6 : zMt := zgq false [] 3 [.inr (.ref 0), .inl 9223372043297226757, .inl 6442450943] q_X8_book_6 al_X8_book_6
set_option maxRecDepth 100000 in
theorem cs_X8_book_6 (d : Nat) : zC l G gh (d + 7) n_X8_book gs_X8_book_6 := zgq_ok0 (pcs := p_X8_book) (by decide) rfl rfl (fun a ha => by simp only [al_X8_book_6, List.mem_cons, List.not_mem_nil, or_false] at ha; rcases ha with rfl <;> decide +kernel) (fun gh => x_X8_book_6 d) (by decide +kernel)
def q_X8_book_7 : List (Nat × Nat) := [(0, zk1), (9, zk21)]
noncomputable def al_X8_book_7 : zAq := [(some (.inl 2147483647), [(0, zk1), (9, zk21)])]
noncomputable def fm_X8_book_7 : List zFm := [(0, [], (fun vs => [.inr (.ref 0), .inl 9223372043297226757, .inl 9223372255898107903]), (fun vs => zP q_X8_book_7), (fun vs => Nat.sub (Nat.add 0 0) 0))]
def bf_X8_book_7 : List Nat := []
theorem r_X8_book_7_0 : zbox [] (fun vs => zFrun (zpost (zAlq al_X8_book_7)) 1000 t_X8_book fm_X8_book_7 bf_X8_book_7 (0, vs)) = true := by decide +kernel
set_option maxRecDepth 100000 in
theorem x_X8_book_7 (d : Nat) : zS l G gh (d + 7) (zpost (zAlq al_X8_book_7)) n_X8_book (zn 0 p_X8_book 0) (zwc (0, [.inr (.ref 0), .inl 9223372043297226757, .inl 9223372255898107903], zP q_X8_book_7) 0) := zentry (tt_X8_book d) fm_X8_book_7 bf_X8_book_7 1000 (by decide +kernel) rfl ⟨Nat.zero_lt_succ _, trivial⟩ (fun f hf => match f, hf with
  | 0, _ => fun vs hv => (zbox_t r_X8_book_7_0) vs hv
  | f + 1, h => absurd (show f + 1 < 1 from h) (Nat.not_lt.mpr (Nat.le_add_left 1 f)))
noncomputable def gs_X8_book_7 : zMt := zgq false [] 3 [.inr (.ref 0), .inl 9223372043297226757, .inl 9223372255898107903] q_X8_book_7 al_X8_book_7
set_option maxRecDepth 100000 in
theorem cs_X8_book_7 (d : Nat) : zC l G gh (d + 7) n_X8_book gs_X8_book_7 := zgq_ok0 (pcs := p_X8_book) (by decide) rfl rfl (fun a ha => by simp only [al_X8_book_7, List.mem_cons, List.not_mem_nil, or_false] at ha; rcases ha with rfl <;> decide +kernel) (fun gh => x_X8_book_7 d) (by decide +kernel)
def q_X8_book_8 : List (Nat × Nat) := [(0, zk1)]
noncomputable def al_X8_book_8 : zAq := [(some (.inl 2147483647), [(0, zk1)])]
noncomputable def fm_X8_book_8 : List zFm := [(0, [], (fun vs => [.inr (.ref 0), .inl 6442450943, .inl 8589934591]), (fun vs => zP q_X8_book_8), (fun vs => Nat.sub (Nat.add 0 0) 0))]
def bf_X8_book_8 : List Nat := []
theorem r_X8_book_8_0 : zbox [] (fun vs => zFrun (zpost (zAlq al_X8_book_8)) 1000 t_X8_book fm_X8_book_8 bf_X8_book_8 (0, vs)) = true := by decide +kernel
set_option maxRecDepth 100000 in
theorem x_X8_book_8 (d : Nat) : zS l G gh (d + 7) (zpost (zAlq al_X8_book_8)) n_X8_book (zn 0 p_X8_book 0) (zwc (0, [.inr (.ref 0), .inl 6442450943, .inl 8589934591], zP q_X8_book_8) 0) := zentry (tt_X8_book d) fm_X8_book_8 bf_X8_book_8 1000 (by decide +kernel) rfl ⟨Nat.zero_lt_succ _, trivial⟩ (fun f hf => match f, hf with
  | 0, _ => fun vs hv => (zbox_t r_X8_book_8_0) vs hv
  | f + 1, h => absurd (show f + 1 < 1 from h) (Nat.not_lt.mpr (Nat.le_add_left 1 f)))
noncomputable def gs_X8_book_8 : zMt := zgq false [] 3 [.inr (.ref 0), .inl 6442450943, .inl 8589934591] q_X8_book_8 al_X8_book_8
set_option maxRecDepth 100000 in
theorem cs_X8_book_8 (d : Nat) : zC l G gh (d + 7) n_X8_book gs_X8_book_8 := zgq_ok0 (pcs := p_X8_book) (by decide) rfl rfl (fun a ha => by simp only [al_X8_book_8, List.mem_cons, List.not_mem_nil, or_false] at ha; rcases ha with rfl <;> decide +kernel) (fun gh => x_X8_book_8 d) (by decide +kernel)
def q_X8_book_9 : List (Nat × Nat) := [(0, zk1), (9, zk21)]
noncomputable def al_X8_book_9 : zAq := [(some (.inl 2147483647), [(0, zk1), (9, zk21)])]
noncomputable def fm_X8_book_9 : List zFm := [(0, [], (fun vs => [.inr (.ref 0), .inl 9223372071214514175, .inl 8589934591]), (fun vs => zP q_X8_book_9), (fun vs => Nat.sub (Nat.add 0 0) 0))]
def bf_X8_book_9 : List Nat := []
theorem r_X8_book_9_0 : zbox [] (fun vs => zFrun (zpost (zAlq al_X8_book_9)) 1000 t_X8_book fm_X8_book_9 bf_X8_book_9 (0, vs)) = true := by decide +kernel
set_option maxRecDepth 100000 in
theorem x_X8_book_9 (d : Nat) : zS l G gh (d + 7) (zpost (zAlq al_X8_book_9)) n_X8_book (zn 0 p_X8_book 0) (zwc (0, [.inr (.ref 0), .inl 9223372071214514175, .inl 8589934591], zP q_X8_book_9) 0) := zentry (tt_X8_book d) fm_X8_book_9 bf_X8_book_9 1000 (by decide +kernel) rfl ⟨Nat.zero_lt_succ _, trivial⟩ (fun f hf => match f, hf with
  | 0, _ => fun vs hv => (zbox_t r_X8_book_9_0) vs hv
  | f + 1, h => absurd (show f + 1 < 1 from h) (Nat.not_lt.mpr (Nat.le_add_left 1 f)))
noncomputable def gs_X8_book_9 : zMt := zgq false [] 3 [.inr (.ref 0), .inl 9223372071214514175, .inl 8589934591] q_X8_book_9 al_X8_book_9
set_option maxRecDepth 100000 in
theorem cs_X8_book_9 (d : Nat) : zC l G gh (d + 7) n_X8_book gs_X8_book_9 := zgq_ok0 (pcs := p_X8_book) (by decide) rfl rfl (fun a ha => by simp only [al_X8_book_9, List.mem_cons, List.not_mem_nil, or_false] at ha; rcases ha with rfl <;> decide +kernel) (fun gh => x_X8_book_9 d) (by decide +kernel)
noncomputable def gs_X8_book : zMt := (zor gs_X8_book_0 (zor gs_X8_book_1 (zor gs_X8_book_2 (zor gs_X8_book_3 (zor gs_X8_book_4 (zor gs_X8_book_5 (zor gs_X8_book_6 (zor gs_X8_book_7 (zor gs_X8_book_8 gs_X8_book_9)))))))))
theorem cs_X8_book (d : Nat) : zC l G gh (d + 7) n_X8_book gs_X8_book := (zor_ok (cs_X8_book_0 d) (zor_ok (cs_X8_book_1 d) (zor_ok (cs_X8_book_2 d) (zor_ok (cs_X8_book_3 d) (zor_ok (cs_X8_book_4 d) (zor_ok (cs_X8_book_5 d) (zor_ok (cs_X8_book_6 d) (zor_ok (cs_X8_book_7 d) (zor_ok (cs_X8_book_8 d) (cs_X8_book_9 d))))))))))
def p_X8_cool : List Nat := [0, 2, 8, 24, 26, 32]
noncomputable def b_X8_cool_0 : zBl := fun jp K => oInt 2147483648 <| oIst 1 <| jp 1
theorem s_X8_cool_0 (d : Nat) : zPb l G gh (d + 7) n_X8_cool p_X8_cool 0 b_X8_cool_0 := fun K jp hj =>
    z_iconst (n := 0) (zd (i := .iconst (0)) (n := 1) (by decide +kernel)) (by decide +kernel) <|
    z_istore_n (n := 1) (i := 1) (zd (i := .istore_n 1) (n := 1) (by decide +kernel)) rfl (by decide +kernel) <|
    (zj (hj 1) (by decide +kernel))
noncomputable def b_X8_cool_1 : zBl := fun jp K => oNLC 1 2147483696 zgtN zleN zn1_gt zn1_le (jp 5) (jp 2)
theorem s_X8_cool_1 (d : Nat) : zPb l G gh (d + 7) n_X8_cool p_X8_cool 2 b_X8_cool_1 := fun K jp hj =>
    z_nLC_gt (i := 1) (c0 := 2147483696) (a1 := 1) (a2 := 2) (off := 27) (tgt := 32) (zLd_n (n := 1) (i := 1) (zd (i := .iload_n 1) (n := 1) (by decide +kernel)) rfl) (zCn_b (n := 48) (zd (i := .bipush (48)) (n := 2) (by decide +kernel)) (by decide +kernel)) (zd (i := .if_icmp .gt (27)) (n := 3) (by decide +kernel)) (by decide +kernel) (zj (hj 5) (by decide +kernel)) (zj (hj 2) (by decide +kernel))
noncomputable def b_X8_cool_2 : zBl := fun jp K => oAld 0 <| oAld 0 <| oGetR 8 2 <| oGetI 4 0 <| oIld 1 <| oB2 zadd <| oCv 8 1 gs_X8_thingsSeen <| oIf zne zeq (jp 4) (jp 3)
theorem s_X8_cool_2 (d : Nat) : zPb l G gh (d + 7) n_X8_cool p_X8_cool 8 b_X8_cool_2 := fun K jp hj =>
    z_aload_n (n := 0) (i := 0) (zd (i := .aload_n 0) (n := 1) (by decide +kernel)) rfl <|
    z_aload_n (n := 0) (i := 0) (zd (i := .aload_n 0) (n := 1) (by decide +kernel)) rfl <|
    z_getR (ci := 8) (j := 2) (idx := 26) (zd (i := .getfield 26) (n := 3) (by decide +kernel)) (by decide +kernel) (by decide +kernel) rfl g454 <|
    z_getI (ci := 4) (j := 0) (idx := 140) (zd (i := .getfield 140) (n := 3) (by decide +kernel)) (by decide +kernel) (by decide +kernel) rfl g368 <|
    z_iload_n (n := 1) (i := 1) (zd (i := .iload_n 1) (n := 1) (by decide +kernel)) rfl <|
    z_iadd (zd (i := .iadd) (n := 1) (by decide +kernel)) <|
    z_callV (idx := 294) (ci := 8) (N := n_X8_thingsSeen) (zd (i := .invokevirtual 294) (n := 3) (by decide +kernel)) to_X8_thingsSeen g1006 g1008 g36 (by decide +kernel) rfl rfl rfl (cs_X8_thingsSeen (l := l) (G := G) (gh := gh) (d)) <|
    z_if_ne (off := 5) (tgt := 26) (zd (i := .ifCond .ne (5)) (n := 3) (by decide +kernel)) (by decide +kernel) (zj (hj 4) (by decide +kernel)) (zj (hj 3) (by decide +kernel))
noncomputable def b_X8_cool_3 : zBl := fun jp K => oIld 1 <| oIret K
theorem s_X8_cool_3 (d : Nat) : zPb l G gh (d + 7) n_X8_cool p_X8_cool 24 b_X8_cool_3 := fun K jp hj =>
    z_iload_n (n := 1) (i := 1) (zd (i := .iload_n 1) (n := 1) (by decide +kernel)) rfl <|
    z_iret (zd (i := .ireturn) (n := 1) (by decide +kernel)) rfl
noncomputable def b_X8_cool_4 : zBl := fun jp K => oInc 1 2147483649 <| jp 1
theorem s_X8_cool_4 (d : Nat) : zPb l G gh (d + 7) n_X8_cool p_X8_cool 26 b_X8_cool_4 := fun K jp hj =>
    z_iinc (i := 1) (n := 1) (zd (i := .iinc 1 (1)) (n := 3) (by decide +kernel)) (by decide +kernel) (by decide +kernel) <|
    z_goto (off := -27) (tgt := 2) (zd (i := .goto (-27)) (n := 3) (by decide +kernel)) (by decide +kernel) (zj (hj 1) (by decide +kernel))
noncomputable def b_X8_cool_5 : zBl := fun jp K => oInt 2147483646 <| oIret K
theorem s_X8_cool_5 (d : Nat) : zPb l G gh (d + 7) n_X8_cool p_X8_cool 32 b_X8_cool_5 := fun K jp hj =>
    z_bipush (n := -2) (zd (i := .bipush (-2)) (n := 2) (by decide +kernel)) (by decide +kernel) <|
    z_iret (zd (i := .ireturn) (n := 1) (by decide +kernel)) rfl
noncomputable def t_X8_cool : List zBl := [b_X8_cool_0, b_X8_cool_1, b_X8_cool_2, b_X8_cool_3, b_X8_cool_4, b_X8_cool_5]
theorem tt_X8_cool (d : Nat) : zT (zPb l G gh (d + 7) n_X8_cool p_X8_cool) t_X8_cool p_X8_cool := ⟨s_X8_cool_0 d, s_X8_cool_1 d, s_X8_cool_2 d, s_X8_cool_3 d, s_X8_cool_4 d, s_X8_cool_5 d, trivial⟩
def q_X8_cool_0 : List (Nat × Nat) := [(0, zk0), (21, zk10), (22, zk12), (259, zk20), (261, zk12), (262, zk12), (265, zk2), (266, zk18), (267, zk18), (268, zk19), (269, zk3), (270, zk7)]
noncomputable def al_X8_cool_0 : zAq := [(some (.inl 9223372034707292208), [(0, zk0), (21, zk10), (22, zk12), (259, zk20), (261, zk12), (262, zk12), (265, zk2), (266, zk18), (267, zk18), (268, zk19), (269, zk4), (270, zk9)])]
def mq_X8_cool_0_1 : List (Nat × Nat) := [(0, zk0), (21, zk10), (22, zk12), (259, zk20), (261, zk12), (262, zk12), (265, zk2), (266, zk18), (267, zk18), (268, zk19), (269, zk4), (270, zk9)]
noncomputable def fm_X8_cool_0 : List zFm := [(0, [], (fun vs => [.inr (.ref 0)]), (fun vs => zP q_X8_cool_0), (fun vs => Nat.sub (Nat.add 50 0) 0)),
  (1, [(1, 2147483648, 2147483697)], (fun vs => [.inr (.ref 0), .inl (zn 0 vs 0)]), (fun vs => zP mq_X8_cool_0_1), (fun vs => Nat.sub (Nat.add 2147483697 0) (Nat.add 0 (Nat.mul 1 (zn 0 vs 0)))))]
def bf_X8_cool_0 : List Nat := [0, 2]
theorem r_X8_cool_0_0 : zbox [] (fun vs => zFrun (zpost (zAlq al_X8_cool_0)) 1000 t_X8_cool fm_X8_cool_0 bf_X8_cool_0 (0, vs)) = true := by decide +kernel
theorem r_X8_cool_0_1 : zbox [(1, 2147483648, 2147483697)] (fun vs => zFrun (zpost (zAlq al_X8_cool_0)) 1000 t_X8_cool fm_X8_cool_0 bf_X8_cool_0 (1, vs)) = true := by decide +kernel
set_option maxRecDepth 100000 in
theorem x_X8_cool_0 (d : Nat) : zS l G gh (d + 7) (zpost (zAlq al_X8_cool_0)) n_X8_cool (zn 0 p_X8_cool 0) (zwc (0, [.inr (.ref 0)], zP q_X8_cool_0) 0) := zentry (tt_X8_cool d) fm_X8_cool_0 bf_X8_cool_0 1000 (by decide +kernel) rfl ⟨Nat.zero_lt_succ _, trivial⟩ (fun f hf => match f, hf with
  | 0, _ => fun vs hv => (zbox_t r_X8_cool_0_0) vs hv
  | 1, _ => fun vs hv => (zbox_t r_X8_cool_0_1) vs hv
  | f + 2, h => absurd (show f + 2 < 2 from h) (Nat.not_lt.mpr (Nat.le_add_left 2 f)))
noncomputable def gs_X8_cool_0 : zMt := zgq false [] 2 [.inr (.ref 0)] q_X8_cool_0 al_X8_cool_0
set_option maxRecDepth 100000 in
theorem cs_X8_cool_0 (d : Nat) : zC l G gh (d + 7) n_X8_cool gs_X8_cool_0 := zgq_ok0 (pcs := p_X8_cool) (by decide) rfl rfl (fun a ha => by simp only [al_X8_cool_0, List.mem_cons, List.not_mem_nil, or_false] at ha; rcases ha with rfl <;> decide +kernel) (fun gh => x_X8_cool_0 d) (by decide +kernel)
def q_X8_cool_1 : List (Nat × Nat) := [(0, zk1), (9, zk21), (11, zk12), (12, zk12), (15, zk5), (16, zk18), (17, zk18), (18, zk19), (19, zk3), (20, zk7), (21, zk10), (22, zk12)]
noncomputable def al_X8_cool_1 : zAq := [(some (.inl 9223372034707292208), [(0, zk1), (9, zk21), (11, zk12), (12, zk12), (15, zk5), (16, zk18), (17, zk18), (18, zk19), (19, zk4), (20, zk9), (21, zk10), (22, zk12)])]
def mq_X8_cool_1_1 : List (Nat × Nat) := [(0, zk1), (9, zk21), (11, zk12), (12, zk12), (15, zk5), (16, zk18), (17, zk18), (18, zk19), (19, zk4), (20, zk9), (21, zk10), (22, zk12)]
noncomputable def fm_X8_cool_1 : List zFm := [(0, [], (fun vs => [.inr (.ref 0)]), (fun vs => zP q_X8_cool_1), (fun vs => Nat.sub (Nat.add 50 0) 0)),
  (1, [(1, 2147483648, 2147483697)], (fun vs => [.inr (.ref 0), .inl (zn 0 vs 0)]), (fun vs => zP mq_X8_cool_1_1), (fun vs => Nat.sub (Nat.add 2147483697 0) (Nat.add 0 (Nat.mul 1 (zn 0 vs 0)))))]
def bf_X8_cool_1 : List Nat := [0, 2]
theorem r_X8_cool_1_0 : zbox [] (fun vs => zFrun (zpost (zAlq al_X8_cool_1)) 1000 t_X8_cool fm_X8_cool_1 bf_X8_cool_1 (0, vs)) = true := by decide +kernel
theorem r_X8_cool_1_1 : zbox [(1, 2147483648, 2147483697)] (fun vs => zFrun (zpost (zAlq al_X8_cool_1)) 1000 t_X8_cool fm_X8_cool_1 bf_X8_cool_1 (1, vs)) = true := by decide +kernel
set_option maxRecDepth 100000 in
theorem x_X8_cool_1 (d : Nat) : zS l G gh (d + 7) (zpost (zAlq al_X8_cool_1)) n_X8_cool (zn 0 p_X8_cool 0) (zwc (0, [.inr (.ref 0)], zP q_X8_cool_1) 0) := zentry (tt_X8_cool d) fm_X8_cool_1 bf_X8_cool_1 1000 (by decide +kernel) rfl ⟨Nat.zero_lt_succ _, trivial⟩ (fun f hf => match f, hf with
  | 0, _ => fun vs hv => (zbox_t r_X8_cool_1_0) vs hv
  | 1, _ => fun vs hv => (zbox_t r_X8_cool_1_1) vs hv
  | f + 2, h => absurd (show f + 2 < 2 from h) (Nat.not_lt.mpr (Nat.le_add_left 2 f)))
noncomputable def gs_X8_cool_1 : zMt := zgq false [] 2 [.inr (.ref 0)] q_X8_cool_1 al_X8_cool_1
set_option maxRecDepth 100000 in
theorem cs_X8_cool_1 (d : Nat) : zC l G gh (d + 7) n_X8_cool gs_X8_cool_1 := zgq_ok0 (pcs := p_X8_cool) (by decide) rfl rfl (fun a ha => by simp only [al_X8_cool_1, List.mem_cons, List.not_mem_nil, or_false] at ha; rcases ha with rfl <;> decide +kernel) (fun gh => x_X8_cool_1 d) (by decide +kernel)
noncomputable def gs_X8_cool : zMt := (zor gs_X8_cool_0 gs_X8_cool_1)
theorem cs_X8_cool (d : Nat) : zC l G gh (d + 7) n_X8_cool gs_X8_cool := (zor_ok (cs_X8_cool_0 d) (cs_X8_cool_1 d))
def p_X8_stands : List Nat := [0, 8, 23, 24]
noncomputable def b_X8_stands_0 : zBl := fun jp K => oAld 0 <| oIld 1 <| oCv 8 1 f_X8_isKnown <| oIf zeq zne (jp 2) (jp 1)
theorem s_X8_stands_0 (d : Nat) : zPb l G gh (d + 7) n_X8_stands p_X8_stands 0 b_X8_stands_0 := fun K jp hj =>
    z_aload_n (n := 0) (i := 0) (zd (i := .aload_n 0) (n := 1) (by decide +kernel)) rfl <|
    z_iload_n (n := 1) (i := 1) (zd (i := .iload_n 1) (n := 1) (by decide +kernel)) rfl <|
    z_callV (idx := 300) (ci := 8) (N := n_X8_isKnown) (zd (i := .invokevirtual 300) (n := 3) (by decide +kernel)) to_X8_isKnown g1038 g1040 g37 (by decide +kernel) rfl rfl rfl (c_X8_isKnown (l := l) (G := G) (gh := gh) (d + 5)) <|
    z_if_eq (off := 18) (tgt := 23) (zd (i := .ifCond .eq (18)) (n := 3) (by decide +kernel)) (by decide +kernel) (zj (hj 2) (by decide +kernel)) (zj (hj 1) (by decide +kernel))
noncomputable def b_X8_stands_1 : zBl := fun jp K => oAld 0 <| oGetR 8 7 <| oAld 0 <| oGetR 8 12 <| oIld 1 <| oCv 7 2 gs_X7_sift <| jp 3
theorem s_X8_stands_1 (d : Nat) : zPb l G gh (d + 7) n_X8_stands p_X8_stands 8 b_X8_stands_1 := fun K jp hj =>
    z_aload_n (n := 0) (i := 0) (zd (i := .aload_n 0) (n := 1) (by decide +kernel)) rfl <|
    z_getR (ci := 8) (j := 7) (idx := 51) (zd (i := .getfield 51) (n := 3) (by decide +kernel)) (by decide +kernel) (by decide +kernel) rfl g459 <|
    z_aload_n (n := 0) (i := 0) (zd (i := .aload_n 0) (n := 1) (by decide +kernel)) rfl <|
    z_getR (ci := 8) (j := 12) (idx := 71) (zd (i := .getfield 71) (n := 3) (by decide +kernel)) (by decide +kernel) (by decide +kernel) rfl g464 <|
    z_iload_n (n := 1) (i := 1) (zd (i := .iload_n 1) (n := 1) (by decide +kernel)) rfl <|
    z_callV (idx := 303) (ci := 7) (N := n_X7_sift) (zd (i := .invokevirtual 303) (n := 3) (by decide +kernel)) to_X7_sift g1042 g1043 g1044 (by decide +kernel) rfl rfl rfl (cs_X7_sift (l := l) (G := G) (gh := gh) (d)) <|
    z_goto (off := 4) (tgt := 24) (zd (i := .goto (4)) (n := 3) (by decide +kernel)) (by decide +kernel) (zj (hj 3) (by decide +kernel))
noncomputable def b_X8_stands_2 : zBl := fun jp K => oInt 2147483647 <| jp 3
theorem s_X8_stands_2 (d : Nat) : zPb l G gh (d + 7) n_X8_stands p_X8_stands 23 b_X8_stands_2 := fun K jp hj =>
    z_iconst (n := -1) (zd (i := .iconst (-1)) (n := 1) (by decide +kernel)) (by decide +kernel) <|
    (zj (hj 3) (by decide +kernel))
noncomputable def b_X8_stands_3 : zBl := fun jp K => oIret K
theorem s_X8_stands_3 (d : Nat) : zPb l G gh (d + 7) n_X8_stands p_X8_stands 24 b_X8_stands_3 := fun K jp hj =>
    z_iret (zd (i := .ireturn) (n := 1) (by decide +kernel)) rfl
noncomputable def t_X8_stands : List zBl := [b_X8_stands_0, b_X8_stands_1, b_X8_stands_2, b_X8_stands_3]
theorem tt_X8_stands (d : Nat) : zT (zPb l G gh (d + 7) n_X8_stands p_X8_stands) t_X8_stands p_X8_stands := ⟨s_X8_stands_0 d, s_X8_stands_1 d, s_X8_stands_2 d, s_X8_stands_3 d, trivial⟩
def q_X8_stands_0 : List (Nat × Nat) := [(0, zk0), (249, zk6), (250, zk7), (251, zk7), (252, zk7), (253, zk89), (259, zk20), (265, zk2), (266, zk18), (267, zk18), (268, zk19), (269, zk3), (270, zk7)]
noncomputable def al_X8_stands_0 : zAq := [(some (.inl 8589934591), [(0, zk0), (249, zk6), (250, zk7), (251, zk7), (252, zk7), (253, zk101), (259, zk20), (265, zk2), (266, zk18), (267, zk18), (268, zk19), (269, zk4), (270, zk9)])]
noncomputable def fm_X8_stands_0 : List zFm := [(0, [], (fun vs => [.inr (.ref 0), .inl 9223372043297226772]), (fun vs => zP q_X8_stands_0), (fun vs => Nat.sub (Nat.add 0 0) 0))]
def bf_X8_stands_0 : List Nat := []
theorem r_X8_stands_0_0 : zbox [] (fun vs => zFrun (zpost (zAlq al_X8_stands_0)) 1000 t_X8_stands fm_X8_stands_0 bf_X8_stands_0 (0, vs)) = true := by decide +kernel
set_option maxRecDepth 100000 in
theorem x_X8_stands_0 (d : Nat) : zS l G gh (d + 7) (zpost (zAlq al_X8_stands_0)) n_X8_stands (zn 0 p_X8_stands 0) (zwc (0, [.inr (.ref 0), .inl 9223372043297226772], zP q_X8_stands_0) 0) := zentry (tt_X8_stands d) fm_X8_stands_0 bf_X8_stands_0 1000 (by decide +kernel) rfl ⟨Nat.zero_lt_succ _, trivial⟩ (fun f hf => match f, hf with
  | 0, _ => fun vs hv => (zbox_t r_X8_stands_0_0) vs hv
  | f + 1, h => absurd (show f + 1 < 1 from h) (Nat.not_lt.mpr (Nat.le_add_left 1 f)))
noncomputable def gs_X8_stands_0 : zMt := zgq false [] 2 [.inr (.ref 0), .inl 9223372043297226772] q_X8_stands_0 al_X8_stands_0
set_option maxRecDepth 100000 in
theorem cs_X8_stands_0 (d : Nat) : zC l G gh (d + 7) n_X8_stands gs_X8_stands_0 := zgq_ok0 (pcs := p_X8_stands) (by decide) rfl rfl (fun a ha => by simp only [al_X8_stands_0, List.mem_cons, List.not_mem_nil, or_false] at ha; rcases ha with rfl <;> decide +kernel) (fun gh => x_X8_stands_0 d) (by decide +kernel)
def q_X8_stands_1 : List (Nat × Nat) := [(0, zk0)]
noncomputable def al_X8_stands_1 : zAq := [(some (.inl 2147483647), [(0, zk0)])]
noncomputable def fm_X8_stands_1 : List zFm := [(0, [], (fun vs => [.inr (.ref 0), .inl 6442450943]), (fun vs => zP q_X8_stands_1), (fun vs => Nat.sub (Nat.add 0 0) 0))]
def bf_X8_stands_1 : List Nat := []
theorem r_X8_stands_1_0 : zbox [] (fun vs => zFrun (zpost (zAlq al_X8_stands_1)) 1000 t_X8_stands fm_X8_stands_1 bf_X8_stands_1 (0, vs)) = true := by decide +kernel
set_option maxRecDepth 100000 in
theorem x_X8_stands_1 (d : Nat) : zS l G gh (d + 7) (zpost (zAlq al_X8_stands_1)) n_X8_stands (zn 0 p_X8_stands 0) (zwc (0, [.inr (.ref 0), .inl 6442450943], zP q_X8_stands_1) 0) := zentry (tt_X8_stands d) fm_X8_stands_1 bf_X8_stands_1 1000 (by decide +kernel) rfl ⟨Nat.zero_lt_succ _, trivial⟩ (fun f hf => match f, hf with
  | 0, _ => fun vs hv => (zbox_t r_X8_stands_1_0) vs hv
  | f + 1, h => absurd (show f + 1 < 1 from h) (Nat.not_lt.mpr (Nat.le_add_left 1 f)))
noncomputable def gs_X8_stands_1 : zMt := zgq false [] 2 [.inr (.ref 0), .inl 6442450943] q_X8_stands_1 al_X8_stands_1
set_option maxRecDepth 100000 in
theorem cs_X8_stands_1 (d : Nat) : zC l G gh (d + 7) n_X8_stands gs_X8_stands_1 := zgq_ok0 (pcs := p_X8_stands) (by decide) rfl rfl (fun a ha => by simp only [al_X8_stands_1, List.mem_cons, List.not_mem_nil, or_false] at ha; rcases ha with rfl <;> decide +kernel) (fun gh => x_X8_stands_1 d) (by decide +kernel)
def q_X8_stands_2 : List (Nat × Nat) := [(0, zk0), (249, zk6)]
noncomputable def al_X8_stands_2 : zAq := [(some (.inl 2147483647), [(0, zk0), (249, zk6)])]
noncomputable def fm_X8_stands_2 : List zFm := [(0, [], (fun vs => [.inr (.ref 0), .inl 9223372135639023615]), (fun vs => zP q_X8_stands_2), (fun vs => Nat.sub (Nat.add 0 0) 0))]
def bf_X8_stands_2 : List Nat := []
theorem r_X8_stands_2_0 : zbox [] (fun vs => zFrun (zpost (zAlq al_X8_stands_2)) 1000 t_X8_stands fm_X8_stands_2 bf_X8_stands_2 (0, vs)) = true := by decide +kernel
set_option maxRecDepth 100000 in
theorem x_X8_stands_2 (d : Nat) : zS l G gh (d + 7) (zpost (zAlq al_X8_stands_2)) n_X8_stands (zn 0 p_X8_stands 0) (zwc (0, [.inr (.ref 0), .inl 9223372135639023615], zP q_X8_stands_2) 0) := zentry (tt_X8_stands d) fm_X8_stands_2 bf_X8_stands_2 1000 (by decide +kernel) rfl ⟨Nat.zero_lt_succ _, trivial⟩ (fun f hf => match f, hf with
  | 0, _ => fun vs hv => (zbox_t r_X8_stands_2_0) vs hv
  | f + 1, h => absurd (show f + 1 < 1 from h) (Nat.not_lt.mpr (Nat.le_add_left 1 f)))
noncomputable def gs_X8_stands_2 : zMt := zgq false [] 2 [.inr (.ref 0), .inl 9223372135639023615] q_X8_stands_2 al_X8_stands_2
set_option maxRecDepth 100000 in
theorem cs_X8_stands_2 (d : Nat) : zC l G gh (d + 7) n_X8_stands gs_X8_stands_2 := zgq_ok0 (pcs := p_X8_stands) (by decide) rfl rfl (fun a ha => by simp only [al_X8_stands_2, List.mem_cons, List.not_mem_nil, or_false] at ha; rcases ha with rfl <;> decide +kernel) (fun gh => x_X8_stands_2 d) (by decide +kernel)
def q_X8_stands_3 : List (Nat × Nat) := [(0, zk1), (9, zk21), (15, zk5), (16, zk18), (17, zk18), (18, zk19), (19, zk3), (20, zk7), (249, zk6), (250, zk7), (251, zk7), (252, zk7), (253, zk89)]
noncomputable def al_X8_stands_3 : zAq := [(some (.inl 8589934591), [(0, zk1), (9, zk21), (15, zk5), (16, zk18), (17, zk18), (18, zk19), (19, zk4), (20, zk9), (249, zk6), (250, zk7), (251, zk7), (252, zk7), (253, zk101)])]
noncomputable def fm_X8_stands_3 : List zFm := [(0, [], (fun vs => [.inr (.ref 0), .inl 9223372043297226772]), (fun vs => zP q_X8_stands_3), (fun vs => Nat.sub (Nat.add 0 0) 0))]
def bf_X8_stands_3 : List Nat := []
theorem r_X8_stands_3_0 : zbox [] (fun vs => zFrun (zpost (zAlq al_X8_stands_3)) 1000 t_X8_stands fm_X8_stands_3 bf_X8_stands_3 (0, vs)) = true := by decide +kernel
set_option maxRecDepth 100000 in
theorem x_X8_stands_3 (d : Nat) : zS l G gh (d + 7) (zpost (zAlq al_X8_stands_3)) n_X8_stands (zn 0 p_X8_stands 0) (zwc (0, [.inr (.ref 0), .inl 9223372043297226772], zP q_X8_stands_3) 0) := zentry (tt_X8_stands d) fm_X8_stands_3 bf_X8_stands_3 1000 (by decide +kernel) rfl ⟨Nat.zero_lt_succ _, trivial⟩ (fun f hf => match f, hf with
  | 0, _ => fun vs hv => (zbox_t r_X8_stands_3_0) vs hv
  | f + 1, h => absurd (show f + 1 < 1 from h) (Nat.not_lt.mpr (Nat.le_add_left 1 f)))
noncomputable def gs_X8_stands_3 : zMt := zgq false [] 2 [.inr (.ref 0), .inl 9223372043297226772] q_X8_stands_3 al_X8_stands_3
set_option maxRecDepth 100000 in
theorem cs_X8_stands_3 (d : Nat) : zC l G gh (d + 7) n_X8_stands gs_X8_stands_3 := zgq_ok0 (pcs := p_X8_stands) (by decide) rfl rfl (fun a ha => by simp only [al_X8_stands_3, List.mem_cons, List.not_mem_nil, or_false] at ha; rcases ha with rfl <;> decide +kernel) (fun gh => x_X8_stands_3 d) (by decide +kernel)
def q_X8_stands_4 : List (Nat × Nat) := [(0, zk1)]
noncomputable def al_X8_stands_4 : zAq := [(some (.inl 2147483647), [(0, zk1)])]
noncomputable def fm_X8_stands_4 : List zFm := [(0, [], (fun vs => [.inr (.ref 0), .inl 6442450943]), (fun vs => zP q_X8_stands_4), (fun vs => Nat.sub (Nat.add 0 0) 0))]
def bf_X8_stands_4 : List Nat := []
theorem r_X8_stands_4_0 : zbox [] (fun vs => zFrun (zpost (zAlq al_X8_stands_4)) 1000 t_X8_stands fm_X8_stands_4 bf_X8_stands_4 (0, vs)) = true := by decide +kernel
set_option maxRecDepth 100000 in
theorem x_X8_stands_4 (d : Nat) : zS l G gh (d + 7) (zpost (zAlq al_X8_stands_4)) n_X8_stands (zn 0 p_X8_stands 0) (zwc (0, [.inr (.ref 0), .inl 6442450943], zP q_X8_stands_4) 0) := zentry (tt_X8_stands d) fm_X8_stands_4 bf_X8_stands_4 1000 (by decide +kernel) rfl ⟨Nat.zero_lt_succ _, trivial⟩ (fun f hf => match f, hf with
  | 0, _ => fun vs hv => (zbox_t r_X8_stands_4_0) vs hv
  | f + 1, h => absurd (show f + 1 < 1 from h) (Nat.not_lt.mpr (Nat.le_add_left 1 f)))
noncomputable def gs_X8_stands_4 : zMt := zgq false [] 2 [.inr (.ref 0), .inl 6442450943] q_X8_stands_4 al_X8_stands_4
set_option maxRecDepth 100000 in
theorem cs_X8_stands_4 (d : Nat) : zC l G gh (d + 7) n_X8_stands gs_X8_stands_4 := zgq_ok0 (pcs := p_X8_stands) (by decide) rfl rfl (fun a ha => by simp only [al_X8_stands_4, List.mem_cons, List.not_mem_nil, or_false] at ha; rcases ha with rfl <;> decide +kernel) (fun gh => x_X8_stands_4 d) (by decide +kernel)
def q_X8_stands_5 : List (Nat × Nat) := [(0, zk1), (249, zk6)]
noncomputable def al_X8_stands_5 : zAq := [(some (.inl 2147483647), [(0, zk1), (249, zk6)])]
noncomputable def fm_X8_stands_5 : List zFm := [(0, [], (fun vs => [.inr (.ref 0), .inl 9223372135639023615]), (fun vs => zP q_X8_stands_5), (fun vs => Nat.sub (Nat.add 0 0) 0))]
def bf_X8_stands_5 : List Nat := []
theorem r_X8_stands_5_0 : zbox [] (fun vs => zFrun (zpost (zAlq al_X8_stands_5)) 1000 t_X8_stands fm_X8_stands_5 bf_X8_stands_5 (0, vs)) = true := by decide +kernel
set_option maxRecDepth 100000 in
theorem x_X8_stands_5 (d : Nat) : zS l G gh (d + 7) (zpost (zAlq al_X8_stands_5)) n_X8_stands (zn 0 p_X8_stands 0) (zwc (0, [.inr (.ref 0), .inl 9223372135639023615], zP q_X8_stands_5) 0) := zentry (tt_X8_stands d) fm_X8_stands_5 bf_X8_stands_5 1000 (by decide +kernel) rfl ⟨Nat.zero_lt_succ _, trivial⟩ (fun f hf => match f, hf with
  | 0, _ => fun vs hv => (zbox_t r_X8_stands_5_0) vs hv
  | f + 1, h => absurd (show f + 1 < 1 from h) (Nat.not_lt.mpr (Nat.le_add_left 1 f)))
noncomputable def gs_X8_stands_5 : zMt := zgq false [] 2 [.inr (.ref 0), .inl 9223372135639023615] q_X8_stands_5 al_X8_stands_5
set_option maxRecDepth 100000 in
theorem cs_X8_stands_5 (d : Nat) : zC l G gh (d + 7) n_X8_stands gs_X8_stands_5 := zgq_ok0 (pcs := p_X8_stands) (by decide) rfl rfl (fun a ha => by simp only [al_X8_stands_5, List.mem_cons, List.not_mem_nil, or_false] at ha; rcases ha with rfl <;> decide +kernel) (fun gh => x_X8_stands_5 d) (by decide +kernel)
noncomputable def gs_X8_stands : zMt := (zor gs_X8_stands_0 (zor gs_X8_stands_1 (zor gs_X8_stands_2 (zor gs_X8_stands_3 (zor gs_X8_stands_4 gs_X8_stands_5)))))
theorem cs_X8_stands (d : Nat) : zC l G gh (d + 7) n_X8_stands gs_X8_stands := (zor_ok (cs_X8_stands_0 d) (zor_ok (cs_X8_stands_1 d) (zor_ok (cs_X8_stands_2 d) (zor_ok (cs_X8_stands_3 d) (zor_ok (cs_X8_stands_4 d) (cs_X8_stands_5 d))))))
def p_X8_sure : List Nat := [0, 8, 12, 17, 19, 40, 44, 45]
noncomputable def b_X8_sure_0 : zBl := fun jp K => oAld 0 <| oIld 1 <| oCv 8 1 f_X8_isKnown <| oIf zeq zne (jp 3) (jp 1)
theorem s_X8_sure_0 (d : Nat) : zPb l G gh (d + 7) n_X8_sure p_X8_sure 0 b_X8_sure_0 := fun K jp hj =>
    z_aload_n (n := 0) (i := 0) (zd (i := .aload_n 0) (n := 1) (by decide +kernel)) rfl <|
    z_iload_n (n := 1) (i := 1) (zd (i := .iload_n 1) (n := 1) (by decide +kernel)) rfl <|
    z_callV (idx := 300) (ci := 8) (N := n_X8_isKnown) (zd (i := .invokevirtual 300) (n := 3) (by decide +kernel)) to_X8_isKnown g1038 g1040 g37 (by decide +kernel) rfl rfl rfl (c_X8_isKnown (l := l) (G := G) (gh := gh) (d + 5)) <|
    z_if_eq (off := 12) (tgt := 17) (zd (i := .ifCond .eq (12)) (n := 3) (by decide +kernel)) (by decide +kernel) (zj (hj 3) (by decide +kernel)) (zj (hj 1) (by decide +kernel))
noncomputable def b_X8_sure_1 : zBl := fun jp K => oNLC 2 2147483648 zltN zgeN zn1_lt zn1_ge (jp 3) (jp 2)
theorem s_X8_sure_1 (d : Nat) : zPb l G gh (d + 7) n_X8_sure p_X8_sure 8 b_X8_sure_1 := fun K jp hj =>
    z_nL0_lt (i := 2) (a1 := 1) (off := 8) (tgt := 17) (zLd_n (n := 2) (i := 2) (zd (i := .iload_n 2) (n := 1) (by decide +kernel)) rfl) (zd (i := .ifCond .lt (8)) (n := 3) (by decide +kernel)) (by decide +kernel) (zj (hj 3) (by decide +kernel)) (zj (hj 2) (by decide +kernel))
noncomputable def b_X8_sure_2 : zBl := fun jp K => oNLC 2 2147483649 zleN zgtN zn1_le zn1_gt (jp 4) (jp 3)
theorem s_X8_sure_2 (d : Nat) : zPb l G gh (d + 7) n_X8_sure p_X8_sure 12 b_X8_sure_2 := fun K jp hj =>
    z_nLC_le (i := 2) (c0 := 2147483649) (a1 := 1) (a2 := 1) (off := 5) (tgt := 19) (zLd_n (n := 2) (i := 2) (zd (i := .iload_n 2) (n := 1) (by decide +kernel)) rfl) (zCn_c (n := 1) (zd (i := .iconst (1)) (n := 1) (by decide +kernel)) (by decide +kernel)) (zd (i := .if_icmp .le (5)) (n := 3) (by decide +kernel)) (by decide +kernel) (zj (hj 4) (by decide +kernel)) (zj (hj 3) (by decide +kernel))
noncomputable def b_X8_sure_3 : zBl := fun jp K => oInt 2147483647 <| oIret K
theorem s_X8_sure_3 (d : Nat) : zPb l G gh (d + 7) n_X8_sure p_X8_sure 17 b_X8_sure_3 := fun K jp hj =>
    z_iconst (n := -1) (zd (i := .iconst (-1)) (n := 1) (by decide +kernel)) (by decide +kernel) <|
    z_iret (zd (i := .ireturn) (n := 1) (by decide +kernel)) rfl
noncomputable def b_X8_sure_4 : zBl := fun jp K => oAld 0 <| oGetR 8 7 <| oAld 0 <| oGetR 8 12 <| oIld 1 <| oCv 7 2 gs_X7_sift <| oPop <| oAld 0 <| oGetR 8 7 <| oNLC 2 2147483648 zneN zeqN zn1_ne zn1_eq (jp 6) (jp 5)
theorem s_X8_sure_4 (d : Nat) : zPb l G gh (d + 7) n_X8_sure p_X8_sure 19 b_X8_sure_4 := fun K jp hj =>
    z_aload_n (n := 0) (i := 0) (zd (i := .aload_n 0) (n := 1) (by decide +kernel)) rfl <|
    z_getR (ci := 8) (j := 7) (idx := 51) (zd (i := .getfield 51) (n := 3) (by decide +kernel)) (by decide +kernel) (by decide +kernel) rfl g459 <|
    z_aload_n (n := 0) (i := 0) (zd (i := .aload_n 0) (n := 1) (by decide +kernel)) rfl <|
    z_getR (ci := 8) (j := 12) (idx := 71) (zd (i := .getfield 71) (n := 3) (by decide +kernel)) (by decide +kernel) (by decide +kernel) rfl g464 <|
    z_iload_n (n := 1) (i := 1) (zd (i := .iload_n 1) (n := 1) (by decide +kernel)) rfl <|
    z_callV (idx := 303) (ci := 7) (N := n_X7_sift) (zd (i := .invokevirtual 303) (n := 3) (by decide +kernel)) to_X7_sift g1042 g1043 g1044 (by decide +kernel) rfl rfl rfl (cs_X7_sift (l := l) (G := G) (gh := gh) (d)) <|
    z_pop (zd (i := .pop) (n := 1) (by decide +kernel)) <|
    z_aload_n (n := 0) (i := 0) (zd (i := .aload_n 0) (n := 1) (by decide +kernel)) rfl <|
    z_getR (ci := 8) (j := 7) (idx := 51) (zd (i := .getfield 51) (n := 3) (by decide +kernel)) (by decide +kernel) (by decide +kernel) rfl g459 <|
    z_nL0_ne (i := 2) (a1 := 1) (off := 7) (tgt := 44) (zLd_n (n := 2) (i := 2) (zd (i := .iload_n 2) (n := 1) (by decide +kernel)) rfl) (zd (i := .ifCond .ne (7)) (n := 3) (by decide +kernel)) (by decide +kernel) (zj (hj 6) (by decide +kernel)) (zj (hj 5) (by decide +kernel))
noncomputable def b_X8_sure_5 : zBl := fun jp K => oInt 2147483649 <| jp 7
theorem s_X8_sure_5 (d : Nat) : zPb l G gh (d + 7) n_X8_sure p_X8_sure 40 b_X8_sure_5 := fun K jp hj =>
    z_iconst (n := 1) (zd (i := .iconst (1)) (n := 1) (by decide +kernel)) (by decide +kernel) <|
    z_goto (off := 4) (tgt := 45) (zd (i := .goto (4)) (n := 3) (by decide +kernel)) (by decide +kernel) (zj (hj 7) (by decide +kernel))
noncomputable def b_X8_sure_6 : zBl := fun jp K => oInt 2147483648 <| jp 7
theorem s_X8_sure_6 (d : Nat) : zPb l G gh (d + 7) n_X8_sure p_X8_sure 44 b_X8_sure_6 := fun K jp hj =>
    z_iconst (n := 0) (zd (i := .iconst (0)) (n := 1) (by decide +kernel)) (by decide +kernel) <|
    (zj (hj 7) (by decide +kernel))
noncomputable def b_X8_sure_7 : zBl := fun jp K => oCv 7 1 gs_X7_common <| oIret K
theorem s_X8_sure_7 (d : Nat) : zPb l G gh (d + 7) n_X8_sure p_X8_sure 45 b_X8_sure_7 := fun K jp hj =>
    z_callV (idx := 307) (ci := 7) (N := n_X7_common) (zd (i := .invokevirtual 307) (n := 3) (by decide +kernel)) to_X7_common g1063 g1064 g1065 (by decide +kernel) rfl rfl rfl (cs_X7_common (l := l) (G := G) (gh := gh) (d + 4)) <|
    z_iret (zd (i := .ireturn) (n := 1) (by decide +kernel)) rfl
noncomputable def t_X8_sure : List zBl := [b_X8_sure_0, b_X8_sure_1, b_X8_sure_2, b_X8_sure_3, b_X8_sure_4, b_X8_sure_5, b_X8_sure_6, b_X8_sure_7]
theorem tt_X8_sure (d : Nat) : zT (zPb l G gh (d + 7) n_X8_sure p_X8_sure) t_X8_sure p_X8_sure := ⟨s_X8_sure_0 d, s_X8_sure_1 d, s_X8_sure_2 d, s_X8_sure_3 d, s_X8_sure_4 d, s_X8_sure_5 d, s_X8_sure_6 d, s_X8_sure_7 d, trivial⟩
def q_X8_sure_0 : List (Nat × Nat) := [(0, zk0), (249, zk6), (250, zk7), (251, zk7), (252, zk7), (253, zk89), (259, zk20), (265, zk2), (266, zk18), (267, zk18), (268, zk19), (269, zk3), (270, zk7)]
noncomputable def al_X8_sure_0 : zAq := [(some (.inl 9223372034707292179), [(0, zk0), (249, zk6), (250, zk7), (251, zk7), (252, zk7), (253, zk101), (259, zk20), (265, zk2), (266, zk18), (267, zk18), (268, zk19), (269, zk4), (270, zk9)])]
noncomputable def fm_X8_sure_0 : List zFm := [(0, [], (fun vs => [.inr (.ref 0), .inl 9223372043297226772, .inl 2147483648]), (fun vs => zP q_X8_sure_0), (fun vs => Nat.sub (Nat.add 0 0) 0))]
def bf_X8_sure_0 : List Nat := []
theorem r_X8_sure_0_0 : zbox [] (fun vs => zFrun (zpost (zAlq al_X8_sure_0)) 1000 t_X8_sure fm_X8_sure_0 bf_X8_sure_0 (0, vs)) = true := by decide +kernel
set_option maxRecDepth 100000 in
theorem x_X8_sure_0 (d : Nat) : zS l G gh (d + 7) (zpost (zAlq al_X8_sure_0)) n_X8_sure (zn 0 p_X8_sure 0) (zwc (0, [.inr (.ref 0), .inl 9223372043297226772, .inl 2147483648], zP q_X8_sure_0) 0) := zentry (tt_X8_sure d) fm_X8_sure_0 bf_X8_sure_0 1000 (by decide +kernel) rfl ⟨Nat.zero_lt_succ _, trivial⟩ (fun f hf => match f, hf with
  | 0, _ => fun vs hv => (zbox_t r_X8_sure_0_0) vs hv
  | f + 1, h => absurd (show f + 1 < 1 from h) (Nat.not_lt.mpr (Nat.le_add_left 1 f)))
noncomputable def gs_X8_sure_0 : zMt := zgq false [] 3 [.inr (.ref 0), .inl 9223372043297226772, .inl 2147483648] q_X8_sure_0 al_X8_sure_0
set_option maxRecDepth 100000 in
theorem cs_X8_sure_0 (d : Nat) : zC l G gh (d + 7) n_X8_sure gs_X8_sure_0 := zgq_ok0 (pcs := p_X8_sure) (by decide) rfl rfl (fun a ha => by simp only [al_X8_sure_0, List.mem_cons, List.not_mem_nil, or_false] at ha; rcases ha with rfl <;> decide +kernel) (fun gh => x_X8_sure_0 d) (by decide +kernel)
def q_X8_sure_1 : List (Nat × Nat) := [(0, zk0), (249, zk6), (250, zk7), (251, zk7), (252, zk7), (253, zk89), (259, zk20), (265, zk2), (266, zk18), (267, zk18), (268, zk19), (269, zk3), (270, zk7)]
noncomputable def al_X8_sure_1 : zAq := [(some (.inl 9223372034707292179), [(0, zk0), (249, zk6), (250, zk7), (251, zk7), (252, zk7), (253, zk101), (259, zk20), (265, zk2), (266, zk18), (267, zk18), (268, zk19), (269, zk4), (270, zk9)])]
noncomputable def fm_X8_sure_1 : List zFm := [(0, [], (fun vs => [.inr (.ref 0), .inl 9223372043297226772, .inl 2147483649]), (fun vs => zP q_X8_sure_1), (fun vs => Nat.sub (Nat.add 0 0) 0))]
def bf_X8_sure_1 : List Nat := []
theorem r_X8_sure_1_0 : zbox [] (fun vs => zFrun (zpost (zAlq al_X8_sure_1)) 1000 t_X8_sure fm_X8_sure_1 bf_X8_sure_1 (0, vs)) = true := by decide +kernel
set_option maxRecDepth 100000 in
theorem x_X8_sure_1 (d : Nat) : zS l G gh (d + 7) (zpost (zAlq al_X8_sure_1)) n_X8_sure (zn 0 p_X8_sure 0) (zwc (0, [.inr (.ref 0), .inl 9223372043297226772, .inl 2147483649], zP q_X8_sure_1) 0) := zentry (tt_X8_sure d) fm_X8_sure_1 bf_X8_sure_1 1000 (by decide +kernel) rfl ⟨Nat.zero_lt_succ _, trivial⟩ (fun f hf => match f, hf with
  | 0, _ => fun vs hv => (zbox_t r_X8_sure_1_0) vs hv
  | f + 1, h => absurd (show f + 1 < 1 from h) (Nat.not_lt.mpr (Nat.le_add_left 1 f)))
noncomputable def gs_X8_sure_1 : zMt := zgq false [] 3 [.inr (.ref 0), .inl 9223372043297226772, .inl 2147483649] q_X8_sure_1 al_X8_sure_1
set_option maxRecDepth 100000 in
theorem cs_X8_sure_1 (d : Nat) : zC l G gh (d + 7) n_X8_sure gs_X8_sure_1 := zgq_ok0 (pcs := p_X8_sure) (by decide) rfl rfl (fun a ha => by simp only [al_X8_sure_1, List.mem_cons, List.not_mem_nil, or_false] at ha; rcases ha with rfl <;> decide +kernel) (fun gh => x_X8_sure_1 d) (by decide +kernel)
def q_X8_sure_2 : List (Nat × Nat) := [(0, zk0), (249, zk6)]
noncomputable def al_X8_sure_2 : zAq := [(some (.inl 2147483647), [(0, zk0), (249, zk6)])]
noncomputable def fm_X8_sure_2 : List zFm := [(0, [], (fun vs => [.inr (.ref 0), .inl 9223372043297226772, .inl 6442450943]), (fun vs => zP q_X8_sure_2), (fun vs => Nat.sub (Nat.add 0 0) 0))]
def bf_X8_sure_2 : List Nat := []
theorem r_X8_sure_2_0 : zbox [] (fun vs => zFrun (zpost (zAlq al_X8_sure_2)) 1000 t_X8_sure fm_X8_sure_2 bf_X8_sure_2 (0, vs)) = true := by decide +kernel
set_option maxRecDepth 100000 in
theorem x_X8_sure_2 (d : Nat) : zS l G gh (d + 7) (zpost (zAlq al_X8_sure_2)) n_X8_sure (zn 0 p_X8_sure 0) (zwc (0, [.inr (.ref 0), .inl 9223372043297226772, .inl 6442450943], zP q_X8_sure_2) 0) := zentry (tt_X8_sure d) fm_X8_sure_2 bf_X8_sure_2 1000 (by decide +kernel) rfl ⟨Nat.zero_lt_succ _, trivial⟩ (fun f hf => match f, hf with
  | 0, _ => fun vs hv => (zbox_t r_X8_sure_2_0) vs hv
  | f + 1, h => absurd (show f + 1 < 1 from h) (Nat.not_lt.mpr (Nat.le_add_left 1 f)))
noncomputable def gs_X8_sure_2 : zMt := zgq false [] 3 [.inr (.ref 0), .inl 9223372043297226772, .inl 6442450943] q_X8_sure_2 al_X8_sure_2
set_option maxRecDepth 100000 in
theorem cs_X8_sure_2 (d : Nat) : zC l G gh (d + 7) n_X8_sure gs_X8_sure_2 := zgq_ok0 (pcs := p_X8_sure) (by decide) rfl rfl (fun a ha => by simp only [al_X8_sure_2, List.mem_cons, List.not_mem_nil, or_false] at ha; rcases ha with rfl <;> decide +kernel) (fun gh => x_X8_sure_2 d) (by decide +kernel)
def q_X8_sure_3 : List (Nat × Nat) := [(0, zk0), (249, zk6)]
noncomputable def al_X8_sure_3 : zAq := [(some (.inl 2147483647), [(0, zk0), (249, zk6)])]
noncomputable def fm_X8_sure_3 : List zFm := [(0, [], (fun vs => [.inr (.ref 0), .inl 9223372043297226772, .inl 9223372054034644991]), (fun vs => zP q_X8_sure_3), (fun vs => Nat.sub (Nat.add 0 0) 0))]
def bf_X8_sure_3 : List Nat := []
theorem r_X8_sure_3_0 : zbox [] (fun vs => zFrun (zpost (zAlq al_X8_sure_3)) 1000 t_X8_sure fm_X8_sure_3 bf_X8_sure_3 (0, vs)) = true := by decide +kernel
set_option maxRecDepth 100000 in
theorem x_X8_sure_3 (d : Nat) : zS l G gh (d + 7) (zpost (zAlq al_X8_sure_3)) n_X8_sure (zn 0 p_X8_sure 0) (zwc (0, [.inr (.ref 0), .inl 9223372043297226772, .inl 9223372054034644991], zP q_X8_sure_3) 0) := zentry (tt_X8_sure d) fm_X8_sure_3 bf_X8_sure_3 1000 (by decide +kernel) rfl ⟨Nat.zero_lt_succ _, trivial⟩ (fun f hf => match f, hf with
  | 0, _ => fun vs hv => (zbox_t r_X8_sure_3_0) vs hv
  | f + 1, h => absurd (show f + 1 < 1 from h) (Nat.not_lt.mpr (Nat.le_add_left 1 f)))
noncomputable def gs_X8_sure_3 : zMt := zgq false [] 3 [.inr (.ref 0), .inl 9223372043297226772, .inl 9223372054034644991] q_X8_sure_3 al_X8_sure_3
set_option maxRecDepth 100000 in
theorem cs_X8_sure_3 (d : Nat) : zC l G gh (d + 7) n_X8_sure gs_X8_sure_3 := zgq_ok0 (pcs := p_X8_sure) (by decide) rfl rfl (fun a ha => by simp only [al_X8_sure_3, List.mem_cons, List.not_mem_nil, or_false] at ha; rcases ha with rfl <;> decide +kernel) (fun gh => x_X8_sure_3 d) (by decide +kernel)
def q_X8_sure_4 : List (Nat × Nat) := [(0, zk0)]
noncomputable def al_X8_sure_4 : zAq := [(some (.inl 2147483647), [(0, zk0)])]
noncomputable def fm_X8_sure_4 : List zFm := [(0, [], (fun vs => [.inr (.ref 0), .inl 6442450943, .inl 8589934591]), (fun vs => zP q_X8_sure_4), (fun vs => Nat.sub (Nat.add 0 0) 0))]
def bf_X8_sure_4 : List Nat := []
theorem r_X8_sure_4_0 : zbox [] (fun vs => zFrun (zpost (zAlq al_X8_sure_4)) 1000 t_X8_sure fm_X8_sure_4 bf_X8_sure_4 (0, vs)) = true := by decide +kernel
set_option maxRecDepth 100000 in
theorem x_X8_sure_4 (d : Nat) : zS l G gh (d + 7) (zpost (zAlq al_X8_sure_4)) n_X8_sure (zn 0 p_X8_sure 0) (zwc (0, [.inr (.ref 0), .inl 6442450943, .inl 8589934591], zP q_X8_sure_4) 0) := zentry (tt_X8_sure d) fm_X8_sure_4 bf_X8_sure_4 1000 (by decide +kernel) rfl ⟨Nat.zero_lt_succ _, trivial⟩ (fun f hf => match f, hf with
  | 0, _ => fun vs hv => (zbox_t r_X8_sure_4_0) vs hv
  | f + 1, h => absurd (show f + 1 < 1 from h) (Nat.not_lt.mpr (Nat.le_add_left 1 f)))
noncomputable def gs_X8_sure_4 : zMt := zgq false [] 3 [.inr (.ref 0), .inl 6442450943, .inl 8589934591] q_X8_sure_4 al_X8_sure_4
set_option maxRecDepth 100000 in
theorem cs_X8_sure_4 (d : Nat) : zC l G gh (d + 7) n_X8_sure gs_X8_sure_4 := zgq_ok0 (pcs := p_X8_sure) (by decide) rfl rfl (fun a ha => by simp only [al_X8_sure_4, List.mem_cons, List.not_mem_nil, or_false] at ha; rcases ha with rfl <;> decide +kernel) (fun gh => x_X8_sure_4 d) (by decide +kernel)
def q_X8_sure_5 : List (Nat × Nat) := [(0, zk0), (249, zk6)]
noncomputable def al_X8_sure_5 : zAq := [(some (.inl 2147483647), [(0, zk0), (249, zk6)])]
noncomputable def fm_X8_sure_5 : List zFm := [(0, [], (fun vs => [.inr (.ref 0), .inl 9223372135639023615, .inl 8589934591]), (fun vs => zP q_X8_sure_5), (fun vs => Nat.sub (Nat.add 0 0) 0))]
def bf_X8_sure_5 : List Nat := []
theorem r_X8_sure_5_0 : zbox [] (fun vs => zFrun (zpost (zAlq al_X8_sure_5)) 1000 t_X8_sure fm_X8_sure_5 bf_X8_sure_5 (0, vs)) = true := by decide +kernel
set_option maxRecDepth 100000 in
theorem x_X8_sure_5 (d : Nat) : zS l G gh (d + 7) (zpost (zAlq al_X8_sure_5)) n_X8_sure (zn 0 p_X8_sure 0) (zwc (0, [.inr (.ref 0), .inl 9223372135639023615, .inl 8589934591], zP q_X8_sure_5) 0) := zentry (tt_X8_sure d) fm_X8_sure_5 bf_X8_sure_5 1000 (by decide +kernel) rfl ⟨Nat.zero_lt_succ _, trivial⟩ (fun f hf => match f, hf with
  | 0, _ => fun vs hv => (zbox_t r_X8_sure_5_0) vs hv
  | f + 1, h => absurd (show f + 1 < 1 from h) (Nat.not_lt.mpr (Nat.le_add_left 1 f)))
noncomputable def gs_X8_sure_5 : zMt := zgq false [] 3 [.inr (.ref 0), .inl 9223372135639023615, .inl 8589934591] q_X8_sure_5 al_X8_sure_5
set_option maxRecDepth 100000 in
theorem cs_X8_sure_5 (d : Nat) : zC l G gh (d + 7) n_X8_sure gs_X8_sure_5 := zgq_ok0 (pcs := p_X8_sure) (by decide) rfl rfl (fun a ha => by simp only [al_X8_sure_5, List.mem_cons, List.not_mem_nil, or_false] at ha; rcases ha with rfl <;> decide +kernel) (fun gh => x_X8_sure_5 d) (by decide +kernel)
def q_X8_sure_6 : List (Nat × Nat) := [(0, zk1), (9, zk21), (15, zk5), (16, zk18), (17, zk18), (18, zk19), (19, zk3), (20, zk7), (249, zk6), (250, zk7), (251, zk7), (252, zk7), (253, zk89)]
noncomputable def al_X8_sure_6 : zAq := [(some (.inl 9223372034707292179), [(0, zk1), (9, zk21), (15, zk5), (16, zk18), (17, zk18), (18, zk19), (19, zk4), (20, zk9), (249, zk6), (250, zk7), (251, zk7), (252, zk7), (253, zk101)])]
noncomputable def fm_X8_sure_6 : List zFm := [(0, [], (fun vs => [.inr (.ref 0), .inl 9223372043297226772, .inl 2147483648]), (fun vs => zP q_X8_sure_6), (fun vs => Nat.sub (Nat.add 0 0) 0))]
def bf_X8_sure_6 : List Nat := []
theorem r_X8_sure_6_0 : zbox [] (fun vs => zFrun (zpost (zAlq al_X8_sure_6)) 1000 t_X8_sure fm_X8_sure_6 bf_X8_sure_6 (0, vs)) = true := by decide +kernel
set_option maxRecDepth 100000 in
theorem x_X8_sure_6 (d : Nat) : zS l G gh (d + 7) (zpost (zAlq al_X8_sure_6)) n_X8_sure (zn 0 p_X8_sure 0) (zwc (0, [.inr (.ref 0), .inl 9223372043297226772, .inl 2147483648], zP q_X8_sure_6) 0) := zentry (tt_X8_sure d) fm_X8_sure_6 bf_X8_sure_6 1000 (by decide +kernel) rfl ⟨Nat.zero_lt_succ _, trivial⟩ (fun f hf => match f, hf with
  | 0, _ => fun vs hv => (zbox_t r_X8_sure_6_0) vs hv
  | f + 1, h => absurd (show f + 1 < 1 from h) (Nat.not_lt.mpr (Nat.le_add_left 1 f)))
noncomputable def gs_X8_sure_6 : zMt := zgq false [] 3 [.inr (.ref 0), .inl 9223372043297226772, .inl 2147483648] q_X8_sure_6 al_X8_sure_6
set_option maxRecDepth 100000 in
theorem cs_X8_sure_6 (d : Nat) : zC l G gh (d + 7) n_X8_sure gs_X8_sure_6 := zgq_ok0 (pcs := p_X8_sure) (by decide) rfl rfl (fun a ha => by simp only [al_X8_sure_6, List.mem_cons, List.not_mem_nil, or_false] at ha; rcases ha with rfl <;> decide +kernel) (fun gh => x_X8_sure_6 d) (by decide +kernel)
def q_X8_sure_7 : List (Nat × Nat) := [(0, zk1), (9, zk21), (15, zk5), (16, zk18), (17, zk18), (18, zk19), (19, zk3), (20, zk7), (249, zk6), (250, zk7), (251, zk7), (252, zk7), (253, zk89)]
noncomputable def al_X8_sure_7 : zAq := [(some (.inl 9223372034707292179), [(0, zk1), (9, zk21), (15, zk5), (16, zk18), (17, zk18), (18, zk19), (19, zk4), (20, zk9), (249, zk6), (250, zk7), (251, zk7), (252, zk7), (253, zk101)])]
noncomputable def fm_X8_sure_7 : List zFm := [(0, [], (fun vs => [.inr (.ref 0), .inl 9223372043297226772, .inl 2147483649]), (fun vs => zP q_X8_sure_7), (fun vs => Nat.sub (Nat.add 0 0) 0))]
def bf_X8_sure_7 : List Nat := []
theorem r_X8_sure_7_0 : zbox [] (fun vs => zFrun (zpost (zAlq al_X8_sure_7)) 1000 t_X8_sure fm_X8_sure_7 bf_X8_sure_7 (0, vs)) = true := by decide +kernel
set_option maxRecDepth 100000 in
theorem x_X8_sure_7 (d : Nat) : zS l G gh (d + 7) (zpost (zAlq al_X8_sure_7)) n_X8_sure (zn 0 p_X8_sure 0) (zwc (0, [.inr (.ref 0), .inl 9223372043297226772, .inl 2147483649], zP q_X8_sure_7) 0) := zentry (tt_X8_sure d) fm_X8_sure_7 bf_X8_sure_7 1000 (by decide +kernel) rfl ⟨Nat.zero_lt_succ _, trivial⟩ (fun f hf => match f, hf with
  | 0, _ => fun vs hv => (zbox_t r_X8_sure_7_0) vs hv
  | f + 1, h => absurd (show f + 1 < 1 from h) (Nat.not_lt.mpr (Nat.le_add_left 1 f)))
noncomputable def gs_X8_sure_7 : zMt := zgq false [] 3 [.inr (.ref 0), .inl 9223372043297226772, .inl 2147483649] q_X8_sure_7 al_X8_sure_7
set_option maxRecDepth 100000 in
theorem cs_X8_sure_7 (d : Nat) : zC l G gh (d + 7) n_X8_sure gs_X8_sure_7 := zgq_ok0 (pcs := p_X8_sure) (by decide) rfl rfl (fun a ha => by simp only [al_X8_sure_7, List.mem_cons, List.not_mem_nil, or_false] at ha; rcases ha with rfl <;> decide +kernel) (fun gh => x_X8_sure_7 d) (by decide +kernel)
def q_X8_sure_8 : List (Nat × Nat) := [(0, zk1), (249, zk6)]
noncomputable def al_X8_sure_8 : zAq := [(some (.inl 2147483647), [(0, zk1), (249, zk6)])]
noncomputable def fm_X8_sure_8 : List zFm := [(0, [], (fun vs => [.inr (.ref 0), .inl 9223372043297226772, .inl 6442450943]), (fun vs => zP q_X8_sure_8), (fun vs => Nat.sub (Nat.add 0 0) 0))]
def bf_X8_sure_8 : List Nat := []
theorem r_X8_sure_8_0 : zbox [] (fun vs => zFrun (zpost (zAlq al_X8_sure_8)) 1000 t_X8_sure fm_X8_sure_8 bf_X8_sure_8 (0, vs)) = true := by decide +kernel
set_option maxRecDepth 100000 in
theorem x_X8_sure_8 (d : Nat) : zS l G gh (d + 7) (zpost (zAlq al_X8_sure_8)) n_X8_sure (zn 0 p_X8_sure 0) (zwc (0, [.inr (.ref 0), .inl 9223372043297226772, .inl 6442450943], zP q_X8_sure_8) 0) := zentry (tt_X8_sure d) fm_X8_sure_8 bf_X8_sure_8 1000 (by decide +kernel) rfl ⟨Nat.zero_lt_succ _, trivial⟩ (fun f hf => match f, hf with
  | 0, _ => fun vs hv => (zbox_t r_X8_sure_8_0) vs hv
  | f + 1, h => absurd (show f + 1 < 1 from h) (Nat.not_lt.mpr (Nat.le_add_left 1 f)))
noncomputable def gs_X8_sure_8 : zMt := zgq false [] 3 [.inr (.ref 0), .inl 9223372043297226772, .inl 6442450943] q_X8_sure_8 al_X8_sure_8
set_option maxRecDepth 100000 in
theorem cs_X8_sure_8 (d : Nat) : zC l G gh (d + 7) n_X8_sure gs_X8_sure_8 := zgq_ok0 (pcs := p_X8_sure) (by decide) rfl rfl (fun a ha => by simp only [al_X8_sure_8, List.mem_cons, List.not_mem_nil, or_false] at ha; rcases ha with rfl <;> decide +kernel) (fun gh => x_X8_sure_8 d) (by decide +kernel)
def q_X8_sure_9 : List (Nat × Nat) := [(0, zk1), (249, zk6)]
noncomputable def al_X8_sure_9 : zAq := [(some (.inl 2147483647), [(0, zk1), (249, zk6)])]
noncomputable def fm_X8_sure_9 : List zFm := [(0, [], (fun vs => [.inr (.ref 0), .inl 9223372043297226772, .inl 9223372054034644991]), (fun vs => zP q_X8_sure_9), (fun vs => Nat.sub (Nat.add 0 0) 0))]
def bf_X8_sure_9 : List Nat := []
theorem r_X8_sure_9_0 : zbox [] (fun vs => zFrun (zpost (zAlq al_X8_sure_9)) 1000 t_X8_sure fm_X8_sure_9 bf_X8_sure_9 (0, vs)) = true := by decide +kernel
set_option maxRecDepth 100000 in
theorem x_X8_sure_9 (d : Nat) : zS l G gh (d + 7) (zpost (zAlq al_X8_sure_9)) n_X8_sure (zn 0 p_X8_sure 0) (zwc (0, [.inr (.ref 0), .inl 9223372043297226772, .inl 9223372054034644991], zP q_X8_sure_9) 0) := zentry (tt_X8_sure d) fm_X8_sure_9 bf_X8_sure_9 1000 (by decide +kernel) rfl ⟨Nat.zero_lt_succ _, trivial⟩ (fun f hf => match f, hf with
  | 0, _ => fun vs hv => (zbox_t r_X8_sure_9_0) vs hv
  | f + 1, h => absurd (show f + 1 < 1 from h) (Nat.not_lt.mpr (Nat.le_add_left 1 f)))
noncomputable def gs_X8_sure_9 : zMt := zgq false [] 3 [.inr (.ref 0), .inl 9223372043297226772, .inl 9223372054034644991] q_X8_sure_9 al_X8_sure_9
set_option maxRecDepth 100000 in
theorem cs_X8_sure_9 (d : Nat) : zC l G gh (d + 7) n_X8_sure gs_X8_sure_9 := zgq_ok0 (pcs := p_X8_sure) (by decide) rfl rfl (fun a ha => by simp only [al_X8_sure_9, List.mem_cons, List.not_mem_nil, or_false] at ha; rcases ha with rfl <;> decide +kernel) (fun gh => x_X8_sure_9 d) (by decide +kernel)
def q_X8_sure_10 : List (Nat × Nat) := [(0, zk1)]
noncomputable def al_X8_sure_10 : zAq := [(some (.inl 2147483647), [(0, zk1)])]
noncomputable def fm_X8_sure_10 : List zFm := [(0, [], (fun vs => [.inr (.ref 0), .inl 6442450943, .inl 8589934591]), (fun vs => zP q_X8_sure_10), (fun vs => Nat.sub (Nat.add 0 0) 0))]
def bf_X8_sure_10 : List Nat := []
theorem r_X8_sure_10_0 : zbox [] (fun vs => zFrun (zpost (zAlq al_X8_sure_10)) 1000 t_X8_sure fm_X8_sure_10 bf_X8_sure_10 (0, vs)) = true := by decide +kernel
set_option maxRecDepth 100000 in
theorem x_X8_sure_10 (d : Nat) : zS l G gh (d + 7) (zpost (zAlq al_X8_sure_10)) n_X8_sure (zn 0 p_X8_sure 0) (zwc (0, [.inr (.ref 0), .inl 6442450943, .inl 8589934591], zP q_X8_sure_10) 0) := zentry (tt_X8_sure d) fm_X8_sure_10 bf_X8_sure_10 1000 (by decide +kernel) rfl ⟨Nat.zero_lt_succ _, trivial⟩ (fun f hf => match f, hf with
  | 0, _ => fun vs hv => (zbox_t r_X8_sure_10_0) vs hv
  | f + 1, h => absurd (show f + 1 < 1 from h) (Nat.not_lt.mpr (Nat.le_add_left 1 f)))
noncomputable def gs_X8_sure_10 : zMt := zgq false [] 3 [.inr (.ref 0), .inl 6442450943, .inl 8589934591] q_X8_sure_10 al_X8_sure_10
set_option maxRecDepth 100000 in
theorem cs_X8_sure_10 (d : Nat) : zC l G gh (d + 7) n_X8_sure gs_X8_sure_10 := zgq_ok0 (pcs := p_X8_sure) (by decide) rfl rfl (fun a ha => by simp only [al_X8_sure_10, List.mem_cons, List.not_mem_nil, or_false] at ha; rcases ha with rfl <;> decide +kernel) (fun gh => x_X8_sure_10 d) (by decide +kernel)
def q_X8_sure_11 : List (Nat × Nat) := [(0, zk1), (249, zk6)]
noncomputable def al_X8_sure_11 : zAq := [(some (.inl 2147483647), [(0, zk1), (249, zk6)])]
noncomputable def fm_X8_sure_11 : List zFm := [(0, [], (fun vs => [.inr (.ref 0), .inl 9223372135639023615, .inl 8589934591]), (fun vs => zP q_X8_sure_11), (fun vs => Nat.sub (Nat.add 0 0) 0))]
def bf_X8_sure_11 : List Nat := []
theorem r_X8_sure_11_0 : zbox [] (fun vs => zFrun (zpost (zAlq al_X8_sure_11)) 1000 t_X8_sure fm_X8_sure_11 bf_X8_sure_11 (0, vs)) = true := by decide +kernel
set_option maxRecDepth 100000 in
theorem x_X8_sure_11 (d : Nat) : zS l G gh (d + 7) (zpost (zAlq al_X8_sure_11)) n_X8_sure (zn 0 p_X8_sure 0) (zwc (0, [.inr (.ref 0), .inl 9223372135639023615, .inl 8589934591], zP q_X8_sure_11) 0) := zentry (tt_X8_sure d) fm_X8_sure_11 bf_X8_sure_11 1000 (by decide +kernel) rfl ⟨Nat.zero_lt_succ _, trivial⟩ (fun f hf => match f, hf with
  | 0, _ => fun vs hv => (zbox_t r_X8_sure_11_0) vs hv
  | f + 1, h => absurd (show f + 1 < 1 from h) (Nat.not_lt.mpr (Nat.le_add_left 1 f)))
noncomputable def gs_X8_sure_11 : zMt := zgq false [] 3 [.inr (.ref 0), .inl 9223372135639023615, .inl 8589934591] q_X8_sure_11 al_X8_sure_11
set_option maxRecDepth 100000 in
theorem cs_X8_sure_11 (d : Nat) : zC l G gh (d + 7) n_X8_sure gs_X8_sure_11 := zgq_ok0 (pcs := p_X8_sure) (by decide) rfl rfl (fun a ha => by simp only [al_X8_sure_11, List.mem_cons, List.not_mem_nil, or_false] at ha; rcases ha with rfl <;> decide +kernel) (fun gh => x_X8_sure_11 d) (by decide +kernel)
noncomputable def gs_X8_sure : zMt := (zor gs_X8_sure_0 (zor gs_X8_sure_1 (zor gs_X8_sure_2 (zor gs_X8_sure_3 (zor gs_X8_sure_4 (zor gs_X8_sure_5 (zor gs_X8_sure_6 (zor gs_X8_sure_7 (zor gs_X8_sure_8 (zor gs_X8_sure_9 (zor gs_X8_sure_10 gs_X8_sure_11)))))))))))
theorem cs_X8_sure (d : Nat) : zC l G gh (d + 7) n_X8_sure gs_X8_sure := (zor_ok (cs_X8_sure_0 d) (zor_ok (cs_X8_sure_1 d) (zor_ok (cs_X8_sure_2 d) (zor_ok (cs_X8_sure_3 d) (zor_ok (cs_X8_sure_4 d) (zor_ok (cs_X8_sure_5 d) (zor_ok (cs_X8_sure_6 d) (zor_ok (cs_X8_sure_7 d) (zor_ok (cs_X8_sure_8 d) (zor_ok (cs_X8_sure_9 d) (zor_ok (cs_X8_sure_10 d) (cs_X8_sure_11 d))))))))))))
def p_X8_look : List Nat := [0, 8, 12, 18, 20, 35, 40, 60]
noncomputable def b_X8_look_0 : zBl := fun jp K => oAld 0 <| oIld 1 <| oCv 8 1 f_X8_isKnown <| oIf zeq zne (jp 3) (jp 1)
theorem s_X8_look_0 (d : Nat) : zPb l G gh (d + 7) n_X8_look p_X8_look 0 b_X8_look_0 := fun K jp hj =>
    z_aload_n (n := 0) (i := 0) (zd (i := .aload_n 0) (n := 1) (by decide +kernel)) rfl <|
    z_iload_n (n := 1) (i := 1) (zd (i := .iload_n 1) (n := 1) (by decide +kernel)) rfl <|
    z_callV (idx := 300) (ci := 8) (N := n_X8_isKnown) (zd (i := .invokevirtual 300) (n := 3) (by decide +kernel)) to_X8_isKnown g1038 g1040 g37 (by decide +kernel) rfl rfl rfl (c_X8_isKnown (l := l) (G := G) (gh := gh) (d + 5)) <|
    z_if_eq (off := 13) (tgt := 18) (zd (i := .ifCond .eq (13)) (n := 3) (by decide +kernel)) (by decide +kernel) (zj (hj 3) (by decide +kernel)) (zj (hj 1) (by decide +kernel))
noncomputable def b_X8_look_1 : zBl := fun jp K => oNLC 2 2147483648 zltN zgeN zn1_lt zn1_ge (jp 3) (jp 2)
theorem s_X8_look_1 (d : Nat) : zPb l G gh (d + 7) n_X8_look p_X8_look 8 b_X8_look_1 := fun K jp hj =>
    z_nL0_lt (i := 2) (a1 := 1) (off := 9) (tgt := 18) (zLd_n (n := 2) (i := 2) (zd (i := .iload_n 2) (n := 1) (by decide +kernel)) rfl) (zd (i := .ifCond .lt (9)) (n := 3) (by decide +kernel)) (by decide +kernel) (zj (hj 3) (by decide +kernel)) (zj (hj 2) (by decide +kernel))
noncomputable def b_X8_look_2 : zBl := fun jp K => oNLC 2 2147483672 zleN zgtN zn1_le zn1_gt (jp 4) (jp 3)
theorem s_X8_look_2 (d : Nat) : zPb l G gh (d + 7) n_X8_look p_X8_look 12 b_X8_look_2 := fun K jp hj =>
    z_nLC_le (i := 2) (c0 := 2147483672) (a1 := 1) (a2 := 2) (off := 5) (tgt := 20) (zLd_n (n := 2) (i := 2) (zd (i := .iload_n 2) (n := 1) (by decide +kernel)) rfl) (zCn_b (n := 24) (zd (i := .bipush (24)) (n := 2) (by decide +kernel)) (by decide +kernel)) (zd (i := .if_icmp .le (5)) (n := 3) (by decide +kernel)) (by decide +kernel) (zj (hj 4) (by decide +kernel)) (zj (hj 3) (by decide +kernel))
noncomputable def b_X8_look_3 : zBl := fun jp K => oInt 2147483647 <| oIret K
theorem s_X8_look_3 (d : Nat) : zPb l G gh (d + 7) n_X8_look p_X8_look 18 b_X8_look_3 := fun K jp hj =>
    z_iconst (n := -1) (zd (i := .iconst (-1)) (n := 1) (by decide +kernel)) (by decide +kernel) <|
    z_iret (zd (i := .ireturn) (n := 1) (by decide +kernel)) rfl
noncomputable def b_X8_look_4 : zBl := fun jp K => oAld 0 <| oGetR 8 7 <| oAld 0 <| oGetR 8 12 <| oIld 1 <| oCv 7 2 gs_X7_sift <| oIf zne zeq (jp 6) (jp 5)
theorem s_X8_look_4 (d : Nat) : zPb l G gh (d + 7) n_X8_look p_X8_look 20 b_X8_look_4 := fun K jp hj =>
    z_aload_n (n := 0) (i := 0) (zd (i := .aload_n 0) (n := 1) (by decide +kernel)) rfl <|
    z_getR (ci := 8) (j := 7) (idx := 51) (zd (i := .getfield 51) (n := 3) (by decide +kernel)) (by decide +kernel) (by decide +kernel) rfl g459 <|
    z_aload_n (n := 0) (i := 0) (zd (i := .aload_n 0) (n := 1) (by decide +kernel)) rfl <|
    z_getR (ci := 8) (j := 12) (idx := 71) (zd (i := .getfield 71) (n := 3) (by decide +kernel)) (by decide +kernel) (by decide +kernel) rfl g464 <|
    z_iload_n (n := 1) (i := 1) (zd (i := .iload_n 1) (n := 1) (by decide +kernel)) rfl <|
    z_callV (idx := 303) (ci := 7) (N := n_X7_sift) (zd (i := .invokevirtual 303) (n := 3) (by decide +kernel)) to_X7_sift g1042 g1043 g1044 (by decide +kernel) rfl rfl rfl (cs_X7_sift (l := l) (G := G) (gh := gh) (d)) <|
    z_if_ne (off := 8) (tgt := 40) (zd (i := .ifCond .ne (8)) (n := 3) (by decide +kernel)) (by decide +kernel) (zj (hj 6) (by decide +kernel)) (zj (hj 5) (by decide +kernel))
noncomputable def b_X8_look_5 : zBl := fun jp K => oInt 2147483646 <| jp 7
theorem s_X8_look_5 (d : Nat) : zPb l G gh (d + 7) n_X8_look p_X8_look 35 b_X8_look_5 := fun K jp hj =>
    z_bipush (n := -2) (zd (i := .bipush (-2)) (n := 2) (by decide +kernel)) (by decide +kernel) <|
    z_goto (off := 23) (tgt := 60) (zd (i := .goto (23)) (n := 3) (by decide +kernel)) (by decide +kernel) (zj (hj 7) (by decide +kernel))
noncomputable def b_X8_look_6 : zBl := fun jp K => oAld 0 <| oGetR 8 7 <| oAld 0 <| oGetR 8 12 <| oAld 0 <| oGetR 8 2 <| oGetI 4 0 <| oIld 2 <| oB2 zadd <| oCv 7 2 gs_X7_lookFrom <| jp 7
theorem s_X8_look_6 (d : Nat) : zPb l G gh (d + 7) n_X8_look p_X8_look 40 b_X8_look_6 := fun K jp hj =>
    z_aload_n (n := 0) (i := 0) (zd (i := .aload_n 0) (n := 1) (by decide +kernel)) rfl <|
    z_getR (ci := 8) (j := 7) (idx := 51) (zd (i := .getfield 51) (n := 3) (by decide +kernel)) (by decide +kernel) (by decide +kernel) rfl g459 <|
    z_aload_n (n := 0) (i := 0) (zd (i := .aload_n 0) (n := 1) (by decide +kernel)) rfl <|
    z_getR (ci := 8) (j := 12) (idx := 71) (zd (i := .getfield 71) (n := 3) (by decide +kernel)) (by decide +kernel) (by decide +kernel) rfl g464 <|
    z_aload_n (n := 0) (i := 0) (zd (i := .aload_n 0) (n := 1) (by decide +kernel)) rfl <|
    z_getR (ci := 8) (j := 2) (idx := 26) (zd (i := .getfield 26) (n := 3) (by decide +kernel)) (by decide +kernel) (by decide +kernel) rfl g454 <|
    z_getI (ci := 4) (j := 0) (idx := 140) (zd (i := .getfield 140) (n := 3) (by decide +kernel)) (by decide +kernel) (by decide +kernel) rfl g368 <|
    z_iload_n (n := 2) (i := 2) (zd (i := .iload_n 2) (n := 1) (by decide +kernel)) rfl <|
    z_iadd (zd (i := .iadd) (n := 1) (by decide +kernel)) <|
    z_callV (idx := 311) (ci := 7) (N := n_X7_lookFrom) (zd (i := .invokevirtual 311) (n := 3) (by decide +kernel)) to_X7_lookFrom g1071 g1072 g1073 (by decide +kernel) rfl rfl rfl (cs_X7_lookFrom (l := l) (G := G) (gh := gh) (d)) <|
    (zj (hj 7) (by decide +kernel))
noncomputable def b_X8_look_7 : zBl := fun jp K => oIret K
theorem s_X8_look_7 (d : Nat) : zPb l G gh (d + 7) n_X8_look p_X8_look 60 b_X8_look_7 := fun K jp hj =>
    z_iret (zd (i := .ireturn) (n := 1) (by decide +kernel)) rfl
noncomputable def t_X8_look : List zBl := [b_X8_look_0, b_X8_look_1, b_X8_look_2, b_X8_look_3, b_X8_look_4, b_X8_look_5, b_X8_look_6, b_X8_look_7]
theorem tt_X8_look (d : Nat) : zT (zPb l G gh (d + 7) n_X8_look p_X8_look) t_X8_look p_X8_look := ⟨s_X8_look_0 d, s_X8_look_1 d, s_X8_look_2 d, s_X8_look_3 d, s_X8_look_4 d, s_X8_look_5 d, s_X8_look_6 d, s_X8_look_7 d, trivial⟩
def q_X8_look_0 : List (Nat × Nat) := [(0, zk0), (21, zk10), (249, zk6), (250, zk7), (251, zk7), (252, zk7), (253, zk89), (254, zk99), (259, zk20), (265, zk2), (266, zk18), (267, zk18), (268, zk19), (269, zk3), (270, zk7)]
noncomputable def al_X8_look_0 : zAq := [(some (.inl 9223372034707292179), [(0, zk0), (21, zk10), (249, zk6), (250, zk7), (251, zk7), (252, zk7), (253, zk101), (254, zk100), (259, zk20), (265, zk2), (266, zk18), (267, zk18), (268, zk19), (269, zk4), (270, zk9)])]
noncomputable def fm_X8_look_0 : List zFm := [(0, [], (fun vs => [.inr (.ref 0), .inl 9223372043297226772, .inl 9223372043297226776]), (fun vs => zP q_X8_look_0), (fun vs => Nat.sub (Nat.add 0 0) 0))]
def bf_X8_look_0 : List Nat := []
theorem r_X8_look_0_0 : zbox [] (fun vs => zFrun (zpost (zAlq al_X8_look_0)) 1000 t_X8_look fm_X8_look_0 bf_X8_look_0 (0, vs)) = true := by decide +kernel
set_option maxRecDepth 100000 in
theorem x_X8_look_0 (d : Nat) : zS l G gh (d + 7) (zpost (zAlq al_X8_look_0)) n_X8_look (zn 0 p_X8_look 0) (zwc (0, [.inr (.ref 0), .inl 9223372043297226772, .inl 9223372043297226776], zP q_X8_look_0) 0) := zentry (tt_X8_look d) fm_X8_look_0 bf_X8_look_0 1000 (by decide +kernel) rfl ⟨Nat.zero_lt_succ _, trivial⟩ (fun f hf => match f, hf with
  | 0, _ => fun vs hv => (zbox_t r_X8_look_0_0) vs hv
  | f + 1, h => absurd (show f + 1 < 1 from h) (Nat.not_lt.mpr (Nat.le_add_left 1 f)))
noncomputable def gs_X8_look_0 : zMt := zgq false [] 3 [.inr (.ref 0), .inl 9223372043297226772, .inl 9223372043297226776] q_X8_look_0 al_X8_look_0
set_option maxRecDepth 100000 in
theorem cs_X8_look_0 (d : Nat) : zC l G gh (d + 7) n_X8_look gs_X8_look_0 := zgq_ok0 (pcs := p_X8_look) (by decide) rfl rfl (fun a ha => by simp only [al_X8_look_0, List.mem_cons, List.not_mem_nil, or_false] at ha; rcases ha with rfl <;> decide +kernel) (fun gh => x_X8_look_0 d) (by decide +kernel)
def q_X8_look_1 : List (Nat × Nat) := [(0, zk0), (249, zk6)]
noncomputable def al_X8_look_1 : zAq := [(some (.inl 2147483647), [(0, zk0), (249, zk6)])]
noncomputable def fm_X8_look_1 : List zFm := [(0, [], (fun vs => [.inr (.ref 0), .inl 9223372043297226772, .inl 6442450943]), (fun vs => zP q_X8_look_1), (fun vs => Nat.sub (Nat.add 0 0) 0))]
def bf_X8_look_1 : List Nat := []
theorem r_X8_look_1_0 : zbox [] (fun vs => zFrun (zpost (zAlq al_X8_look_1)) 1000 t_X8_look fm_X8_look_1 bf_X8_look_1 (0, vs)) = true := by decide +kernel
set_option maxRecDepth 100000 in
theorem x_X8_look_1 (d : Nat) : zS l G gh (d + 7) (zpost (zAlq al_X8_look_1)) n_X8_look (zn 0 p_X8_look 0) (zwc (0, [.inr (.ref 0), .inl 9223372043297226772, .inl 6442450943], zP q_X8_look_1) 0) := zentry (tt_X8_look d) fm_X8_look_1 bf_X8_look_1 1000 (by decide +kernel) rfl ⟨Nat.zero_lt_succ _, trivial⟩ (fun f hf => match f, hf with
  | 0, _ => fun vs hv => (zbox_t r_X8_look_1_0) vs hv
  | f + 1, h => absurd (show f + 1 < 1 from h) (Nat.not_lt.mpr (Nat.le_add_left 1 f)))
noncomputable def gs_X8_look_1 : zMt := zgq false [] 3 [.inr (.ref 0), .inl 9223372043297226772, .inl 6442450943] q_X8_look_1 al_X8_look_1
set_option maxRecDepth 100000 in
theorem cs_X8_look_1 (d : Nat) : zC l G gh (d + 7) n_X8_look gs_X8_look_1 := zgq_ok0 (pcs := p_X8_look) (by decide) rfl rfl (fun a ha => by simp only [al_X8_look_1, List.mem_cons, List.not_mem_nil, or_false] at ha; rcases ha with rfl <;> decide +kernel) (fun gh => x_X8_look_1 d) (by decide +kernel)
def q_X8_look_2 : List (Nat × Nat) := [(0, zk0), (249, zk6)]
noncomputable def al_X8_look_2 : zAq := [(some (.inl 2147483647), [(0, zk0), (249, zk6)])]
noncomputable def fm_X8_look_2 : List zFm := [(0, [], (fun vs => [.inr (.ref 0), .inl 9223372043297226772, .inl 9223372152818892799]), (fun vs => zP q_X8_look_2), (fun vs => Nat.sub (Nat.add 0 0) 0))]
def bf_X8_look_2 : List Nat := []
theorem r_X8_look_2_0 : zbox [] (fun vs => zFrun (zpost (zAlq al_X8_look_2)) 1000 t_X8_look fm_X8_look_2 bf_X8_look_2 (0, vs)) = true := by decide +kernel
set_option maxRecDepth 100000 in
theorem x_X8_look_2 (d : Nat) : zS l G gh (d + 7) (zpost (zAlq al_X8_look_2)) n_X8_look (zn 0 p_X8_look 0) (zwc (0, [.inr (.ref 0), .inl 9223372043297226772, .inl 9223372152818892799], zP q_X8_look_2) 0) := zentry (tt_X8_look d) fm_X8_look_2 bf_X8_look_2 1000 (by decide +kernel) rfl ⟨Nat.zero_lt_succ _, trivial⟩ (fun f hf => match f, hf with
  | 0, _ => fun vs hv => (zbox_t r_X8_look_2_0) vs hv
  | f + 1, h => absurd (show f + 1 < 1 from h) (Nat.not_lt.mpr (Nat.le_add_left 1 f)))
noncomputable def gs_X8_look_2 : zMt := zgq false [] 3 [.inr (.ref 0), .inl 9223372043297226772, .inl 9223372152818892799] q_X8_look_2 al_X8_look_2
set_option maxRecDepth 100000 in
theorem cs_X8_look_2 (d : Nat) : zC l G gh (d + 7) n_X8_look gs_X8_look_2 := zgq_ok0 (pcs := p_X8_look) (by decide) rfl rfl (fun a ha => by simp only [al_X8_look_2, List.mem_cons, List.not_mem_nil, or_false] at ha; rcases ha with rfl <;> decide +kernel) (fun gh => x_X8_look_2 d) (by decide +kernel)
def q_X8_look_3 : List (Nat × Nat) := [(0, zk0)]
noncomputable def al_X8_look_3 : zAq := [(some (.inl 2147483647), [(0, zk0)])]
noncomputable def fm_X8_look_3 : List zFm := [(0, [], (fun vs => [.inr (.ref 0), .inl 6442450943, .inl 8589934591]), (fun vs => zP q_X8_look_3), (fun vs => Nat.sub (Nat.add 0 0) 0))]
def bf_X8_look_3 : List Nat := []
theorem r_X8_look_3_0 : zbox [] (fun vs => zFrun (zpost (zAlq al_X8_look_3)) 1000 t_X8_look fm_X8_look_3 bf_X8_look_3 (0, vs)) = true := by decide +kernel
set_option maxRecDepth 100000 in
theorem x_X8_look_3 (d : Nat) : zS l G gh (d + 7) (zpost (zAlq al_X8_look_3)) n_X8_look (zn 0 p_X8_look 0) (zwc (0, [.inr (.ref 0), .inl 6442450943, .inl 8589934591], zP q_X8_look_3) 0) := zentry (tt_X8_look d) fm_X8_look_3 bf_X8_look_3 1000 (by decide +kernel) rfl ⟨Nat.zero_lt_succ _, trivial⟩ (fun f hf => match f, hf with
  | 0, _ => fun vs hv => (zbox_t r_X8_look_3_0) vs hv
  | f + 1, h => absurd (show f + 1 < 1 from h) (Nat.not_lt.mpr (Nat.le_add_left 1 f)))
noncomputable def gs_X8_look_3 : zMt := zgq false [] 3 [.inr (.ref 0), .inl 6442450943, .inl 8589934591] q_X8_look_3 al_X8_look_3
set_option maxRecDepth 100000 in
theorem cs_X8_look_3 (d : Nat) : zC l G gh (d + 7) n_X8_look gs_X8_look_3 := zgq_ok0 (pcs := p_X8_look) (by decide) rfl rfl (fun a ha => by simp only [al_X8_look_3, List.mem_cons, List.not_mem_nil, or_false] at ha; rcases ha with rfl <;> decide +kernel) (fun gh => x_X8_look_3 d) (by decide +kernel)
def q_X8_look_4 : List (Nat × Nat) := [(0, zk0), (249, zk6)]
noncomputable def al_X8_look_4 : zAq := [(some (.inl 2147483647), [(0, zk0), (249, zk6)])]
noncomputable def fm_X8_look_4 : List zFm := [(0, [], (fun vs => [.inr (.ref 0), .inl 9223372135639023615, .inl 8589934591]), (fun vs => zP q_X8_look_4), (fun vs => Nat.sub (Nat.add 0 0) 0))]
def bf_X8_look_4 : List Nat := []
theorem r_X8_look_4_0 : zbox [] (fun vs => zFrun (zpost (zAlq al_X8_look_4)) 1000 t_X8_look fm_X8_look_4 bf_X8_look_4 (0, vs)) = true := by decide +kernel
set_option maxRecDepth 100000 in
theorem x_X8_look_4 (d : Nat) : zS l G gh (d + 7) (zpost (zAlq al_X8_look_4)) n_X8_look (zn 0 p_X8_look 0) (zwc (0, [.inr (.ref 0), .inl 9223372135639023615, .inl 8589934591], zP q_X8_look_4) 0) := zentry (tt_X8_look d) fm_X8_look_4 bf_X8_look_4 1000 (by decide +kernel) rfl ⟨Nat.zero_lt_succ _, trivial⟩ (fun f hf => match f, hf with
  | 0, _ => fun vs hv => (zbox_t r_X8_look_4_0) vs hv
  | f + 1, h => absurd (show f + 1 < 1 from h) (Nat.not_lt.mpr (Nat.le_add_left 1 f)))
noncomputable def gs_X8_look_4 : zMt := zgq false [] 3 [.inr (.ref 0), .inl 9223372135639023615, .inl 8589934591] q_X8_look_4 al_X8_look_4
set_option maxRecDepth 100000 in
theorem cs_X8_look_4 (d : Nat) : zC l G gh (d + 7) n_X8_look gs_X8_look_4 := zgq_ok0 (pcs := p_X8_look) (by decide) rfl rfl (fun a ha => by simp only [al_X8_look_4, List.mem_cons, List.not_mem_nil, or_false] at ha; rcases ha with rfl <;> decide +kernel) (fun gh => x_X8_look_4 d) (by decide +kernel)
def q_X8_look_5 : List (Nat × Nat) := [(0, zk1), (9, zk21), (15, zk5), (16, zk18), (17, zk18), (18, zk19), (19, zk3), (20, zk7), (21, zk10), (249, zk6), (250, zk7), (251, zk7), (252, zk7), (253, zk89), (254, zk99)]
noncomputable def al_X8_look_5 : zAq := [(some (.inl 9223372034707292179), [(0, zk1), (9, zk21), (15, zk5), (16, zk18), (17, zk18), (18, zk19), (19, zk4), (20, zk9), (21, zk10), (249, zk6), (250, zk7), (251, zk7), (252, zk7), (253, zk101), (254, zk100)])]
noncomputable def fm_X8_look_5 : List zFm := [(0, [], (fun vs => [.inr (.ref 0), .inl 9223372043297226772, .inl 9223372043297226776]), (fun vs => zP q_X8_look_5), (fun vs => Nat.sub (Nat.add 0 0) 0))]
def bf_X8_look_5 : List Nat := []
theorem r_X8_look_5_0 : zbox [] (fun vs => zFrun (zpost (zAlq al_X8_look_5)) 1000 t_X8_look fm_X8_look_5 bf_X8_look_5 (0, vs)) = true := by decide +kernel
set_option maxRecDepth 100000 in
theorem x_X8_look_5 (d : Nat) : zS l G gh (d + 7) (zpost (zAlq al_X8_look_5)) n_X8_look (zn 0 p_X8_look 0) (zwc (0, [.inr (.ref 0), .inl 9223372043297226772, .inl 9223372043297226776], zP q_X8_look_5) 0) := zentry (tt_X8_look d) fm_X8_look_5 bf_X8_look_5 1000 (by decide +kernel) rfl ⟨Nat.zero_lt_succ _, trivial⟩ (fun f hf => match f, hf with
  | 0, _ => fun vs hv => (zbox_t r_X8_look_5_0) vs hv
  | f + 1, h => absurd (show f + 1 < 1 from h) (Nat.not_lt.mpr (Nat.le_add_left 1 f)))
noncomputable def gs_X8_look_5 : zMt := zgq false [] 3 [.inr (.ref 0), .inl 9223372043297226772, .inl 9223372043297226776] q_X8_look_5 al_X8_look_5
set_option maxRecDepth 100000 in
theorem cs_X8_look_5 (d : Nat) : zC l G gh (d + 7) n_X8_look gs_X8_look_5 := zgq_ok0 (pcs := p_X8_look) (by decide) rfl rfl (fun a ha => by simp only [al_X8_look_5, List.mem_cons, List.not_mem_nil, or_false] at ha; rcases ha with rfl <;> decide +kernel) (fun gh => x_X8_look_5 d) (by decide +kernel)
def q_X8_look_6 : List (Nat × Nat) := [(0, zk1), (249, zk6)]
noncomputable def al_X8_look_6 : zAq := [(some (.inl 2147483647), [(0, zk1), (249, zk6)])]
noncomputable def fm_X8_look_6 : List zFm := [(0, [], (fun vs => [.inr (.ref 0), .inl 9223372043297226772, .inl 6442450943]), (fun vs => zP q_X8_look_6), (fun vs => Nat.sub (Nat.add 0 0) 0))]
def bf_X8_look_6 : List Nat := []
theorem r_X8_look_6_0 : zbox [] (fun vs => zFrun (zpost (zAlq al_X8_look_6)) 1000 t_X8_look fm_X8_look_6 bf_X8_look_6 (0, vs)) = true := by decide +kernel
set_option maxRecDepth 100000 in
theorem x_X8_look_6 (d : Nat) : zS l G gh (d + 7) (zpost (zAlq al_X8_look_6)) n_X8_look (zn 0 p_X8_look 0) (zwc (0, [.inr (.ref 0), .inl 9223372043297226772, .inl 6442450943], zP q_X8_look_6) 0) := zentry (tt_X8_look d) fm_X8_look_6 bf_X8_look_6 1000 (by decide +kernel) rfl ⟨Nat.zero_lt_succ _, trivial⟩ (fun f hf => match f, hf with
  | 0, _ => fun vs hv => (zbox_t r_X8_look_6_0) vs hv
  | f + 1, h => absurd (show f + 1 < 1 from h) (Nat.not_lt.mpr (Nat.le_add_left 1 f)))
noncomputable def gs_X8_look_6 : zMt := zgq false [] 3 [.inr (.ref 0), .inl 9223372043297226772, .inl 6442450943] q_X8_look_6 al_X8_look_6
set_option maxRecDepth 100000 in
theorem cs_X8_look_6 (d : Nat) : zC l G gh (d + 7) n_X8_look gs_X8_look_6 := zgq_ok0 (pcs := p_X8_look) (by decide) rfl rfl (fun a ha => by simp only [al_X8_look_6, List.mem_cons, List.not_mem_nil, or_false] at ha; rcases ha with rfl <;> decide +kernel) (fun gh => x_X8_look_6 d) (by decide +kernel)
def q_X8_look_7 : List (Nat × Nat) := [(0, zk1), (249, zk6)]
noncomputable def al_X8_look_7 : zAq := [(some (.inl 2147483647), [(0, zk1), (249, zk6)])]
noncomputable def fm_X8_look_7 : List zFm := [(0, [], (fun vs => [.inr (.ref 0), .inl 9223372043297226772, .inl 9223372152818892799]), (fun vs => zP q_X8_look_7), (fun vs => Nat.sub (Nat.add 0 0) 0))]
def bf_X8_look_7 : List Nat := []
theorem r_X8_look_7_0 : zbox [] (fun vs => zFrun (zpost (zAlq al_X8_look_7)) 1000 t_X8_look fm_X8_look_7 bf_X8_look_7 (0, vs)) = true := by decide +kernel
set_option maxRecDepth 100000 in
theorem x_X8_look_7 (d : Nat) : zS l G gh (d + 7) (zpost (zAlq al_X8_look_7)) n_X8_look (zn 0 p_X8_look 0) (zwc (0, [.inr (.ref 0), .inl 9223372043297226772, .inl 9223372152818892799], zP q_X8_look_7) 0) := zentry (tt_X8_look d) fm_X8_look_7 bf_X8_look_7 1000 (by decide +kernel) rfl ⟨Nat.zero_lt_succ _, trivial⟩ (fun f hf => match f, hf with
  | 0, _ => fun vs hv => (zbox_t r_X8_look_7_0) vs hv
  | f + 1, h => absurd (show f + 1 < 1 from h) (Nat.not_lt.mpr (Nat.le_add_left 1 f)))
noncomputable def gs_X8_look_7 : zMt := zgq false [] 3 [.inr (.ref 0), .inl 9223372043297226772, .inl 9223372152818892799] q_X8_look_7 al_X8_look_7
set_option maxRecDepth 100000 in
theorem cs_X8_look_7 (d : Nat) : zC l G gh (d + 7) n_X8_look gs_X8_look_7 := zgq_ok0 (pcs := p_X8_look) (by decide) rfl rfl (fun a ha => by simp only [al_X8_look_7, List.mem_cons, List.not_mem_nil, or_false] at ha; rcases ha with rfl <;> decide +kernel) (fun gh => x_X8_look_7 d) (by decide +kernel)
def q_X8_look_8 : List (Nat × Nat) := [(0, zk1)]
noncomputable def al_X8_look_8 : zAq := [(some (.inl 2147483647), [(0, zk1)])]
noncomputable def fm_X8_look_8 : List zFm := [(0, [], (fun vs => [.inr (.ref 0), .inl 6442450943, .inl 8589934591]), (fun vs => zP q_X8_look_8), (fun vs => Nat.sub (Nat.add 0 0) 0))]
def bf_X8_look_8 : List Nat := []
theorem r_X8_look_8_0 : zbox [] (fun vs => zFrun (zpost (zAlq al_X8_look_8)) 1000 t_X8_look fm_X8_look_8 bf_X8_look_8 (0, vs)) = true := by decide +kernel
set_option maxRecDepth 100000 in
theorem x_X8_look_8 (d : Nat) : zS l G gh (d + 7) (zpost (zAlq al_X8_look_8)) n_X8_look (zn 0 p_X8_look 0) (zwc (0, [.inr (.ref 0), .inl 6442450943, .inl 8589934591], zP q_X8_look_8) 0) := zentry (tt_X8_look d) fm_X8_look_8 bf_X8_look_8 1000 (by decide +kernel) rfl ⟨Nat.zero_lt_succ _, trivial⟩ (fun f hf => match f, hf with
  | 0, _ => fun vs hv => (zbox_t r_X8_look_8_0) vs hv
  | f + 1, h => absurd (show f + 1 < 1 from h) (Nat.not_lt.mpr (Nat.le_add_left 1 f)))
noncomputable def gs_X8_look_8 : zMt := zgq false [] 3 [.inr (.ref 0), .inl 6442450943, .inl 8589934591] q_X8_look_8 al_X8_look_8
set_option maxRecDepth 100000 in
theorem cs_X8_look_8 (d : Nat) : zC l G gh (d + 7) n_X8_look gs_X8_look_8 := zgq_ok0 (pcs := p_X8_look) (by decide) rfl rfl (fun a ha => by simp only [al_X8_look_8, List.mem_cons, List.not_mem_nil, or_false] at ha; rcases ha with rfl <;> decide +kernel) (fun gh => x_X8_look_8 d) (by decide +kernel)
def q_X8_look_9 : List (Nat × Nat) := [(0, zk1), (249, zk6)]
noncomputable def al_X8_look_9 : zAq := [(some (.inl 2147483647), [(0, zk1), (249, zk6)])]
noncomputable def fm_X8_look_9 : List zFm := [(0, [], (fun vs => [.inr (.ref 0), .inl 9223372135639023615, .inl 8589934591]), (fun vs => zP q_X8_look_9), (fun vs => Nat.sub (Nat.add 0 0) 0))]
def bf_X8_look_9 : List Nat := []
theorem r_X8_look_9_0 : zbox [] (fun vs => zFrun (zpost (zAlq al_X8_look_9)) 1000 t_X8_look fm_X8_look_9 bf_X8_look_9 (0, vs)) = true := by decide +kernel
set_option maxRecDepth 100000 in
theorem x_X8_look_9 (d : Nat) : zS l G gh (d + 7) (zpost (zAlq al_X8_look_9)) n_X8_look (zn 0 p_X8_look 0) (zwc (0, [.inr (.ref 0), .inl 9223372135639023615, .inl 8589934591], zP q_X8_look_9) 0) := zentry (tt_X8_look d) fm_X8_look_9 bf_X8_look_9 1000 (by decide +kernel) rfl ⟨Nat.zero_lt_succ _, trivial⟩ (fun f hf => match f, hf with
  | 0, _ => fun vs hv => (zbox_t r_X8_look_9_0) vs hv
  | f + 1, h => absurd (show f + 1 < 1 from h) (Nat.not_lt.mpr (Nat.le_add_left 1 f)))
noncomputable def gs_X8_look_9 : zMt := zgq false [] 3 [.inr (.ref 0), .inl 9223372135639023615, .inl 8589934591] q_X8_look_9 al_X8_look_9
set_option maxRecDepth 100000 in
theorem cs_X8_look_9 (d : Nat) : zC l G gh (d + 7) n_X8_look gs_X8_look_9 := zgq_ok0 (pcs := p_X8_look) (by decide) rfl rfl (fun a ha => by simp only [al_X8_look_9, List.mem_cons, List.not_mem_nil, or_false] at ha; rcases ha with rfl <;> decide +kernel) (fun gh => x_X8_look_9 d) (by decide +kernel)
noncomputable def gs_X8_look : zMt := (zor gs_X8_look_0 (zor gs_X8_look_1 (zor gs_X8_look_2 (zor gs_X8_look_3 (zor gs_X8_look_4 (zor gs_X8_look_5 (zor gs_X8_look_6 (zor gs_X8_look_7 (zor gs_X8_look_8 gs_X8_look_9)))))))))
theorem cs_X8_look (d : Nat) : zC l G gh (d + 7) n_X8_look gs_X8_look := (zor_ok (cs_X8_look_0 d) (zor_ok (cs_X8_look_1 d) (zor_ok (cs_X8_look_2 d) (zor_ok (cs_X8_look_3 d) (zor_ok (cs_X8_look_4 d) (zor_ok (cs_X8_look_5 d) (zor_ok (cs_X8_look_6 d) (zor_ok (cs_X8_look_7 d) (zor_ok (cs_X8_look_8 d) (cs_X8_look_9 d))))))))))
def p_X8_count : List Nat := [0, 84, 92, 100, 108, 119, 130, 138, 149, 160, 171, 179, 187, 195, 200, 227, 231, 232, 233, 244, 259, 271]
noncomputable def b_X8_count_0 : zBl := fun jp K => oIld 1 <| oTab 2147483648 [jp 1, jp 2, jp 3, jp 4, jp 5, jp 6, jp 7, jp 8, jp 9, jp 10, jp 11, jp 12, jp 13, jp 14, jp 18, jp 19, jp 20] (jp 21)
theorem s_X8_count_0 (d : Nat) : zPb l G gh (d + 7) n_X8_count p_X8_count 0 b_X8_count_0 := fun K jp hj =>
    z_iload_n (n := 1) (i := 1) (zd (i := .iload_n 1) (n := 1) (by decide +kernel)) rfl <|
    z_table (v := 2147483648) (df := 271) (len := 83) (x := 0) (dflt := 270) (lo := 0) (hi := 16) (offs := #[83, 91, 99, 107, 118, 129, 137, 148, 159, 170, 178, 186, 194, 199, 232, 243, 258]) (tgts := [84, 92, 100, 108, 119, 130, 138, 149, 160, 171, 179, 187, 195, 200, 233, 244, 259]) (zd (i := .tableswitch (270) (0) (16) #[83, 91, 99, 107, 118, 129, 137, 148, 159, 170, 178, 186, 194, 199, 232, 243, 258]) (n := 83) (by decide +kernel)) (by decide +kernel) rfl rfl (by decide +kernel) (by decide +kernel) (by decide +kernel) ⟨(zj (hj 1) (by decide +kernel)), (zj (hj 2) (by decide +kernel)), (zj (hj 3) (by decide +kernel)), (zj (hj 4) (by decide +kernel)), (zj (hj 5) (by decide +kernel)), (zj (hj 6) (by decide +kernel)), (zj (hj 7) (by decide +kernel)), (zj (hj 8) (by decide +kernel)), (zj (hj 9) (by decide +kernel)), (zj (hj 10) (by decide +kernel)), (zj (hj 11) (by decide +kernel)), (zj (hj 12) (by decide +kernel)), (zj (hj 13) (by decide +kernel)), (zj (hj 14) (by decide +kernel)), (zj (hj 18) (by decide +kernel)), (zj (hj 19) (by decide +kernel)), (zj (hj 20) (by decide +kernel)), trivial⟩ (zj (hj 21) (by decide +kernel))
noncomputable def b_X8_count_1 : zBl := fun jp K => oAld 0 <| oGetR 8 12 <| oGetI 0 2 <| oIret K
theorem s_X8_count_1 (d : Nat) : zPb l G gh (d + 7) n_X8_count p_X8_count 84 b_X8_count_1 := fun K jp hj =>
    z_aload_n (n := 0) (i := 0) (zd (i := .aload_n 0) (n := 1) (by decide +kernel)) rfl <|
    z_getR (ci := 8) (j := 12) (idx := 71) (zd (i := .getfield 71) (n := 3) (by decide +kernel)) (by decide +kernel) (by decide +kernel) rfl g464 <|
    z_getI (ci := 0) (j := 2) (idx := 236) (zd (i := .getfield 236) (n := 3) (by decide +kernel)) (by decide +kernel) (by decide +kernel) rfl g280 <|
    z_iret (zd (i := .ireturn) (n := 1) (by decide +kernel)) rfl
noncomputable def b_X8_count_2 : zBl := fun jp K => oAld 0 <| oGetR 8 12 <| oGetI 0 5 <| oIret K
theorem s_X8_count_2 (d : Nat) : zPb l G gh (d + 7) n_X8_count p_X8_count 92 b_X8_count_2 := fun K jp hj =>
    z_aload_n (n := 0) (i := 0) (zd (i := .aload_n 0) (n := 1) (by decide +kernel)) rfl <|
    z_getR (ci := 8) (j := 12) (idx := 71) (zd (i := .getfield 71) (n := 3) (by decide +kernel)) (by decide +kernel) (by decide +kernel) rfl g464 <|
    z_getI (ci := 0) (j := 5) (idx := 230) (zd (i := .getfield 230) (n := 3) (by decide +kernel)) (by decide +kernel) (by decide +kernel) rfl g288 <|
    z_iret (zd (i := .ireturn) (n := 1) (by decide +kernel)) rfl
noncomputable def b_X8_count_3 : zBl := fun jp K => oAld 0 <| oGetR 8 2 <| oGetI 4 0 <| oIret K
theorem s_X8_count_3 (d : Nat) : zPb l G gh (d + 7) n_X8_count p_X8_count 100 b_X8_count_3 := fun K jp hj =>
    z_aload_n (n := 0) (i := 0) (zd (i := .aload_n 0) (n := 1) (by decide +kernel)) rfl <|
    z_getR (ci := 8) (j := 2) (idx := 26) (zd (i := .getfield 26) (n := 3) (by decide +kernel)) (by decide +kernel) (by decide +kernel) rfl g454 <|
    z_getI (ci := 4) (j := 0) (idx := 140) (zd (i := .getfield 140) (n := 3) (by decide +kernel)) (by decide +kernel) (by decide +kernel) rfl g368 <|
    z_iret (zd (i := .ireturn) (n := 1) (by decide +kernel)) rfl
noncomputable def b_X8_count_4 : zBl := fun jp K => oAld 0 <| oGetR 8 2 <| oGetI 4 0 <| oInt 2147483672 <| oB2z zirem <| oIret K
theorem s_X8_count_4 (d : Nat) : zPb l G gh (d + 7) n_X8_count p_X8_count 108 b_X8_count_4 := fun K jp hj =>
    z_aload_n (n := 0) (i := 0) (zd (i := .aload_n 0) (n := 1) (by decide +kernel)) rfl <|
    z_getR (ci := 8) (j := 2) (idx := 26) (zd (i := .getfield 26) (n := 3) (by decide +kernel)) (by decide +kernel) (by decide +kernel) rfl g454 <|
    z_getI (ci := 4) (j := 0) (idx := 140) (zd (i := .getfield 140) (n := 3) (by decide +kernel)) (by decide +kernel) (by decide +kernel) rfl g368 <|
    z_bipush (n := 24) (zd (i := .bipush (24)) (n := 2) (by decide +kernel)) (by decide +kernel) <|
    z_irem (zd (i := .irem) (n := 1) (by decide +kernel)) <|
    z_iret (zd (i := .ireturn) (n := 1) (by decide +kernel)) rfl
noncomputable def b_X8_count_5 : zBl := fun jp K => oAld 0 <| oGetR 8 2 <| oGetI 4 0 <| oInt 2147483672 <| oB2z zidiv <| oIret K
theorem s_X8_count_5 (d : Nat) : zPb l G gh (d + 7) n_X8_count p_X8_count 119 b_X8_count_5 := fun K jp hj =>
    z_aload_n (n := 0) (i := 0) (zd (i := .aload_n 0) (n := 1) (by decide +kernel)) rfl <|
    z_getR (ci := 8) (j := 2) (idx := 26) (zd (i := .getfield 26) (n := 3) (by decide +kernel)) (by decide +kernel) (by decide +kernel) rfl g454 <|
    z_getI (ci := 4) (j := 0) (idx := 140) (zd (i := .getfield 140) (n := 3) (by decide +kernel)) (by decide +kernel) (by decide +kernel) rfl g368 <|
    z_bipush (n := 24) (zd (i := .bipush (24)) (n := 2) (by decide +kernel)) (by decide +kernel) <|
    z_idiv (zd (i := .idiv) (n := 1) (by decide +kernel)) <|
    z_iret (zd (i := .ireturn) (n := 1) (by decide +kernel)) rfl
noncomputable def b_X8_count_6 : zBl := fun jp K => oAld 0 <| oGetR 8 2 <| oCv 4 0 gs_X4_loans <| oIret K
theorem s_X8_count_6 (d : Nat) : zPb l G gh (d + 7) n_X8_count p_X8_count 130 b_X8_count_6 := fun K jp hj =>
    z_aload_n (n := 0) (i := 0) (zd (i := .aload_n 0) (n := 1) (by decide +kernel)) rfl <|
    z_getR (ci := 8) (j := 2) (idx := 26) (zd (i := .getfield 26) (n := 3) (by decide +kernel)) (by decide +kernel) (by decide +kernel) rfl g454 <|
    z_callV (idx := 314) (ci := 4) (N := n_X4_loans) (zd (i := .invokevirtual 314) (n := 3) (by decide +kernel)) to_X4_loans g1092 g1093 g1094 (by decide +kernel) rfl rfl rfl (cs_X4_loans (l := l) (G := G) (gh := gh) (d + 5)) <|
    z_iret (zd (i := .ireturn) (n := 1) (by decide +kernel)) rfl
noncomputable def b_X8_count_7 : zBl := fun jp K => oAld 0 <| oGetR 8 2 <| oGetR 4 5 <| oCs 1 gs_X8_sum <| oIret K
theorem s_X8_count_7 (d : Nat) : zPb l G gh (d + 7) n_X8_count p_X8_count 138 b_X8_count_7 := fun K jp hj =>
    z_aload_n (n := 0) (i := 0) (zd (i := .aload_n 0) (n := 1) (by decide +kernel)) rfl <|
    z_getR (ci := 8) (j := 2) (idx := 26) (zd (i := .getfield 26) (n := 3) (by decide +kernel)) (by decide +kernel) (by decide +kernel) rfl g454 <|
    z_getR (ci := 4) (j := 5) (idx := 169) (zd (i := .getfield 169) (n := 3) (by decide +kernel)) (by decide +kernel) (by decide +kernel) rfl g383 <|
    z_callS (idx := 318) (N := n_X8_sum) (zd (i := .invokestatic 318) (n := 3) (by decide +kernel)) to_X8_sum g1096 g1097 rfl rfl (cs_X8_sum (l := l) (G := G) (gh := gh) (d + 5)) <|
    z_iret (zd (i := .ireturn) (n := 1) (by decide +kernel)) rfl
noncomputable def b_X8_count_8 : zBl := fun jp K => oAld 0 <| oGetR 8 2 <| oGetR 4 2 <| oCs 1 gs_X8_sum <| oIret K
theorem s_X8_count_8 (d : Nat) : zPb l G gh (d + 7) n_X8_count p_X8_count 149 b_X8_count_8 := fun K jp hj =>
    z_aload_n (n := 0) (i := 0) (zd (i := .aload_n 0) (n := 1) (by decide +kernel)) rfl <|
    z_getR (ci := 8) (j := 2) (idx := 26) (zd (i := .getfield 26) (n := 3) (by decide +kernel)) (by decide +kernel) (by decide +kernel) rfl g454 <|
    z_getR (ci := 4) (j := 2) (idx := 137) (zd (i := .getfield 137) (n := 3) (by decide +kernel)) (by decide +kernel) (by decide +kernel) rfl g374 <|
    z_callS (idx := 318) (N := n_X8_sum) (zd (i := .invokestatic 318) (n := 3) (by decide +kernel)) to_X8_sum g1096 g1097 rfl rfl (cs_X8_sum (l := l) (G := G) (gh := gh) (d + 5)) <|
    z_iret (zd (i := .ireturn) (n := 1) (by decide +kernel)) rfl
noncomputable def b_X8_count_9 : zBl := fun jp K => oAld 0 <| oGetR 8 2 <| oGetR 4 3 <| oCs 1 gs_X8_sum <| oIret K
theorem s_X8_count_9 (d : Nat) : zPb l G gh (d + 7) n_X8_count p_X8_count 160 b_X8_count_9 := fun K jp hj =>
    z_aload_n (n := 0) (i := 0) (zd (i := .aload_n 0) (n := 1) (by decide +kernel)) rfl <|
    z_getR (ci := 8) (j := 2) (idx := 26) (zd (i := .getfield 26) (n := 3) (by decide +kernel)) (by decide +kernel) (by decide +kernel) rfl g454 <|
    z_getR (ci := 4) (j := 3) (idx := 156) (zd (i := .getfield 156) (n := 3) (by decide +kernel)) (by decide +kernel) (by decide +kernel) rfl g377 <|
    z_callS (idx := 318) (N := n_X8_sum) (zd (i := .invokestatic 318) (n := 3) (by decide +kernel)) to_X8_sum g1096 g1097 rfl rfl (cs_X8_sum (l := l) (G := G) (gh := gh) (d + 5)) <|
    z_iret (zd (i := .ireturn) (n := 1) (by decide +kernel)) rfl
noncomputable def b_X8_count_10 : zBl := fun jp K => oAld 0 <| oGetR 8 0 <| oGetI 5 1 <| oIret K
theorem s_X8_count_10 (d : Nat) : zPb l G gh (d + 7) n_X8_count p_X8_count 171 b_X8_count_10 := fun K jp hj =>
    z_aload_n (n := 0) (i := 0) (zd (i := .aload_n 0) (n := 1) (by decide +kernel)) rfl <|
    z_getR (ci := 8) (j := 0) (idx := 12) (zd (i := .getfield 12) (n := 3) (by decide +kernel)) (by decide +kernel) (by decide +kernel) rfl g452 <|
    z_getI (ci := 5) (j := 1) (idx := 87) (zd (i := .getfield 87) (n := 3) (by decide +kernel)) (by decide +kernel) (by decide +kernel) rfl g131 <|
    z_iret (zd (i := .ireturn) (n := 1) (by decide +kernel)) rfl
noncomputable def b_X8_count_11 : zBl := fun jp K => oAld 0 <| oGetR 8 4 <| oGetI 3 2 <| oIret K
theorem s_X8_count_11 (d : Nat) : zPb l G gh (d + 7) n_X8_count p_X8_count 179 b_X8_count_11 := fun K jp hj =>
    z_aload_n (n := 0) (i := 0) (zd (i := .aload_n 0) (n := 1) (by decide +kernel)) rfl <|
    z_getR (ci := 8) (j := 4) (idx := 36) (zd (i := .getfield 36) (n := 3) (by decide +kernel)) (by decide +kernel) (by decide +kernel) rfl g456 <|
    z_getI (ci := 3) (j := 2) (idx := 322) (zd (i := .getfield 322) (n := 3) (by decide +kernel)) (by decide +kernel) (by decide +kernel) rfl g415 <|
    z_iret (zd (i := .ireturn) (n := 1) (by decide +kernel)) rfl
noncomputable def b_X8_count_12 : zBl := fun jp K => oAld 0 <| oGetR 8 7 <| oGetI 7 0 <| oIret K
theorem s_X8_count_12 (d : Nat) : zPb l G gh (d + 7) n_X8_count p_X8_count 187 b_X8_count_12 := fun K jp hj =>
    z_aload_n (n := 0) (i := 0) (zd (i := .aload_n 0) (n := 1) (by decide +kernel)) rfl <|
    z_getR (ci := 8) (j := 7) (idx := 51) (zd (i := .getfield 51) (n := 3) (by decide +kernel)) (by decide +kernel) (by decide +kernel) rfl g459 <|
    z_getI (ci := 7) (j := 0) (idx := 114) (zd (i := .getfield 114) (n := 3) (by decide +kernel)) (by decide +kernel) (by decide +kernel) rfl g430 <|
    z_iret (zd (i := .ireturn) (n := 1) (by decide +kernel)) rfl
noncomputable def b_X8_count_13 : zBl := fun jp K => oAld 0 <| oCv 8 0 gs_X8_heldSlots <| oIret K
theorem s_X8_count_13 (d : Nat) : zPb l G gh (d + 7) n_X8_count p_X8_count 195 b_X8_count_13 := fun K jp hj =>
    z_aload_n (n := 0) (i := 0) (zd (i := .aload_n 0) (n := 1) (by decide +kernel)) rfl <|
    z_callV (idx := 323) (ci := 8) (N := n_X8_heldSlots) (zd (i := .invokevirtual 323) (n := 3) (by decide +kernel)) to_X8_heldSlots g1099 g1101 g40 (by decide +kernel) rfl rfl rfl (cs_X8_heldSlots (l := l) (G := G) (gh := gh) (d + 5)) <|
    z_iret (zd (i := .ireturn) (n := 1) (by decide +kernel)) rfl
noncomputable def b_X8_count_14 : zBl := fun jp K => oAld 0 <| oGetR 8 2 <| oGetI 4 0 <| oAld 0 <| oGetR 8 12 <| oGetI 0 11 <| oAld 0 <| oGetR 8 12 <| oGetI 0 9 <| oCs 3 f_X0_isWind <| oIf zeq zne (jp 16) (jp 15)
theorem s_X8_count_14 (d : Nat) : zPb l G gh (d + 7) n_X8_count p_X8_count 200 b_X8_count_14 := fun K jp hj =>
    z_aload_n (n := 0) (i := 0) (zd (i := .aload_n 0) (n := 1) (by decide +kernel)) rfl <|
    z_getR (ci := 8) (j := 2) (idx := 26) (zd (i := .getfield 26) (n := 3) (by decide +kernel)) (by decide +kernel) (by decide +kernel) rfl g454 <|
    z_getI (ci := 4) (j := 0) (idx := 140) (zd (i := .getfield 140) (n := 3) (by decide +kernel)) (by decide +kernel) (by decide +kernel) rfl g368 <|
    z_aload_n (n := 0) (i := 0) (zd (i := .aload_n 0) (n := 1) (by decide +kernel)) rfl <|
    z_getR (ci := 8) (j := 12) (idx := 71) (zd (i := .getfield 71) (n := 3) (by decide +kernel)) (by decide +kernel) (by decide +kernel) rfl g464 <|
    z_getI (ci := 0) (j := 11) (idx := 210) (zd (i := .getfield 210) (n := 3) (by decide +kernel)) (by decide +kernel) (by decide +kernel) rfl g303 <|
    z_aload_n (n := 0) (i := 0) (zd (i := .aload_n 0) (n := 1) (by decide +kernel)) rfl <|
    z_getR (ci := 8) (j := 12) (idx := 71) (zd (i := .getfield 71) (n := 3) (by decide +kernel)) (by decide +kernel) (by decide +kernel) rfl g464 <|
    z_getI (ci := 0) (j := 9) (idx := 213) (zd (i := .getfield 213) (n := 3) (by decide +kernel)) (by decide +kernel) (by decide +kernel) rfl g297 <|
    z_callS (idx := 326) (N := n_X0_isWind) (zd (i := .invokestatic 326) (n := 3) (by decide +kernel)) to_X0_isWind g1103 g871 rfl rfl (c_X0_isWind (l := l) (G := G) (gh := gh) (d + 3)) <|
    z_if_eq (off := 7) (tgt := 231) (zd (i := .ifCond .eq (7)) (n := 3) (by decide +kernel)) (by decide +kernel) (zj (hj 16) (by decide +kernel)) (zj (hj 15) (by decide +kernel))
noncomputable def b_X8_count_15 : zBl := fun jp K => oInt 2147483649 <| jp 17
theorem s_X8_count_15 (d : Nat) : zPb l G gh (d + 7) n_X8_count p_X8_count 227 b_X8_count_15 := fun K jp hj =>
    z_iconst (n := 1) (zd (i := .iconst (1)) (n := 1) (by decide +kernel)) (by decide +kernel) <|
    z_goto (off := 4) (tgt := 232) (zd (i := .goto (4)) (n := 3) (by decide +kernel)) (by decide +kernel) (zj (hj 17) (by decide +kernel))
noncomputable def b_X8_count_16 : zBl := fun jp K => oInt 2147483648 <| jp 17
theorem s_X8_count_16 (d : Nat) : zPb l G gh (d + 7) n_X8_count p_X8_count 231 b_X8_count_16 := fun K jp hj =>
    z_iconst (n := 0) (zd (i := .iconst (0)) (n := 1) (by decide +kernel)) (by decide +kernel) <|
    (zj (hj 17) (by decide +kernel))
noncomputable def b_X8_count_17 : zBl := fun jp K => oIret K
theorem s_X8_count_17 (d : Nat) : zPb l G gh (d + 7) n_X8_count p_X8_count 232 b_X8_count_17 := fun K jp hj =>
    z_iret (zd (i := .ireturn) (n := 1) (by decide +kernel)) rfl
noncomputable def b_X8_count_18 : zBl := fun jp K => oAld 0 <| oGetR 8 2 <| oGetR 4 4 <| oCs 1 gs_X8_sum <| oIret K
theorem s_X8_count_18 (d : Nat) : zPb l G gh (d + 7) n_X8_count p_X8_count 233 b_X8_count_18 := fun K jp hj =>
    z_aload_n (n := 0) (i := 0) (zd (i := .aload_n 0) (n := 1) (by decide +kernel)) rfl <|
    z_getR (ci := 8) (j := 2) (idx := 26) (zd (i := .getfield 26) (n := 3) (by decide +kernel)) (by decide +kernel) (by decide +kernel) rfl g454 <|
    z_getR (ci := 4) (j := 4) (idx := 159) (zd (i := .getfield 159) (n := 3) (by decide +kernel)) (by decide +kernel) (by decide +kernel) rfl g380 <|
    z_callS (idx := 318) (N := n_X8_sum) (zd (i := .invokestatic 318) (n := 3) (by decide +kernel)) to_X8_sum g1096 g1097 rfl rfl (cs_X8_sum (l := l) (G := G) (gh := gh) (d + 5)) <|
    z_iret (zd (i := .ireturn) (n := 1) (by decide +kernel)) rfl
noncomputable def b_X8_count_19 : zBl := fun jp K => oAld 0 <| oGetR 8 12 <| oAld 0 <| oGetR 8 2 <| oGetI 4 0 <| oCv 0 1 f_X0_heat <| oIret K
theorem s_X8_count_19 (d : Nat) : zPb l G gh (d + 7) n_X8_count p_X8_count 244 b_X8_count_19 := fun K jp hj =>
    z_aload_n (n := 0) (i := 0) (zd (i := .aload_n 0) (n := 1) (by decide +kernel)) rfl <|
    z_getR (ci := 8) (j := 12) (idx := 71) (zd (i := .getfield 71) (n := 3) (by decide +kernel)) (by decide +kernel) (by decide +kernel) rfl g464 <|
    z_aload_n (n := 0) (i := 0) (zd (i := .aload_n 0) (n := 1) (by decide +kernel)) rfl <|
    z_getR (ci := 8) (j := 2) (idx := 26) (zd (i := .getfield 26) (n := 3) (by decide +kernel)) (by decide +kernel) (by decide +kernel) rfl g454 <|
    z_getI (ci := 4) (j := 0) (idx := 140) (zd (i := .getfield 140) (n := 3) (by decide +kernel)) (by decide +kernel) (by decide +kernel) rfl g368 <|
    z_callV (idx := 143) (ci := 0) (N := n_X0_heat) (zd (i := .invokevirtual 143) (n := 3) (by decide +kernel)) to_X0_heat g716 g717 g718 (by decide +kernel) rfl rfl rfl (c_X0_heat (l := l) (G := G) (gh := gh) (d + 2)) <|
    z_iret (zd (i := .ireturn) (n := 1) (by decide +kernel)) rfl
noncomputable def b_X8_count_20 : zBl := fun jp K => oAld 0 <| oAld 0 <| oGetR 8 2 <| oGetI 4 0 <| oCv 8 1 gs_X8_thingsSeen <| oIret K
theorem s_X8_count_20 (d : Nat) : zPb l G gh (d + 7) n_X8_count p_X8_count 259 b_X8_count_20 := fun K jp hj =>
    z_aload_n (n := 0) (i := 0) (zd (i := .aload_n 0) (n := 1) (by decide +kernel)) rfl <|
    z_aload_n (n := 0) (i := 0) (zd (i := .aload_n 0) (n := 1) (by decide +kernel)) rfl <|
    z_getR (ci := 8) (j := 2) (idx := 26) (zd (i := .getfield 26) (n := 3) (by decide +kernel)) (by decide +kernel) (by decide +kernel) rfl g454 <|
    z_getI (ci := 4) (j := 0) (idx := 140) (zd (i := .getfield 140) (n := 3) (by decide +kernel)) (by decide +kernel) (by decide +kernel) rfl g368 <|
    z_callV (idx := 294) (ci := 8) (N := n_X8_thingsSeen) (zd (i := .invokevirtual 294) (n := 3) (by decide +kernel)) to_X8_thingsSeen g1006 g1008 g36 (by decide +kernel) rfl rfl rfl (cs_X8_thingsSeen (l := l) (G := G) (gh := gh) (d)) <|
    z_iret (zd (i := .ireturn) (n := 1) (by decide +kernel)) rfl
noncomputable def b_X8_count_21 : zBl := fun jp K => oInt 2147483647 <| oIret K
theorem s_X8_count_21 (d : Nat) : zPb l G gh (d + 7) n_X8_count p_X8_count 271 b_X8_count_21 := fun K jp hj =>
    z_iconst (n := -1) (zd (i := .iconst (-1)) (n := 1) (by decide +kernel)) (by decide +kernel) <|
    z_iret (zd (i := .ireturn) (n := 1) (by decide +kernel)) rfl
noncomputable def t_X8_count : List zBl := [b_X8_count_0, b_X8_count_1, b_X8_count_2, b_X8_count_3, b_X8_count_4, b_X8_count_5, b_X8_count_6, b_X8_count_7, b_X8_count_8, b_X8_count_9, b_X8_count_10, b_X8_count_11, b_X8_count_12, b_X8_count_13, b_X8_count_14, b_X8_count_15, b_X8_count_16, b_X8_count_17, b_X8_count_18, b_X8_count_19, b_X8_count_20, b_X8_count_21]
theorem tt_X8_count (d : Nat) : zT (zPb l G gh (d + 7) n_X8_count p_X8_count) t_X8_count p_X8_count := ⟨s_X8_count_0 d, s_X8_count_1 d, s_X8_count_2 d, s_X8_count_3 d, s_X8_count_4 d, s_X8_count_5 d, s_X8_count_6 d, s_X8_count_7 d, s_X8_count_8 d, s_X8_count_9 d, s_X8_count_10 d, s_X8_count_11 d, s_X8_count_12 d, s_X8_count_13 d, s_X8_count_14 d, s_X8_count_15 d, s_X8_count_16 d, s_X8_count_17 d, s_X8_count_18 d, s_X8_count_19 d, s_X8_count_20 d, s_X8_count_21 d, trivial⟩
def q_X8_count_0 : List (Nat × Nat) := [(0, zk0), (1, zk14), (21, zk10), (22, zk12), (23, zk12), (24, zk12), (25, zk12), (26, zk11), (35, zk23), (248, zk13), (249, zk6), (259, zk20), (261, zk12), (262, zk12), (265, zk2), (266, zk18), (267, zk18), (268, zk19), (269, zk3), (270, zk7)]
noncomputable def al_X8_count_0 : zAq := [(some (.inl 8589934591), [(0, zk0), (1, zk14), (21, zk10), (22, zk12), (23, zk12), (24, zk12), (25, zk12), (26, zk11), (35, zk23), (248, zk13), (249, zk6), (259, zk20), (261, zk12), (262, zk12), (265, zk2), (266, zk18), (267, zk18), (268, zk19), (269, zk4), (270, zk9)])]
noncomputable def fm_X8_count_0 : List zFm := [(0, [], (fun vs => [.inr (.ref 0), .inl 8589934591]), (fun vs => zP q_X8_count_0), (fun vs => Nat.sub (Nat.add 0 0) 0))]
def bf_X8_count_0 : List Nat := []
theorem r_X8_count_0_0 : zbox [] (fun vs => zFrun (zpost (zAlq al_X8_count_0)) 1000 t_X8_count fm_X8_count_0 bf_X8_count_0 (0, vs)) = true := by decide +kernel
set_option maxRecDepth 100000 in
theorem x_X8_count_0 (d : Nat) : zS l G gh (d + 7) (zpost (zAlq al_X8_count_0)) n_X8_count (zn 0 p_X8_count 0) (zwc (0, [.inr (.ref 0), .inl 8589934591], zP q_X8_count_0) 0) := zentry (tt_X8_count d) fm_X8_count_0 bf_X8_count_0 1000 (by decide +kernel) rfl ⟨Nat.zero_lt_succ _, trivial⟩ (fun f hf => match f, hf with
  | 0, _ => fun vs hv => (zbox_t r_X8_count_0_0) vs hv
  | f + 1, h => absurd (show f + 1 < 1 from h) (Nat.not_lt.mpr (Nat.le_add_left 1 f)))
noncomputable def gs_X8_count_0 : zMt := zgq false [] 2 [.inr (.ref 0), .inl 8589934591] q_X8_count_0 al_X8_count_0
set_option maxRecDepth 100000 in
theorem cs_X8_count_0 (d : Nat) : zC l G gh (d + 7) n_X8_count gs_X8_count_0 := zgq_ok0 (pcs := p_X8_count) (by decide) rfl rfl (fun a ha => by simp only [al_X8_count_0, List.mem_cons, List.not_mem_nil, or_false] at ha; rcases ha with rfl <;> decide +kernel) (fun gh => x_X8_count_0 d) (by decide +kernel)
def q_X8_count_1 : List (Nat × Nat) := [(0, zk1), (1, zk14), (9, zk21), (11, zk12), (12, zk12), (15, zk5), (16, zk18), (17, zk18), (18, zk19), (19, zk3), (20, zk7), (21, zk10), (22, zk12), (23, zk12), (24, zk12), (25, zk12), (26, zk11), (35, zk23), (248, zk13), (249, zk6)]
noncomputable def al_X8_count_1 : zAq := [(some (.inl 8589934591), [(0, zk1), (1, zk14), (9, zk21), (11, zk12), (12, zk12), (15, zk5), (16, zk18), (17, zk18), (18, zk19), (19, zk4), (20, zk9), (21, zk10), (22, zk12), (23, zk12), (24, zk12), (25, zk12), (26, zk11), (35, zk23), (248, zk13), (249, zk6)])]
noncomputable def fm_X8_count_1 : List zFm := [(0, [], (fun vs => [.inr (.ref 0), .inl 8589934591]), (fun vs => zP q_X8_count_1), (fun vs => Nat.sub (Nat.add 0 0) 0))]
def bf_X8_count_1 : List Nat := []
theorem r_X8_count_1_0 : zbox [] (fun vs => zFrun (zpost (zAlq al_X8_count_1)) 1000 t_X8_count fm_X8_count_1 bf_X8_count_1 (0, vs)) = true := by decide +kernel
set_option maxRecDepth 100000 in
theorem x_X8_count_1 (d : Nat) : zS l G gh (d + 7) (zpost (zAlq al_X8_count_1)) n_X8_count (zn 0 p_X8_count 0) (zwc (0, [.inr (.ref 0), .inl 8589934591], zP q_X8_count_1) 0) := zentry (tt_X8_count d) fm_X8_count_1 bf_X8_count_1 1000 (by decide +kernel) rfl ⟨Nat.zero_lt_succ _, trivial⟩ (fun f hf => match f, hf with
  | 0, _ => fun vs hv => (zbox_t r_X8_count_1_0) vs hv
  | f + 1, h => absurd (show f + 1 < 1 from h) (Nat.not_lt.mpr (Nat.le_add_left 1 f)))
noncomputable def gs_X8_count_1 : zMt := zgq false [] 2 [.inr (.ref 0), .inl 8589934591] q_X8_count_1 al_X8_count_1
set_option maxRecDepth 100000 in
theorem cs_X8_count_1 (d : Nat) : zC l G gh (d + 7) n_X8_count gs_X8_count_1 := zgq_ok0 (pcs := p_X8_count) (by decide) rfl rfl (fun a ha => by simp only [al_X8_count_1, List.mem_cons, List.not_mem_nil, or_false] at ha; rcases ha with rfl <;> decide +kernel) (fun gh => x_X8_count_1 d) (by decide +kernel)
noncomputable def gs_X8_count : zMt := (zor gs_X8_count_0 gs_X8_count_1)
theorem cs_X8_count (d : Nat) : zC l G gh (d + 7) n_X8_count gs_X8_count := (zor_ok (cs_X8_count_0 d) (cs_X8_count_1 d))
end
