section
variable {l : Launch} {G : qG} {gh : zGh}
def p_X8_best : List Nat := [0, 8, 13, 19, 23, 28, 30, 42, 49, 66, 70, 76, 80, 85, 92]
noncomputable def b_X8_best_0 : zBl := fun jp K => oAld 0 <| oIld 1 <| oCv 8 1 f_X8_isThing <| oIf zeq zne (jp 5) (jp 1)
theorem s_X8_best_0 (d : Nat) : zPb l G gh (d + 6) n_X8_best p_X8_best 0 b_X8_best_0 := fun K jp hj =>
    z_aload_n (n := 0) (i := 0) (zd (i := .aload_n 0) (n := 1) (by decide +kernel)) rfl <|
    z_iload_n (n := 1) (i := 1) (zd (i := .iload_n 1) (n := 1) (by decide +kernel)) rfl <|
    z_callV (idx := 115) (ci := 8) (N := n_X8_isThing) (zd (i := .invokevirtual 115) (n := 3) (by decide +kernel)) to_X8_isThing g708 g710 g17 (by decide +kernel) rfl rfl rfl (c_X8_isThing (l := l) (G := G) (gh := gh) (d + 4)) <|
    z_if_eq (off := 23) (tgt := 28) (zd (i := .ifCond .eq (23)) (n := 3) (by decide +kernel)) (by decide +kernel) (zj (hj 5) (by decide +kernel)) (zj (hj 1) (by decide +kernel))
noncomputable def b_X8_best_1 : zBl := fun jp K => oNLC 2 2147483649 zltN zgeN zn1_lt zn1_ge (jp 5) (jp 2)
theorem s_X8_best_1 (d : Nat) : zPb l G gh (d + 6) n_X8_best p_X8_best 8 b_X8_best_1 := fun K jp hj =>
    z_nLC_lt (i := 2) (c0 := 2147483649) (a1 := 1) (a2 := 1) (off := 18) (tgt := 28) (zLd_n (n := 2) (i := 2) (zd (i := .iload_n 2) (n := 1) (by decide +kernel)) rfl) (zCn_c (n := 1) (zd (i := .iconst (1)) (n := 1) (by decide +kernel)) (by decide +kernel)) (zd (i := .if_icmp .lt (18)) (n := 3) (by decide +kernel)) (by decide +kernel) (zj (hj 5) (by decide +kernel)) (zj (hj 2) (by decide +kernel))
noncomputable def b_X8_best_2 : zBl := fun jp K => oNLC 2 2147483696 zgtN zleN zn1_gt zn1_le (jp 5) (jp 3)
theorem s_X8_best_2 (d : Nat) : zPb l G gh (d + 6) n_X8_best p_X8_best 13 b_X8_best_2 := fun K jp hj =>
    z_nLC_gt (i := 2) (c0 := 2147483696) (a1 := 1) (a2 := 2) (off := 12) (tgt := 28) (zLd_n (n := 2) (i := 2) (zd (i := .iload_n 2) (n := 1) (by decide +kernel)) rfl) (zCn_b (n := 48) (zd (i := .bipush (48)) (n := 2) (by decide +kernel)) (by decide +kernel)) (zd (i := .if_icmp .gt (12)) (n := 3) (by decide +kernel)) (by decide +kernel) (zj (hj 5) (by decide +kernel)) (zj (hj 3) (by decide +kernel))
noncomputable def b_X8_best_3 : zBl := fun jp K => oNLC 3 2147483648 zltN zgeN zn1_lt zn1_ge (jp 5) (jp 4)
theorem s_X8_best_3 (d : Nat) : zPb l G gh (d + 6) n_X8_best p_X8_best 19 b_X8_best_3 := fun K jp hj =>
    z_nL0_lt (i := 3) (a1 := 1) (off := 8) (tgt := 28) (zLd_n (n := 3) (i := 3) (zd (i := .iload_n 3) (n := 1) (by decide +kernel)) rfl) (zd (i := .ifCond .lt (8)) (n := 3) (by decide +kernel)) (by decide +kernel) (zj (hj 5) (by decide +kernel)) (zj (hj 4) (by decide +kernel))
noncomputable def b_X8_best_4 : zBl := fun jp K => oNLC 3 2147483649 zleN zgtN zn1_le zn1_gt (jp 6) (jp 5)
theorem s_X8_best_4 (d : Nat) : zPb l G gh (d + 6) n_X8_best p_X8_best 23 b_X8_best_4 := fun K jp hj =>
    z_nLC_le (i := 3) (c0 := 2147483649) (a1 := 1) (a2 := 1) (off := 5) (tgt := 30) (zLd_n (n := 3) (i := 3) (zd (i := .iload_n 3) (n := 1) (by decide +kernel)) rfl) (zCn_c (n := 1) (zd (i := .iconst (1)) (n := 1) (by decide +kernel)) (by decide +kernel)) (zd (i := .if_icmp .le (5)) (n := 3) (by decide +kernel)) (by decide +kernel) (zj (hj 6) (by decide +kernel)) (zj (hj 5) (by decide +kernel))
noncomputable def b_X8_best_5 : zBl := fun jp K => oInt 2147483647 <| oIret K
theorem s_X8_best_5 (d : Nat) : zPb l G gh (d + 6) n_X8_best p_X8_best 28 b_X8_best_5 := fun K jp hj =>
    z_iconst (n := -1) (zd (i := .iconst (-1)) (n := 1) (by decide +kernel)) (by decide +kernel) <|
    z_iret (zd (i := .ireturn) (n := 1) (by decide +kernel)) rfl
noncomputable def b_X8_best_6 : zBl := fun jp K => oAld 0 <| oIld 1 <| oIld 2 <| oCv 8 2 gs_X8_tallySeenHours <| oInt 2147483648 <| oIst 4 <| oInt 2147483649 <| oIst 5 <| jp 7
theorem s_X8_best_6 (d : Nat) : zPb l G gh (d + 6) n_X8_best p_X8_best 30 b_X8_best_6 := fun K jp hj =>
    z_aload_n (n := 0) (i := 0) (zd (i := .aload_n 0) (n := 1) (by decide +kernel)) rfl <|
    z_iload_n (n := 1) (i := 1) (zd (i := .iload_n 1) (n := 1) (by decide +kernel)) rfl <|
    z_iload_n (n := 2) (i := 2) (zd (i := .iload_n 2) (n := 1) (by decide +kernel)) rfl <|
    z_callV (idx := 243) (ci := 8) (N := n_X8_tallySeenHours) (zd (i := .invokevirtual 243) (n := 3) (by decide +kernel)) to_X8_tallySeenHours g931 g933 g31 (by decide +kernel) rfl rfl rfl (cs_X8_tallySeenHours (l := l) (G := G) (gh := gh) (d)) <|
    z_iconst (n := 0) (zd (i := .iconst (0)) (n := 1) (by decide +kernel)) (by decide +kernel) <|
    z_istore (i := 4) (zd (i := .istore 4) (n := 2) (by decide +kernel)) (by decide +kernel) <|
    z_iconst (n := 1) (zd (i := .iconst (1)) (n := 1) (by decide +kernel)) (by decide +kernel) <|
    z_istore (i := 5) (zd (i := .istore 5) (n := 2) (by decide +kernel)) (by decide +kernel) <|
    (zj (hj 7) (by decide +kernel))
noncomputable def b_X8_best_7 : zBl := fun jp K => oNLC 5 2147483668 zgeN zltN zn1_ge zn1_lt (jp 11) (jp 8)
theorem s_X8_best_7 (d : Nat) : zPb l G gh (d + 6) n_X8_best p_X8_best 42 b_X8_best_7 := fun K jp hj =>
    z_nLC_ge (i := 5) (c0 := 2147483668) (a1 := 2) (a2 := 2) (off := 30) (tgt := 76) (zLd_w (i := 5) (zd (i := .iload 5) (n := 2) (by decide +kernel))) (zCn_b (n := 20) (zd (i := .bipush (20)) (n := 2) (by decide +kernel)) (by decide +kernel)) (zd (i := .if_icmp .ge (30)) (n := 3) (by decide +kernel)) (by decide +kernel) (zj (hj 11) (by decide +kernel)) (zj (hj 8) (by decide +kernel))
noncomputable def b_X8_best_8 : zBl := fun jp K => oAld 0 <| oGetR 8 8 <| oIld 5 <| oXald 10 <| oAld 0 <| oGetR 8 8 <| oIld 4 <| oXald 10 <| oIc zle zgt (jp 10) (jp 9)
theorem s_X8_best_8 (d : Nat) : zPb l G gh (d + 6) n_X8_best p_X8_best 49 b_X8_best_8 := fun K jp hj =>
    z_aload_n (n := 0) (i := 0) (zd (i := .aload_n 0) (n := 1) (by decide +kernel)) rfl <|
    z_getR (ci := 8) (j := 8) (idx := 55) (zd (i := .getfield 55) (n := 3) (by decide +kernel)) (by decide +kernel) (by decide +kernel) rfl g460 <|
    z_iload (i := 5) (zd (i := .iload 5) (n := 2) (by decide +kernel)) <|
    z_iald (zd (i := .iaload) (n := 1) (by decide +kernel)) <|
    z_aload_n (n := 0) (i := 0) (zd (i := .aload_n 0) (n := 1) (by decide +kernel)) rfl <|
    z_getR (ci := 8) (j := 8) (idx := 55) (zd (i := .getfield 55) (n := 3) (by decide +kernel)) (by decide +kernel) (by decide +kernel) rfl g460 <|
    z_iload (i := 4) (zd (i := .iload 4) (n := 2) (by decide +kernel)) <|
    z_iald (zd (i := .iaload) (n := 1) (by decide +kernel)) <|
    z_icmp_le (off := 7) (tgt := 70) (zd (i := .if_icmp .le (7)) (n := 3) (by decide +kernel)) (by decide +kernel) (zj (hj 10) (by decide +kernel)) (zj (hj 9) (by decide +kernel))
noncomputable def b_X8_best_9 : zBl := fun jp K => oIld 5 <| oIst 4 <| jp 10
theorem s_X8_best_9 (d : Nat) : zPb l G gh (d + 6) n_X8_best p_X8_best 66 b_X8_best_9 := fun K jp hj =>
    z_iload (i := 5) (zd (i := .iload 5) (n := 2) (by decide +kernel)) <|
    z_istore (i := 4) (zd (i := .istore 4) (n := 2) (by decide +kernel)) (by decide +kernel) <|
    (zj (hj 10) (by decide +kernel))
noncomputable def b_X8_best_10 : zBl := fun jp K => oInc 5 2147483649 <| jp 7
theorem s_X8_best_10 (d : Nat) : zPb l G gh (d + 6) n_X8_best p_X8_best 70 b_X8_best_10 := fun K jp hj =>
    z_iinc (i := 5) (n := 1) (zd (i := .iinc 5 (1)) (n := 3) (by decide +kernel)) (by decide +kernel) (by decide +kernel) <|
    z_goto (off := -31) (tgt := 42) (zd (i := .goto (-31)) (n := 3) (by decide +kernel)) (by decide +kernel) (zj (hj 7) (by decide +kernel))
noncomputable def b_X8_best_11 : zBl := fun jp K => oNLC 3 2147483648 zneN zeqN zn1_ne zn1_eq (jp 13) (jp 12)
theorem s_X8_best_11 (d : Nat) : zPb l G gh (d + 6) n_X8_best p_X8_best 76 b_X8_best_11 := fun K jp hj =>
    z_nL0_ne (i := 3) (a1 := 1) (off := 8) (tgt := 85) (zLd_n (n := 3) (i := 3) (zd (i := .iload_n 3) (n := 1) (by decide +kernel)) rfl) (zd (i := .ifCond .ne (8)) (n := 3) (by decide +kernel)) (by decide +kernel) (zj (hj 13) (by decide +kernel)) (zj (hj 12) (by decide +kernel))
noncomputable def b_X8_best_12 : zBl := fun jp K => oIld 4 <| jp 14
theorem s_X8_best_12 (d : Nat) : zPb l G gh (d + 6) n_X8_best p_X8_best 80 b_X8_best_12 := fun K jp hj =>
    z_iload (i := 4) (zd (i := .iload 4) (n := 2) (by decide +kernel)) <|
    z_goto (off := 10) (tgt := 92) (zd (i := .goto (10)) (n := 3) (by decide +kernel)) (by decide +kernel) (zj (hj 14) (by decide +kernel))
noncomputable def b_X8_best_13 : zBl := fun jp K => oAld 0 <| oGetR 8 8 <| oIld 4 <| oXald 10 <| jp 14
theorem s_X8_best_13 (d : Nat) : zPb l G gh (d + 6) n_X8_best p_X8_best 85 b_X8_best_13 := fun K jp hj =>
    z_aload_n (n := 0) (i := 0) (zd (i := .aload_n 0) (n := 1) (by decide +kernel)) rfl <|
    z_getR (ci := 8) (j := 8) (idx := 55) (zd (i := .getfield 55) (n := 3) (by decide +kernel)) (by decide +kernel) (by decide +kernel) rfl g460 <|
    z_iload (i := 4) (zd (i := .iload 4) (n := 2) (by decide +kernel)) <|
    z_iald (zd (i := .iaload) (n := 1) (by decide +kernel)) <|
    (zj (hj 14) (by decide +kernel))
noncomputable def b_X8_best_14 : zBl := fun jp K => oIret K
theorem s_X8_best_14 (d : Nat) : zPb l G gh (d + 6) n_X8_best p_X8_best 92 b_X8_best_14 := fun K jp hj =>
    z_iret (zd (i := .ireturn) (n := 1) (by decide +kernel)) rfl
noncomputable def t_X8_best : List zBl := [b_X8_best_0, b_X8_best_1, b_X8_best_2, b_X8_best_3, b_X8_best_4, b_X8_best_5, b_X8_best_6, b_X8_best_7, b_X8_best_8, b_X8_best_9, b_X8_best_10, b_X8_best_11, b_X8_best_12, b_X8_best_13, b_X8_best_14]
theorem tt_X8_best (d : Nat) : zT (zPb l G gh (d + 6) n_X8_best p_X8_best) t_X8_best p_X8_best := ⟨s_X8_best_0 d, s_X8_best_1 d, s_X8_best_2 d, s_X8_best_3 d, s_X8_best_4 d, s_X8_best_5 d, s_X8_best_6 d, s_X8_best_7 d, s_X8_best_8 d, s_X8_best_9 d, s_X8_best_10 d, s_X8_best_11 d, s_X8_best_12 d, s_X8_best_13 d, s_X8_best_14 d, trivial⟩
def q_X8_best_0 : List (Nat × Nat) := [(0, zk0), (21, zk10), (255, zk7), (259, zk20), (261, zk12), (262, zk12), (265, zk2), (266, zk18), (267, zk18), (268, zk19), (269, zk3), (270, zk7)]
noncomputable def al_X8_best_0 : zAq := [(some (.inl 8589934591), [(0, zk0), (21, zk10), (255, zk9), (259, zk20), (261, zk12), (262, zk12), (265, zk2), (266, zk18), (267, zk18), (268, zk19), (269, zk4), (270, zk9)])]
def mq_X8_best_0_1 : List (Nat × Nat) := [(0, zk0), (21, zk10), (255, zk9), (259, zk20), (261, zk12), (262, zk12), (265, zk2), (266, zk18), (267, zk18), (268, zk19), (269, zk4), (270, zk9)]
noncomputable def fm_X8_best_0 : List zFm := [(0, [], (fun vs => [.inr (.ref 0), .inl 9223372043297226757, .inl 9223372047592194096, .inl 8589934591]), (fun vs => zP q_X8_best_0), (fun vs => Nat.sub (Nat.add 20 0) 0)),
  (7, [(5, 2147483649, 2147483668)], (fun vs => [.inr (.ref 0), .inl 9223372043297226757, .inl 9223372047592194096, .inl 9223372043297226753, .inl 9223372043297226771, .inl (zn 0 vs 0)]), (fun vs => zP mq_X8_best_0_1), (fun vs => Nat.sub (Nat.add 2147483668 0) (Nat.add 0 (Nat.mul 1 (zn 0 vs 0)))))]
def bf_X8_best_0 : List Nat := [0, 0, 0, 0, 0, 0, 0, 2]
theorem r_X8_best_0_0 : zbox [] (fun vs => zFrun (zpost (zAlq al_X8_best_0)) 1000 t_X8_best fm_X8_best_0 bf_X8_best_0 (0, vs)) = true := by decide +kernel
theorem r_X8_best_0_1 : zbox [(5, 2147483649, 2147483668)] (fun vs => zFrun (zpost (zAlq al_X8_best_0)) 1000 t_X8_best fm_X8_best_0 bf_X8_best_0 (1, vs)) = true := by decide +kernel
set_option maxRecDepth 100000 in
theorem x_X8_best_0 (d : Nat) : zS l G gh (d + 6) (zpost (zAlq al_X8_best_0)) n_X8_best (zn 0 p_X8_best 0) (zwc (0, [.inr (.ref 0), .inl 9223372043297226757, .inl 9223372047592194096, .inl 8589934591], zP q_X8_best_0) 0) := zentry (tt_X8_best d) fm_X8_best_0 bf_X8_best_0 1000 (by decide +kernel) rfl ⟨Nat.zero_lt_succ _, trivial⟩ (fun f hf => match f, hf with
  | 0, _ => fun vs hv => (zbox_t r_X8_best_0_0) vs hv
  | 1, _ => fun vs hv => (zbox_t r_X8_best_0_1) vs hv
  | f + 2, h => absurd (show f + 2 < 2 from h) (Nat.not_lt.mpr (Nat.le_add_left 2 f)))
noncomputable def gs_X8_best_0 : zMt := zgq false [] 6 [.inr (.ref 0), .inl 9223372043297226757, .inl 9223372047592194096, .inl 8589934591] q_X8_best_0 al_X8_best_0
set_option maxRecDepth 100000 in
theorem cs_X8_best_0 (d : Nat) : zC l G gh (d + 6) n_X8_best gs_X8_best_0 := zgq_ok0 (pcs := p_X8_best) (by decide) rfl rfl (fun a ha => by simp only [al_X8_best_0, List.mem_cons, List.not_mem_nil, or_false] at ha; rcases ha with rfl <;> decide +kernel) (fun gh => x_X8_best_0 d) (by decide +kernel)
def q_X8_best_1 : List (Nat × Nat) := [(0, zk0), (259, zk20)]
noncomputable def al_X8_best_1 : zAq := [(some (.inl 2147483647), [(0, zk0), (259, zk20)])]
noncomputable def fm_X8_best_1 : List zFm := [(0, [], (fun vs => [.inr (.ref 0), .inl 9223372043297226757, .inl 6442450944, .inl 8589934591]), (fun vs => zP q_X8_best_1), (fun vs => Nat.sub (Nat.add 0 0) 0))]
def bf_X8_best_1 : List Nat := []
theorem r_X8_best_1_0 : zbox [] (fun vs => zFrun (zpost (zAlq al_X8_best_1)) 1000 t_X8_best fm_X8_best_1 bf_X8_best_1 (0, vs)) = true := by decide +kernel
set_option maxRecDepth 100000 in
theorem x_X8_best_1 (d : Nat) : zS l G gh (d + 6) (zpost (zAlq al_X8_best_1)) n_X8_best (zn 0 p_X8_best 0) (zwc (0, [.inr (.ref 0), .inl 9223372043297226757, .inl 6442450944, .inl 8589934591], zP q_X8_best_1) 0) := zentry (tt_X8_best d) fm_X8_best_1 bf_X8_best_1 1000 (by decide +kernel) rfl ⟨Nat.zero_lt_succ _, trivial⟩ (fun f hf => match f, hf with
  | 0, _ => fun vs hv => (zbox_t r_X8_best_1_0) vs hv
  | f + 1, h => absurd (show f + 1 < 1 from h) (Nat.not_lt.mpr (Nat.le_add_left 1 f)))
noncomputable def gs_X8_best_1 : zMt := zgq false [] 6 [.inr (.ref 0), .inl 9223372043297226757, .inl 6442450944, .inl 8589934591] q_X8_best_1 al_X8_best_1
set_option maxRecDepth 100000 in
theorem cs_X8_best_1 (d : Nat) : zC l G gh (d + 6) n_X8_best gs_X8_best_1 := zgq_ok0 (pcs := p_X8_best) (by decide) rfl rfl (fun a ha => by simp only [al_X8_best_1, List.mem_cons, List.not_mem_nil, or_false] at ha; rcases ha with rfl <;> decide +kernel) (fun gh => x_X8_best_1 d) (by decide +kernel)
def q_X8_best_2 : List (Nat × Nat) := [(0, zk0), (259, zk20)]
noncomputable def al_X8_best_2 : zAq := [(some (.inl 2147483647), [(0, zk0), (259, zk20)])]
noncomputable def fm_X8_best_2 : List zFm := [(0, [], (fun vs => [.inr (.ref 0), .inl 9223372043297226757, .inl 9223372255898107903, .inl 8589934591]), (fun vs => zP q_X8_best_2), (fun vs => Nat.sub (Nat.add 0 0) 0))]
def bf_X8_best_2 : List Nat := []
theorem r_X8_best_2_0 : zbox [] (fun vs => zFrun (zpost (zAlq al_X8_best_2)) 1000 t_X8_best fm_X8_best_2 bf_X8_best_2 (0, vs)) = true := by decide +kernel
set_option maxRecDepth 100000 in
theorem x_X8_best_2 (d : Nat) : zS l G gh (d + 6) (zpost (zAlq al_X8_best_2)) n_X8_best (zn 0 p_X8_best 0) (zwc (0, [.inr (.ref 0), .inl 9223372043297226757, .inl 9223372255898107903, .inl 8589934591], zP q_X8_best_2) 0) := zentry (tt_X8_best d) fm_X8_best_2 bf_X8_best_2 1000 (by decide +kernel) rfl ⟨Nat.zero_lt_succ _, trivial⟩ (fun f hf => match f, hf with
  | 0, _ => fun vs hv => (zbox_t r_X8_best_2_0) vs hv
  | f + 1, h => absurd (show f + 1 < 1 from h) (Nat.not_lt.mpr (Nat.le_add_left 1 f)))
noncomputable def gs_X8_best_2 : zMt := zgq false [] 6 [.inr (.ref 0), .inl 9223372043297226757, .inl 9223372255898107903, .inl 8589934591] q_X8_best_2 al_X8_best_2
set_option maxRecDepth 100000 in
theorem cs_X8_best_2 (d : Nat) : zC l G gh (d + 6) n_X8_best gs_X8_best_2 := zgq_ok0 (pcs := p_X8_best) (by decide) rfl rfl (fun a ha => by simp only [al_X8_best_2, List.mem_cons, List.not_mem_nil, or_false] at ha; rcases ha with rfl <;> decide +kernel) (fun gh => x_X8_best_2 d) (by decide +kernel)
def q_X8_best_3 : List (Nat × Nat) := [(0, zk0)]
noncomputable def al_X8_best_3 : zAq := [(some (.inl 2147483647), [(0, zk0)])]
noncomputable def fm_X8_best_3 : List zFm := [(0, [], (fun vs => [.inr (.ref 0), .inl 6442450943, .inl 8589934591, .inl 8589934591]), (fun vs => zP q_X8_best_3), (fun vs => Nat.sub (Nat.add 0 0) 0))]
def bf_X8_best_3 : List Nat := []
theorem r_X8_best_3_0 : zbox [] (fun vs => zFrun (zpost (zAlq al_X8_best_3)) 1000 t_X8_best fm_X8_best_3 bf_X8_best_3 (0, vs)) = true := by decide +kernel
set_option maxRecDepth 100000 in
theorem x_X8_best_3 (d : Nat) : zS l G gh (d + 6) (zpost (zAlq al_X8_best_3)) n_X8_best (zn 0 p_X8_best 0) (zwc (0, [.inr (.ref 0), .inl 6442450943, .inl 8589934591, .inl 8589934591], zP q_X8_best_3) 0) := zentry (tt_X8_best d) fm_X8_best_3 bf_X8_best_3 1000 (by decide +kernel) rfl ⟨Nat.zero_lt_succ _, trivial⟩ (fun f hf => match f, hf with
  | 0, _ => fun vs hv => (zbox_t r_X8_best_3_0) vs hv
  | f + 1, h => absurd (show f + 1 < 1 from h) (Nat.not_lt.mpr (Nat.le_add_left 1 f)))
noncomputable def gs_X8_best_3 : zMt := zgq false [] 6 [.inr (.ref 0), .inl 6442450943, .inl 8589934591, .inl 8589934591] q_X8_best_3 al_X8_best_3
set_option maxRecDepth 100000 in
theorem cs_X8_best_3 (d : Nat) : zC l G gh (d + 6) n_X8_best gs_X8_best_3 := zgq_ok0 (pcs := p_X8_best) (by decide) rfl rfl (fun a ha => by simp only [al_X8_best_3, List.mem_cons, List.not_mem_nil, or_false] at ha; rcases ha with rfl <;> decide +kernel) (fun gh => x_X8_best_3 d) (by decide +kernel)
def q_X8_best_4 : List (Nat × Nat) := [(0, zk0), (259, zk20)]
noncomputable def al_X8_best_4 : zAq := [(some (.inl 2147483647), [(0, zk0), (259, zk20)])]
noncomputable def fm_X8_best_4 : List zFm := [(0, [], (fun vs => [.inr (.ref 0), .inl 9223372071214514175, .inl 8589934591, .inl 8589934591]), (fun vs => zP q_X8_best_4), (fun vs => Nat.sub (Nat.add 0 0) 0))]
def bf_X8_best_4 : List Nat := []
theorem r_X8_best_4_0 : zbox [] (fun vs => zFrun (zpost (zAlq al_X8_best_4)) 1000 t_X8_best fm_X8_best_4 bf_X8_best_4 (0, vs)) = true := by decide +kernel
set_option maxRecDepth 100000 in
theorem x_X8_best_4 (d : Nat) : zS l G gh (d + 6) (zpost (zAlq al_X8_best_4)) n_X8_best (zn 0 p_X8_best 0) (zwc (0, [.inr (.ref 0), .inl 9223372071214514175, .inl 8589934591, .inl 8589934591], zP q_X8_best_4) 0) := zentry (tt_X8_best d) fm_X8_best_4 bf_X8_best_4 1000 (by decide +kernel) rfl ⟨Nat.zero_lt_succ _, trivial⟩ (fun f hf => match f, hf with
  | 0, _ => fun vs hv => (zbox_t r_X8_best_4_0) vs hv
  | f + 1, h => absurd (show f + 1 < 1 from h) (Nat.not_lt.mpr (Nat.le_add_left 1 f)))
noncomputable def gs_X8_best_4 : zMt := zgq false [] 6 [.inr (.ref 0), .inl 9223372071214514175, .inl 8589934591, .inl 8589934591] q_X8_best_4 al_X8_best_4
set_option maxRecDepth 100000 in
theorem cs_X8_best_4 (d : Nat) : zC l G gh (d + 6) n_X8_best gs_X8_best_4 := zgq_ok0 (pcs := p_X8_best) (by decide) rfl rfl (fun a ha => by simp only [al_X8_best_4, List.mem_cons, List.not_mem_nil, or_false] at ha; rcases ha with rfl <;> decide +kernel) (fun gh => x_X8_best_4 d) (by decide +kernel)
def q_X8_best_5 : List (Nat × Nat) := [(0, zk1), (9, zk21), (11, zk12), (12, zk12), (15, zk5), (16, zk18), (17, zk18), (18, zk19), (19, zk3), (20, zk7), (21, zk10), (255, zk7)]
noncomputable def al_X8_best_5 : zAq := [(some (.inl 8589934591), [(0, zk1), (9, zk21), (11, zk12), (12, zk12), (15, zk5), (16, zk18), (17, zk18), (18, zk19), (19, zk4), (20, zk9), (21, zk10), (255, zk9)])]
def mq_X8_best_5_1 : List (Nat × Nat) := [(0, zk1), (9, zk21), (11, zk12), (12, zk12), (15, zk5), (16, zk18), (17, zk18), (18, zk19), (19, zk4), (20, zk9), (21, zk10), (255, zk9)]
noncomputable def fm_X8_best_5 : List zFm := [(0, [], (fun vs => [.inr (.ref 0), .inl 9223372043297226757, .inl 9223372047592194096, .inl 8589934591]), (fun vs => zP q_X8_best_5), (fun vs => Nat.sub (Nat.add 20 0) 0)),
  (7, [(5, 2147483649, 2147483668)], (fun vs => [.inr (.ref 0), .inl 9223372043297226757, .inl 9223372047592194096, .inl 9223372043297226753, .inl 9223372043297226771, .inl (zn 0 vs 0)]), (fun vs => zP mq_X8_best_5_1), (fun vs => Nat.sub (Nat.add 2147483668 0) (Nat.add 0 (Nat.mul 1 (zn 0 vs 0)))))]
def bf_X8_best_5 : List Nat := [0, 0, 0, 0, 0, 0, 0, 2]
theorem r_X8_best_5_0 : zbox [] (fun vs => zFrun (zpost (zAlq al_X8_best_5)) 1000 t_X8_best fm_X8_best_5 bf_X8_best_5 (0, vs)) = true := by decide +kernel
theorem r_X8_best_5_1 : zbox [(5, 2147483649, 2147483668)] (fun vs => zFrun (zpost (zAlq al_X8_best_5)) 1000 t_X8_best fm_X8_best_5 bf_X8_best_5 (1, vs)) = true := by decide +kernel
set_option maxRecDepth 100000 in
theorem x_X8_best_5 (d : Nat) : zS l G gh (d + 6) (zpost (zAlq al_X8_best_5)) n_X8_best (zn 0 p_X8_best 0) (zwc (0, [.inr (.ref 0), .inl 9223372043297226757, .inl 9223372047592194096, .inl 8589934591], zP q_X8_best_5) 0) := zentry (tt_X8_best d) fm_X8_best_5 bf_X8_best_5 1000 (by decide +kernel) rfl ⟨Nat.zero_lt_succ _, trivial⟩ (fun f hf => match f, hf with
  | 0, _ => fun vs hv => (zbox_t r_X8_best_5_0) vs hv
  | 1, _ => fun vs hv => (zbox_t r_X8_best_5_1) vs hv
  | f + 2, h => absurd (show f + 2 < 2 from h) (Nat.not_lt.mpr (Nat.le_add_left 2 f)))
noncomputable def gs_X8_best_5 : zMt := zgq false [] 6 [.inr (.ref 0), .inl 9223372043297226757, .inl 9223372047592194096, .inl 8589934591] q_X8_best_5 al_X8_best_5
set_option maxRecDepth 100000 in
theorem cs_X8_best_5 (d : Nat) : zC l G gh (d + 6) n_X8_best gs_X8_best_5 := zgq_ok0 (pcs := p_X8_best) (by decide) rfl rfl (fun a ha => by simp only [al_X8_best_5, List.mem_cons, List.not_mem_nil, or_false] at ha; rcases ha with rfl <;> decide +kernel) (fun gh => x_X8_best_5 d) (by decide +kernel)
def q_X8_best_6 : List (Nat × Nat) := [(0, zk1), (9, zk21)]
noncomputable def al_X8_best_6 : zAq := [(some (.inl 2147483647), [(0, zk1), (9, zk21)])]
noncomputable def fm_X8_best_6 : List zFm := [(0, [], (fun vs => [.inr (.ref 0), .inl 9223372043297226757, .inl 6442450944, .inl 8589934591]), (fun vs => zP q_X8_best_6), (fun vs => Nat.sub (Nat.add 0 0) 0))]
def bf_X8_best_6 : List Nat := []
theorem r_X8_best_6_0 : zbox [] (fun vs => zFrun (zpost (zAlq al_X8_best_6)) 1000 t_X8_best fm_X8_best_6 bf_X8_best_6 (0, vs)) = true := by decide +kernel
set_option maxRecDepth 100000 in
theorem x_X8_best_6 (d : Nat) : zS l G gh (d + 6) (zpost (zAlq al_X8_best_6)) n_X8_best (zn 0 p_X8_best 0) (zwc (0, [.inr (.ref 0), .inl 9223372043297226757, .inl 6442450944, .inl 8589934591], zP q_X8_best_6) 0) := zentry (tt_X8_best d) fm_X8_best_6 bf_X8_best_6 1000 (by decide +kernel) rfl ⟨Nat.zero_lt_succ _, trivial⟩ (fun f hf => match f, hf with
  | 0, _ => fun vs hv => (zbox_t r_X8_best_6_0) vs hv
  | f + 1, h => absurd (show f + 1 < 1 from h) (Nat.not_lt.mpr (Nat.le_add_left 1 f)))
noncomputable def gs_X8_best_6 : zMt := zgq false [] 6 [.inr (.ref 0), .inl 9223372043297226757, .inl 6442450944, .inl 8589934591] q_X8_best_6 al_X8_best_6
set_option maxRecDepth 100000 in
theorem cs_X8_best_6 (d : Nat) : zC l G gh (d + 6) n_X8_best gs_X8_best_6 := zgq_ok0 (pcs := p_X8_best) (by decide) rfl rfl (fun a ha => by simp only [al_X8_best_6, List.mem_cons, List.not_mem_nil, or_false] at ha; rcases ha with rfl <;> decide +kernel) (fun gh => x_X8_best_6 d) (by decide +kernel)
def q_X8_best_7 : List (Nat × Nat) := [(0, zk1), (9, zk21)]
noncomputable def al_X8_best_7 : zAq := [(some (.inl 2147483647), [(0, zk1), (9, zk21)])]
noncomputable def fm_X8_best_7 : List zFm := [(0, [], (fun vs => [.inr (.ref 0), .inl 9223372043297226757, .inl 9223372255898107903, .inl 8589934591]), (fun vs => zP q_X8_best_7), (fun vs => Nat.sub (Nat.add 0 0) 0))]
def bf_X8_best_7 : List Nat := []
theorem r_X8_best_7_0 : zbox [] (fun vs => zFrun (zpost (zAlq al_X8_best_7)) 1000 t_X8_best fm_X8_best_7 bf_X8_best_7 (0, vs)) = true := by decide +kernel
set_option maxRecDepth 100000 in
theorem x_X8_best_7 (d : Nat) : zS l G gh (d + 6) (zpost (zAlq al_X8_best_7)) n_X8_best (zn 0 p_X8_best 0) (zwc (0, [.inr (.ref 0), .inl 9223372043297226757, .inl 9223372255898107903, .inl 8589934591], zP q_X8_best_7) 0) := zentry (tt_X8_best d) fm_X8_best_7 bf_X8_best_7 1000 (by decide +kernel) rfl ⟨Nat.zero_lt_succ _, trivial⟩ (fun f hf => match f, hf with
  | 0, _ => fun vs hv => (zbox_t r_X8_best_7_0) vs hv
  | f + 1, h => absurd (show f + 1 < 1 from h) (Nat.not_lt.mpr (Nat.le_add_left 1 f)))
noncomputable def gs_X8_best_7 : zMt := zgq false [] 6 [.inr (.ref 0), .inl 9223372043297226757, .inl 9223372255898107903, .inl 8589934591] q_X8_best_7 al_X8_best_7
set_option maxRecDepth 100000 in
theorem cs_X8_best_7 (d : Nat) : zC l G gh (d + 6) n_X8_best gs_X8_best_7 := zgq_ok0 (pcs := p_X8_best) (by decide) rfl rfl (fun a ha => by simp only [al_X8_best_7, List.mem_cons, List.not_mem_nil, or_false] at ha; rcases ha with rfl <;> decide +kernel) (fun gh => x_X8_best_7 d) (by decide +kernel)
def q_X8_best_8 : List (Nat × Nat) := [(0, zk1)]
noncomputable def al_X8_best_8 : zAq := [(some (.inl 2147483647), [(0, zk1)])]
noncomputable def fm_X8_best_8 : List zFm := [(0, [], (fun vs => [.inr (.ref 0), .inl 6442450943, .inl 8589934591, .inl 8589934591]), (fun vs => zP q_X8_best_8), (fun vs => Nat.sub (Nat.add 0 0) 0))]
def bf_X8_best_8 : List Nat := []
theorem r_X8_best_8_0 : zbox [] (fun vs => zFrun (zpost (zAlq al_X8_best_8)) 1000 t_X8_best fm_X8_best_8 bf_X8_best_8 (0, vs)) = true := by decide +kernel
set_option maxRecDepth 100000 in
theorem x_X8_best_8 (d : Nat) : zS l G gh (d + 6) (zpost (zAlq al_X8_best_8)) n_X8_best (zn 0 p_X8_best 0) (zwc (0, [.inr (.ref 0), .inl 6442450943, .inl 8589934591, .inl 8589934591], zP q_X8_best_8) 0) := zentry (tt_X8_best d) fm_X8_best_8 bf_X8_best_8 1000 (by decide +kernel) rfl ⟨Nat.zero_lt_succ _, trivial⟩ (fun f hf => match f, hf with
  | 0, _ => fun vs hv => (zbox_t r_X8_best_8_0) vs hv
  | f + 1, h => absurd (show f + 1 < 1 from h) (Nat.not_lt.mpr (Nat.le_add_left 1 f)))
noncomputable def gs_X8_best_8 : zMt := zgq false [] 6 [.inr (.ref 0), .inl 6442450943, .inl 8589934591, .inl 8589934591] q_X8_best_8 al_X8_best_8
set_option maxRecDepth 100000 in
theorem cs_X8_best_8 (d : Nat) : zC l G gh (d + 6) n_X8_best gs_X8_best_8 := zgq_ok0 (pcs := p_X8_best) (by decide) rfl rfl (fun a ha => by simp only [al_X8_best_8, List.mem_cons, List.not_mem_nil, or_false] at ha; rcases ha with rfl <;> decide +kernel) (fun gh => x_X8_best_8 d) (by decide +kernel)
def q_X8_best_9 : List (Nat × Nat) := [(0, zk1), (9, zk21)]
noncomputable def al_X8_best_9 : zAq := [(some (.inl 2147483647), [(0, zk1), (9, zk21)])]
noncomputable def fm_X8_best_9 : List zFm := [(0, [], (fun vs => [.inr (.ref 0), .inl 9223372071214514175, .inl 8589934591, .inl 8589934591]), (fun vs => zP q_X8_best_9), (fun vs => Nat.sub (Nat.add 0 0) 0))]
def bf_X8_best_9 : List Nat := []
theorem r_X8_best_9_0 : zbox [] (fun vs => zFrun (zpost (zAlq al_X8_best_9)) 1000 t_X8_best fm_X8_best_9 bf_X8_best_9 (0, vs)) = true := by decide +kernel
set_option maxRecDepth 100000 in
theorem x_X8_best_9 (d : Nat) : zS l G gh (d + 6) (zpost (zAlq al_X8_best_9)) n_X8_best (zn 0 p_X8_best 0) (zwc (0, [.inr (.ref 0), .inl 9223372071214514175, .inl 8589934591, .inl 8589934591], zP q_X8_best_9) 0) := zentry (tt_X8_best d) fm_X8_best_9 bf_X8_best_9 1000 (by decide +kernel) rfl ⟨Nat.zero_lt_succ _, trivial⟩ (fun f hf => match f, hf with
  | 0, _ => fun vs hv => (zbox_t r_X8_best_9_0) vs hv
  | f + 1, h => absurd (show f + 1 < 1 from h) (Nat.not_lt.mpr (Nat.le_add_left 1 f)))
noncomputable def gs_X8_best_9 : zMt := zgq false [] 6 [.inr (.ref 0), .inl 9223372071214514175, .inl 8589934591, .inl 8589934591] q_X8_best_9 al_X8_best_9
set_option maxRecDepth 100000 in
theorem cs_X8_best_9 (d : Nat) : zC l G gh (d + 6) n_X8_best gs_X8_best_9 := zgq_ok0 (pcs := p_X8_best) (by decide) rfl rfl (fun a ha => by simp only [al_X8_best_9, List.mem_cons, List.not_mem_nil, or_false] at ha; rcases ha with rfl <;> decide +kernel) (fun gh => x_X8_best_9 d) (by decide +kernel)
noncomputable def gs_X8_best : zMt := (zor gs_X8_best_0 (zor gs_X8_best_1 (zor gs_X8_best_2 (zor gs_X8_best_3 (zor gs_X8_best_4 (zor gs_X8_best_5 (zor gs_X8_best_6 (zor gs_X8_best_7 (zor gs_X8_best_8 gs_X8_best_9)))))))))
theorem cs_X8_best (d : Nat) : zC l G gh (d + 6) n_X8_best gs_X8_best := (zor_ok (cs_X8_best_0 d) (zor_ok (cs_X8_best_1 d) (zor_ok (cs_X8_best_2 d) (zor_ok (cs_X8_best_3 d) (zor_ok (cs_X8_best_4 d) (zor_ok (cs_X8_best_5 d) (zor_ok (cs_X8_best_6 d) (zor_ok (cs_X8_best_7 d) (zor_ok (cs_X8_best_8 d) (cs_X8_best_9 d))))))))))
def p_X9_fillsSeen : List Nat := [0, 2, 8, 17, 30, 46, 58, 64, 70]
noncomputable def b_X9_fillsSeen_0 : zBl := fun jp K => oInt 2147483648 <| oIst 1 <| jp 1
theorem s_X9_fillsSeen_0 (d : Nat) (hG : zGood gh) : zPb l G gh (d + 7) n_X9_fillsSeen p_X9_fillsSeen 0 b_X9_fillsSeen_0 := fun K jp hj =>
    z_iconst (n := 0) (zd (i := .iconst (0)) (n := 1) (by decide +kernel)) (by decide +kernel) <|
    z_istore_n (n := 1) (i := 1) (zd (i := .istore_n 1) (n := 1) (by decide +kernel)) rfl (by decide +kernel) <|
    (zj (hj 1) (by decide +kernel))
noncomputable def b_X9_fillsSeen_1 : zBl := fun jp K => oNLC 1 2147483667 zgtN zleN zn1_gt zn1_le (jp 8) (jp 2)
theorem s_X9_fillsSeen_1 (d : Nat) (hG : zGood gh) : zPb l G gh (d + 7) n_X9_fillsSeen p_X9_fillsSeen 2 b_X9_fillsSeen_1 := fun K jp hj =>
    z_nLC_gt (i := 1) (c0 := 2147483667) (a1 := 1) (a2 := 2) (off := 65) (tgt := 70) (zLd_n (n := 1) (i := 1) (zd (i := .iload_n 1) (n := 1) (by decide +kernel)) rfl) (zCn_b (n := 19) (zd (i := .bipush (19)) (n := 2) (by decide +kernel)) (by decide +kernel)) (zd (i := .if_icmp .gt (65)) (n := 3) (by decide +kernel)) (by decide +kernel) (zj (hj 8) (by decide +kernel)) (zj (hj 2) (by decide +kernel))
noncomputable def b_X9_fillsSeen_2 : zBl := fun jp K => oAld 0 <| oGetR 9 53 <| oIld 1 <| oInt 2147483648 <| oXast 10 zid <| oInt 2147483648 <| oIst 2 <| jp 3
theorem s_X9_fillsSeen_2 (d : Nat) (hG : zGood gh) : zPb l G gh (d + 7) n_X9_fillsSeen p_X9_fillsSeen 8 b_X9_fillsSeen_2 := fun K jp hj =>
    z_aload_n (n := 0) (i := 0) (zd (i := .aload_n 0) (n := 1) (by decide +kernel)) rfl <|
    z_getR (ci := 9) (j := 53) (idx := 119) (zd (i := .getfield 119) (n := 3) (by decide +kernel)) (by decide +kernel) (by decide +kernel) rfl g1181 <|
    z_iload_n (n := 1) (i := 1) (zd (i := .iload_n 1) (n := 1) (by decide +kernel)) rfl <|
    z_iconst (n := 0) (zd (i := .iconst (0)) (n := 1) (by decide +kernel)) (by decide +kernel) <|
    z_iast (zd (i := .iastore) (n := 1) (by decide +kernel)) <|
    z_iconst (n := 0) (zd (i := .iconst (0)) (n := 1) (by decide +kernel)) (by decide +kernel) <|
    z_istore_n (n := 2) (i := 2) (zd (i := .istore_n 2) (n := 1) (by decide +kernel)) rfl (by decide +kernel) <|
    (zj (hj 3) (by decide +kernel))
noncomputable def b_X9_fillsSeen_3 : zBl := fun jp K => oIld 2 <| oAld 0 <| oGetR 9 22 <| oAld 0 <| oGetI 9 18 <| oXald 10 <| oIc zge zlt (jp 7) (jp 4)
theorem s_X9_fillsSeen_3 (d : Nat) (hG : zGood gh) : zPb l G gh (d + 7) n_X9_fillsSeen p_X9_fillsSeen 17 b_X9_fillsSeen_3 := fun K jp hj =>
    z_iload_n (n := 2) (i := 2) (zd (i := .iload_n 2) (n := 1) (by decide +kernel)) rfl <|
    z_aload_n (n := 0) (i := 0) (zd (i := .aload_n 0) (n := 1) (by decide +kernel)) rfl <|
    z_getR (ci := 9) (j := 22) (idx := 43) (zd (i := .getfield 43) (n := 3) (by decide +kernel)) (by decide +kernel) (by decide +kernel) rfl g1150 <|
    z_aload_n (n := 0) (i := 0) (zd (i := .aload_n 0) (n := 1) (by decide +kernel)) rfl <|
    z_getI (ci := 9) (j := 18) (idx := 230) (zd (i := .getfield 230) (n := 3) (by decide +kernel)) (by decide +kernel) (by decide +kernel) rfl g1146 <|
    z_iald (zd (i := .iaload) (n := 1) (by decide +kernel)) <|
    z_icmp_ge (off := 37) (tgt := 64) (zd (i := .if_icmp .ge (37)) (n := 3) (by decide +kernel)) (by decide +kernel) (zj (hj 7) (by decide +kernel)) (zj (hj 4) (by decide +kernel))
noncomputable def b_X9_fillsSeen_4 : zBl := fun jp K => oAld 0 <| oIld 1 <| oIld 2 <| oAld 0 <| oGetR 9 48 <| oInt 2147483744 <| oXald 10 <| oCv 9 3 gs_X9_sees <| oIf zeq zne (jp 6) (jp 5)
theorem s_X9_fillsSeen_4 (d : Nat) (hG : zGood gh) : zPb l G gh (d + 7) n_X9_fillsSeen p_X9_fillsSeen 30 b_X9_fillsSeen_4 := fun K jp hj =>
    z_aload_n (n := 0) (i := 0) (zd (i := .aload_n 0) (n := 1) (by decide +kernel)) rfl <|
    z_iload_n (n := 1) (i := 1) (zd (i := .iload_n 1) (n := 1) (by decide +kernel)) rfl <|
    z_iload_n (n := 2) (i := 2) (zd (i := .iload_n 2) (n := 1) (by decide +kernel)) rfl <|
    z_aload_n (n := 0) (i := 0) (zd (i := .aload_n 0) (n := 1) (by decide +kernel)) rfl <|
    z_getR (ci := 9) (j := 48) (idx := 110) (zd (i := .getfield 110) (n := 3) (by decide +kernel)) (by decide +kernel) (by decide +kernel) rfl g1176 <|
    z_bipush (n := 96) (zd (i := .bipush (96)) (n := 2) (by decide +kernel)) (by decide +kernel) <|
    z_iald (zd (i := .iaload) (n := 1) (by decide +kernel)) <|
    z_callV (idx := 352) (ci := 9) (N := n_X9_sees) (zd (i := .invokevirtual 352) (n := 3) (by decide +kernel)) to_X9_sees g1449 g1451 g68 (by decide +kernel) rfl rfl rfl (cs_X9_sees (l := l) (G := G) (gh := gh) (d) hG) <|
    z_if_eq (off := 15) (tgt := 58) (zd (i := .ifCond .eq (15)) (n := 3) (by decide +kernel)) (by decide +kernel) (zj (hj 6) (by decide +kernel)) (zj (hj 5) (by decide +kernel))
noncomputable def b_X9_fillsSeen_5 : zBl := fun jp K => oAld 0 <| oGetR 9 53 <| oIld 1 <| oDup2 <| oXald 10 <| oInt 2147483649 <| oIld 2 <| oB2 zishl <| oB2 zior <| oXast 10 zid <| jp 6
theorem s_X9_fillsSeen_5 (d : Nat) (hG : zGood gh) : zPb l G gh (d + 7) n_X9_fillsSeen p_X9_fillsSeen 46 b_X9_fillsSeen_5 := fun K jp hj =>
    z_aload_n (n := 0) (i := 0) (zd (i := .aload_n 0) (n := 1) (by decide +kernel)) rfl <|
    z_getR (ci := 9) (j := 53) (idx := 119) (zd (i := .getfield 119) (n := 3) (by decide +kernel)) (by decide +kernel) (by decide +kernel) rfl g1181 <|
    z_iload_n (n := 1) (i := 1) (zd (i := .iload_n 1) (n := 1) (by decide +kernel)) rfl <|
    z_dup2 (zd (i := .dup2) (n := 1) (by decide +kernel)) <|
    z_iald (zd (i := .iaload) (n := 1) (by decide +kernel)) <|
    z_iconst (n := 1) (zd (i := .iconst (1)) (n := 1) (by decide +kernel)) (by decide +kernel) <|
    z_iload_n (n := 2) (i := 2) (zd (i := .iload_n 2) (n := 1) (by decide +kernel)) rfl <|
    z_ishl (zd (i := .ishl) (n := 1) (by decide +kernel)) <|
    z_ior (zd (i := .ior) (n := 1) (by decide +kernel)) <|
    z_iast (zd (i := .iastore) (n := 1) (by decide +kernel)) <|
    (zj (hj 6) (by decide +kernel))
noncomputable def b_X9_fillsSeen_6 : zBl := fun jp K => oInc 2 2147483649 <| jp 3
theorem s_X9_fillsSeen_6 (d : Nat) (hG : zGood gh) : zPb l G gh (d + 7) n_X9_fillsSeen p_X9_fillsSeen 58 b_X9_fillsSeen_6 := fun K jp hj =>
    z_iinc (i := 2) (n := 1) (zd (i := .iinc 2 (1)) (n := 3) (by decide +kernel)) (by decide +kernel) (by decide +kernel) <|
    z_goto (off := -44) (tgt := 17) (zd (i := .goto (-44)) (n := 3) (by decide +kernel)) (by decide +kernel) (zj (hj 3) (by decide +kernel))
noncomputable def b_X9_fillsSeen_7 : zBl := fun jp K => oInc 1 2147483649 <| jp 1
theorem s_X9_fillsSeen_7 (d : Nat) (hG : zGood gh) : zPb l G gh (d + 7) n_X9_fillsSeen p_X9_fillsSeen 64 b_X9_fillsSeen_7 := fun K jp hj =>
    z_iinc (i := 1) (n := 1) (zd (i := .iinc 1 (1)) (n := 3) (by decide +kernel)) (by decide +kernel) (by decide +kernel) <|
    z_goto (off := -65) (tgt := 2) (zd (i := .goto (-65)) (n := 3) (by decide +kernel)) (by decide +kernel) (zj (hj 1) (by decide +kernel))
noncomputable def b_X9_fillsSeen_8 : zBl := fun jp K => oVret K
theorem s_X9_fillsSeen_8 (d : Nat) (hG : zGood gh) : zPb l G gh (d + 7) n_X9_fillsSeen p_X9_fillsSeen 70 b_X9_fillsSeen_8 := fun K jp hj =>
    z_vret (zd (i := .return_) (n := 1) (by decide +kernel)) rfl
noncomputable def t_X9_fillsSeen : List zBl := [b_X9_fillsSeen_0, b_X9_fillsSeen_1, b_X9_fillsSeen_2, b_X9_fillsSeen_3, b_X9_fillsSeen_4, b_X9_fillsSeen_5, b_X9_fillsSeen_6, b_X9_fillsSeen_7, b_X9_fillsSeen_8]
theorem tt_X9_fillsSeen (d : Nat) (hG : zGood gh) : zT (zPb l G gh (d + 7) n_X9_fillsSeen p_X9_fillsSeen) t_X9_fillsSeen p_X9_fillsSeen := ⟨s_X9_fillsSeen_0 d hG, s_X9_fillsSeen_1 d hG, s_X9_fillsSeen_2 d hG, s_X9_fillsSeen_3 d hG, s_X9_fillsSeen_4 d hG, s_X9_fillsSeen_5 d hG, s_X9_fillsSeen_6 d hG, s_X9_fillsSeen_7 d hG, s_X9_fillsSeen_8 d hG, trivial⟩
def q_X9_fillsSeen_0 : List (Nat × Nat) := [(292, zk102), (301, zk107), (302, zk111), (303, zk111), (321, zk3), (322, zk116), (323, zk104), (326, zk7)]
noncomputable def al_X9_fillsSeen_0 : zAq := [(none, [(292, zk105), (301, zk107), (302, zk111), (303, zk111), (321, zk4), (322, zk117), (323, zk104), (326, zk9)])]
def mq_X9_fillsSeen_0_1 : List (Nat × Nat) := [(292, zk105), (301, zk107), (302, zk111), (303, zk111), (321, zk4), (322, zk117), (323, zk104), (326, zk9)]
def mq_X9_fillsSeen_0_2 : List (Nat × Nat) := [(292, zk105), (301, zk107), (302, zk111), (303, zk111), (321, zk4), (322, zk117), (323, zk104), (326, zk9)]
noncomputable def fm_X9_fillsSeen_0 : List zFm := [(0, [], (fun vs => [.inr (.ref 292)]), (fun vs => zP q_X9_fillsSeen_0), (fun vs => Nat.sub (Nat.add 294 0) 0)),
  (1, [(1, 2147483648, 2147483668)], (fun vs => [.inr (.ref 292), .inl (zn 0 vs 0)]), (fun vs => zP mq_X9_fillsSeen_0_1), (fun vs => Nat.sub (Nat.add 30064771359 0) (Nat.add 0 (Nat.mul 14 (zn 0 vs 0))))),
  (3, [(1, 2147483648, 2147483667), (2, 2147483648, 2147483654)], (fun vs => [.inr (.ref 292), .inl (zn 0 vs 0), .inl (zn 0 vs 1)]), (fun vs => zP mq_X9_fillsSeen_0_2), (fun vs => Nat.sub (Nat.add 32212255006 0) (Nat.add (Nat.add 0 (Nat.mul 14 (zn 0 vs 0))) (Nat.mul 1 (zn 0 vs 1)))))]
def bf_X9_fillsSeen_0 : List Nat := [0, 2, 0, 3]
theorem r_X9_fillsSeen_0_0 : zbox [] (fun vs => zFrun (zpost (zAlq al_X9_fillsSeen_0)) 1000 t_X9_fillsSeen fm_X9_fillsSeen_0 bf_X9_fillsSeen_0 (0, vs)) = true := by decide +kernel
theorem r_X9_fillsSeen_0_1 : zbox [(1, 2147483648, 2147483668)] (fun vs => zFrun (zpost (zAlq al_X9_fillsSeen_0)) 1000 t_X9_fillsSeen fm_X9_fillsSeen_0 bf_X9_fillsSeen_0 (1, vs)) = true := by decide +kernel
theorem r_X9_fillsSeen_0_2 : zbox [(1, 2147483648, 2147483667), (2, 2147483648, 2147483654)] (fun vs => zFrun (zpost (zAlq al_X9_fillsSeen_0)) 1000 t_X9_fillsSeen fm_X9_fillsSeen_0 bf_X9_fillsSeen_0 (2, vs)) = true := by decide +kernel
set_option maxRecDepth 100000 in
theorem x_X9_fillsSeen_0 (d : Nat) (hG : zGood gh) : zS l G gh (d + 7) (zpost (zAlq al_X9_fillsSeen_0)) n_X9_fillsSeen (zn 0 p_X9_fillsSeen 0) (zwc (0, [.inr (.ref 292)], zP q_X9_fillsSeen_0) 0) := zentry (tt_X9_fillsSeen d hG) fm_X9_fillsSeen_0 bf_X9_fillsSeen_0 1000 (by decide +kernel) rfl ⟨Nat.zero_lt_succ _, trivial⟩ (fun f hf => match f, hf with
  | 0, _ => fun vs hv => (zbox_t r_X9_fillsSeen_0_0) vs hv
  | 1, _ => fun vs hv => (zbox_t r_X9_fillsSeen_0_1) vs hv
  | 2, _ => fun vs hv => (zbox_t r_X9_fillsSeen_0_2) vs hv
  | f + 3, h => absurd (show f + 3 < 3 from h) (Nat.not_lt.mpr (Nat.le_add_left 3 f)))
noncomputable def gs_X9_fillsSeen_0 : zMt := zgq true zUN 3 [.inr (.ref 292)] q_X9_fillsSeen_0 al_X9_fillsSeen_0
set_option maxRecDepth 100000 in
theorem cs_X9_fillsSeen_0 (d : Nat) (hG : zGood gh) : zC l G gh (d + 7) n_X9_fillsSeen gs_X9_fillsSeen_0 := zgq_ok zGood_ok (pcs := p_X9_fillsSeen) (by decide) rfl rfl (fun a ha => by simp only [al_X9_fillsSeen_0, List.mem_cons, List.not_mem_nil, or_false] at ha; rcases ha with rfl <;> decide +kernel) (fun gh hG => x_X9_fillsSeen_0 d hG) (by decide +kernel) hG
noncomputable def gs_X9_fillsSeen : zMt := gs_X9_fillsSeen_0
theorem cs_X9_fillsSeen (d : Nat) (hG : zGood gh) : zC l G gh (d + 7) n_X9_fillsSeen gs_X9_fillsSeen := (cs_X9_fillsSeen_0 d hG)
def p_X8_pitchUmbrellas : List Nat := [0, 17, 23, 41, 43, 48, 61, 69, 77, 82, 88, 94, 117, 126, 146, 159]
noncomputable def b_X8_pitchUmbrellas_0 : zBl := fun jp K => oAld 0 <| oGetR 8 12 <| oAld 0 <| oGetR 8 2 <| oGetI 4 0 <| oCv 0 1 f_X0_heat <| oIst 2 <| oInt 2147483648 <| oIst 3 <| jp 1
theorem s_X8_pitchUmbrellas_0 (d : Nat) : zPb l G gh (d + 7) n_X8_pitchUmbrellas p_X8_pitchUmbrellas 0 b_X8_pitchUmbrellas_0 := fun K jp hj =>
    z_aload_n (n := 0) (i := 0) (zd (i := .aload_n 0) (n := 1) (by decide +kernel)) rfl <|
    z_getR (ci := 8) (j := 12) (idx := 71) (zd (i := .getfield 71) (n := 3) (by decide +kernel)) (by decide +kernel) (by decide +kernel) rfl g464 <|
    z_aload_n (n := 0) (i := 0) (zd (i := .aload_n 0) (n := 1) (by decide +kernel)) rfl <|
    z_getR (ci := 8) (j := 2) (idx := 26) (zd (i := .getfield 26) (n := 3) (by decide +kernel)) (by decide +kernel) (by decide +kernel) rfl g454 <|
    z_getI (ci := 4) (j := 0) (idx := 140) (zd (i := .getfield 140) (n := 3) (by decide +kernel)) (by decide +kernel) (by decide +kernel) rfl g368 <|
    z_callV (idx := 143) (ci := 0) (N := n_X0_heat) (zd (i := .invokevirtual 143) (n := 3) (by decide +kernel)) to_X0_heat g716 g717 g718 (by decide +kernel) rfl rfl rfl (c_X0_heat (l := l) (G := G) (gh := gh) (d + 2)) <|
    z_istore_n (n := 2) (i := 2) (zd (i := .istore_n 2) (n := 1) (by decide +kernel)) rfl (by decide +kernel) <|
    z_iconst (n := 0) (zd (i := .iconst (0)) (n := 1) (by decide +kernel)) (by decide +kernel) <|
    z_istore_n (n := 3) (i := 3) (zd (i := .istore_n 3) (n := 1) (by decide +kernel)) rfl (by decide +kernel) <|
    (zj (hj 1) (by decide +kernel))
noncomputable def b_X8_pitchUmbrellas_1 : zBl := fun jp K => oNLC 3 2147483668 zgeN zltN zn1_ge zn1_lt (jp 3) (jp 2)
theorem s_X8_pitchUmbrellas_1 (d : Nat) : zPb l G gh (d + 7) n_X8_pitchUmbrellas p_X8_pitchUmbrellas 17 b_X8_pitchUmbrellas_1 := fun K jp hj =>
    z_nLC_ge (i := 3) (c0 := 2147483668) (a1 := 1) (a2 := 2) (off := 21) (tgt := 41) (zLd_n (n := 3) (i := 3) (zd (i := .iload_n 3) (n := 1) (by decide +kernel)) rfl) (zCn_b (n := 20) (zd (i := .bipush (20)) (n := 2) (by decide +kernel)) (by decide +kernel)) (zd (i := .if_icmp .ge (21)) (n := 3) (by decide +kernel)) (by decide +kernel) (zj (hj 3) (by decide +kernel)) (zj (hj 2) (by decide +kernel))
noncomputable def b_X8_pitchUmbrellas_2 : zBl := fun jp K => oAld 0 <| oGetR 8 8 <| oIld 3 <| oAld 0 <| oIld 3 <| oIld 2 <| oCv 8 2 f_X8_thingsSeenFrom <| oXast 10 zid <| oInc 3 2147483649 <| jp 1
theorem s_X8_pitchUmbrellas_2 (d : Nat) : zPb l G gh (d + 7) n_X8_pitchUmbrellas p_X8_pitchUmbrellas 23 b_X8_pitchUmbrellas_2 := fun K jp hj =>
    z_aload_n (n := 0) (i := 0) (zd (i := .aload_n 0) (n := 1) (by decide +kernel)) rfl <|
    z_getR (ci := 8) (j := 8) (idx := 55) (zd (i := .getfield 55) (n := 3) (by decide +kernel)) (by decide +kernel) (by decide +kernel) rfl g460 <|
    z_iload_n (n := 3) (i := 3) (zd (i := .iload_n 3) (n := 1) (by decide +kernel)) rfl <|
    z_aload_n (n := 0) (i := 0) (zd (i := .aload_n 0) (n := 1) (by decide +kernel)) rfl <|
    z_iload_n (n := 3) (i := 3) (zd (i := .iload_n 3) (n := 1) (by decide +kernel)) rfl <|
    z_iload_n (n := 2) (i := 2) (zd (i := .iload_n 2) (n := 1) (by decide +kernel)) rfl <|
    z_callV (idx := 146) (ci := 8) (N := n_X8_thingsSeenFrom) (zd (i := .invokevirtual 146) (n := 3) (by decide +kernel)) to_X8_thingsSeenFrom g775 g777 g24 (by decide +kernel) rfl rfl rfl (c_X8_thingsSeenFrom (l := l) (G := G) (gh := gh) (d)) <|
    z_iast (zd (i := .iastore) (n := 1) (by decide +kernel)) <|
    z_iinc (i := 3) (n := 1) (zd (i := .iinc 3 (1)) (n := 3) (by decide +kernel)) (by decide +kernel) (by decide +kernel) <|
    z_goto (off := -21) (tgt := 17) (zd (i := .goto (-21)) (n := 3) (by decide +kernel)) (by decide +kernel) (zj (hj 1) (by decide +kernel))
noncomputable def b_X8_pitchUmbrellas_3 : zBl := fun jp K => oInt 2147483648 <| oIst 3 <| jp 4
theorem s_X8_pitchUmbrellas_3 (d : Nat) : zPb l G gh (d + 7) n_X8_pitchUmbrellas p_X8_pitchUmbrellas 41 b_X8_pitchUmbrellas_3 := fun K jp hj =>
    z_iconst (n := 0) (zd (i := .iconst (0)) (n := 1) (by decide +kernel)) (by decide +kernel) <|
    z_istore_n (n := 3) (i := 3) (zd (i := .istore_n 3) (n := 1) (by decide +kernel)) rfl (by decide +kernel) <|
    (zj (hj 4) (by decide +kernel))
noncomputable def b_X8_pitchUmbrellas_4 : zBl := fun jp K => oNLL 3 1 zgeN zltN zn1_ge zn2_ge zn1_lt zn2_lt (jp 6) (jp 5)
theorem s_X8_pitchUmbrellas_4 (d : Nat) : zPb l G gh (d + 7) n_X8_pitchUmbrellas p_X8_pitchUmbrellas 43 b_X8_pitchUmbrellas_4 := fun K jp hj =>
    z_nLL_ge (i := 3) (j := 1) (a1 := 1) (a2 := 1) (off := 16) (tgt := 61) (zLd_n (n := 3) (i := 3) (zd (i := .iload_n 3) (n := 1) (by decide +kernel)) rfl) (zLd_n (n := 1) (i := 1) (zd (i := .iload_n 1) (n := 1) (by decide +kernel)) rfl) (zd (i := .if_icmp .ge (16)) (n := 3) (by decide +kernel)) (by decide +kernel) (zj (hj 6) (by decide +kernel)) (zj (hj 5) (by decide +kernel))
noncomputable def b_X8_pitchUmbrellas_5 : zBl := fun jp K => oAld 0 <| oGetR 8 10 <| oIld 3 <| oIld 3 <| oXast 10 zid <| oInc 3 2147483649 <| jp 4
theorem s_X8_pitchUmbrellas_5 (d : Nat) : zPb l G gh (d + 7) n_X8_pitchUmbrellas p_X8_pitchUmbrellas 48 b_X8_pitchUmbrellas_5 := fun K jp hj =>
    z_aload_n (n := 0) (i := 0) (zd (i := .aload_n 0) (n := 1) (by decide +kernel)) rfl <|
    z_getR (ci := 8) (j := 10) (idx := 62) (zd (i := .getfield 62) (n := 3) (by decide +kernel)) (by decide +kernel) (by decide +kernel) rfl g462 <|
    z_iload_n (n := 3) (i := 3) (zd (i := .iload_n 3) (n := 1) (by decide +kernel)) rfl <|
    z_iload_n (n := 3) (i := 3) (zd (i := .iload_n 3) (n := 1) (by decide +kernel)) rfl <|
    z_iast (zd (i := .iastore) (n := 1) (by decide +kernel)) <|
    z_iinc (i := 3) (n := 1) (zd (i := .iinc 3 (1)) (n := 3) (by decide +kernel)) (by decide +kernel) (by decide +kernel) <|
    z_goto (off := -15) (tgt := 43) (zd (i := .goto (-15)) (n := 3) (by decide +kernel)) (by decide +kernel) (zj (hj 4) (by decide +kernel))
noncomputable def b_X8_pitchUmbrellas_6 : zBl := fun jp K => oInt 2147483647 <| oIst 3 <| oInt 2147483649 <| oIst 4 <| oInt 2147483648 <| oIst 5 <| jp 7
theorem s_X8_pitchUmbrellas_6 (d : Nat) : zPb l G gh (d + 7) n_X8_pitchUmbrellas p_X8_pitchUmbrellas 61 b_X8_pitchUmbrellas_6 := fun K jp hj =>
    z_iconst (n := -1) (zd (i := .iconst (-1)) (n := 1) (by decide +kernel)) (by decide +kernel) <|
    z_istore_n (n := 3) (i := 3) (zd (i := .istore_n 3) (n := 1) (by decide +kernel)) rfl (by decide +kernel) <|
    z_iconst (n := 1) (zd (i := .iconst (1)) (n := 1) (by decide +kernel)) (by decide +kernel) <|
    z_istore (i := 4) (zd (i := .istore 4) (n := 2) (by decide +kernel)) (by decide +kernel) <|
    z_iconst (n := 0) (zd (i := .iconst (0)) (n := 1) (by decide +kernel)) (by decide +kernel) <|
    z_istore (i := 5) (zd (i := .istore 5) (n := 2) (by decide +kernel)) (by decide +kernel) <|
    (zj (hj 7) (by decide +kernel))
noncomputable def b_X8_pitchUmbrellas_7 : zBl := fun jp K => oNLC 5 2147484788 zgeN zltN zn1_ge zn1_lt (jp 15) (jp 8)
theorem s_X8_pitchUmbrellas_7 (d : Nat) : zPb l G gh (d + 7) n_X8_pitchUmbrellas p_X8_pitchUmbrellas 69 b_X8_pitchUmbrellas_7 := fun K jp hj =>
    z_nLC_ge (i := 5) (c0 := 2147484788) (a1 := 2) (a2 := 3) (off := 85) (tgt := 159) (zLd_w (i := 5) (zd (i := .iload 5) (n := 2) (by decide +kernel))) (zCn_s (n := 1140) (zd (i := .sipush (1140)) (n := 3) (by decide +kernel)) (by decide +kernel)) (zd (i := .if_icmp .ge (85)) (n := 3) (by decide +kernel)) (by decide +kernel) (zj (hj 15) (by decide +kernel)) (zj (hj 8) (by decide +kernel))
noncomputable def b_X8_pitchUmbrellas_8 : zBl := fun jp K => oNLC 4 2147483648 zeqN zneN zn1_eq zn1_ne (jp 15) (jp 9)
theorem s_X8_pitchUmbrellas_8 (d : Nat) : zPb l G gh (d + 7) n_X8_pitchUmbrellas p_X8_pitchUmbrellas 77 b_X8_pitchUmbrellas_8 := fun K jp hj =>
    z_nL0_eq (i := 4) (a1 := 2) (off := 80) (tgt := 159) (zLd_w (i := 4) (zd (i := .iload 4) (n := 2) (by decide +kernel))) (zd (i := .ifCond .eq (80)) (n := 3) (by decide +kernel)) (by decide +kernel) (zj (hj 15) (by decide +kernel)) (zj (hj 9) (by decide +kernel))
noncomputable def b_X8_pitchUmbrellas_9 : zBl := fun jp K => oInt 2147483648 <| oIst 6 <| oInt 2147483648 <| oIst 7 <| jp 10
theorem s_X8_pitchUmbrellas_9 (d : Nat) : zPb l G gh (d + 7) n_X8_pitchUmbrellas p_X8_pitchUmbrellas 82 b_X8_pitchUmbrellas_9 := fun K jp hj =>
    z_iconst (n := 0) (zd (i := .iconst (0)) (n := 1) (by decide +kernel)) (by decide +kernel) <|
    z_istore (i := 6) (zd (i := .istore 6) (n := 2) (by decide +kernel)) (by decide +kernel) <|
    z_iconst (n := 0) (zd (i := .iconst (0)) (n := 1) (by decide +kernel)) (by decide +kernel) <|
    z_istore (i := 7) (zd (i := .istore 7) (n := 2) (by decide +kernel)) (by decide +kernel) <|
    (zj (hj 10) (by decide +kernel))
noncomputable def b_X8_pitchUmbrellas_10 : zBl := fun jp K => oNLL 7 1 zgeN zltN zn1_ge zn2_ge zn1_lt zn2_lt (jp 12) (jp 11)
theorem s_X8_pitchUmbrellas_10 (d : Nat) : zPb l G gh (d + 7) n_X8_pitchUmbrellas p_X8_pitchUmbrellas 88 b_X8_pitchUmbrellas_10 := fun K jp hj =>
    z_nLL_ge (i := 7) (j := 1) (a1 := 2) (a2 := 1) (off := 26) (tgt := 117) (zLd_w (i := 7) (zd (i := .iload 7) (n := 2) (by decide +kernel))) (zLd_n (n := 1) (i := 1) (zd (i := .iload_n 1) (n := 1) (by decide +kernel)) rfl) (zd (i := .if_icmp .ge (26)) (n := 3) (by decide +kernel)) (by decide +kernel) (zj (hj 12) (by decide +kernel)) (zj (hj 11) (by decide +kernel))
noncomputable def b_X8_pitchUmbrellas_11 : zBl := fun jp K => oIld 6 <| oAld 0 <| oGetR 8 8 <| oAld 0 <| oGetR 8 10 <| oIld 7 <| oXald 10 <| oXald 10 <| oB2 zior <| oIst 6 <| oInc 7 2147483649 <| jp 10
theorem s_X8_pitchUmbrellas_11 (d : Nat) : zPb l G gh (d + 7) n_X8_pitchUmbrellas p_X8_pitchUmbrellas 94 b_X8_pitchUmbrellas_11 := fun K jp hj =>
    z_iload (i := 6) (zd (i := .iload 6) (n := 2) (by decide +kernel)) <|
    z_aload_n (n := 0) (i := 0) (zd (i := .aload_n 0) (n := 1) (by decide +kernel)) rfl <|
    z_getR (ci := 8) (j := 8) (idx := 55) (zd (i := .getfield 55) (n := 3) (by decide +kernel)) (by decide +kernel) (by decide +kernel) rfl g460 <|
    z_aload_n (n := 0) (i := 0) (zd (i := .aload_n 0) (n := 1) (by decide +kernel)) rfl <|
    z_getR (ci := 8) (j := 10) (idx := 62) (zd (i := .getfield 62) (n := 3) (by decide +kernel)) (by decide +kernel) (by decide +kernel) rfl g462 <|
    z_iload (i := 7) (zd (i := .iload 7) (n := 2) (by decide +kernel)) <|
    z_iald (zd (i := .iaload) (n := 1) (by decide +kernel)) <|
    z_iald (zd (i := .iaload) (n := 1) (by decide +kernel)) <|
    z_ior (zd (i := .ior) (n := 1) (by decide +kernel)) <|
    z_istore (i := 6) (zd (i := .istore 6) (n := 2) (by decide +kernel)) (by decide +kernel) <|
    z_iinc (i := 7) (n := 1) (zd (i := .iinc 7 (1)) (n := 3) (by decide +kernel)) (by decide +kernel) (by decide +kernel) <|
    z_goto (off := -26) (tgt := 88) (zd (i := .goto (-26)) (n := 3) (by decide +kernel)) (by decide +kernel) (zj (hj 10) (by decide +kernel))
noncomputable def b_X8_pitchUmbrellas_12 : zBl := fun jp K => oIld 6 <| oCs 1 f_J6_bitCount_0f7a4 <| oIld 3 <| oIc zle zgt (jp 14) (jp 13)
theorem s_X8_pitchUmbrellas_12 (d : Nat) : zPb l G gh (d + 7) n_X8_pitchUmbrellas p_X8_pitchUmbrellas 117 b_X8_pitchUmbrellas_12 := fun K jp hj =>
    z_iload (i := 6) (zd (i := .iload 6) (n := 2) (by decide +kernel)) <|
    z_callS (idx := 264) (N := n_J6_bitCount_0f7a4) (zd (i := .invokestatic 264) (n := 3) (by decide +kernel)) to_J6_bitCount_0f7a4 g970 g971 rfl rfl (c_J6_bitCount_0f7a4 (l := l) (G := G) (gh := gh) (d + 5)) <|
    z_iload_n (n := 3) (i := 3) (zd (i := .iload_n 3) (n := 1) (by decide +kernel)) rfl <|
    z_icmp_le (off := 23) (tgt := 146) (zd (i := .if_icmp .le (23)) (n := 3) (by decide +kernel)) (by decide +kernel) (zj (hj 14) (by decide +kernel)) (zj (hj 13) (by decide +kernel))
noncomputable def b_X8_pitchUmbrellas_13 : zBl := fun jp K => oIld 6 <| oCs 1 f_J6_bitCount_0f7a4 <| oIst 3 <| oAld 0 <| oGetR 8 10 <| oInt 2147483648 <| oAld 0 <| oGetR 8 11 <| oInt 2147483648 <| oIld 1 <| oCopy <| jp 14
theorem s_X8_pitchUmbrellas_13 (d : Nat) : zPb l G gh (d + 7) n_X8_pitchUmbrellas p_X8_pitchUmbrellas 126 b_X8_pitchUmbrellas_13 := fun K jp hj =>
    z_iload (i := 6) (zd (i := .iload 6) (n := 2) (by decide +kernel)) <|
    z_callS (idx := 264) (N := n_J6_bitCount_0f7a4) (zd (i := .invokestatic 264) (n := 3) (by decide +kernel)) to_J6_bitCount_0f7a4 g970 g971 rfl rfl (c_J6_bitCount_0f7a4 (l := l) (G := G) (gh := gh) (d + 5)) <|
    z_istore_n (n := 3) (i := 3) (zd (i := .istore_n 3) (n := 1) (by decide +kernel)) rfl (by decide +kernel) <|
    z_aload_n (n := 0) (i := 0) (zd (i := .aload_n 0) (n := 1) (by decide +kernel)) rfl <|
    z_getR (ci := 8) (j := 10) (idx := 62) (zd (i := .getfield 62) (n := 3) (by decide +kernel)) (by decide +kernel) (by decide +kernel) rfl g462 <|
    z_iconst (n := 0) (zd (i := .iconst (0)) (n := 1) (by decide +kernel)) (by decide +kernel) <|
    z_aload_n (n := 0) (i := 0) (zd (i := .aload_n 0) (n := 1) (by decide +kernel)) rfl <|
    z_getR (ci := 8) (j := 11) (idx := 65) (zd (i := .getfield 65) (n := 3) (by decide +kernel)) (by decide +kernel) (by decide +kernel) rfl g463 <|
    z_iconst (n := 0) (zd (i := .iconst (0)) (n := 1) (by decide +kernel)) (by decide +kernel) <|
    z_iload_n (n := 1) (i := 1) (zd (i := .iload_n 1) (n := 1) (by decide +kernel)) rfl <|
    z_copy (idx := 269) (zd (i := .invokestatic 269) (n := 3) (by decide +kernel)) g976 g846 g845 g113 <|
    (zj (hj 14) (by decide +kernel))
noncomputable def b_X8_pitchUmbrellas_14 : zBl := fun jp K => oAld 0 <| oIld 1 <| oCv 8 1 gs_X8_nextPitch <| oIst 4 <| oInc 5 2147483649 <| jp 7
theorem s_X8_pitchUmbrellas_14 (d : Nat) : zPb l G gh (d + 7) n_X8_pitchUmbrellas p_X8_pitchUmbrellas 146 b_X8_pitchUmbrellas_14 := fun K jp hj =>
    z_aload_n (n := 0) (i := 0) (zd (i := .aload_n 0) (n := 1) (by decide +kernel)) rfl <|
    z_iload_n (n := 1) (i := 1) (zd (i := .iload_n 1) (n := 1) (by decide +kernel)) rfl <|
    z_callV (idx := 275) (ci := 8) (N := n_X8_nextPitch) (zd (i := .invokevirtual 275) (n := 3) (by decide +kernel)) to_X8_nextPitch g977 g979 g34 (by decide +kernel) rfl rfl rfl (cs_X8_nextPitch (l := l) (G := G) (gh := gh) (d + 5)) <|
    z_istore (i := 4) (zd (i := .istore 4) (n := 2) (by decide +kernel)) (by decide +kernel) <|
    z_iinc (i := 5) (n := 1) (zd (i := .iinc 5 (1)) (n := 3) (by decide +kernel)) (by decide +kernel) (by decide +kernel) <|
    z_goto (off := -87) (tgt := 69) (zd (i := .goto (-87)) (n := 3) (by decide +kernel)) (by decide +kernel) (zj (hj 7) (by decide +kernel))
noncomputable def b_X8_pitchUmbrellas_15 : zBl := fun jp K => oIld 3 <| oIret K
theorem s_X8_pitchUmbrellas_15 (d : Nat) : zPb l G gh (d + 7) n_X8_pitchUmbrellas p_X8_pitchUmbrellas 159 b_X8_pitchUmbrellas_15 := fun K jp hj =>
    z_iload_n (n := 3) (i := 3) (zd (i := .iload_n 3) (n := 1) (by decide +kernel)) rfl <|
    z_iret (zd (i := .ireturn) (n := 1) (by decide +kernel)) rfl
noncomputable def t_X8_pitchUmbrellas : List zBl := [b_X8_pitchUmbrellas_0, b_X8_pitchUmbrellas_1, b_X8_pitchUmbrellas_2, b_X8_pitchUmbrellas_3, b_X8_pitchUmbrellas_4, b_X8_pitchUmbrellas_5, b_X8_pitchUmbrellas_6, b_X8_pitchUmbrellas_7, b_X8_pitchUmbrellas_8, b_X8_pitchUmbrellas_9, b_X8_pitchUmbrellas_10, b_X8_pitchUmbrellas_11, b_X8_pitchUmbrellas_12, b_X8_pitchUmbrellas_13, b_X8_pitchUmbrellas_14, b_X8_pitchUmbrellas_15]
theorem tt_X8_pitchUmbrellas (d : Nat) : zT (zPb l G gh (d + 7) n_X8_pitchUmbrellas p_X8_pitchUmbrellas) t_X8_pitchUmbrellas p_X8_pitchUmbrellas := ⟨s_X8_pitchUmbrellas_0 d, s_X8_pitchUmbrellas_1 d, s_X8_pitchUmbrellas_2 d, s_X8_pitchUmbrellas_3 d, s_X8_pitchUmbrellas_4 d, s_X8_pitchUmbrellas_5 d, s_X8_pitchUmbrellas_6 d, s_X8_pitchUmbrellas_7 d, s_X8_pitchUmbrellas_8 d, s_X8_pitchUmbrellas_9 d, s_X8_pitchUmbrellas_10 d, s_X8_pitchUmbrellas_11 d, s_X8_pitchUmbrellas_12 d, s_X8_pitchUmbrellas_13 d, s_X8_pitchUmbrellas_14 d, s_X8_pitchUmbrellas_15 d, trivial⟩
end
