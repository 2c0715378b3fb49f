section
variable {l : Launch} {G : qG} {gh : zGh}
def p_X8_call : List Nat := [0, 9, 11, 33, 50, 59, 62]
noncomputable def b_X8_call_0 : zBl := fun jp K => oAld 0 <| oIld 1 <| oIld 2 <| oCv 8 2 f_X8_isPair <| oIf zne zeq (jp 2) (jp 1)
theorem s_X8_call_0 (d : Nat) : zPb l G gh (d + 6) n_X8_call p_X8_call 0 b_X8_call_0 := fun K jp hj =>
    z_aload_n (n := 0) (i := 0) (zd (i := .aload_n 0) (n := 1) (by decide +kernel)) rfl <|
    z_iload_n (n := 1) (i := 1) (zd (i := .iload_n 1) (n := 1) (by decide +kernel)) rfl <|
    z_iload_n (n := 2) (i := 2) (zd (i := .iload_n 2) (n := 1) (by decide +kernel)) rfl <|
    z_callV (idx := 162) (ci := 8) (N := n_X8_isPair) (zd (i := .invokevirtual 162) (n := 3) (by decide +kernel)) to_X8_isPair g797 g799 g26 (by decide +kernel) rfl rfl rfl (c_X8_isPair (l := l) (G := G) (gh := gh) (d + 3)) <|
    z_if_ne (off := 5) (tgt := 11) (zd (i := .ifCond .ne (5)) (n := 3) (by decide +kernel)) (by decide +kernel) (zj (hj 2) (by decide +kernel)) (zj (hj 1) (by decide +kernel))
noncomputable def b_X8_call_1 : zBl := fun jp K => oInt 2147483647 <| oIret K
theorem s_X8_call_1 (d : Nat) : zPb l G gh (d + 6) n_X8_call p_X8_call 9 b_X8_call_1 := fun K jp hj =>
    z_iconst (n := -1) (zd (i := .iconst (-1)) (n := 1) (by decide +kernel)) (by decide +kernel) <|
    z_iret (zd (i := .ireturn) (n := 1) (by decide +kernel)) rfl
noncomputable def b_X8_call_2 : zBl := fun jp K => oIld 1 <| oIld 2 <| oCs 2 f_X8_loanOf <| oIst 3 <| oAld 0 <| oGetR 8 2 <| oGetR 4 5 <| oIld 3 <| oXald 10 <| oIst 4 <| oNLC 4 2147483648 zeqN zneN zn1_eq zn1_ne (jp 5) (jp 3)
theorem s_X8_call_2 (d : Nat) : zPb l G gh (d + 6) n_X8_call p_X8_call 11 b_X8_call_2 := fun K jp hj =>
    z_iload_n (n := 1) (i := 1) (zd (i := .iload_n 1) (n := 1) (by decide +kernel)) rfl <|
    z_iload_n (n := 2) (i := 2) (zd (i := .iload_n 2) (n := 1) (by decide +kernel)) rfl <|
    z_callS (idx := 166) (N := n_X8_loanOf) (zd (i := .invokestatic 166) (n := 3) (by decide +kernel)) to_X8_loanOf g764 g765 rfl rfl (c_X8_loanOf (l := l) (G := G) (gh := gh) (d + 4)) <|
    z_istore_n (n := 3) (i := 3) (zd (i := .istore_n 3) (n := 1) (by decide +kernel)) rfl (by decide +kernel) <|
    z_aload_n (n := 0) (i := 0) (zd (i := .aload_n 0) (n := 1) (by decide +kernel)) rfl <|
    z_getR (ci := 8) (j := 2) (idx := 26) (zd (i := .getfield 26) (n := 3) (by decide +kernel)) (by decide +kernel) (by decide +kernel) rfl g454 <|
    z_getR (ci := 4) (j := 5) (idx := 169) (zd (i := .getfield 169) (n := 3) (by decide +kernel)) (by decide +kernel) (by decide +kernel) rfl g383 <|
    z_iload_n (n := 3) (i := 3) (zd (i := .iload_n 3) (n := 1) (by decide +kernel)) rfl <|
    z_iald (zd (i := .iaload) (n := 1) (by decide +kernel)) <|
    z_istore (i := 4) (zd (i := .istore 4) (n := 2) (by decide +kernel)) (by decide +kernel) <|
    z_nL0_eq (i := 4) (a1 := 2) (off := 29) (tgt := 59) (zLd_w (i := 4) (zd (i := .iload 4) (n := 2) (by decide +kernel))) (zd (i := .ifCond .eq (29)) (n := 3) (by decide +kernel)) (by decide +kernel) (zj (hj 5) (by decide +kernel)) (zj (hj 3) (by decide +kernel))
noncomputable def b_X8_call_3 : zBl := fun jp K => oAld 0 <| oGetR 8 2 <| oGetR 4 2 <| oIld 1 <| oXald 10 <| oIld 4 <| oB2 zadd <| oInt 2147583647 <| oIc zgt zle (jp 5) (jp 4)
theorem s_X8_call_3 (d : Nat) : zPb l G gh (d + 6) n_X8_call p_X8_call 33 b_X8_call_3 := fun K jp hj =>
    z_aload_n (n := 0) (i := 0) (zd (i := .aload_n 0) (n := 1) (by decide +kernel)) rfl <|
    z_getR (ci := 8) (j := 2) (idx := 26) (zd (i := .getfield 26) (n := 3) (by decide +kernel)) (by decide +kernel) (by decide +kernel) rfl g454 <|
    z_getR (ci := 4) (j := 2) (idx := 137) (zd (i := .getfield 137) (n := 3) (by decide +kernel)) (by decide +kernel) (by decide +kernel) rfl g374 <|
    z_iload_n (n := 1) (i := 1) (zd (i := .iload_n 1) (n := 1) (by decide +kernel)) rfl <|
    z_iald (zd (i := .iaload) (n := 1) (by decide +kernel)) <|
    z_iload (i := 4) (zd (i := .iload 4) (n := 2) (by decide +kernel)) <|
    z_iadd (zd (i := .iadd) (n := 1) (by decide +kernel)) <|
    z_ldc (n := 203) (zd (i := .ldc 203) (n := 2) (by decide +kernel)) g852 (by decide +kernel) <|
    z_icmp_gt (off := 12) (tgt := 59) (zd (i := .if_icmp .gt (12)) (n := 3) (by decide +kernel)) (by decide +kernel) (zj (hj 5) (by decide +kernel)) (zj (hj 4) (by decide +kernel))
noncomputable def b_X8_call_4 : zBl := fun jp K => oAld 0 <| oIld 1 <| oIld 2 <| oCv 8 2 gs_X8_seesNow <| oIf zne zeq (jp 6) (jp 5)
theorem s_X8_call_4 (d : Nat) : zPb l G gh (d + 6) n_X8_call p_X8_call 50 b_X8_call_4 := fun K jp hj =>
    z_aload_n (n := 0) (i := 0) (zd (i := .aload_n 0) (n := 1) (by decide +kernel)) rfl <|
    z_iload_n (n := 1) (i := 1) (zd (i := .iload_n 1) (n := 1) (by decide +kernel)) rfl <|
    z_iload_n (n := 2) (i := 2) (zd (i := .iload_n 2) (n := 1) (by decide +kernel)) rfl <|
    z_callV (idx := 196) (ci := 8) (N := n_X8_seesNow) (zd (i := .invokevirtual 196) (n := 3) (by decide +kernel)) to_X8_seesNow g832 g834 g27 (by decide +kernel) rfl rfl rfl (cs_X8_seesNow (l := l) (G := G) (gh := gh) (d)) <|
    z_if_ne (off := 6) (tgt := 62) (zd (i := .ifCond .ne (6)) (n := 3) (by decide +kernel)) (by decide +kernel) (zj (hj 6) (by decide +kernel)) (zj (hj 5) (by decide +kernel))
noncomputable def b_X8_call_5 : zBl := fun jp K => oInt 2147483646 <| oIret K
theorem s_X8_call_5 (d : Nat) : zPb l G gh (d + 6) n_X8_call p_X8_call 59 b_X8_call_5 := fun K jp hj =>
    z_bipush (n := -2) (zd (i := .bipush (-2)) (n := 2) (by decide +kernel)) (by decide +kernel) <|
    z_iret (zd (i := .ireturn) (n := 1) (by decide +kernel)) rfl
noncomputable def b_X8_call_6 : zBl := fun jp K => oAld 0 <| oGetR 8 4 <| oAld 0 <| oGetR 8 2 <| oCv 3 1 gs_X3_push <| oAld 0 <| oGetR 8 2 <| oGetR 4 2 <| oIld 1 <| oDup2 <| oXald 10 <| oIld 4 <| oB2 zadd <| oXast 10 zid <| oAld 0 <| oGetR 8 2 <| oIld 3 <| oCv 4 1 f_X4_end <| oIld 4 <| oIret K
theorem s_X8_call_6 (d : Nat) : zPb l G gh (d + 6) n_X8_call p_X8_call 62 b_X8_call_6 := fun K jp hj =>
    z_aload_n (n := 0) (i := 0) (zd (i := .aload_n 0) (n := 1) (by decide +kernel)) rfl <|
    z_getR (ci := 8) (j := 4) (idx := 36) (zd (i := .getfield 36) (n := 3) (by decide +kernel)) (by decide +kernel) (by decide +kernel) rfl g456 <|
    z_aload_n (n := 0) (i := 0) (zd (i := .aload_n 0) (n := 1) (by decide +kernel)) rfl <|
    z_getR (ci := 8) (j := 2) (idx := 26) (zd (i := .getfield 26) (n := 3) (by decide +kernel)) (by decide +kernel) (by decide +kernel) rfl g454 <|
    z_callV (idx := 199) (ci := 3) (N := n_X3_push) (zd (i := .invokevirtual 199) (n := 3) (by decide +kernel)) to_X3_push g836 g837 g838 (by decide +kernel) rfl rfl rfl (cs_X3_push (l := l) (G := G) (gh := gh) (d + 3)) <|
    z_aload_n (n := 0) (i := 0) (zd (i := .aload_n 0) (n := 1) (by decide +kernel)) rfl <|
    z_getR (ci := 8) (j := 2) (idx := 26) (zd (i := .getfield 26) (n := 3) (by decide +kernel)) (by decide +kernel) (by decide +kernel) rfl g454 <|
    z_getR (ci := 4) (j := 2) (idx := 137) (zd (i := .getfield 137) (n := 3) (by decide +kernel)) (by decide +kernel) (by decide +kernel) rfl g374 <|
    z_iload_n (n := 1) (i := 1) (zd (i := .iload_n 1) (n := 1) (by decide +kernel)) rfl <|
    z_dup2 (zd (i := .dup2) (n := 1) (by decide +kernel)) <|
    z_iald (zd (i := .iaload) (n := 1) (by decide +kernel)) <|
    z_iload (i := 4) (zd (i := .iload 4) (n := 2) (by decide +kernel)) <|
    z_iadd (zd (i := .iadd) (n := 1) (by decide +kernel)) <|
    z_iast (zd (i := .iastore) (n := 1) (by decide +kernel)) <|
    z_aload_n (n := 0) (i := 0) (zd (i := .aload_n 0) (n := 1) (by decide +kernel)) rfl <|
    z_getR (ci := 8) (j := 2) (idx := 26) (zd (i := .getfield 26) (n := 3) (by decide +kernel)) (by decide +kernel) (by decide +kernel) rfl g454 <|
    z_iload_n (n := 3) (i := 3) (zd (i := .iload_n 3) (n := 1) (by decide +kernel)) rfl <|
    z_callV (idx := 204) (ci := 4) (N := n_X4_end) (zd (i := .invokevirtual 204) (n := 3) (by decide +kernel)) to_X4_end g853 g693 g694 (by decide +kernel) rfl rfl rfl (c_X4_end (l := l) (G := G) (gh := gh) (d + 4)) <|
    z_iload (i := 4) (zd (i := .iload 4) (n := 2) (by decide +kernel)) <|
    z_iret (zd (i := .ireturn) (n := 1) (by decide +kernel)) rfl
noncomputable def t_X8_call : List zBl := [b_X8_call_0, b_X8_call_1, b_X8_call_2, b_X8_call_3, b_X8_call_4, b_X8_call_5, b_X8_call_6]
theorem tt_X8_call (d : Nat) : zT (zPb l G gh (d + 6) n_X8_call p_X8_call) t_X8_call p_X8_call := ⟨s_X8_call_0 d, s_X8_call_1 d, s_X8_call_2 d, s_X8_call_3 d, s_X8_call_4 d, s_X8_call_5 d, s_X8_call_6 d, trivial⟩
def q_X8_call_0 : List (Nat × Nat) := [(0, zk0), (21, zk10), (22, zk12), (23, zk12), (24, zk12), (25, zk12), (26, zk11), (27, zk11), (35, zk23), (36, zk24), (37, zk25), (38, zk12), (39, zk12), (40, zk12), (41, zk12), (42, zk11), (43, zk11), (44, zk26), (45, zk12), (46, zk12), (47, zk12), (48, zk12), (49, zk11), (50, zk11), (51, zk27), (52, zk12), (53, zk12), (54, zk12), (55, zk12), (56, zk11), (57, zk11), (58, zk28), (59, zk12), (60, zk12), (61, zk12), (62, zk12), (63, zk11), (64, zk11), (65, zk29), (66, zk12), (67, zk12), (68, zk12), (69, zk12), (70, zk11), (71, zk11), (72, zk30), (73, zk12), (74, zk12), (75, zk12), (76, zk12), (77, zk11), (78, zk11), (79, zk31), (80, zk12), (81, zk12), (82, zk12), (83, zk12), (84, zk11), (85, zk11), (86, zk32), (87, zk12), (88, zk12), (89, zk12), (90, zk12), (91, zk11), (92, zk11), (93, zk33), (94, zk12), (95, zk12), (96, zk12), (97, zk12), (98, zk11), (99, zk11), (100, zk34), (101, zk12), (102, zk12), (103, zk12), (104, zk12), (105, zk11), (106, zk11), (107, zk35), (108, zk12), (109, zk12), (110, zk12), (111, zk12), (112, zk11), (113, zk11), (114, zk36), (115, zk12), (116, zk12), (117, zk12), (118, zk12), (119, zk11), (120, zk11), (121, zk37), (122, zk12), (123, zk12), (124, zk12), (125, zk12), (126, zk11), (127, zk11), (128, zk38), (129, zk12), (130, zk12), (131, zk12), (132, zk12), (133, zk11), (134, zk11), (135, zk39), (136, zk12), (137, zk12), (138, zk12), (139, zk12), (140, zk11), (141, zk11), (142, zk40), (143, zk12), (144, zk12), (145, zk12), (146, zk12), (147, zk11), (148, zk11), (149, zk41), (150, zk12), (151, zk12), (152, zk12), (153, zk12), (154, zk11), (155, zk11), (156, zk42), (157, zk12), (158, zk12), (159, zk12), (160, zk12), (161, zk11), (162, zk11), (163, zk43), (164, zk12), (165, zk12), (166, zk12), (167, zk12), (168, zk11), (169, zk11), (170, zk44), (171, zk12), (172, zk12), (173, zk12), (174, zk12), (175, zk11), (176, zk11), (177, zk45), (178, zk12), (179, zk12), (180, zk12), (181, zk12), (182, zk11), (183, zk11), (184, zk46), (185, zk12), (186, zk12), (187, zk12), (188, zk12), (189, zk11), (190, zk11), (191, zk47), (192, zk12), (193, zk12), (194, zk12), (195, zk12), (196, zk11), (197, zk11), (198, zk48), (199, zk12), (200, zk12), (201, zk12), (202, zk12), (203, zk11), (204, zk11), (205, zk49), (206, zk12), (207, zk12), (208, zk12), (209, zk12), (210, zk11), (211, zk11), (212, zk50), (213, zk12), (214, zk12), (215, zk12), (216, zk12), (217, zk11), (218, zk11), (219, zk51), (220, zk12), (221, zk12), (222, zk12), (223, zk12), (224, zk11), (225, zk11), (226, zk52), (227, zk12), (228, zk12), (229, zk12), (230, zk12), (231, zk11), (232, zk11), (233, zk53), (234, zk12), (235, zk12), (236, zk12), (237, zk12), (238, zk11), (239, zk11), (240, zk54), (241, zk12), (242, zk12), (243, zk12), (244, zk12), (245, zk11), (246, zk11), (259, zk20), (261, zk12), (262, zk12), (265, zk2), (266, zk18), (267, zk18), (268, zk19), (269, zk3), (270, zk7)]
noncomputable def al_X8_call_0 : zAq := [(some (.inl 8589934591), [(0, zk0), (21, zk10), (22, zk12), (23, zk57), (24, zk12), (25, zk12), (26, zk58), (27, zk58), (35, zk55), (36, zk24), (37, zk56), (38, zk57), (39, zk57), (40, zk57), (41, zk57), (42, zk58), (43, zk58), (44, zk59), (45, zk57), (46, zk57), (47, zk57), (48, zk57), (49, zk58), (50, zk58), (51, zk60), (52, zk57), (53, zk57), (54, zk57), (55, zk57), (56, zk58), (57, zk58), (58, zk61), (59, zk57), (60, zk57), (61, zk57), (62, zk57), (63, zk58), (64, zk58), (65, zk62), (66, zk57), (67, zk57), (68, zk57), (69, zk57), (70, zk58), (71, zk58), (72, zk63), (73, zk57), (74, zk57), (75, zk57), (76, zk57), (77, zk58), (78, zk58), (79, zk64), (80, zk57), (81, zk57), (82, zk57), (83, zk57), (84, zk58), (85, zk58), (86, zk65), (87, zk57), (88, zk57), (89, zk57), (90, zk57), (91, zk58), (92, zk58), (93, zk66), (94, zk57), (95, zk57), (96, zk57), (97, zk57), (98, zk58), (99, zk58), (100, zk67), (101, zk57), (102, zk57), (103, zk57), (104, zk57), (105, zk58), (106, zk58), (107, zk68), (108, zk57), (109, zk57), (110, zk57), (111, zk57), (112, zk58), (113, zk58), (114, zk69), (115, zk57), (116, zk57), (117, zk57), (118, zk57), (119, zk58), (120, zk58), (121, zk70), (122, zk57), (123, zk57), (124, zk57), (125, zk57), (126, zk58), (127, zk58), (128, zk71), (129, zk57), (130, zk57), (131, zk57), (132, zk57), (133, zk58), (134, zk58), (135, zk72), (136, zk57), (137, zk57), (138, zk57), (139, zk57), (140, zk58), (141, zk58), (142, zk73), (143, zk57), (144, zk57), (145, zk57), (146, zk57), (147, zk58), (148, zk58), (149, zk74), (150, zk57), (151, zk57), (152, zk57), (153, zk57), (154, zk58), (155, zk58), (156, zk75), (157, zk57), (158, zk57), (159, zk57), (160, zk57), (161, zk58), (162, zk58), (163, zk76), (164, zk57), (165, zk57), (166, zk57), (167, zk57), (168, zk58), (169, zk58), (170, zk77), (171, zk57), (172, zk57), (173, zk57), (174, zk57), (175, zk58), (176, zk58), (177, zk78), (178, zk57), (179, zk57), (180, zk57), (181, zk57), (182, zk58), (183, zk58), (184, zk79), (185, zk57), (186, zk57), (187, zk57), (188, zk57), (189, zk58), (190, zk58), (191, zk80), (192, zk57), (193, zk57), (194, zk57), (195, zk57), (196, zk58), (197, zk58), (198, zk81), (199, zk57), (200, zk57), (201, zk57), (202, zk57), (203, zk58), (204, zk58), (205, zk82), (206, zk57), (207, zk57), (208, zk57), (209, zk57), (210, zk58), (211, zk58), (212, zk83), (213, zk57), (214, zk57), (215, zk57), (216, zk57), (217, zk58), (218, zk58), (219, zk84), (220, zk57), (221, zk57), (222, zk57), (223, zk57), (224, zk58), (225, zk58), (226, zk85), (227, zk57), (228, zk57), (229, zk57), (230, zk57), (231, zk58), (232, zk58), (233, zk86), (234, zk57), (235, zk57), (236, zk57), (237, zk57), (238, zk58), (239, zk58), (240, zk87), (241, zk57), (242, zk57), (243, zk57), (244, zk57), (245, zk58), (246, zk58), (259, zk20), (261, zk12), (262, zk12), (265, zk2), (266, zk18), (267, zk18), (268, zk19), (269, zk4), (270, zk9)])]
noncomputable def fm_X8_call_0 : List zFm := [(0, [], (fun vs => [.inr (.ref 0), .inl 9223372043297226757, .inl 9223372043297226757]), (fun vs => zP q_X8_call_0), (fun vs => Nat.sub (Nat.add 0 0) 0))]
def bf_X8_call_0 : List Nat := []
theorem r_X8_call_0_0 : zbox [] (fun vs => zFrun (zpost (zAlq al_X8_call_0)) 1000 t_X8_call fm_X8_call_0 bf_X8_call_0 (0, vs)) = true := by decide +kernel
set_option maxRecDepth 100000 in
theorem x_X8_call_0 (d : Nat) : zS l G gh (d + 6) (zpost (zAlq al_X8_call_0)) n_X8_call (zn 0 p_X8_call 0) (zwc (0, [.inr (.ref 0), .inl 9223372043297226757, .inl 9223372043297226757], zP q_X8_call_0) 0) := zentry (tt_X8_call d) fm_X8_call_0 bf_X8_call_0 1000 (by decide +kernel) rfl ⟨Nat.zero_lt_succ _, trivial⟩ (fun f hf => match f, hf with
  | 0, _ => fun vs hv => (zbox_t r_X8_call_0_0) vs hv
  | f + 1, h => absurd (show f + 1 < 1 from h) (Nat.not_lt.mpr (Nat.le_add_left 1 f)))
noncomputable def gs_X8_call_0 : zMt := zgq false [] 5 [.inr (.ref 0), .inl 9223372043297226757, .inl 9223372043297226757] q_X8_call_0 al_X8_call_0
set_option maxRecDepth 100000 in
theorem cs_X8_call_0 (d : Nat) : zC l G gh (d + 6) n_X8_call gs_X8_call_0 := zgq_ok0 (pcs := p_X8_call) (by decide) rfl rfl (fun a ha => by simp only [al_X8_call_0, List.mem_cons, List.not_mem_nil, or_false] at ha; rcases ha with rfl <;> decide +kernel) (fun gh => x_X8_call_0 d) (by decide +kernel)
def q_X8_call_1 : List (Nat × Nat) := [(0, zk0), (259, zk20)]
noncomputable def al_X8_call_1 : zAq := [(some (.inl 2147483647), [(0, zk0), (259, zk20)])]
noncomputable def fm_X8_call_1 : List zFm := [(0, [], (fun vs => [.inr (.ref 0), .inl 9223372043297226757, .inl 6442450943]), (fun vs => zP q_X8_call_1), (fun vs => Nat.sub (Nat.add 0 0) 0))]
def bf_X8_call_1 : List Nat := []
theorem r_X8_call_1_0 : zbox [] (fun vs => zFrun (zpost (zAlq al_X8_call_1)) 1000 t_X8_call fm_X8_call_1 bf_X8_call_1 (0, vs)) = true := by decide +kernel
set_option maxRecDepth 100000 in
theorem x_X8_call_1 (d : Nat) : zS l G gh (d + 6) (zpost (zAlq al_X8_call_1)) n_X8_call (zn 0 p_X8_call 0) (zwc (0, [.inr (.ref 0), .inl 9223372043297226757, .inl 6442450943], zP q_X8_call_1) 0) := zentry (tt_X8_call d) fm_X8_call_1 bf_X8_call_1 1000 (by decide +kernel) rfl ⟨Nat.zero_lt_succ _, trivial⟩ (fun f hf => match f, hf with
  | 0, _ => fun vs hv => (zbox_t r_X8_call_1_0) vs hv
  | f + 1, h => absurd (show f + 1 < 1 from h) (Nat.not_lt.mpr (Nat.le_add_left 1 f)))
noncomputable def gs_X8_call_1 : zMt := zgq false [] 5 [.inr (.ref 0), .inl 9223372043297226757, .inl 6442450943] q_X8_call_1 al_X8_call_1
set_option maxRecDepth 100000 in
theorem cs_X8_call_1 (d : Nat) : zC l G gh (d + 6) n_X8_call gs_X8_call_1 := zgq_ok0 (pcs := p_X8_call) (by decide) rfl rfl (fun a ha => by simp only [al_X8_call_1, List.mem_cons, List.not_mem_nil, or_false] at ha; rcases ha with rfl <;> decide +kernel) (fun gh => x_X8_call_1 d) (by decide +kernel)
def q_X8_call_2 : List (Nat × Nat) := [(0, zk0), (259, zk20)]
noncomputable def al_X8_call_2 : zAq := [(some (.inl 2147483647), [(0, zk0), (259, zk20)])]
noncomputable def fm_X8_call_2 : List zFm := [(0, [], (fun vs => [.inr (.ref 0), .inl 9223372043297226757, .inl 9223372071214514175]), (fun vs => zP q_X8_call_2), (fun vs => Nat.sub (Nat.add 0 0) 0))]
def bf_X8_call_2 : List Nat := []
theorem r_X8_call_2_0 : zbox [] (fun vs => zFrun (zpost (zAlq al_X8_call_2)) 1000 t_X8_call fm_X8_call_2 bf_X8_call_2 (0, vs)) = true := by decide +kernel
set_option maxRecDepth 100000 in
theorem x_X8_call_2 (d : Nat) : zS l G gh (d + 6) (zpost (zAlq al_X8_call_2)) n_X8_call (zn 0 p_X8_call 0) (zwc (0, [.inr (.ref 0), .inl 9223372043297226757, .inl 9223372071214514175], zP q_X8_call_2) 0) := zentry (tt_X8_call d) fm_X8_call_2 bf_X8_call_2 1000 (by decide +kernel) rfl ⟨Nat.zero_lt_succ _, trivial⟩ (fun f hf => match f, hf with
  | 0, _ => fun vs hv => (zbox_t r_X8_call_2_0) vs hv
  | f + 1, h => absurd (show f + 1 < 1 from h) (Nat.not_lt.mpr (Nat.le_add_left 1 f)))
noncomputable def gs_X8_call_2 : zMt := zgq false [] 5 [.inr (.ref 0), .inl 9223372043297226757, .inl 9223372071214514175] q_X8_call_2 al_X8_call_2
set_option maxRecDepth 100000 in
theorem cs_X8_call_2 (d : Nat) : zC l G gh (d + 6) n_X8_call gs_X8_call_2 := zgq_ok0 (pcs := p_X8_call) (by decide) rfl rfl (fun a ha => by simp only [al_X8_call_2, List.mem_cons, List.not_mem_nil, or_false] at ha; rcases ha with rfl <;> decide +kernel) (fun gh => x_X8_call_2 d) (by decide +kernel)
def q_X8_call_3 : List (Nat × Nat) := [(0, zk0)]
noncomputable def al_X8_call_3 : zAq := [(some (.inl 2147483647), [(0, zk0)])]
noncomputable def fm_X8_call_3 : List zFm := [(0, [], (fun vs => [.inr (.ref 0), .inl 6442450943, .inl 8589934591]), (fun vs => zP q_X8_call_3), (fun vs => Nat.sub (Nat.add 0 0) 0))]
def bf_X8_call_3 : List Nat := []
theorem r_X8_call_3_0 : zbox [] (fun vs => zFrun (zpost (zAlq al_X8_call_3)) 1000 t_X8_call fm_X8_call_3 bf_X8_call_3 (0, vs)) = true := by decide +kernel
set_option maxRecDepth 100000 in
theorem x_X8_call_3 (d : Nat) : zS l G gh (d + 6) (zpost (zAlq al_X8_call_3)) n_X8_call (zn 0 p_X8_call 0) (zwc (0, [.inr (.ref 0), .inl 6442450943, .inl 8589934591], zP q_X8_call_3) 0) := zentry (tt_X8_call d) fm_X8_call_3 bf_X8_call_3 1000 (by decide +kernel) rfl ⟨Nat.zero_lt_succ _, trivial⟩ (fun f hf => match f, hf with
  | 0, _ => fun vs hv => (zbox_t r_X8_call_3_0) vs hv
  | f + 1, h => absurd (show f + 1 < 1 from h) (Nat.not_lt.mpr (Nat.le_add_left 1 f)))
noncomputable def gs_X8_call_3 : zMt := zgq false [] 5 [.inr (.ref 0), .inl 6442450943, .inl 8589934591] q_X8_call_3 al_X8_call_3
set_option maxRecDepth 100000 in
theorem cs_X8_call_3 (d : Nat) : zC l G gh (d + 6) n_X8_call gs_X8_call_3 := zgq_ok0 (pcs := p_X8_call) (by decide) rfl rfl (fun a ha => by simp only [al_X8_call_3, List.mem_cons, List.not_mem_nil, or_false] at ha; rcases ha with rfl <;> decide +kernel) (fun gh => x_X8_call_3 d) (by decide +kernel)
def q_X8_call_4 : List (Nat × Nat) := [(0, zk0), (259, zk20)]
noncomputable def al_X8_call_4 : zAq := [(some (.inl 2147483647), [(0, zk0), (259, zk20)])]
noncomputable def fm_X8_call_4 : List zFm := [(0, [], (fun vs => [.inr (.ref 0), .inl 9223372071214514175, .inl 8589934591]), (fun vs => zP q_X8_call_4), (fun vs => Nat.sub (Nat.add 0 0) 0))]
def bf_X8_call_4 : List Nat := []
theorem r_X8_call_4_0 : zbox [] (fun vs => zFrun (zpost (zAlq al_X8_call_4)) 1000 t_X8_call fm_X8_call_4 bf_X8_call_4 (0, vs)) = true := by decide +kernel
set_option maxRecDepth 100000 in
theorem x_X8_call_4 (d : Nat) : zS l G gh (d + 6) (zpost (zAlq al_X8_call_4)) n_X8_call (zn 0 p_X8_call 0) (zwc (0, [.inr (.ref 0), .inl 9223372071214514175, .inl 8589934591], zP q_X8_call_4) 0) := zentry (tt_X8_call d) fm_X8_call_4 bf_X8_call_4 1000 (by decide +kernel) rfl ⟨Nat.zero_lt_succ _, trivial⟩ (fun f hf => match f, hf with
  | 0, _ => fun vs hv => (zbox_t r_X8_call_4_0) vs hv
  | f + 1, h => absurd (show f + 1 < 1 from h) (Nat.not_lt.mpr (Nat.le_add_left 1 f)))
noncomputable def gs_X8_call_4 : zMt := zgq false [] 5 [.inr (.ref 0), .inl 9223372071214514175, .inl 8589934591] q_X8_call_4 al_X8_call_4
set_option maxRecDepth 100000 in
theorem cs_X8_call_4 (d : Nat) : zC l G gh (d + 6) n_X8_call gs_X8_call_4 := zgq_ok0 (pcs := p_X8_call) (by decide) rfl rfl (fun a ha => by simp only [al_X8_call_4, List.mem_cons, List.not_mem_nil, or_false] at ha; rcases ha with rfl <;> decide +kernel) (fun gh => x_X8_call_4 d) (by decide +kernel)
def q_X8_call_5 : List (Nat × Nat) := [(0, zk1), (9, zk21), (11, zk12), (12, zk12), (15, zk5), (16, zk18), (17, zk18), (18, zk19), (19, zk3), (20, zk7), (21, zk10), (22, zk12), (23, zk12), (24, zk12), (25, zk12), (26, zk11), (27, zk11), (35, zk23), (36, zk24), (37, zk25), (38, zk12), (39, zk12), (40, zk12), (41, zk12), (42, zk11), (43, zk11), (44, zk26), (45, zk12), (46, zk12), (47, zk12), (48, zk12), (49, zk11), (50, zk11), (51, zk27), (52, zk12), (53, zk12), (54, zk12), (55, zk12), (56, zk11), (57, zk11), (58, zk28), (59, zk12), (60, zk12), (61, zk12), (62, zk12), (63, zk11), (64, zk11), (65, zk29), (66, zk12), (67, zk12), (68, zk12), (69, zk12), (70, zk11), (71, zk11), (72, zk30), (73, zk12), (74, zk12), (75, zk12), (76, zk12), (77, zk11), (78, zk11), (79, zk31), (80, zk12), (81, zk12), (82, zk12), (83, zk12), (84, zk11), (85, zk11), (86, zk32), (87, zk12), (88, zk12), (89, zk12), (90, zk12), (91, zk11), (92, zk11), (93, zk33), (94, zk12), (95, zk12), (96, zk12), (97, zk12), (98, zk11), (99, zk11), (100, zk34), (101, zk12), (102, zk12), (103, zk12), (104, zk12), (105, zk11), (106, zk11), (107, zk35), (108, zk12), (109, zk12), (110, zk12), (111, zk12), (112, zk11), (113, zk11), (114, zk36), (115, zk12), (116, zk12), (117, zk12), (118, zk12), (119, zk11), (120, zk11), (121, zk37), (122, zk12), (123, zk12), (124, zk12), (125, zk12), (126, zk11), (127, zk11), (128, zk38), (129, zk12), (130, zk12), (131, zk12), (132, zk12), (133, zk11), (134, zk11), (135, zk39), (136, zk12), (137, zk12), (138, zk12), (139, zk12), (140, zk11), (141, zk11), (142, zk40), (143, zk12), (144, zk12), (145, zk12), (146, zk12), (147, zk11), (148, zk11), (149, zk41), (150, zk12), (151, zk12), (152, zk12), (153, zk12), (154, zk11), (155, zk11), (156, zk42), (157, zk12), (158, zk12), (159, zk12), (160, zk12), (161, zk11), (162, zk11), (163, zk43), (164, zk12), (165, zk12), (166, zk12), (167, zk12), (168, zk11), (169, zk11), (170, zk44), (171, zk12), (172, zk12), (173, zk12), (174, zk12), (175, zk11), (176, zk11), (177, zk45), (178, zk12), (179, zk12), (180, zk12), (181, zk12), (182, zk11), (183, zk11), (184, zk46), (185, zk12), (186, zk12), (187, zk12), (188, zk12), (189, zk11), (190, zk11), (191, zk47), (192, zk12), (193, zk12), (194, zk12), (195, zk12), (196, zk11), (197, zk11), (198, zk48), (199, zk12), (200, zk12), (201, zk12), (202, zk12), (203, zk11), (204, zk11), (205, zk49), (206, zk12), (207, zk12), (208, zk12), (209, zk12), (210, zk11), (211, zk11), (212, zk50), (213, zk12), (214, zk12), (215, zk12), (216, zk12), (217, zk11), (218, zk11), (219, zk51), (220, zk12), (221, zk12), (222, zk12), (223, zk12), (224, zk11), (225, zk11), (226, zk52), (227, zk12), (228, zk12), (229, zk12), (230, zk12), (231, zk11), (232, zk11), (233, zk53), (234, zk12), (235, zk12), (236, zk12), (237, zk12), (238, zk11), (239, zk11), (240, zk54), (241, zk12), (242, zk12), (243, zk12), (244, zk12), (245, zk11), (246, zk11)]
noncomputable def al_X8_call_5 : zAq := [(some (.inl 8589934591), [(0, zk1), (9, zk21), (11, zk12), (12, zk12), (15, zk5), (16, zk18), (17, zk18), (18, zk19), (19, zk4), (20, zk9), (21, zk10), (22, zk12), (23, zk57), (24, zk12), (25, zk12), (26, zk58), (27, zk58), (35, zk55), (36, zk24), (37, zk56), (38, zk57), (39, zk57), (40, zk57), (41, zk57), (42, zk58), (43, zk58), (44, zk59), (45, zk57), (46, zk57), (47, zk57), (48, zk57), (49, zk58), (50, zk58), (51, zk60), (52, zk57), (53, zk57), (54, zk57), (55, zk57), (56, zk58), (57, zk58), (58, zk61), (59, zk57), (60, zk57), (61, zk57), (62, zk57), (63, zk58), (64, zk58), (65, zk62), (66, zk57), (67, zk57), (68, zk57), (69, zk57), (70, zk58), (71, zk58), (72, zk63), (73, zk57), (74, zk57), (75, zk57), (76, zk57), (77, zk58), (78, zk58), (79, zk64), (80, zk57), (81, zk57), (82, zk57), (83, zk57), (84, zk58), (85, zk58), (86, zk65), (87, zk57), (88, zk57), (89, zk57), (90, zk57), (91, zk58), (92, zk58), (93, zk66), (94, zk57), (95, zk57), (96, zk57), (97, zk57), (98, zk58), (99, zk58), (100, zk67), (101, zk57), (102, zk57), (103, zk57), (104, zk57), (105, zk58), (106, zk58), (107, zk68), (108, zk57), (109, zk57), (110, zk57), (111, zk57), (112, zk58), (113, zk58), (114, zk69), (115, zk57), (116, zk57), (117, zk57), (118, zk57), (119, zk58), (120, zk58), (121, zk70), (122, zk57), (123, zk57), (124, zk57), (125, zk57), (126, zk58), (127, zk58), (128, zk71), (129, zk57), (130, zk57), (131, zk57), (132, zk57), (133, zk58), (134, zk58), (135, zk72), (136, zk57), (137, zk57), (138, zk57), (139, zk57), (140, zk58), (141, zk58), (142, zk73), (143, zk57), (144, zk57), (145, zk57), (146, zk57), (147, zk58), (148, zk58), (149, zk74), (150, zk57), (151, zk57), (152, zk57), (153, zk57), (154, zk58), (155, zk58), (156, zk75), (157, zk57), (158, zk57), (159, zk57), (160, zk57), (161, zk58), (162, zk58), (163, zk76), (164, zk57), (165, zk57), (166, zk57), (167, zk57), (168, zk58), (169, zk58), (170, zk77), (171, zk57), (172, zk57), (173, zk57), (174, zk57), (175, zk58), (176, zk58), (177, zk78), (178, zk57), (179, zk57), (180, zk57), (181, zk57), (182, zk58), (183, zk58), (184, zk79), (185, zk57), (186, zk57), (187, zk57), (188, zk57), (189, zk58), (190, zk58), (191, zk80), (192, zk57), (193, zk57), (194, zk57), (195, zk57), (196, zk58), (197, zk58), (198, zk81), (199, zk57), (200, zk57), (201, zk57), (202, zk57), (203, zk58), (204, zk58), (205, zk82), (206, zk57), (207, zk57), (208, zk57), (209, zk57), (210, zk58), (211, zk58), (212, zk83), (213, zk57), (214, zk57), (215, zk57), (216, zk57), (217, zk58), (218, zk58), (219, zk84), (220, zk57), (221, zk57), (222, zk57), (223, zk57), (224, zk58), (225, zk58), (226, zk85), (227, zk57), (228, zk57), (229, zk57), (230, zk57), (231, zk58), (232, zk58), (233, zk86), (234, zk57), (235, zk57), (236, zk57), (237, zk57), (238, zk58), (239, zk58), (240, zk87), (241, zk57), (242, zk57), (243, zk57), (244, zk57), (245, zk58), (246, zk58)])]
noncomputable def fm_X8_call_5 : List zFm := [(0, [], (fun vs => [.inr (.ref 0), .inl 9223372043297226757, .inl 9223372043297226757]), (fun vs => zP q_X8_call_5), (fun vs => Nat.sub (Nat.add 0 0) 0))]
def bf_X8_call_5 : List Nat := []
theorem r_X8_call_5_0 : zbox [] (fun vs => zFrun (zpost (zAlq al_X8_call_5)) 1000 t_X8_call fm_X8_call_5 bf_X8_call_5 (0, vs)) = true := by decide +kernel
set_option maxRecDepth 100000 in
theorem x_X8_call_5 (d : Nat) : zS l G gh (d + 6) (zpost (zAlq al_X8_call_5)) n_X8_call (zn 0 p_X8_call 0) (zwc (0, [.inr (.ref 0), .inl 9223372043297226757, .inl 9223372043297226757], zP q_X8_call_5) 0) := zentry (tt_X8_call d) fm_X8_call_5 bf_X8_call_5 1000 (by decide +kernel) rfl ⟨Nat.zero_lt_succ _, trivial⟩ (fun f hf => match f, hf with
  | 0, _ => fun vs hv => (zbox_t r_X8_call_5_0) vs hv
  | f + 1, h => absurd (show f + 1 < 1 from h) (Nat.not_lt.mpr (Nat.le_add_left 1 f)))
noncomputable def gs_X8_call_5 : zMt := zgq false [] 5 [.inr (.ref 0), .inl 9223372043297226757, .inl 9223372043297226757] q_X8_call_5 al_X8_call_5
set_option maxRecDepth 100000 in
theorem cs_X8_call_5 (d : Nat) : zC l G gh (d + 6) n_X8_call gs_X8_call_5 := zgq_ok0 (pcs := p_X8_call) (by decide) rfl rfl (fun a ha => by simp only [al_X8_call_5, List.mem_cons, List.not_mem_nil, or_false] at ha; rcases ha with rfl <;> decide +kernel) (fun gh => x_X8_call_5 d) (by decide +kernel)
def q_X8_call_6 : List (Nat × Nat) := [(0, zk1), (9, zk21)]
noncomputable def al_X8_call_6 : zAq := [(some (.inl 2147483647), [(0, zk1), (9, zk21)])]
noncomputable def fm_X8_call_6 : List zFm := [(0, [], (fun vs => [.inr (.ref 0), .inl 9223372043297226757, .inl 6442450943]), (fun vs => zP q_X8_call_6), (fun vs => Nat.sub (Nat.add 0 0) 0))]
def bf_X8_call_6 : List Nat := []
theorem r_X8_call_6_0 : zbox [] (fun vs => zFrun (zpost (zAlq al_X8_call_6)) 1000 t_X8_call fm_X8_call_6 bf_X8_call_6 (0, vs)) = true := by decide +kernel
set_option maxRecDepth 100000 in
theorem x_X8_call_6 (d : Nat) : zS l G gh (d + 6) (zpost (zAlq al_X8_call_6)) n_X8_call (zn 0 p_X8_call 0) (zwc (0, [.inr (.ref 0), .inl 9223372043297226757, .inl 6442450943], zP q_X8_call_6) 0) := zentry (tt_X8_call d) fm_X8_call_6 bf_X8_call_6 1000 (by decide +kernel) rfl ⟨Nat.zero_lt_succ _, trivial⟩ (fun f hf => match f, hf with
  | 0, _ => fun vs hv => (zbox_t r_X8_call_6_0) vs hv
  | f + 1, h => absurd (show f + 1 < 1 from h) (Nat.not_lt.mpr (Nat.le_add_left 1 f)))
noncomputable def gs_X8_call_6 : zMt := zgq false [] 5 [.inr (.ref 0), .inl 9223372043297226757, .inl 6442450943] q_X8_call_6 al_X8_call_6
set_option maxRecDepth 100000 in
theorem cs_X8_call_6 (d : Nat) : zC l G gh (d + 6) n_X8_call gs_X8_call_6 := zgq_ok0 (pcs := p_X8_call) (by decide) rfl rfl (fun a ha => by simp only [al_X8_call_6, List.mem_cons, List.not_mem_nil, or_false] at ha; rcases ha with rfl <;> decide +kernel) (fun gh => x_X8_call_6 d) (by decide +kernel)
def q_X8_call_7 : List (Nat × Nat) := [(0, zk1), (9, zk21)]
noncomputable def al_X8_call_7 : zAq := [(some (.inl 2147483647), [(0, zk1), (9, zk21)])]
noncomputable def fm_X8_call_7 : List zFm := [(0, [], (fun vs => [.inr (.ref 0), .inl 9223372043297226757, .inl 9223372071214514175]), (fun vs => zP q_X8_call_7), (fun vs => Nat.sub (Nat.add 0 0) 0))]
def bf_X8_call_7 : List Nat := []
theorem r_X8_call_7_0 : zbox [] (fun vs => zFrun (zpost (zAlq al_X8_call_7)) 1000 t_X8_call fm_X8_call_7 bf_X8_call_7 (0, vs)) = true := by decide +kernel
set_option maxRecDepth 100000 in
theorem x_X8_call_7 (d : Nat) : zS l G gh (d + 6) (zpost (zAlq al_X8_call_7)) n_X8_call (zn 0 p_X8_call 0) (zwc (0, [.inr (.ref 0), .inl 9223372043297226757, .inl 9223372071214514175], zP q_X8_call_7) 0) := zentry (tt_X8_call d) fm_X8_call_7 bf_X8_call_7 1000 (by decide +kernel) rfl ⟨Nat.zero_lt_succ _, trivial⟩ (fun f hf => match f, hf with
  | 0, _ => fun vs hv => (zbox_t r_X8_call_7_0) vs hv
  | f + 1, h => absurd (show f + 1 < 1 from h) (Nat.not_lt.mpr (Nat.le_add_left 1 f)))
noncomputable def gs_X8_call_7 : zMt := zgq false [] 5 [.inr (.ref 0), .inl 9223372043297226757, .inl 9223372071214514175] q_X8_call_7 al_X8_call_7
set_option maxRecDepth 100000 in
theorem cs_X8_call_7 (d : Nat) : zC l G gh (d + 6) n_X8_call gs_X8_call_7 := zgq_ok0 (pcs := p_X8_call) (by decide) rfl rfl (fun a ha => by simp only [al_X8_call_7, List.mem_cons, List.not_mem_nil, or_false] at ha; rcases ha with rfl <;> decide +kernel) (fun gh => x_X8_call_7 d) (by decide +kernel)
def q_X8_call_8 : List (Nat × Nat) := [(0, zk1)]
noncomputable def al_X8_call_8 : zAq := [(some (.inl 2147483647), [(0, zk1)])]
noncomputable def fm_X8_call_8 : List zFm := [(0, [], (fun vs => [.inr (.ref 0), .inl 6442450943, .inl 8589934591]), (fun vs => zP q_X8_call_8), (fun vs => Nat.sub (Nat.add 0 0) 0))]
def bf_X8_call_8 : List Nat := []
theorem r_X8_call_8_0 : zbox [] (fun vs => zFrun (zpost (zAlq al_X8_call_8)) 1000 t_X8_call fm_X8_call_8 bf_X8_call_8 (0, vs)) = true := by decide +kernel
set_option maxRecDepth 100000 in
theorem x_X8_call_8 (d : Nat) : zS l G gh (d + 6) (zpost (zAlq al_X8_call_8)) n_X8_call (zn 0 p_X8_call 0) (zwc (0, [.inr (.ref 0), .inl 6442450943, .inl 8589934591], zP q_X8_call_8) 0) := zentry (tt_X8_call d) fm_X8_call_8 bf_X8_call_8 1000 (by decide +kernel) rfl ⟨Nat.zero_lt_succ _, trivial⟩ (fun f hf => match f, hf with
  | 0, _ => fun vs hv => (zbox_t r_X8_call_8_0) vs hv
  | f + 1, h => absurd (show f + 1 < 1 from h) (Nat.not_lt.mpr (Nat.le_add_left 1 f)))
noncomputable def gs_X8_call_8 : zMt := zgq false [] 5 [.inr (.ref 0), .inl 6442450943, .inl 8589934591] q_X8_call_8 al_X8_call_8
set_option maxRecDepth 100000 in
theorem cs_X8_call_8 (d : Nat) : zC l G gh (d + 6) n_X8_call gs_X8_call_8 := zgq_ok0 (pcs := p_X8_call) (by decide) rfl rfl (fun a ha => by simp only [al_X8_call_8, List.mem_cons, List.not_mem_nil, or_false] at ha; rcases ha with rfl <;> decide +kernel) (fun gh => x_X8_call_8 d) (by decide +kernel)
def q_X8_call_9 : List (Nat × Nat) := [(0, zk1), (9, zk21)]
noncomputable def al_X8_call_9 : zAq := [(some (.inl 2147483647), [(0, zk1), (9, zk21)])]
noncomputable def fm_X8_call_9 : List zFm := [(0, [], (fun vs => [.inr (.ref 0), .inl 9223372071214514175, .inl 8589934591]), (fun vs => zP q_X8_call_9), (fun vs => Nat.sub (Nat.add 0 0) 0))]
def bf_X8_call_9 : List Nat := []
theorem r_X8_call_9_0 : zbox [] (fun vs => zFrun (zpost (zAlq al_X8_call_9)) 1000 t_X8_call fm_X8_call_9 bf_X8_call_9 (0, vs)) = true := by decide +kernel
set_option maxRecDepth 100000 in
theorem x_X8_call_9 (d : Nat) : zS l G gh (d + 6) (zpost (zAlq al_X8_call_9)) n_X8_call (zn 0 p_X8_call 0) (zwc (0, [.inr (.ref 0), .inl 9223372071214514175, .inl 8589934591], zP q_X8_call_9) 0) := zentry (tt_X8_call d) fm_X8_call_9 bf_X8_call_9 1000 (by decide +kernel) rfl ⟨Nat.zero_lt_succ _, trivial⟩ (fun f hf => match f, hf with
  | 0, _ => fun vs hv => (zbox_t r_X8_call_9_0) vs hv
  | f + 1, h => absurd (show f + 1 < 1 from h) (Nat.not_lt.mpr (Nat.le_add_left 1 f)))
noncomputable def gs_X8_call_9 : zMt := zgq false [] 5 [.inr (.ref 0), .inl 9223372071214514175, .inl 8589934591] q_X8_call_9 al_X8_call_9
set_option maxRecDepth 100000 in
theorem cs_X8_call_9 (d : Nat) : zC l G gh (d + 6) n_X8_call gs_X8_call_9 := zgq_ok0 (pcs := p_X8_call) (by decide) rfl rfl (fun a ha => by simp only [al_X8_call_9, List.mem_cons, List.not_mem_nil, or_false] at ha; rcases ha with rfl <;> decide +kernel) (fun gh => x_X8_call_9 d) (by decide +kernel)
noncomputable def gs_X8_call : zMt := (zor gs_X8_call_0 (zor gs_X8_call_1 (zor gs_X8_call_2 (zor gs_X8_call_3 (zor gs_X8_call_4 (zor gs_X8_call_5 (zor gs_X8_call_6 (zor gs_X8_call_7 (zor gs_X8_call_8 gs_X8_call_9)))))))))
theorem cs_X8_call (d : Nat) : zC l G gh (d + 6) n_X8_call gs_X8_call := (zor_ok (cs_X8_call_0 d) (zor_ok (cs_X8_call_1 d) (zor_ok (cs_X8_call_2 d) (zor_ok (cs_X8_call_3 d) (zor_ok (cs_X8_call_4 d) (zor_ok (cs_X8_call_5 d) (zor_ok (cs_X8_call_6 d) (zor_ok (cs_X8_call_7 d) (zor_ok (cs_X8_call_8 d) (cs_X8_call_9 d))))))))))
def p_X8_hours : List Nat := [0, 7, 9, 13, 50]
noncomputable def b_X8_hours_0 : zBl := fun jp K => oIld 1 <| oCs 1 f_X8_isAhead <| oIf zne zeq (jp 2) (jp 1)
theorem s_X8_hours_0 (d : Nat) : zPb l G gh (d + 6) n_X8_hours p_X8_hours 0 b_X8_hours_0 := fun K jp hj =>
    z_iload_n (n := 1) (i := 1) (zd (i := .iload_n 1) (n := 1) (by decide +kernel)) rfl <|
    z_callS (idx := 207) (N := n_X8_isAhead) (zd (i := .invokestatic 207) (n := 3) (by decide +kernel)) to_X8_isAhead g862 g863 rfl rfl (c_X8_isAhead (l := l) (G := G) (gh := gh) (d + 4)) <|
    z_if_ne (off := 5) (tgt := 9) (zd (i := .ifCond .ne (5)) (n := 3) (by decide +kernel)) (by decide +kernel) (zj (hj 2) (by decide +kernel)) (zj (hj 1) (by decide +kernel))
noncomputable def b_X8_hours_1 : zBl := fun jp K => oInt 2147483647 <| oIret K
theorem s_X8_hours_1 (d : Nat) : zPb l G gh (d + 6) n_X8_hours p_X8_hours 7 b_X8_hours_1 := fun K jp hj =>
    z_iconst (n := -1) (zd (i := .iconst (-1)) (n := 1) (by decide +kernel)) (by decide +kernel) <|
    z_iret (zd (i := .ireturn) (n := 1) (by decide +kernel)) rfl
noncomputable def b_X8_hours_2 : zBl := fun jp K => oNLC 1 2147483648 zleN zgtN zn1_le zn1_gt (jp 4) (jp 3)
theorem s_X8_hours_2 (d : Nat) : zPb l G gh (d + 6) n_X8_hours p_X8_hours 9 b_X8_hours_2 := fun K jp hj =>
    z_nL0_le (i := 1) (a1 := 1) (off := 40) (tgt := 50) (zLd_n (n := 1) (i := 1) (zd (i := .iload_n 1) (n := 1) (by decide +kernel)) rfl) (zd (i := .ifCond .le (40)) (n := 3) (by decide +kernel)) (by decide +kernel) (zj (hj 4) (by decide +kernel)) (zj (hj 3) (by decide +kernel))
noncomputable def b_X8_hours_3 : zBl := fun jp K => oAld 0 <| oGetR 8 4 <| oAld 0 <| oGetR 8 2 <| oCv 3 1 gs_X3_push <| oAld 0 <| oGetR 8 12 <| oAld 0 <| oGetR 8 2 <| oIld 1 <| oAld 0 <| oGetR 8 12 <| oGetI 0 11 <| oAld 0 <| oGetR 8 12 <| oGetI 0 9 <| oCv 0 4 gs_X0_pass <| jp 4
theorem s_X8_hours_3 (d : Nat) : zPb l G gh (d + 6) n_X8_hours p_X8_hours 13 b_X8_hours_3 := fun K jp hj =>
    z_aload_n (n := 0) (i := 0) (zd (i := .aload_n 0) (n := 1) (by decide +kernel)) rfl <|
    z_getR (ci := 8) (j := 4) (idx := 36) (zd (i := .getfield 36) (n := 3) (by decide +kernel)) (by decide +kernel) (by decide +kernel) rfl g456 <|
    z_aload_n (n := 0) (i := 0) (zd (i := .aload_n 0) (n := 1) (by decide +kernel)) rfl <|
    z_getR (ci := 8) (j := 2) (idx := 26) (zd (i := .getfield 26) (n := 3) (by decide +kernel)) (by decide +kernel) (by decide +kernel) rfl g454 <|
    z_callV (idx := 199) (ci := 3) (N := n_X3_push) (zd (i := .invokevirtual 199) (n := 3) (by decide +kernel)) to_X3_push g836 g837 g838 (by decide +kernel) rfl rfl rfl (cs_X3_push (l := l) (G := G) (gh := gh) (d + 3)) <|
    z_aload_n (n := 0) (i := 0) (zd (i := .aload_n 0) (n := 1) (by decide +kernel)) rfl <|
    z_getR (ci := 8) (j := 12) (idx := 71) (zd (i := .getfield 71) (n := 3) (by decide +kernel)) (by decide +kernel) (by decide +kernel) rfl g464 <|
    z_aload_n (n := 0) (i := 0) (zd (i := .aload_n 0) (n := 1) (by decide +kernel)) rfl <|
    z_getR (ci := 8) (j := 2) (idx := 26) (zd (i := .getfield 26) (n := 3) (by decide +kernel)) (by decide +kernel) (by decide +kernel) rfl g454 <|
    z_iload_n (n := 1) (i := 1) (zd (i := .iload_n 1) (n := 1) (by decide +kernel)) rfl <|
    z_aload_n (n := 0) (i := 0) (zd (i := .aload_n 0) (n := 1) (by decide +kernel)) rfl <|
    z_getR (ci := 8) (j := 12) (idx := 71) (zd (i := .getfield 71) (n := 3) (by decide +kernel)) (by decide +kernel) (by decide +kernel) rfl g464 <|
    z_getI (ci := 0) (j := 11) (idx := 210) (zd (i := .getfield 210) (n := 3) (by decide +kernel)) (by decide +kernel) (by decide +kernel) rfl g303 <|
    z_aload_n (n := 0) (i := 0) (zd (i := .aload_n 0) (n := 1) (by decide +kernel)) rfl <|
    z_getR (ci := 8) (j := 12) (idx := 71) (zd (i := .getfield 71) (n := 3) (by decide +kernel)) (by decide +kernel) (by decide +kernel) rfl g464 <|
    z_getI (ci := 0) (j := 9) (idx := 213) (zd (i := .getfield 213) (n := 3) (by decide +kernel)) (by decide +kernel) (by decide +kernel) rfl g297 <|
    z_callV (idx := 216) (ci := 0) (N := n_X0_pass) (zd (i := .invokevirtual 216) (n := 3) (by decide +kernel)) to_X0_pass g865 g866 g867 (by decide +kernel) rfl rfl rfl (cs_X0_pass (l := l) (G := G) (gh := gh) (d)) <|
    (zj (hj 4) (by decide +kernel))
noncomputable def b_X8_hours_4 : zBl := fun jp K => oAld 0 <| oGetR 8 2 <| oGetI 4 0 <| oIret K
theorem s_X8_hours_4 (d : Nat) : zPb l G gh (d + 6) n_X8_hours p_X8_hours 50 b_X8_hours_4 := fun K jp hj =>
    z_aload_n (n := 0) (i := 0) (zd (i := .aload_n 0) (n := 1) (by decide +kernel)) rfl <|
    z_getR (ci := 8) (j := 2) (idx := 26) (zd (i := .getfield 26) (n := 3) (by decide +kernel)) (by decide +kernel) (by decide +kernel) rfl g454 <|
    z_getI (ci := 4) (j := 0) (idx := 140) (zd (i := .getfield 140) (n := 3) (by decide +kernel)) (by decide +kernel) (by decide +kernel) rfl g368 <|
    z_iret (zd (i := .ireturn) (n := 1) (by decide +kernel)) rfl
noncomputable def t_X8_hours : List zBl := [b_X8_hours_0, b_X8_hours_1, b_X8_hours_2, b_X8_hours_3, b_X8_hours_4]
theorem tt_X8_hours (d : Nat) : zT (zPb l G gh (d + 6) n_X8_hours p_X8_hours) t_X8_hours p_X8_hours := ⟨s_X8_hours_0 d, s_X8_hours_1 d, s_X8_hours_2 d, s_X8_hours_3 d, s_X8_hours_4 d, trivial⟩
def q_X8_hours_0 : List (Nat × Nat) := [(0, zk0), (21, zk10), (22, zk12), (23, zk12), (24, zk12), (25, zk12), (26, zk11), (27, zk11), (35, zk23), (36, zk24), (37, zk25), (38, zk12), (39, zk12), (40, zk12), (41, zk12), (42, zk11), (43, zk11), (44, zk26), (45, zk12), (46, zk12), (47, zk12), (48, zk12), (49, zk11), (50, zk11), (51, zk27), (52, zk12), (53, zk12), (54, zk12), (55, zk12), (56, zk11), (57, zk11), (58, zk28), (59, zk12), (60, zk12), (61, zk12), (62, zk12), (63, zk11), (64, zk11), (65, zk29), (66, zk12), (67, zk12), (68, zk12), (69, zk12), (70, zk11), (71, zk11), (72, zk30), (73, zk12), (74, zk12), (75, zk12), (76, zk12), (77, zk11), (78, zk11), (79, zk31), (80, zk12), (81, zk12), (82, zk12), (83, zk12), (84, zk11), (85, zk11), (86, zk32), (87, zk12), (88, zk12), (89, zk12), (90, zk12), (91, zk11), (92, zk11), (93, zk33), (94, zk12), (95, zk12), (96, zk12), (97, zk12), (98, zk11), (99, zk11), (100, zk34), (101, zk12), (102, zk12), (103, zk12), (104, zk12), (105, zk11), (106, zk11), (107, zk35), (108, zk12), (109, zk12), (110, zk12), (111, zk12), (112, zk11), (113, zk11), (114, zk36), (115, zk12), (116, zk12), (117, zk12), (118, zk12), (119, zk11), (120, zk11), (121, zk37), (122, zk12), (123, zk12), (124, zk12), (125, zk12), (126, zk11), (127, zk11), (128, zk38), (129, zk12), (130, zk12), (131, zk12), (132, zk12), (133, zk11), (134, zk11), (135, zk39), (136, zk12), (137, zk12), (138, zk12), (139, zk12), (140, zk11), (141, zk11), (142, zk40), (143, zk12), (144, zk12), (145, zk12), (146, zk12), (147, zk11), (148, zk11), (149, zk41), (150, zk12), (151, zk12), (152, zk12), (153, zk12), (154, zk11), (155, zk11), (156, zk42), (157, zk12), (158, zk12), (159, zk12), (160, zk12), (161, zk11), (162, zk11), (163, zk43), (164, zk12), (165, zk12), (166, zk12), (167, zk12), (168, zk11), (169, zk11), (170, zk44), (171, zk12), (172, zk12), (173, zk12), (174, zk12), (175, zk11), (176, zk11), (177, zk45), (178, zk12), (179, zk12), (180, zk12), (181, zk12), (182, zk11), (183, zk11), (184, zk46), (185, zk12), (186, zk12), (187, zk12), (188, zk12), (189, zk11), (190, zk11), (191, zk47), (192, zk12), (193, zk12), (194, zk12), (195, zk12), (196, zk11), (197, zk11), (198, zk48), (199, zk12), (200, zk12), (201, zk12), (202, zk12), (203, zk11), (204, zk11), (205, zk49), (206, zk12), (207, zk12), (208, zk12), (209, zk12), (210, zk11), (211, zk11), (212, zk50), (213, zk12), (214, zk12), (215, zk12), (216, zk12), (217, zk11), (218, zk11), (219, zk51), (220, zk12), (221, zk12), (222, zk12), (223, zk12), (224, zk11), (225, zk11), (226, zk52), (227, zk12), (228, zk12), (229, zk12), (230, zk12), (231, zk11), (232, zk11), (233, zk53), (234, zk12), (235, zk12), (236, zk12), (237, zk12), (238, zk11), (239, zk11), (240, zk54), (241, zk12), (242, zk12), (243, zk12), (244, zk12), (245, zk11), (246, zk11), (259, zk20), (261, zk12), (262, zk12), (265, zk2), (266, zk18), (267, zk18), (268, zk19), (269, zk3), (270, zk7)]
noncomputable def al_X8_hours_0 : zAq := [(some (.inl 8589934591), [(0, zk0), (21, zk88), (22, zk12), (23, zk57), (24, zk57), (25, zk57), (26, zk58), (27, zk58), (35, zk55), (36, zk24), (37, zk56), (38, zk57), (39, zk57), (40, zk57), (41, zk57), (42, zk58), (43, zk58), (44, zk59), (45, zk57), (46, zk57), (47, zk57), (48, zk57), (49, zk58), (50, zk58), (51, zk60), (52, zk57), (53, zk57), (54, zk57), (55, zk57), (56, zk58), (57, zk58), (58, zk61), (59, zk57), (60, zk57), (61, zk57), (62, zk57), (63, zk58), (64, zk58), (65, zk62), (66, zk57), (67, zk57), (68, zk57), (69, zk57), (70, zk58), (71, zk58), (72, zk63), (73, zk57), (74, zk57), (75, zk57), (76, zk57), (77, zk58), (78, zk58), (79, zk64), (80, zk57), (81, zk57), (82, zk57), (83, zk57), (84, zk58), (85, zk58), (86, zk65), (87, zk57), (88, zk57), (89, zk57), (90, zk57), (91, zk58), (92, zk58), (93, zk66), (94, zk57), (95, zk57), (96, zk57), (97, zk57), (98, zk58), (99, zk58), (100, zk67), (101, zk57), (102, zk57), (103, zk57), (104, zk57), (105, zk58), (106, zk58), (107, zk68), (108, zk57), (109, zk57), (110, zk57), (111, zk57), (112, zk58), (113, zk58), (114, zk69), (115, zk57), (116, zk57), (117, zk57), (118, zk57), (119, zk58), (120, zk58), (121, zk70), (122, zk57), (123, zk57), (124, zk57), (125, zk57), (126, zk58), (127, zk58), (128, zk71), (129, zk57), (130, zk57), (131, zk57), (132, zk57), (133, zk58), (134, zk58), (135, zk72), (136, zk57), (137, zk57), (138, zk57), (139, zk57), (140, zk58), (141, zk58), (142, zk73), (143, zk57), (144, zk57), (145, zk57), (146, zk57), (147, zk58), (148, zk58), (149, zk74), (150, zk57), (151, zk57), (152, zk57), (153, zk57), (154, zk58), (155, zk58), (156, zk75), (157, zk57), (158, zk57), (159, zk57), (160, zk57), (161, zk58), (162, zk58), (163, zk76), (164, zk57), (165, zk57), (166, zk57), (167, zk57), (168, zk58), (169, zk58), (170, zk77), (171, zk57), (172, zk57), (173, zk57), (174, zk57), (175, zk58), (176, zk58), (177, zk78), (178, zk57), (179, zk57), (180, zk57), (181, zk57), (182, zk58), (183, zk58), (184, zk79), (185, zk57), (186, zk57), (187, zk57), (188, zk57), (189, zk58), (190, zk58), (191, zk80), (192, zk57), (193, zk57), (194, zk57), (195, zk57), (196, zk58), (197, zk58), (198, zk81), (199, zk57), (200, zk57), (201, zk57), (202, zk57), (203, zk58), (204, zk58), (205, zk82), (206, zk57), (207, zk57), (208, zk57), (209, zk57), (210, zk58), (211, zk58), (212, zk83), (213, zk57), (214, zk57), (215, zk57), (216, zk57), (217, zk58), (218, zk58), (219, zk84), (220, zk57), (221, zk57), (222, zk57), (223, zk57), (224, zk58), (225, zk58), (226, zk85), (227, zk57), (228, zk57), (229, zk57), (230, zk57), (231, zk58), (232, zk58), (233, zk86), (234, zk57), (235, zk57), (236, zk57), (237, zk57), (238, zk58), (239, zk58), (240, zk87), (241, zk57), (242, zk57), (243, zk57), (244, zk57), (245, zk58), (246, zk58), (259, zk20), (261, zk12), (262, zk12), (265, zk2), (266, zk18), (267, zk18), (268, zk19), (269, zk4), (270, zk9)])]
noncomputable def fm_X8_hours_0 : List zFm := [(0, [], (fun vs => [.inr (.ref 0), .inl 9223372047592194096]), (fun vs => zP q_X8_hours_0), (fun vs => Nat.sub (Nat.add 0 0) 0))]
def bf_X8_hours_0 : List Nat := []
theorem r_X8_hours_0_0 : zbox [] (fun vs => zFrun (zpost (zAlq al_X8_hours_0)) 1000 t_X8_hours fm_X8_hours_0 bf_X8_hours_0 (0, vs)) = true := by decide +kernel
set_option maxRecDepth 100000 in
theorem x_X8_hours_0 (d : Nat) : zS l G gh (d + 6) (zpost (zAlq al_X8_hours_0)) n_X8_hours (zn 0 p_X8_hours 0) (zwc (0, [.inr (.ref 0), .inl 9223372047592194096], zP q_X8_hours_0) 0) := zentry (tt_X8_hours d) fm_X8_hours_0 bf_X8_hours_0 1000 (by decide +kernel) rfl ⟨Nat.zero_lt_succ _, trivial⟩ (fun f hf => match f, hf with
  | 0, _ => fun vs hv => (zbox_t r_X8_hours_0_0) vs hv
  | f + 1, h => absurd (show f + 1 < 1 from h) (Nat.not_lt.mpr (Nat.le_add_left 1 f)))
noncomputable def gs_X8_hours_0 : zMt := zgq false [] 2 [.inr (.ref 0), .inl 9223372047592194096] q_X8_hours_0 al_X8_hours_0
set_option maxRecDepth 100000 in
theorem cs_X8_hours_0 (d : Nat) : zC l G gh (d + 6) n_X8_hours gs_X8_hours_0 := zgq_ok0 (pcs := p_X8_hours) (by decide) rfl rfl (fun a ha => by simp only [al_X8_hours_0, List.mem_cons, List.not_mem_nil, or_false] at ha; rcases ha with rfl <;> decide +kernel) (fun gh => x_X8_hours_0 d) (by decide +kernel)
def q_X8_hours_1 : List (Nat × Nat) := []
noncomputable def al_X8_hours_1 : zAq := [(some (.inl 2147483647), [])]
noncomputable def fm_X8_hours_1 : List zFm := [(0, [], (fun vs => [.inr (.ref 0), .inl 6442450943]), (fun vs => zP q_X8_hours_1), (fun vs => Nat.sub (Nat.add 0 0) 0))]
def bf_X8_hours_1 : List Nat := []
theorem r_X8_hours_1_0 : zbox [] (fun vs => zFrun (zpost (zAlq al_X8_hours_1)) 1000 t_X8_hours fm_X8_hours_1 bf_X8_hours_1 (0, vs)) = true := by decide +kernel
set_option maxRecDepth 100000 in
theorem x_X8_hours_1 (d : Nat) : zS l G gh (d + 6) (zpost (zAlq al_X8_hours_1)) n_X8_hours (zn 0 p_X8_hours 0) (zwc (0, [.inr (.ref 0), .inl 6442450943], zP q_X8_hours_1) 0) := zentry (tt_X8_hours d) fm_X8_hours_1 bf_X8_hours_1 1000 (by decide +kernel) rfl ⟨Nat.zero_lt_succ _, trivial⟩ (fun f hf => match f, hf with
  | 0, _ => fun vs hv => (zbox_t r_X8_hours_1_0) vs hv
  | f + 1, h => absurd (show f + 1 < 1 from h) (Nat.not_lt.mpr (Nat.le_add_left 1 f)))
noncomputable def gs_X8_hours_1 : zMt := zgq false [] 2 [.inr (.ref 0), .inl 6442450943] q_X8_hours_1 al_X8_hours_1
set_option maxRecDepth 100000 in
theorem cs_X8_hours_1 (d : Nat) : zC l G gh (d + 6) n_X8_hours gs_X8_hours_1 := zgq_ok0 (pcs := p_X8_hours) (by decide) rfl rfl (fun a ha => by simp only [al_X8_hours_1, List.mem_cons, List.not_mem_nil, or_false] at ha; rcases ha with rfl <;> decide +kernel) (fun gh => x_X8_hours_1 d) (by decide +kernel)
def q_X8_hours_2 : List (Nat × Nat) := [(0, zk0), (21, zk10)]
noncomputable def al_X8_hours_2 : zAq := [(some (.inl 8589934591), [(0, zk0), (21, zk10)])]
noncomputable def fm_X8_hours_2 : List zFm := [(0, [], (fun vs => [.inr (.ref 0), .inl 2147483648]), (fun vs => zP q_X8_hours_2), (fun vs => Nat.sub (Nat.add 0 0) 0))]
def bf_X8_hours_2 : List Nat := []
theorem r_X8_hours_2_0 : zbox [] (fun vs => zFrun (zpost (zAlq al_X8_hours_2)) 1000 t_X8_hours fm_X8_hours_2 bf_X8_hours_2 (0, vs)) = true := by decide +kernel
set_option maxRecDepth 100000 in
theorem x_X8_hours_2 (d : Nat) : zS l G gh (d + 6) (zpost (zAlq al_X8_hours_2)) n_X8_hours (zn 0 p_X8_hours 0) (zwc (0, [.inr (.ref 0), .inl 2147483648], zP q_X8_hours_2) 0) := zentry (tt_X8_hours d) fm_X8_hours_2 bf_X8_hours_2 1000 (by decide +kernel) rfl ⟨Nat.zero_lt_succ _, trivial⟩ (fun f hf => match f, hf with
  | 0, _ => fun vs hv => (zbox_t r_X8_hours_2_0) vs hv
  | f + 1, h => absurd (show f + 1 < 1 from h) (Nat.not_lt.mpr (Nat.le_add_left 1 f)))
noncomputable def gs_X8_hours_2 : zMt := zgq false [] 2 [.inr (.ref 0), .inl 2147483648] q_X8_hours_2 al_X8_hours_2
set_option maxRecDepth 100000 in
theorem cs_X8_hours_2 (d : Nat) : zC l G gh (d + 6) n_X8_hours gs_X8_hours_2 := zgq_ok0 (pcs := p_X8_hours) (by decide) rfl rfl (fun a ha => by simp only [al_X8_hours_2, List.mem_cons, List.not_mem_nil, or_false] at ha; rcases ha with rfl <;> decide +kernel) (fun gh => x_X8_hours_2 d) (by decide +kernel)
def q_X8_hours_3 : List (Nat × Nat) := []
noncomputable def al_X8_hours_3 : zAq := [(some (.inl 2147483647), [])]
noncomputable def fm_X8_hours_3 : List zFm := [(0, [], (fun vs => [.inr (.ref 0), .inl 9223372255898107903]), (fun vs => zP q_X8_hours_3), (fun vs => Nat.sub (Nat.add 0 0) 0))]
def bf_X8_hours_3 : List Nat := []
theorem r_X8_hours_3_0 : zbox [] (fun vs => zFrun (zpost (zAlq al_X8_hours_3)) 1000 t_X8_hours fm_X8_hours_3 bf_X8_hours_3 (0, vs)) = true := by decide +kernel
set_option maxRecDepth 100000 in
theorem x_X8_hours_3 (d : Nat) : zS l G gh (d + 6) (zpost (zAlq al_X8_hours_3)) n_X8_hours (zn 0 p_X8_hours 0) (zwc (0, [.inr (.ref 0), .inl 9223372255898107903], zP q_X8_hours_3) 0) := zentry (tt_X8_hours d) fm_X8_hours_3 bf_X8_hours_3 1000 (by decide +kernel) rfl ⟨Nat.zero_lt_succ _, trivial⟩ (fun f hf => match f, hf with
  | 0, _ => fun vs hv => (zbox_t r_X8_hours_3_0) vs hv
  | f + 1, h => absurd (show f + 1 < 1 from h) (Nat.not_lt.mpr (Nat.le_add_left 1 f)))
noncomputable def gs_X8_hours_3 : zMt := zgq false [] 2 [.inr (.ref 0), .inl 9223372255898107903] q_X8_hours_3 al_X8_hours_3
set_option maxRecDepth 100000 in
theorem cs_X8_hours_3 (d : Nat) : zC l G gh (d + 6) n_X8_hours gs_X8_hours_3 := zgq_ok0 (pcs := p_X8_hours) (by decide) rfl rfl (fun a ha => by simp only [al_X8_hours_3, List.mem_cons, List.not_mem_nil, or_false] at ha; rcases ha with rfl <;> decide +kernel) (fun gh => x_X8_hours_3 d) (by decide +kernel)
def q_X8_hours_4 : List (Nat × Nat) := [(0, zk1), (9, zk21), (11, zk12), (12, zk12), (15, zk5), (16, zk18), (17, zk18), (18, zk19), (19, zk3), (20, zk7), (21, zk10), (22, zk12), (23, zk12), (24, zk12), (25, zk12), (26, zk11), (27, zk11), (35, zk23), (36, zk24), (37, zk25), (38, zk12), (39, zk12), (40, zk12), (41, zk12), (42, zk11), (43, zk11), (44, zk26), (45, zk12), (46, zk12), (47, zk12), (48, zk12), (49, zk11), (50, zk11), (51, zk27), (52, zk12), (53, zk12), (54, zk12), (55, zk12), (56, zk11), (57, zk11), (58, zk28), (59, zk12), (60, zk12), (61, zk12), (62, zk12), (63, zk11), (64, zk11), (65, zk29), (66, zk12), (67, zk12), (68, zk12), (69, zk12), (70, zk11), (71, zk11), (72, zk30), (73, zk12), (74, zk12), (75, zk12), (76, zk12), (77, zk11), (78, zk11), (79, zk31), (80, zk12), (81, zk12), (82, zk12), (83, zk12), (84, zk11), (85, zk11), (86, zk32), (87, zk12), (88, zk12), (89, zk12), (90, zk12), (91, zk11), (92, zk11), (93, zk33), (94, zk12), (95, zk12), (96, zk12), (97, zk12), (98, zk11), (99, zk11), (100, zk34), (101, zk12), (102, zk12), (103, zk12), (104, zk12), (105, zk11), (106, zk11), (107, zk35), (108, zk12), (109, zk12), (110, zk12), (111, zk12), (112, zk11), (113, zk11), (114, zk36), (115, zk12), (116, zk12), (117, zk12), (118, zk12), (119, zk11), (120, zk11), (121, zk37), (122, zk12), (123, zk12), (124, zk12), (125, zk12), (126, zk11), (127, zk11), (128, zk38), (129, zk12), (130, zk12), (131, zk12), (132, zk12), (133, zk11), (134, zk11), (135, zk39), (136, zk12), (137, zk12), (138, zk12), (139, zk12), (140, zk11), (141, zk11), (142, zk40), (143, zk12), (144, zk12), (145, zk12), (146, zk12), (147, zk11), (148, zk11), (149, zk41), (150, zk12), (151, zk12), (152, zk12), (153, zk12), (154, zk11), (155, zk11), (156, zk42), (157, zk12), (158, zk12), (159, zk12), (160, zk12), (161, zk11), (162, zk11), (163, zk43), (164, zk12), (165, zk12), (166, zk12), (167, zk12), (168, zk11), (169, zk11), (170, zk44), (171, zk12), (172, zk12), (173, zk12), (174, zk12), (175, zk11), (176, zk11), (177, zk45), (178, zk12), (179, zk12), (180, zk12), (181, zk12), (182, zk11), (183, zk11), (184, zk46), (185, zk12), (186, zk12), (187, zk12), (188, zk12), (189, zk11), (190, zk11), (191, zk47), (192, zk12), (193, zk12), (194, zk12), (195, zk12), (196, zk11), (197, zk11), (198, zk48), (199, zk12), (200, zk12), (201, zk12), (202, zk12), (203, zk11), (204, zk11), (205, zk49), (206, zk12), (207, zk12), (208, zk12), (209, zk12), (210, zk11), (211, zk11), (212, zk50), (213, zk12), (214, zk12), (215, zk12), (216, zk12), (217, zk11), (218, zk11), (219, zk51), (220, zk12), (221, zk12), (222, zk12), (223, zk12), (224, zk11), (225, zk11), (226, zk52), (227, zk12), (228, zk12), (229, zk12), (230, zk12), (231, zk11), (232, zk11), (233, zk53), (234, zk12), (235, zk12), (236, zk12), (237, zk12), (238, zk11), (239, zk11), (240, zk54), (241, zk12), (242, zk12), (243, zk12), (244, zk12), (245, zk11), (246, zk11)]
noncomputable def al_X8_hours_4 : zAq := [(some (.inl 8589934591), [(0, zk1), (9, zk21), (11, zk12), (12, zk12), (15, zk5), (16, zk18), (17, zk18), (18, zk19), (19, zk4), (20, zk9), (21, zk88), (22, zk12), (23, zk57), (24, zk57), (25, zk57), (26, zk58), (27, zk58), (35, zk55), (36, zk24), (37, zk56), (38, zk57), (39, zk57), (40, zk57), (41, zk57), (42, zk58), (43, zk58), (44, zk59), (45, zk57), (46, zk57), (47, zk57), (48, zk57), (49, zk58), (50, zk58), (51, zk60), (52, zk57), (53, zk57), (54, zk57), (55, zk57), (56, zk58), (57, zk58), (58, zk61), (59, zk57), (60, zk57), (61, zk57), (62, zk57), (63, zk58), (64, zk58), (65, zk62), (66, zk57), (67, zk57), (68, zk57), (69, zk57), (70, zk58), (71, zk58), (72, zk63), (73, zk57), (74, zk57), (75, zk57), (76, zk57), (77, zk58), (78, zk58), (79, zk64), (80, zk57), (81, zk57), (82, zk57), (83, zk57), (84, zk58), (85, zk58), (86, zk65), (87, zk57), (88, zk57), (89, zk57), (90, zk57), (91, zk58), (92, zk58), (93, zk66), (94, zk57), (95, zk57), (96, zk57), (97, zk57), (98, zk58), (99, zk58), (100, zk67), (101, zk57), (102, zk57), (103, zk57), (104, zk57), (105, zk58), (106, zk58), (107, zk68), (108, zk57), (109, zk57), (110, zk57), (111, zk57), (112, zk58), (113, zk58), (114, zk69), (115, zk57), (116, zk57), (117, zk57), (118, zk57), (119, zk58), (120, zk58), (121, zk70), (122, zk57), (123, zk57), (124, zk57), (125, zk57), (126, zk58), (127, zk58), (128, zk71), (129, zk57), (130, zk57), (131, zk57), (132, zk57), (133, zk58), (134, zk58), (135, zk72), (136, zk57), (137, zk57), (138, zk57), (139, zk57), (140, zk58), (141, zk58), (142, zk73), (143, zk57), (144, zk57), (145, zk57), (146, zk57), (147, zk58), (148, zk58), (149, zk74), (150, zk57), (151, zk57), (152, zk57), (153, zk57), (154, zk58), (155, zk58), (156, zk75), (157, zk57), (158, zk57), (159, zk57), (160, zk57), (161, zk58), (162, zk58), (163, zk76), (164, zk57), (165, zk57), (166, zk57), (167, zk57), (168, zk58), (169, zk58), (170, zk77), (171, zk57), (172, zk57), (173, zk57), (174, zk57), (175, zk58), (176, zk58), (177, zk78), (178, zk57), (179, zk57), (180, zk57), (181, zk57), (182, zk58), (183, zk58), (184, zk79), (185, zk57), (186, zk57), (187, zk57), (188, zk57), (189, zk58), (190, zk58), (191, zk80), (192, zk57), (193, zk57), (194, zk57), (195, zk57), (196, zk58), (197, zk58), (198, zk81), (199, zk57), (200, zk57), (201, zk57), (202, zk57), (203, zk58), (204, zk58), (205, zk82), (206, zk57), (207, zk57), (208, zk57), (209, zk57), (210, zk58), (211, zk58), (212, zk83), (213, zk57), (214, zk57), (215, zk57), (216, zk57), (217, zk58), (218, zk58), (219, zk84), (220, zk57), (221, zk57), (222, zk57), (223, zk57), (224, zk58), (225, zk58), (226, zk85), (227, zk57), (228, zk57), (229, zk57), (230, zk57), (231, zk58), (232, zk58), (233, zk86), (234, zk57), (235, zk57), (236, zk57), (237, zk57), (238, zk58), (239, zk58), (240, zk87), (241, zk57), (242, zk57), (243, zk57), (244, zk57), (245, zk58), (246, zk58)])]
noncomputable def fm_X8_hours_4 : List zFm := [(0, [], (fun vs => [.inr (.ref 0), .inl 9223372047592194096]), (fun vs => zP q_X8_hours_4), (fun vs => Nat.sub (Nat.add 0 0) 0))]
def bf_X8_hours_4 : List Nat := []
theorem r_X8_hours_4_0 : zbox [] (fun vs => zFrun (zpost (zAlq al_X8_hours_4)) 1000 t_X8_hours fm_X8_hours_4 bf_X8_hours_4 (0, vs)) = true := by decide +kernel
set_option maxRecDepth 100000 in
theorem x_X8_hours_4 (d : Nat) : zS l G gh (d + 6) (zpost (zAlq al_X8_hours_4)) n_X8_hours (zn 0 p_X8_hours 0) (zwc (0, [.inr (.ref 0), .inl 9223372047592194096], zP q_X8_hours_4) 0) := zentry (tt_X8_hours d) fm_X8_hours_4 bf_X8_hours_4 1000 (by decide +kernel) rfl ⟨Nat.zero_lt_succ _, trivial⟩ (fun f hf => match f, hf with
  | 0, _ => fun vs hv => (zbox_t r_X8_hours_4_0) vs hv
  | f + 1, h => absurd (show f + 1 < 1 from h) (Nat.not_lt.mpr (Nat.le_add_left 1 f)))
noncomputable def gs_X8_hours_4 : zMt := zgq false [] 2 [.inr (.ref 0), .inl 9223372047592194096] q_X8_hours_4 al_X8_hours_4
set_option maxRecDepth 100000 in
theorem cs_X8_hours_4 (d : Nat) : zC l G gh (d + 6) n_X8_hours gs_X8_hours_4 := zgq_ok0 (pcs := p_X8_hours) (by decide) rfl rfl (fun a ha => by simp only [al_X8_hours_4, List.mem_cons, List.not_mem_nil, or_false] at ha; rcases ha with rfl <;> decide +kernel) (fun gh => x_X8_hours_4 d) (by decide +kernel)
def q_X8_hours_5 : List (Nat × Nat) := []
noncomputable def al_X8_hours_5 : zAq := [(some (.inl 2147483647), [])]
noncomputable def fm_X8_hours_5 : List zFm := [(0, [], (fun vs => [.inr (.ref 0), .inl 6442450943]), (fun vs => zP q_X8_hours_5), (fun vs => Nat.sub (Nat.add 0 0) 0))]
def bf_X8_hours_5 : List Nat := []
theorem r_X8_hours_5_0 : zbox [] (fun vs => zFrun (zpost (zAlq al_X8_hours_5)) 1000 t_X8_hours fm_X8_hours_5 bf_X8_hours_5 (0, vs)) = true := by decide +kernel
set_option maxRecDepth 100000 in
theorem x_X8_hours_5 (d : Nat) : zS l G gh (d + 6) (zpost (zAlq al_X8_hours_5)) n_X8_hours (zn 0 p_X8_hours 0) (zwc (0, [.inr (.ref 0), .inl 6442450943], zP q_X8_hours_5) 0) := zentry (tt_X8_hours d) fm_X8_hours_5 bf_X8_hours_5 1000 (by decide +kernel) rfl ⟨Nat.zero_lt_succ _, trivial⟩ (fun f hf => match f, hf with
  | 0, _ => fun vs hv => (zbox_t r_X8_hours_5_0) vs hv
  | f + 1, h => absurd (show f + 1 < 1 from h) (Nat.not_lt.mpr (Nat.le_add_left 1 f)))
noncomputable def gs_X8_hours_5 : zMt := zgq false [] 2 [.inr (.ref 0), .inl 6442450943] q_X8_hours_5 al_X8_hours_5
set_option maxRecDepth 100000 in
theorem cs_X8_hours_5 (d : Nat) : zC l G gh (d + 6) n_X8_hours gs_X8_hours_5 := zgq_ok0 (pcs := p_X8_hours) (by decide) rfl rfl (fun a ha => by simp only [al_X8_hours_5, List.mem_cons, List.not_mem_nil, or_false] at ha; rcases ha with rfl <;> decide +kernel) (fun gh => x_X8_hours_5 d) (by decide +kernel)
def q_X8_hours_6 : List (Nat × Nat) := [(0, zk1), (21, zk10)]
noncomputable def al_X8_hours_6 : zAq := [(some (.inl 8589934591), [(0, zk1), (21, zk10)])]
noncomputable def fm_X8_hours_6 : List zFm := [(0, [], (fun vs => [.inr (.ref 0), .inl 2147483648]), (fun vs => zP q_X8_hours_6), (fun vs => Nat.sub (Nat.add 0 0) 0))]
def bf_X8_hours_6 : List Nat := []
theorem r_X8_hours_6_0 : zbox [] (fun vs => zFrun (zpost (zAlq al_X8_hours_6)) 1000 t_X8_hours fm_X8_hours_6 bf_X8_hours_6 (0, vs)) = true := by decide +kernel
set_option maxRecDepth 100000 in
theorem x_X8_hours_6 (d : Nat) : zS l G gh (d + 6) (zpost (zAlq al_X8_hours_6)) n_X8_hours (zn 0 p_X8_hours 0) (zwc (0, [.inr (.ref 0), .inl 2147483648], zP q_X8_hours_6) 0) := zentry (tt_X8_hours d) fm_X8_hours_6 bf_X8_hours_6 1000 (by decide +kernel) rfl ⟨Nat.zero_lt_succ _, trivial⟩ (fun f hf => match f, hf with
  | 0, _ => fun vs hv => (zbox_t r_X8_hours_6_0) vs hv
  | f + 1, h => absurd (show f + 1 < 1 from h) (Nat.not_lt.mpr (Nat.le_add_left 1 f)))
noncomputable def gs_X8_hours_6 : zMt := zgq false [] 2 [.inr (.ref 0), .inl 2147483648] q_X8_hours_6 al_X8_hours_6
set_option maxRecDepth 100000 in
theorem cs_X8_hours_6 (d : Nat) : zC l G gh (d + 6) n_X8_hours gs_X8_hours_6 := zgq_ok0 (pcs := p_X8_hours) (by decide) rfl rfl (fun a ha => by simp only [al_X8_hours_6, List.mem_cons, List.not_mem_nil, or_false] at ha; rcases ha with rfl <;> decide +kernel) (fun gh => x_X8_hours_6 d) (by decide +kernel)
def q_X8_hours_7 : List (Nat × Nat) := []
noncomputable def al_X8_hours_7 : zAq := [(some (.inl 2147483647), [])]
noncomputable def fm_X8_hours_7 : List zFm := [(0, [], (fun vs => [.inr (.ref 0), .inl 9223372255898107903]), (fun vs => zP q_X8_hours_7), (fun vs => Nat.sub (Nat.add 0 0) 0))]
def bf_X8_hours_7 : List Nat := []
theorem r_X8_hours_7_0 : zbox [] (fun vs => zFrun (zpost (zAlq al_X8_hours_7)) 1000 t_X8_hours fm_X8_hours_7 bf_X8_hours_7 (0, vs)) = true := by decide +kernel
set_option maxRecDepth 100000 in
theorem x_X8_hours_7 (d : Nat) : zS l G gh (d + 6) (zpost (zAlq al_X8_hours_7)) n_X8_hours (zn 0 p_X8_hours 0) (zwc (0, [.inr (.ref 0), .inl 9223372255898107903], zP q_X8_hours_7) 0) := zentry (tt_X8_hours d) fm_X8_hours_7 bf_X8_hours_7 1000 (by decide +kernel) rfl ⟨Nat.zero_lt_succ _, trivial⟩ (fun f hf => match f, hf with
  | 0, _ => fun vs hv => (zbox_t r_X8_hours_7_0) vs hv
  | f + 1, h => absurd (show f + 1 < 1 from h) (Nat.not_lt.mpr (Nat.le_add_left 1 f)))
noncomputable def gs_X8_hours_7 : zMt := zgq false [] 2 [.inr (.ref 0), .inl 9223372255898107903] q_X8_hours_7 al_X8_hours_7
set_option maxRecDepth 100000 in
theorem cs_X8_hours_7 (d : Nat) : zC l G gh (d + 6) n_X8_hours gs_X8_hours_7 := zgq_ok0 (pcs := p_X8_hours) (by decide) rfl rfl (fun a ha => by simp only [al_X8_hours_7, List.mem_cons, List.not_mem_nil, or_false] at ha; rcases ha with rfl <;> decide +kernel) (fun gh => x_X8_hours_7 d) (by decide +kernel)
noncomputable def gs_X8_hours : zMt := (zor gs_X8_hours_0 (zor gs_X8_hours_1 (zor gs_X8_hours_2 (zor gs_X8_hours_3 (zor gs_X8_hours_4 (zor gs_X8_hours_5 (zor gs_X8_hours_6 gs_X8_hours_7)))))))
theorem cs_X8_hours (d : Nat) : zC l G gh (d + 6) n_X8_hours gs_X8_hours := (zor_ok (cs_X8_hours_0 d) (zor_ok (cs_X8_hours_1 d) (zor_ok (cs_X8_hours_2 d) (zor_ok (cs_X8_hours_3 d) (zor_ok (cs_X8_hours_4 d) (zor_ok (cs_X8_hours_5 d) (zor_ok (cs_X8_hours_6 d) (cs_X8_hours_7 d))))))))
def p_X8_sight : List Nat := [0, 7, 15, 22, 24, 63, 68, 70]
noncomputable def b_X8_sight_0 : zBl := fun jp K => oIld 1 <| oCs 1 f_X8_isX <| oIf zeq zne (jp 3) (jp 1)
theorem s_X8_sight_0 (d : Nat) : zPb l G gh (d + 6) n_X8_sight p_X8_sight 0 b_X8_sight_0 := fun K jp hj =>
    z_iload_n (n := 1) (i := 1) (zd (i := .iload_n 1) (n := 1) (by decide +kernel)) rfl <|
    z_callS (idx := 175) (N := n_X8_isX) (zd (i := .invokestatic 175) (n := 3) (by decide +kernel)) to_X8_isX g805 g806 rfl rfl (c_X8_isX (l := l) (G := G) (gh := gh) (d + 4)) <|
    z_if_eq (off := 18) (tgt := 22) (zd (i := .ifCond .eq (18)) (n := 3) (by decide +kernel)) (by decide +kernel) (zj (hj 3) (by decide +kernel)) (zj (hj 1) (by decide +kernel))
noncomputable def b_X8_sight_1 : zBl := fun jp K => oAld 0 <| oIld 2 <| oCv 8 1 f_X8_isThing <| oIf zeq zne (jp 3) (jp 2)
theorem s_X8_sight_1 (d : Nat) : zPb l G gh (d + 6) n_X8_sight p_X8_sight 7 b_X8_sight_1 := fun K jp hj =>
    z_aload_n (n := 0) (i := 0) (zd (i := .aload_n 0) (n := 1) (by decide +kernel)) rfl <|
    z_iload_n (n := 2) (i := 2) (zd (i := .iload_n 2) (n := 1) (by decide +kernel)) rfl <|
    z_callV (idx := 115) (ci := 8) (N := n_X8_isThing) (zd (i := .invokevirtual 115) (n := 3) (by decide +kernel)) to_X8_isThing g708 g710 g17 (by decide +kernel) rfl rfl rfl (c_X8_isThing (l := l) (G := G) (gh := gh) (d + 4)) <|
    z_if_eq (off := 10) (tgt := 22) (zd (i := .ifCond .eq (10)) (n := 3) (by decide +kernel)) (by decide +kernel) (zj (hj 3) (by decide +kernel)) (zj (hj 2) (by decide +kernel))
noncomputable def b_X8_sight_2 : zBl := fun jp K => oIld 3 <| oCs 1 f_X8_isAhead <| oIf zne zeq (jp 4) (jp 3)
theorem s_X8_sight_2 (d : Nat) : zPb l G gh (d + 6) n_X8_sight p_X8_sight 15 b_X8_sight_2 := fun K jp hj =>
    z_iload_n (n := 3) (i := 3) (zd (i := .iload_n 3) (n := 1) (by decide +kernel)) rfl <|
    z_callS (idx := 207) (N := n_X8_isAhead) (zd (i := .invokestatic 207) (n := 3) (by decide +kernel)) to_X8_isAhead g862 g863 rfl rfl (c_X8_isAhead (l := l) (G := G) (gh := gh) (d + 4)) <|
    z_if_ne (off := 5) (tgt := 24) (zd (i := .ifCond .ne (5)) (n := 3) (by decide +kernel)) (by decide +kernel) (zj (hj 4) (by decide +kernel)) (zj (hj 3) (by decide +kernel))
noncomputable def b_X8_sight_3 : zBl := fun jp K => oInt 2147483647 <| oIret K
theorem s_X8_sight_3 (d : Nat) : zPb l G gh (d + 6) n_X8_sight p_X8_sight 22 b_X8_sight_3 := fun K jp hj =>
    z_iconst (n := -1) (zd (i := .iconst (-1)) (n := 1) (by decide +kernel)) (by decide +kernel) <|
    z_iret (zd (i := .ireturn) (n := 1) (by decide +kernel)) rfl
noncomputable def b_X8_sight_4 : zBl := fun jp K => oAld 0 <| oGetR 8 2 <| oGetI 4 0 <| oIld 3 <| oB2 zadd <| oIst 4 <| oAld 0 <| oGetR 8 12 <| oIld 1 <| oIld 2 <| oIld 4 <| oAld 0 <| oGetR 8 12 <| oIld 4 <| oCv 0 1 f_X0_heat <| oCv 0 4 gs_X0_spotFrom <| oIst 5 <| oNLC 5 2147483647 zneN zeqN zn1_ne zn1_eq (jp 6) (jp 5)
theorem s_X8_sight_4 (d : Nat) : zPb l G gh (d + 6) n_X8_sight p_X8_sight 24 b_X8_sight_4 := fun K jp hj =>
    z_aload_n (n := 0) (i := 0) (zd (i := .aload_n 0) (n := 1) (by decide +kernel)) rfl <|
    z_getR (ci := 8) (j := 2) (idx := 26) (zd (i := .getfield 26) (n := 3) (by decide +kernel)) (by decide +kernel) (by decide +kernel) rfl g454 <|
    z_getI (ci := 4) (j := 0) (idx := 140) (zd (i := .getfield 140) (n := 3) (by decide +kernel)) (by decide +kernel) (by decide +kernel) rfl g368 <|
    z_iload_n (n := 3) (i := 3) (zd (i := .iload_n 3) (n := 1) (by decide +kernel)) rfl <|
    z_iadd (zd (i := .iadd) (n := 1) (by decide +kernel)) <|
    z_istore (i := 4) (zd (i := .istore 4) (n := 2) (by decide +kernel)) (by decide +kernel) <|
    z_aload_n (n := 0) (i := 0) (zd (i := .aload_n 0) (n := 1) (by decide +kernel)) rfl <|
    z_getR (ci := 8) (j := 12) (idx := 71) (zd (i := .getfield 71) (n := 3) (by decide +kernel)) (by decide +kernel) (by decide +kernel) rfl g464 <|
    z_iload_n (n := 1) (i := 1) (zd (i := .iload_n 1) (n := 1) (by decide +kernel)) rfl <|
    z_iload_n (n := 2) (i := 2) (zd (i := .iload_n 2) (n := 1) (by decide +kernel)) rfl <|
    z_iload (i := 4) (zd (i := .iload 4) (n := 2) (by decide +kernel)) <|
    z_aload_n (n := 0) (i := 0) (zd (i := .aload_n 0) (n := 1) (by decide +kernel)) rfl <|
    z_getR (ci := 8) (j := 12) (idx := 71) (zd (i := .getfield 71) (n := 3) (by decide +kernel)) (by decide +kernel) (by decide +kernel) rfl g464 <|
    z_iload (i := 4) (zd (i := .iload 4) (n := 2) (by decide +kernel)) <|
    z_callV (idx := 143) (ci := 0) (N := n_X0_heat) (zd (i := .invokevirtual 143) (n := 3) (by decide +kernel)) to_X0_heat g716 g717 g718 (by decide +kernel) rfl rfl rfl (c_X0_heat (l := l) (G := G) (gh := gh) (d + 1)) <|
    z_callV (idx := 224) (ci := 0) (N := n_X0_spotFrom) (zd (i := .invokevirtual 224) (n := 3) (by decide +kernel)) to_X0_spotFrom g901 g902 g903 (by decide +kernel) rfl rfl rfl (cs_X0_spotFrom (l := l) (G := G) (gh := gh) (d)) <|
    z_istore (i := 5) (zd (i := .istore 5) (n := 2) (by decide +kernel)) (by decide +kernel) <|
    z_nLC_ne (i := 5) (c0 := 2147483647) (a1 := 2) (a2 := 1) (off := 8) (tgt := 68) (zLd_w (i := 5) (zd (i := .iload 5) (n := 2) (by decide +kernel))) (zCn_c (n := -1) (zd (i := .iconst (-1)) (n := 1) (by decide +kernel)) (by decide +kernel)) (zd (i := .if_icmp .ne (8)) (n := 3) (by decide +kernel)) (by decide +kernel) (zj (hj 6) (by decide +kernel)) (zj (hj 5) (by decide +kernel))
noncomputable def b_X8_sight_5 : zBl := fun jp K => oInt 2147483646 <| jp 7
theorem s_X8_sight_5 (d : Nat) : zPb l G gh (d + 6) n_X8_sight p_X8_sight 63 b_X8_sight_5 := fun K jp hj =>
    z_bipush (n := -2) (zd (i := .bipush (-2)) (n := 2) (by decide +kernel)) (by decide +kernel) <|
    z_goto (off := 5) (tgt := 70) (zd (i := .goto (5)) (n := 3) (by decide +kernel)) (by decide +kernel) (zj (hj 7) (by decide +kernel))
noncomputable def b_X8_sight_6 : zBl := fun jp K => oIld 5 <| jp 7
theorem s_X8_sight_6 (d : Nat) : zPb l G gh (d + 6) n_X8_sight p_X8_sight 68 b_X8_sight_6 := fun K jp hj =>
    z_iload (i := 5) (zd (i := .iload 5) (n := 2) (by decide +kernel)) <|
    (zj (hj 7) (by decide +kernel))
noncomputable def b_X8_sight_7 : zBl := fun jp K => oIret K
theorem s_X8_sight_7 (d : Nat) : zPb l G gh (d + 6) n_X8_sight p_X8_sight 70 b_X8_sight_7 := fun K jp hj =>
    z_iret (zd (i := .ireturn) (n := 1) (by decide +kernel)) rfl
noncomputable def t_X8_sight : List zBl := [b_X8_sight_0, b_X8_sight_1, b_X8_sight_2, b_X8_sight_3, b_X8_sight_4, b_X8_sight_5, b_X8_sight_6, b_X8_sight_7]
theorem tt_X8_sight (d : Nat) : zT (zPb l G gh (d + 6) n_X8_sight p_X8_sight) t_X8_sight p_X8_sight := ⟨s_X8_sight_0 d, s_X8_sight_1 d, s_X8_sight_2 d, s_X8_sight_3 d, s_X8_sight_4 d, s_X8_sight_5 d, s_X8_sight_6 d, s_X8_sight_7 d, trivial⟩
def q_X8_sight_0 : List (Nat × Nat) := [(0, zk0), (21, zk10), (259, zk20), (261, zk12), (262, zk12), (265, zk2), (266, zk18), (267, zk18), (268, zk19), (269, zk3), (270, zk7)]
noncomputable def al_X8_sight_0 : zAq := [(some (.inl 9223372034707292179), [(0, zk0), (21, zk10), (259, zk20), (261, zk12), (262, zk12), (265, zk2), (266, zk18), (267, zk18), (268, zk19), (269, zk4), (270, zk9)])]
noncomputable def fm_X8_sight_0 : List zFm := [(0, [], (fun vs => [.inr (.ref 0), .inl 8589934591, .inl 9223372043297226757, .inl 8589934591]), (fun vs => zP q_X8_sight_0), (fun vs => Nat.sub (Nat.add 0 0) 0))]
def bf_X8_sight_0 : List Nat := []
theorem r_X8_sight_0_0 : zbox [] (fun vs => zFrun (zpost (zAlq al_X8_sight_0)) 1000 t_X8_sight fm_X8_sight_0 bf_X8_sight_0 (0, vs)) = true := by decide +kernel
set_option maxRecDepth 100000 in
theorem x_X8_sight_0 (d : Nat) : zS l G gh (d + 6) (zpost (zAlq al_X8_sight_0)) n_X8_sight (zn 0 p_X8_sight 0) (zwc (0, [.inr (.ref 0), .inl 8589934591, .inl 9223372043297226757, .inl 8589934591], zP q_X8_sight_0) 0) := zentry (tt_X8_sight d) fm_X8_sight_0 bf_X8_sight_0 1000 (by decide +kernel) rfl ⟨Nat.zero_lt_succ _, trivial⟩ (fun f hf => match f, hf with
  | 0, _ => fun vs hv => (zbox_t r_X8_sight_0_0) vs hv
  | f + 1, h => absurd (show f + 1 < 1 from h) (Nat.not_lt.mpr (Nat.le_add_left 1 f)))
noncomputable def gs_X8_sight_0 : zMt := zgq false [] 6 [.inr (.ref 0), .inl 8589934591, .inl 9223372043297226757, .inl 8589934591] q_X8_sight_0 al_X8_sight_0
set_option maxRecDepth 100000 in
theorem cs_X8_sight_0 (d : Nat) : zC l G gh (d + 6) n_X8_sight gs_X8_sight_0 := zgq_ok0 (pcs := p_X8_sight) (by decide) rfl rfl (fun a ha => by simp only [al_X8_sight_0, List.mem_cons, List.not_mem_nil, or_false] at ha; rcases ha with rfl <;> decide +kernel) (fun gh => x_X8_sight_0 d) (by decide +kernel)
def q_X8_sight_1 : List (Nat × Nat) := [(0, zk0)]
noncomputable def al_X8_sight_1 : zAq := [(some (.inl 2147483647), [(0, zk0)])]
noncomputable def fm_X8_sight_1 : List zFm := [(0, [], (fun vs => [.inr (.ref 0), .inl 8589934591, .inl 6442450943, .inl 8589934591]), (fun vs => zP q_X8_sight_1), (fun vs => Nat.sub (Nat.add 0 0) 0))]
def bf_X8_sight_1 : List Nat := []
theorem r_X8_sight_1_0 : zbox [] (fun vs => zFrun (zpost (zAlq al_X8_sight_1)) 1000 t_X8_sight fm_X8_sight_1 bf_X8_sight_1 (0, vs)) = true := by decide +kernel
set_option maxRecDepth 100000 in
theorem x_X8_sight_1 (d : Nat) : zS l G gh (d + 6) (zpost (zAlq al_X8_sight_1)) n_X8_sight (zn 0 p_X8_sight 0) (zwc (0, [.inr (.ref 0), .inl 8589934591, .inl 6442450943, .inl 8589934591], zP q_X8_sight_1) 0) := zentry (tt_X8_sight d) fm_X8_sight_1 bf_X8_sight_1 1000 (by decide +kernel) rfl ⟨Nat.zero_lt_succ _, trivial⟩ (fun f hf => match f, hf with
  | 0, _ => fun vs hv => (zbox_t r_X8_sight_1_0) vs hv
  | f + 1, h => absurd (show f + 1 < 1 from h) (Nat.not_lt.mpr (Nat.le_add_left 1 f)))
noncomputable def gs_X8_sight_1 : zMt := zgq false [] 6 [.inr (.ref 0), .inl 8589934591, .inl 6442450943, .inl 8589934591] q_X8_sight_1 al_X8_sight_1
set_option maxRecDepth 100000 in
theorem cs_X8_sight_1 (d : Nat) : zC l G gh (d + 6) n_X8_sight gs_X8_sight_1 := zgq_ok0 (pcs := p_X8_sight) (by decide) rfl rfl (fun a ha => by simp only [al_X8_sight_1, List.mem_cons, List.not_mem_nil, or_false] at ha; rcases ha with rfl <;> decide +kernel) (fun gh => x_X8_sight_1 d) (by decide +kernel)
def q_X8_sight_2 : List (Nat × Nat) := [(0, zk0), (259, zk20)]
noncomputable def al_X8_sight_2 : zAq := [(some (.inl 2147483647), [(0, zk0), (259, zk20)])]
noncomputable def fm_X8_sight_2 : List zFm := [(0, [], (fun vs => [.inr (.ref 0), .inl 8589934591, .inl 9223372071214514175, .inl 8589934591]), (fun vs => zP q_X8_sight_2), (fun vs => Nat.sub (Nat.add 0 0) 0))]
def bf_X8_sight_2 : List Nat := []
theorem r_X8_sight_2_0 : zbox [] (fun vs => zFrun (zpost (zAlq al_X8_sight_2)) 1000 t_X8_sight fm_X8_sight_2 bf_X8_sight_2 (0, vs)) = true := by decide +kernel
set_option maxRecDepth 100000 in
theorem x_X8_sight_2 (d : Nat) : zS l G gh (d + 6) (zpost (zAlq al_X8_sight_2)) n_X8_sight (zn 0 p_X8_sight 0) (zwc (0, [.inr (.ref 0), .inl 8589934591, .inl 9223372071214514175, .inl 8589934591], zP q_X8_sight_2) 0) := zentry (tt_X8_sight d) fm_X8_sight_2 bf_X8_sight_2 1000 (by decide +kernel) rfl ⟨Nat.zero_lt_succ _, trivial⟩ (fun f hf => match f, hf with
  | 0, _ => fun vs hv => (zbox_t r_X8_sight_2_0) vs hv
  | f + 1, h => absurd (show f + 1 < 1 from h) (Nat.not_lt.mpr (Nat.le_add_left 1 f)))
noncomputable def gs_X8_sight_2 : zMt := zgq false [] 6 [.inr (.ref 0), .inl 8589934591, .inl 9223372071214514175, .inl 8589934591] q_X8_sight_2 al_X8_sight_2
set_option maxRecDepth 100000 in
theorem cs_X8_sight_2 (d : Nat) : zC l G gh (d + 6) n_X8_sight gs_X8_sight_2 := zgq_ok0 (pcs := p_X8_sight) (by decide) rfl rfl (fun a ha => by simp only [al_X8_sight_2, List.mem_cons, List.not_mem_nil, or_false] at ha; rcases ha with rfl <;> decide +kernel) (fun gh => x_X8_sight_2 d) (by decide +kernel)
def q_X8_sight_3 : List (Nat × Nat) := [(0, zk1), (9, zk21), (11, zk12), (12, zk12), (15, zk5), (16, zk18), (17, zk18), (18, zk19), (19, zk3), (20, zk7), (21, zk10)]
noncomputable def al_X8_sight_3 : zAq := [(some (.inl 9223372034707292179), [(0, zk1), (9, zk21), (11, zk12), (12, zk12), (15, zk5), (16, zk18), (17, zk18), (18, zk19), (19, zk4), (20, zk9), (21, zk10)])]
noncomputable def fm_X8_sight_3 : List zFm := [(0, [], (fun vs => [.inr (.ref 0), .inl 8589934591, .inl 9223372043297226757, .inl 8589934591]), (fun vs => zP q_X8_sight_3), (fun vs => Nat.sub (Nat.add 0 0) 0))]
def bf_X8_sight_3 : List Nat := []
theorem r_X8_sight_3_0 : zbox [] (fun vs => zFrun (zpost (zAlq al_X8_sight_3)) 1000 t_X8_sight fm_X8_sight_3 bf_X8_sight_3 (0, vs)) = true := by decide +kernel
set_option maxRecDepth 100000 in
theorem x_X8_sight_3 (d : Nat) : zS l G gh (d + 6) (zpost (zAlq al_X8_sight_3)) n_X8_sight (zn 0 p_X8_sight 0) (zwc (0, [.inr (.ref 0), .inl 8589934591, .inl 9223372043297226757, .inl 8589934591], zP q_X8_sight_3) 0) := zentry (tt_X8_sight d) fm_X8_sight_3 bf_X8_sight_3 1000 (by decide +kernel) rfl ⟨Nat.zero_lt_succ _, trivial⟩ (fun f hf => match f, hf with
  | 0, _ => fun vs hv => (zbox_t r_X8_sight_3_0) vs hv
  | f + 1, h => absurd (show f + 1 < 1 from h) (Nat.not_lt.mpr (Nat.le_add_left 1 f)))
noncomputable def gs_X8_sight_3 : zMt := zgq false [] 6 [.inr (.ref 0), .inl 8589934591, .inl 9223372043297226757, .inl 8589934591] q_X8_sight_3 al_X8_sight_3
set_option maxRecDepth 100000 in
theorem cs_X8_sight_3 (d : Nat) : zC l G gh (d + 6) n_X8_sight gs_X8_sight_3 := zgq_ok0 (pcs := p_X8_sight) (by decide) rfl rfl (fun a ha => by simp only [al_X8_sight_3, List.mem_cons, List.not_mem_nil, or_false] at ha; rcases ha with rfl <;> decide +kernel) (fun gh => x_X8_sight_3 d) (by decide +kernel)
def q_X8_sight_4 : List (Nat × Nat) := [(0, zk1)]
noncomputable def al_X8_sight_4 : zAq := [(some (.inl 2147483647), [(0, zk1)])]
noncomputable def fm_X8_sight_4 : List zFm := [(0, [], (fun vs => [.inr (.ref 0), .inl 8589934591, .inl 6442450943, .inl 8589934591]), (fun vs => zP q_X8_sight_4), (fun vs => Nat.sub (Nat.add 0 0) 0))]
def bf_X8_sight_4 : List Nat := []
theorem r_X8_sight_4_0 : zbox [] (fun vs => zFrun (zpost (zAlq al_X8_sight_4)) 1000 t_X8_sight fm_X8_sight_4 bf_X8_sight_4 (0, vs)) = true := by decide +kernel
set_option maxRecDepth 100000 in
theorem x_X8_sight_4 (d : Nat) : zS l G gh (d + 6) (zpost (zAlq al_X8_sight_4)) n_X8_sight (zn 0 p_X8_sight 0) (zwc (0, [.inr (.ref 0), .inl 8589934591, .inl 6442450943, .inl 8589934591], zP q_X8_sight_4) 0) := zentry (tt_X8_sight d) fm_X8_sight_4 bf_X8_sight_4 1000 (by decide +kernel) rfl ⟨Nat.zero_lt_succ _, trivial⟩ (fun f hf => match f, hf with
  | 0, _ => fun vs hv => (zbox_t r_X8_sight_4_0) vs hv
  | f + 1, h => absurd (show f + 1 < 1 from h) (Nat.not_lt.mpr (Nat.le_add_left 1 f)))
noncomputable def gs_X8_sight_4 : zMt := zgq false [] 6 [.inr (.ref 0), .inl 8589934591, .inl 6442450943, .inl 8589934591] q_X8_sight_4 al_X8_sight_4
set_option maxRecDepth 100000 in
theorem cs_X8_sight_4 (d : Nat) : zC l G gh (d + 6) n_X8_sight gs_X8_sight_4 := zgq_ok0 (pcs := p_X8_sight) (by decide) rfl rfl (fun a ha => by simp only [al_X8_sight_4, List.mem_cons, List.not_mem_nil, or_false] at ha; rcases ha with rfl <;> decide +kernel) (fun gh => x_X8_sight_4 d) (by decide +kernel)
def q_X8_sight_5 : List (Nat × Nat) := [(0, zk1), (9, zk21)]
noncomputable def al_X8_sight_5 : zAq := [(some (.inl 2147483647), [(0, zk1), (9, zk21)])]
noncomputable def fm_X8_sight_5 : List zFm := [(0, [], (fun vs => [.inr (.ref 0), .inl 8589934591, .inl 9223372071214514175, .inl 8589934591]), (fun vs => zP q_X8_sight_5), (fun vs => Nat.sub (Nat.add 0 0) 0))]
def bf_X8_sight_5 : List Nat := []
theorem r_X8_sight_5_0 : zbox [] (fun vs => zFrun (zpost (zAlq al_X8_sight_5)) 1000 t_X8_sight fm_X8_sight_5 bf_X8_sight_5 (0, vs)) = true := by decide +kernel
set_option maxRecDepth 100000 in
theorem x_X8_sight_5 (d : Nat) : zS l G gh (d + 6) (zpost (zAlq al_X8_sight_5)) n_X8_sight (zn 0 p_X8_sight 0) (zwc (0, [.inr (.ref 0), .inl 8589934591, .inl 9223372071214514175, .inl 8589934591], zP q_X8_sight_5) 0) := zentry (tt_X8_sight d) fm_X8_sight_5 bf_X8_sight_5 1000 (by decide +kernel) rfl ⟨Nat.zero_lt_succ _, trivial⟩ (fun f hf => match f, hf with
  | 0, _ => fun vs hv => (zbox_t r_X8_sight_5_0) vs hv
  | f + 1, h => absurd (show f + 1 < 1 from h) (Nat.not_lt.mpr (Nat.le_add_left 1 f)))
noncomputable def gs_X8_sight_5 : zMt := zgq false [] 6 [.inr (.ref 0), .inl 8589934591, .inl 9223372071214514175, .inl 8589934591] q_X8_sight_5 al_X8_sight_5
set_option maxRecDepth 100000 in
theorem cs_X8_sight_5 (d : Nat) : zC l G gh (d + 6) n_X8_sight gs_X8_sight_5 := zgq_ok0 (pcs := p_X8_sight) (by decide) rfl rfl (fun a ha => by simp only [al_X8_sight_5, List.mem_cons, List.not_mem_nil, or_false] at ha; rcases ha with rfl <;> decide +kernel) (fun gh => x_X8_sight_5 d) (by decide +kernel)
noncomputable def gs_X8_sight : zMt := (zor gs_X8_sight_0 (zor gs_X8_sight_1 (zor gs_X8_sight_2 (zor gs_X8_sight_3 (zor gs_X8_sight_4 gs_X8_sight_5)))))
theorem cs_X8_sight (d : Nat) : zC l G gh (d + 6) n_X8_sight gs_X8_sight := (zor_ok (cs_X8_sight_0 d) (zor_ok (cs_X8_sight_1 d) (zor_ok (cs_X8_sight_2 d) (zor_ok (cs_X8_sight_3 d) (zor_ok (cs_X8_sight_4 d) (cs_X8_sight_5 d))))))
def p_X8_findSpotsLentOn : List Nat := [0, 17, 28, 30, 41, 67, 71, 96, 103, 109]
noncomputable def b_X8_findSpotsLentOn_0 : zBl := fun jp K => oAld 0 <| oGetR 8 12 <| oAld 0 <| oGetR 8 2 <| oGetI 4 0 <| oCv 0 1 f_X0_heat <| oIst 1 <| oInt 2147483648 <| oIst 2 <| jp 1
theorem s_X8_findSpotsLentOn_0 (d : Nat) : zPb l G gh (d + 6) n_X8_findSpotsLentOn p_X8_findSpotsLentOn 0 b_X8_findSpotsLentOn_0 := fun K jp hj =>
    z_aload_n (n := 0) (i := 0) (zd (i := .aload_n 0) (n := 1) (by decide +kernel)) rfl <|
    z_getR (ci := 8) (j := 12) (idx := 71) (zd (i := .getfield 71) (n := 3) (by decide +kernel)) (by decide +kernel) (by decide +kernel) rfl g464 <|
    z_aload_n (n := 0) (i := 0) (zd (i := .aload_n 0) (n := 1) (by decide +kernel)) rfl <|
    z_getR (ci := 8) (j := 2) (idx := 26) (zd (i := .getfield 26) (n := 3) (by decide +kernel)) (by decide +kernel) (by decide +kernel) rfl g454 <|
    z_getI (ci := 4) (j := 0) (idx := 140) (zd (i := .getfield 140) (n := 3) (by decide +kernel)) (by decide +kernel) (by decide +kernel) rfl g368 <|
    z_callV (idx := 143) (ci := 0) (N := n_X0_heat) (zd (i := .invokevirtual 143) (n := 3) (by decide +kernel)) to_X0_heat g716 g717 g718 (by decide +kernel) rfl rfl rfl (c_X0_heat (l := l) (G := G) (gh := gh) (d + 1)) <|
    z_istore_n (n := 1) (i := 1) (zd (i := .istore_n 1) (n := 1) (by decide +kernel)) rfl (by decide +kernel) <|
    z_iconst (n := 0) (zd (i := .iconst (0)) (n := 1) (by decide +kernel)) (by decide +kernel) <|
    z_istore_n (n := 2) (i := 2) (zd (i := .istore_n 2) (n := 1) (by decide +kernel)) rfl (by decide +kernel) <|
    (zj (hj 1) (by decide +kernel))
noncomputable def b_X8_findSpotsLentOn_1 : zBl := fun jp K => oIld 2 <| oAld 0 <| oGetR 8 12 <| oGetI 0 5 <| oIc zge zlt (jp 9) (jp 2)
theorem s_X8_findSpotsLentOn_1 (d : Nat) : zPb l G gh (d + 6) n_X8_findSpotsLentOn p_X8_findSpotsLentOn 17 b_X8_findSpotsLentOn_1 := fun K jp hj =>
    z_iload_n (n := 2) (i := 2) (zd (i := .iload_n 2) (n := 1) (by decide +kernel)) rfl <|
    z_aload_n (n := 0) (i := 0) (zd (i := .aload_n 0) (n := 1) (by decide +kernel)) rfl <|
    z_getR (ci := 8) (j := 12) (idx := 71) (zd (i := .getfield 71) (n := 3) (by decide +kernel)) (by decide +kernel) (by decide +kernel) rfl g464 <|
    z_getI (ci := 0) (j := 5) (idx := 230) (zd (i := .getfield 230) (n := 3) (by decide +kernel)) (by decide +kernel) (by decide +kernel) rfl g288 <|
    z_icmp_ge (off := 84) (tgt := 109) (zd (i := .if_icmp .ge (84)) (n := 3) (by decide +kernel)) (by decide +kernel) (zj (hj 9) (by decide +kernel)) (zj (hj 2) (by decide +kernel))
noncomputable def b_X8_findSpotsLentOn_2 : zBl := fun jp K => oInt 2147483648 <| oIst 3 <| jp 3
theorem s_X8_findSpotsLentOn_2 (d : Nat) : zPb l G gh (d + 6) n_X8_findSpotsLentOn p_X8_findSpotsLentOn 28 b_X8_findSpotsLentOn_2 := fun K jp hj =>
    z_iconst (n := 0) (zd (i := .iconst (0)) (n := 1) (by decide +kernel)) (by decide +kernel) <|
    z_istore_n (n := 3) (i := 3) (zd (i := .istore_n 3) (n := 1) (by decide +kernel)) rfl (by decide +kernel) <|
    (zj (hj 3) (by decide +kernel))
noncomputable def b_X8_findSpotsLentOn_3 : zBl := fun jp K => oIld 3 <| oAld 0 <| oGetR 8 12 <| oGetI 0 2 <| oIc zge zlt (jp 8) (jp 4)
theorem s_X8_findSpotsLentOn_3 (d : Nat) : zPb l G gh (d + 6) n_X8_findSpotsLentOn p_X8_findSpotsLentOn 30 b_X8_findSpotsLentOn_3 := fun K jp hj =>
    z_iload_n (n := 3) (i := 3) (zd (i := .iload_n 3) (n := 1) (by decide +kernel)) rfl <|
    z_aload_n (n := 0) (i := 0) (zd (i := .aload_n 0) (n := 1) (by decide +kernel)) rfl <|
    z_getR (ci := 8) (j := 12) (idx := 71) (zd (i := .getfield 71) (n := 3) (by decide +kernel)) (by decide +kernel) (by decide +kernel) rfl g464 <|
    z_getI (ci := 0) (j := 2) (idx := 236) (zd (i := .getfield 236) (n := 3) (by decide +kernel)) (by decide +kernel) (by decide +kernel) rfl g280 <|
    z_icmp_ge (off := 65) (tgt := 103) (zd (i := .if_icmp .ge (65)) (n := 3) (by decide +kernel)) (by decide +kernel) (zj (hj 8) (by decide +kernel)) (zj (hj 4) (by decide +kernel))
noncomputable def b_X8_findSpotsLentOn_4 : zBl := fun jp K => oIld 2 <| oIld 3 <| oCs 2 f_X8_loanOf <| oIst 4 <| oAld 0 <| oGetR 8 9 <| oIld 4 <| oAld 0 <| oGetR 8 2 <| oGetR 4 5 <| oIld 4 <| oXald 10 <| oIf zne zeq (jp 6) (jp 5)
theorem s_X8_findSpotsLentOn_4 (d : Nat) : zPb l G gh (d + 6) n_X8_findSpotsLentOn p_X8_findSpotsLentOn 41 b_X8_findSpotsLentOn_4 := fun K jp hj =>
    z_iload_n (n := 2) (i := 2) (zd (i := .iload_n 2) (n := 1) (by decide +kernel)) rfl <|
    z_iload_n (n := 3) (i := 3) (zd (i := .iload_n 3) (n := 1) (by decide +kernel)) rfl <|
    z_callS (idx := 166) (N := n_X8_loanOf) (zd (i := .invokestatic 166) (n := 3) (by decide +kernel)) to_X8_loanOf g764 g765 rfl rfl (c_X8_loanOf (l := l) (G := G) (gh := gh) (d + 4)) <|
    z_istore (i := 4) (zd (i := .istore 4) (n := 2) (by decide +kernel)) (by decide +kernel) <|
    z_aload_n (n := 0) (i := 0) (zd (i := .aload_n 0) (n := 1) (by decide +kernel)) rfl <|
    z_getR (ci := 8) (j := 9) (idx := 59) (zd (i := .getfield 59) (n := 3) (by decide +kernel)) (by decide +kernel) (by decide +kernel) rfl g461 <|
    z_iload (i := 4) (zd (i := .iload 4) (n := 2) (by decide +kernel)) <|
    z_aload_n (n := 0) (i := 0) (zd (i := .aload_n 0) (n := 1) (by decide +kernel)) rfl <|
    z_getR (ci := 8) (j := 2) (idx := 26) (zd (i := .getfield 26) (n := 3) (by decide +kernel)) (by decide +kernel) (by decide +kernel) rfl g454 <|
    z_getR (ci := 4) (j := 5) (idx := 169) (zd (i := .getfield 169) (n := 3) (by decide +kernel)) (by decide +kernel) (by decide +kernel) rfl g383 <|
    z_iload (i := 4) (zd (i := .iload 4) (n := 2) (by decide +kernel)) <|
    z_iald (zd (i := .iaload) (n := 1) (by decide +kernel)) <|
    z_if_ne (off := 7) (tgt := 71) (zd (i := .ifCond .ne (7)) (n := 3) (by decide +kernel)) (by decide +kernel) (zj (hj 6) (by decide +kernel)) (zj (hj 5) (by decide +kernel))
noncomputable def b_X8_findSpotsLentOn_5 : zBl := fun jp K => oInt 2147483647 <| jp 7
theorem s_X8_findSpotsLentOn_5 (d : Nat) : zPb l G gh (d + 6) n_X8_findSpotsLentOn p_X8_findSpotsLentOn 67 b_X8_findSpotsLentOn_5 := fun K jp hj =>
    z_iconst (n := -1) (zd (i := .iconst (-1)) (n := 1) (by decide +kernel)) (by decide +kernel) <|
    z_goto (off := 28) (tgt := 96) (zd (i := .goto (28)) (n := 3) (by decide +kernel)) (by decide +kernel) (zj (hj 7) (by decide +kernel))
noncomputable def b_X8_findSpotsLentOn_6 : zBl := fun jp K => oAld 0 <| oGetR 8 12 <| oAld 0 <| oGetR 8 2 <| oGetR 4 1 <| oIld 2 <| oXald 10 <| oIld 3 <| oAld 0 <| oGetR 8 2 <| oGetI 4 0 <| oIld 1 <| oCv 0 4 gs_X0_spotFrom <| jp 7
theorem s_X8_findSpotsLentOn_6 (d : Nat) : zPb l G gh (d + 6) n_X8_findSpotsLentOn p_X8_findSpotsLentOn 71 b_X8_findSpotsLentOn_6 := fun K jp hj =>
    z_aload_n (n := 0) (i := 0) (zd (i := .aload_n 0) (n := 1) (by decide +kernel)) rfl <|
    z_getR (ci := 8) (j := 12) (idx := 71) (zd (i := .getfield 71) (n := 3) (by decide +kernel)) (by decide +kernel) (by decide +kernel) rfl g464 <|
    z_aload_n (n := 0) (i := 0) (zd (i := .aload_n 0) (n := 1) (by decide +kernel)) rfl <|
    z_getR (ci := 8) (j := 2) (idx := 26) (zd (i := .getfield 26) (n := 3) (by decide +kernel)) (by decide +kernel) (by decide +kernel) rfl g454 <|
    z_getR (ci := 4) (j := 1) (idx := 134) (zd (i := .getfield 134) (n := 3) (by decide +kernel)) (by decide +kernel) (by decide +kernel) rfl g371 <|
    z_iload_n (n := 2) (i := 2) (zd (i := .iload_n 2) (n := 1) (by decide +kernel)) rfl <|
    z_iald (zd (i := .iaload) (n := 1) (by decide +kernel)) <|
    z_iload_n (n := 3) (i := 3) (zd (i := .iload_n 3) (n := 1) (by decide +kernel)) rfl <|
    z_aload_n (n := 0) (i := 0) (zd (i := .aload_n 0) (n := 1) (by decide +kernel)) rfl <|
    z_getR (ci := 8) (j := 2) (idx := 26) (zd (i := .getfield 26) (n := 3) (by decide +kernel)) (by decide +kernel) (by decide +kernel) rfl g454 <|
    z_getI (ci := 4) (j := 0) (idx := 140) (zd (i := .getfield 140) (n := 3) (by decide +kernel)) (by decide +kernel) (by decide +kernel) rfl g368 <|
    z_iload_n (n := 1) (i := 1) (zd (i := .iload_n 1) (n := 1) (by decide +kernel)) rfl <|
    z_callV (idx := 224) (ci := 0) (N := n_X0_spotFrom) (zd (i := .invokevirtual 224) (n := 3) (by decide +kernel)) to_X0_spotFrom g901 g902 g903 (by decide +kernel) rfl rfl rfl (cs_X0_spotFrom (l := l) (G := G) (gh := gh) (d)) <|
    (zj (hj 7) (by decide +kernel))
noncomputable def b_X8_findSpotsLentOn_7 : zBl := fun jp K => oXast 10 zid <| oInc 3 2147483649 <| jp 3
theorem s_X8_findSpotsLentOn_7 (d : Nat) : zPb l G gh (d + 6) n_X8_findSpotsLentOn p_X8_findSpotsLentOn 96 b_X8_findSpotsLentOn_7 := fun K jp hj =>
    z_iast (zd (i := .iastore) (n := 1) (by decide +kernel)) <|
    z_iinc (i := 3) (n := 1) (zd (i := .iinc 3 (1)) (n := 3) (by decide +kernel)) (by decide +kernel) (by decide +kernel) <|
    z_goto (off := -70) (tgt := 30) (zd (i := .goto (-70)) (n := 3) (by decide +kernel)) (by decide +kernel) (zj (hj 3) (by decide +kernel))
noncomputable def b_X8_findSpotsLentOn_8 : zBl := fun jp K => oInc 2 2147483649 <| jp 1
theorem s_X8_findSpotsLentOn_8 (d : Nat) : zPb l G gh (d + 6) n_X8_findSpotsLentOn p_X8_findSpotsLentOn 103 b_X8_findSpotsLentOn_8 := fun K jp hj =>
    z_iinc (i := 2) (n := 1) (zd (i := .iinc 2 (1)) (n := 3) (by decide +kernel)) (by decide +kernel) (by decide +kernel) <|
    z_goto (off := -89) (tgt := 17) (zd (i := .goto (-89)) (n := 3) (by decide +kernel)) (by decide +kernel) (zj (hj 1) (by decide +kernel))
noncomputable def b_X8_findSpotsLentOn_9 : zBl := fun jp K => oVret K
theorem s_X8_findSpotsLentOn_9 (d : Nat) : zPb l G gh (d + 6) n_X8_findSpotsLentOn p_X8_findSpotsLentOn 109 b_X8_findSpotsLentOn_9 := fun K jp hj =>
    z_vret (zd (i := .return_) (n := 1) (by decide +kernel)) rfl
noncomputable def t_X8_findSpotsLentOn : List zBl := [b_X8_findSpotsLentOn_0, b_X8_findSpotsLentOn_1, b_X8_findSpotsLentOn_2, b_X8_findSpotsLentOn_3, b_X8_findSpotsLentOn_4, b_X8_findSpotsLentOn_5, b_X8_findSpotsLentOn_6, b_X8_findSpotsLentOn_7, b_X8_findSpotsLentOn_8, b_X8_findSpotsLentOn_9]
theorem tt_X8_findSpotsLentOn (d : Nat) : zT (zPb l G gh (d + 6) n_X8_findSpotsLentOn p_X8_findSpotsLentOn) t_X8_findSpotsLentOn p_X8_findSpotsLentOn := ⟨s_X8_findSpotsLentOn_0 d, s_X8_findSpotsLentOn_1 d, s_X8_findSpotsLentOn_2 d, s_X8_findSpotsLentOn_3 d, s_X8_findSpotsLentOn_4 d, s_X8_findSpotsLentOn_5 d, s_X8_findSpotsLentOn_6 d, s_X8_findSpotsLentOn_7 d, s_X8_findSpotsLentOn_8 d, s_X8_findSpotsLentOn_9 d, trivial⟩
def q_X8_findSpotsLentOn_0 : List (Nat × Nat) := [(0, zk0), (21, zk10), (22, zk12), (26, zk11), (256, zk11), (259, zk20), (261, zk12), (262, zk12), (265, zk2), (266, zk18), (267, zk18), (268, zk19), (269, zk3), (270, zk7)]
noncomputable def al_X8_findSpotsLentOn_0 : zAq := [(none, [(0, zk0), (21, zk10), (22, zk12), (26, zk11), (256, zk58), (259, zk20), (261, zk12), (262, zk12), (265, zk2), (266, zk18), (267, zk18), (268, zk19), (269, zk4), (270, zk9)])]
def mq_X8_findSpotsLentOn_0_1 : List (Nat × Nat) := [(0, zk0), (21, zk10), (22, zk12), (26, zk11), (256, zk58), (259, zk20), (261, zk12), (262, zk12), (265, zk2), (266, zk18), (267, zk18), (268, zk19), (269, zk4), (270, zk9)]
def mq_X8_findSpotsLentOn_0_2 : List (Nat × Nat) := [(0, zk0), (21, zk10), (22, zk12), (26, zk11), (256, zk58), (259, zk20), (261, zk12), (262, zk12), (265, zk2), (266, zk18), (267, zk18), (268, zk19), (269, zk4), (270, zk9)]
noncomputable def fm_X8_findSpotsLentOn_0 : List zFm := [(0, [], (fun vs => [.inr (.ref 0)]), (fun vs => zP q_X8_findSpotsLentOn_0), (fun vs => Nat.sub (Nat.add 98 0) 0)),
  (1, [(2, 2147483648, 2147483654)], (fun vs => [.inr (.ref 0), .inl 9223372043297226851, .inl (zn 0 vs 0)]), (fun vs => zP mq_X8_findSpotsLentOn_0_1), (fun vs => Nat.sub (Nat.add 30064771163 0) (Nat.add 0 (Nat.mul 14 (zn 0 vs 0))))),
  (3, [(2, 2147483648, 2147483653), (3, 2147483648, 2147483654)], (fun vs => [.inr (.ref 0), .inl 9223372043297226851, .inl (zn 0 vs 0), .inl (zn 0 vs 1)]), (fun vs => zP mq_X8_findSpotsLentOn_0_2), (fun vs => Nat.sub (Nat.add 32212254810 0) (Nat.add (Nat.add 0 (Nat.mul 14 (zn 0 vs 0))) (Nat.mul 1 (zn 0 vs 1)))))]
def bf_X8_findSpotsLentOn_0 : List Nat := [0, 2, 0, 3]
theorem r_X8_findSpotsLentOn_0_0 : zbox [] (fun vs => zFrun (zpost (zAlq al_X8_findSpotsLentOn_0)) 1000 t_X8_findSpotsLentOn fm_X8_findSpotsLentOn_0 bf_X8_findSpotsLentOn_0 (0, vs)) = true := by decide +kernel
theorem r_X8_findSpotsLentOn_0_1 : zbox [(2, 2147483648, 2147483654)] (fun vs => zFrun (zpost (zAlq al_X8_findSpotsLentOn_0)) 1000 t_X8_findSpotsLentOn fm_X8_findSpotsLentOn_0 bf_X8_findSpotsLentOn_0 (1, vs)) = true := by decide +kernel
theorem r_X8_findSpotsLentOn_0_2 : zbox [(2, 2147483648, 2147483653), (3, 2147483648, 2147483654)] (fun vs => zFrun (zpost (zAlq al_X8_findSpotsLentOn_0)) 1000 t_X8_findSpotsLentOn fm_X8_findSpotsLentOn_0 bf_X8_findSpotsLentOn_0 (2, vs)) = true := by decide +kernel
set_option maxRecDepth 100000 in
theorem x_X8_findSpotsLentOn_0 (d : Nat) : zS l G gh (d + 6) (zpost (zAlq al_X8_findSpotsLentOn_0)) n_X8_findSpotsLentOn (zn 0 p_X8_findSpotsLentOn 0) (zwc (0, [.inr (.ref 0)], zP q_X8_findSpotsLentOn_0) 0) := zentry (tt_X8_findSpotsLentOn d) fm_X8_findSpotsLentOn_0 bf_X8_findSpotsLentOn_0 1000 (by decide +kernel) rfl ⟨Nat.zero_lt_succ _, trivial⟩ (fun f hf => match f, hf with
  | 0, _ => fun vs hv => (zbox_t r_X8_findSpotsLentOn_0_0) vs hv
  | 1, _ => fun vs hv => (zbox_t r_X8_findSpotsLentOn_0_1) vs hv
  | 2, _ => fun vs hv => (zbox_t r_X8_findSpotsLentOn_0_2) vs hv
  | f + 3, h => absurd (show f + 3 < 3 from h) (Nat.not_lt.mpr (Nat.le_add_left 3 f)))
noncomputable def gs_X8_findSpotsLentOn_0 : zMt := zgq false [] 5 [.inr (.ref 0)] q_X8_findSpotsLentOn_0 al_X8_findSpotsLentOn_0
set_option maxRecDepth 100000 in
theorem cs_X8_findSpotsLentOn_0 (d : Nat) : zC l G gh (d + 6) n_X8_findSpotsLentOn gs_X8_findSpotsLentOn_0 := zgq_ok0 (pcs := p_X8_findSpotsLentOn) (by decide) rfl rfl (fun a ha => by simp only [al_X8_findSpotsLentOn_0, List.mem_cons, List.not_mem_nil, or_false] at ha; rcases ha with rfl <;> decide +kernel) (fun gh => x_X8_findSpotsLentOn_0 d) (by decide +kernel)
def q_X8_findSpotsLentOn_1 : List (Nat × Nat) := [(0, zk1), (9, zk21), (11, zk12), (12, zk12), (15, zk5), (16, zk18), (17, zk18), (18, zk19), (19, zk3), (20, zk7), (21, zk10), (22, zk12), (26, zk11), (256, zk11)]
noncomputable def al_X8_findSpotsLentOn_1 : zAq := [(none, [(0, zk1), (9, zk21), (11, zk12), (12, zk12), (15, zk5), (16, zk18), (17, zk18), (18, zk19), (19, zk4), (20, zk9), (21, zk10), (22, zk12), (26, zk11), (256, zk58)])]
def mq_X8_findSpotsLentOn_1_1 : List (Nat × Nat) := [(0, zk1), (9, zk21), (11, zk12), (12, zk12), (15, zk5), (16, zk18), (17, zk18), (18, zk19), (19, zk4), (20, zk9), (21, zk10), (22, zk12), (26, zk11), (256, zk58)]
def mq_X8_findSpotsLentOn_1_2 : List (Nat × Nat) := [(0, zk1), (9, zk21), (11, zk12), (12, zk12), (15, zk5), (16, zk18), (17, zk18), (18, zk19), (19, zk4), (20, zk9), (21, zk10), (22, zk12), (26, zk11), (256, zk58)]
noncomputable def fm_X8_findSpotsLentOn_1 : List zFm := [(0, [], (fun vs => [.inr (.ref 0)]), (fun vs => zP q_X8_findSpotsLentOn_1), (fun vs => Nat.sub (Nat.add 98 0) 0)),
  (1, [(2, 2147483648, 2147483654)], (fun vs => [.inr (.ref 0), .inl 9223372043297226851, .inl (zn 0 vs 0)]), (fun vs => zP mq_X8_findSpotsLentOn_1_1), (fun vs => Nat.sub (Nat.add 30064771163 0) (Nat.add 0 (Nat.mul 14 (zn 0 vs 0))))),
  (3, [(2, 2147483648, 2147483653), (3, 2147483648, 2147483654)], (fun vs => [.inr (.ref 0), .inl 9223372043297226851, .inl (zn 0 vs 0), .inl (zn 0 vs 1)]), (fun vs => zP mq_X8_findSpotsLentOn_1_2), (fun vs => Nat.sub (Nat.add 32212254810 0) (Nat.add (Nat.add 0 (Nat.mul 14 (zn 0 vs 0))) (Nat.mul 1 (zn 0 vs 1)))))]
def bf_X8_findSpotsLentOn_1 : List Nat := [0, 2, 0, 3]
theorem r_X8_findSpotsLentOn_1_0 : zbox [] (fun vs => zFrun (zpost (zAlq al_X8_findSpotsLentOn_1)) 1000 t_X8_findSpotsLentOn fm_X8_findSpotsLentOn_1 bf_X8_findSpotsLentOn_1 (0, vs)) = true := by decide +kernel
theorem r_X8_findSpotsLentOn_1_1 : zbox [(2, 2147483648, 2147483654)] (fun vs => zFrun (zpost (zAlq al_X8_findSpotsLentOn_1)) 1000 t_X8_findSpotsLentOn fm_X8_findSpotsLentOn_1 bf_X8_findSpotsLentOn_1 (1, vs)) = true := by decide +kernel
theorem r_X8_findSpotsLentOn_1_2 : zbox [(2, 2147483648, 2147483653), (3, 2147483648, 2147483654)] (fun vs => zFrun (zpost (zAlq al_X8_findSpotsLentOn_1)) 1000 t_X8_findSpotsLentOn fm_X8_findSpotsLentOn_1 bf_X8_findSpotsLentOn_1 (2, vs)) = true := by decide +kernel
set_option maxRecDepth 100000 in
theorem x_X8_findSpotsLentOn_1 (d : Nat) : zS l G gh (d + 6) (zpost (zAlq al_X8_findSpotsLentOn_1)) n_X8_findSpotsLentOn (zn 0 p_X8_findSpotsLentOn 0) (zwc (0, [.inr (.ref 0)], zP q_X8_findSpotsLentOn_1) 0) := zentry (tt_X8_findSpotsLentOn d) fm_X8_findSpotsLentOn_1 bf_X8_findSpotsLentOn_1 1000 (by decide +kernel) rfl ⟨Nat.zero_lt_succ _, trivial⟩ (fun f hf => match f, hf with
  | 0, _ => fun vs hv => (zbox_t r_X8_findSpotsLentOn_1_0) vs hv
  | 1, _ => fun vs hv => (zbox_t r_X8_findSpotsLentOn_1_1) vs hv
  | 2, _ => fun vs hv => (zbox_t r_X8_findSpotsLentOn_1_2) vs hv
  | f + 3, h => absurd (show f + 3 < 3 from h) (Nat.not_lt.mpr (Nat.le_add_left 3 f)))
noncomputable def gs_X8_findSpotsLentOn_1 : zMt := zgq false [] 5 [.inr (.ref 0)] q_X8_findSpotsLentOn_1 al_X8_findSpotsLentOn_1
set_option maxRecDepth 100000 in
theorem cs_X8_findSpotsLentOn_1 (d : Nat) : zC l G gh (d + 6) n_X8_findSpotsLentOn gs_X8_findSpotsLentOn_1 := zgq_ok0 (pcs := p_X8_findSpotsLentOn) (by decide) rfl rfl (fun a ha => by simp only [al_X8_findSpotsLentOn_1, List.mem_cons, List.not_mem_nil, or_false] at ha; rcases ha with rfl <;> decide +kernel) (fun gh => x_X8_findSpotsLentOn_1 d) (by decide +kernel)
noncomputable def gs_X8_findSpotsLentOn : zMt := (zor gs_X8_findSpotsLentOn_0 gs_X8_findSpotsLentOn_1)
theorem cs_X8_findSpotsLentOn (d : Nat) : zC l G gh (d + 6) n_X8_findSpotsLentOn gs_X8_findSpotsLentOn := (zor_ok (cs_X8_findSpotsLentOn_0 d) (cs_X8_findSpotsLentOn_1 d))
def p_X8_near : List Nat := [0, 7, 11, 16, 18, 44, 56, 82, 94, 107, 113, 117, 124, 129, 131]
noncomputable def b_X8_near_0 : zBl := fun jp K => oIld 1 <| oCs 1 f_X8_isX <| oIf zeq zne (jp 3) (jp 1)
theorem s_X8_near_0 (d : Nat) : zPb l G gh (d + 6) n_X8_near p_X8_near 0 b_X8_near_0 := fun K jp hj =>
    z_iload_n (n := 1) (i := 1) (zd (i := .iload_n 1) (n := 1) (by decide +kernel)) rfl <|
    z_callS (idx := 175) (N := n_X8_isX) (zd (i := .invokestatic 175) (n := 3) (by decide +kernel)) to_X8_isX g805 g806 rfl rfl (c_X8_isX (l := l) (G := G) (gh := gh) (d + 4)) <|
    z_if_eq (off := 12) (tgt := 16) (zd (i := .ifCond .eq (12)) (n := 3) (by decide +kernel)) (by decide +kernel) (zj (hj 3) (by decide +kernel)) (zj (hj 1) (by decide +kernel))
noncomputable def b_X8_near_1 : zBl := fun jp K => oNLC 2 2147483648 zltN zgeN zn1_lt zn1_ge (jp 3) (jp 2)
theorem s_X8_near_1 (d : Nat) : zPb l G gh (d + 6) n_X8_near p_X8_near 7 b_X8_near_1 := fun K jp hj =>
    z_nL0_lt (i := 2) (a1 := 1) (off := 8) (tgt := 16) (zLd_n (n := 2) (i := 2) (zd (i := .iload_n 2) (n := 1) (by decide +kernel)) rfl) (zd (i := .ifCond .lt (8)) (n := 3) (by decide +kernel)) (by decide +kernel) (zj (hj 3) (by decide +kernel)) (zj (hj 2) (by decide +kernel))
noncomputable def b_X8_near_2 : zBl := fun jp K => oNLC 2 2147483649 zleN zgtN zn1_le zn1_gt (jp 4) (jp 3)
theorem s_X8_near_2 (d : Nat) : zPb l G gh (d + 6) n_X8_near p_X8_near 11 b_X8_near_2 := fun K jp hj =>
    z_nLC_le (i := 2) (c0 := 2147483649) (a1 := 1) (a2 := 1) (off := 5) (tgt := 18) (zLd_n (n := 2) (i := 2) (zd (i := .iload_n 2) (n := 1) (by decide +kernel)) rfl) (zCn_c (n := 1) (zd (i := .iconst (1)) (n := 1) (by decide +kernel)) (by decide +kernel)) (zd (i := .if_icmp .le (5)) (n := 3) (by decide +kernel)) (by decide +kernel) (zj (hj 4) (by decide +kernel)) (zj (hj 3) (by decide +kernel))
noncomputable def b_X8_near_3 : zBl := fun jp K => oInt 2147483647 <| oIret K
theorem s_X8_near_3 (d : Nat) : zPb l G gh (d + 6) n_X8_near p_X8_near 16 b_X8_near_3 := fun K jp hj =>
    z_iconst (n := -1) (zd (i := .iconst (-1)) (n := 1) (by decide +kernel)) (by decide +kernel) <|
    z_iret (zd (i := .ireturn) (n := 1) (by decide +kernel)) rfl
noncomputable def b_X8_near_4 : zBl := fun jp K => oAld 0 <| oGetR 8 12 <| oAld 0 <| oGetR 8 2 <| oGetI 4 0 <| oCv 0 1 f_X0_heat <| oIst 3 <| oInt 2147483646 <| oIst 4 <| oInt 2147483668 <| oIst 5 <| oInt 2147483648 <| oIst 6 <| jp 5
theorem s_X8_near_4 (d : Nat) : zPb l G gh (d + 6) n_X8_near p_X8_near 18 b_X8_near_4 := fun K jp hj =>
    z_aload_n (n := 0) (i := 0) (zd (i := .aload_n 0) (n := 1) (by decide +kernel)) rfl <|
    z_getR (ci := 8) (j := 12) (idx := 71) (zd (i := .getfield 71) (n := 3) (by decide +kernel)) (by decide +kernel) (by decide +kernel) rfl g464 <|
    z_aload_n (n := 0) (i := 0) (zd (i := .aload_n 0) (n := 1) (by decide +kernel)) rfl <|
    z_getR (ci := 8) (j := 2) (idx := 26) (zd (i := .getfield 26) (n := 3) (by decide +kernel)) (by decide +kernel) (by decide +kernel) rfl g454 <|
    z_getI (ci := 4) (j := 0) (idx := 140) (zd (i := .getfield 140) (n := 3) (by decide +kernel)) (by decide +kernel) (by decide +kernel) rfl g368 <|
    z_callV (idx := 143) (ci := 0) (N := n_X0_heat) (zd (i := .invokevirtual 143) (n := 3) (by decide +kernel)) to_X0_heat g716 g717 g718 (by decide +kernel) rfl rfl rfl (c_X0_heat (l := l) (G := G) (gh := gh) (d + 1)) <|
    z_istore_n (n := 3) (i := 3) (zd (i := .istore_n 3) (n := 1) (by decide +kernel)) rfl (by decide +kernel) <|
    z_bipush (n := -2) (zd (i := .bipush (-2)) (n := 2) (by decide +kernel)) (by decide +kernel) <|
    z_istore (i := 4) (zd (i := .istore 4) (n := 2) (by decide +kernel)) (by decide +kernel) <|
    z_bipush (n := 20) (zd (i := .bipush (20)) (n := 2) (by decide +kernel)) (by decide +kernel) <|
    z_istore (i := 5) (zd (i := .istore 5) (n := 2) (by decide +kernel)) (by decide +kernel) <|
    z_iconst (n := 0) (zd (i := .iconst (0)) (n := 1) (by decide +kernel)) (by decide +kernel) <|
    z_istore (i := 6) (zd (i := .istore 6) (n := 2) (by decide +kernel)) (by decide +kernel) <|
    (zj (hj 5) (by decide +kernel))
noncomputable def b_X8_near_5 : zBl := fun jp K => oIld 6 <| oAld 0 <| oGetR 8 12 <| oGetI 0 2 <| oIc zge zlt (jp 10) (jp 6)
theorem s_X8_near_5 (d : Nat) : zPb l G gh (d + 6) n_X8_near p_X8_near 44 b_X8_near_5 := fun K jp hj =>
    z_iload (i := 6) (zd (i := .iload 6) (n := 2) (by decide +kernel)) <|
    z_aload_n (n := 0) (i := 0) (zd (i := .aload_n 0) (n := 1) (by decide +kernel)) rfl <|
    z_getR (ci := 8) (j := 12) (idx := 71) (zd (i := .getfield 71) (n := 3) (by decide +kernel)) (by decide +kernel) (by decide +kernel) rfl g464 <|
    z_getI (ci := 0) (j := 2) (idx := 236) (zd (i := .getfield 236) (n := 3) (by decide +kernel)) (by decide +kernel) (by decide +kernel) rfl g280 <|
    z_icmp_ge (off := 60) (tgt := 113) (zd (i := .if_icmp .ge (60)) (n := 3) (by decide +kernel)) (by decide +kernel) (zj (hj 10) (by decide +kernel)) (zj (hj 6) (by decide +kernel))
noncomputable def b_X8_near_6 : zBl := fun jp K => oAld 0 <| oGetR 8 12 <| oIld 1 <| oIld 6 <| oAld 0 <| oGetR 8 2 <| oGetI 4 0 <| oIld 3 <| oCv 0 4 gs_X0_spotFrom <| oIst 7 <| oNLC 7 2147483647 zeqN zneN zn1_eq zn1_ne (jp 9) (jp 7)
theorem s_X8_near_6 (d : Nat) : zPb l G gh (d + 6) n_X8_near p_X8_near 56 b_X8_near_6 := fun K jp hj =>
    z_aload_n (n := 0) (i := 0) (zd (i := .aload_n 0) (n := 1) (by decide +kernel)) rfl <|
    z_getR (ci := 8) (j := 12) (idx := 71) (zd (i := .getfield 71) (n := 3) (by decide +kernel)) (by decide +kernel) (by decide +kernel) rfl g464 <|
    z_iload_n (n := 1) (i := 1) (zd (i := .iload_n 1) (n := 1) (by decide +kernel)) rfl <|
    z_iload (i := 6) (zd (i := .iload 6) (n := 2) (by decide +kernel)) <|
    z_aload_n (n := 0) (i := 0) (zd (i := .aload_n 0) (n := 1) (by decide +kernel)) rfl <|
    z_getR (ci := 8) (j := 2) (idx := 26) (zd (i := .getfield 26) (n := 3) (by decide +kernel)) (by decide +kernel) (by decide +kernel) rfl g454 <|
    z_getI (ci := 4) (j := 0) (idx := 140) (zd (i := .getfield 140) (n := 3) (by decide +kernel)) (by decide +kernel) (by decide +kernel) rfl g368 <|
    z_iload_n (n := 3) (i := 3) (zd (i := .iload_n 3) (n := 1) (by decide +kernel)) rfl <|
    z_callV (idx := 224) (ci := 0) (N := n_X0_spotFrom) (zd (i := .invokevirtual 224) (n := 3) (by decide +kernel)) to_X0_spotFrom g901 g902 g903 (by decide +kernel) rfl rfl rfl (cs_X0_spotFrom (l := l) (G := G) (gh := gh) (d)) <|
    z_istore (i := 7) (zd (i := .istore 7) (n := 2) (by decide +kernel)) (by decide +kernel) <|
    z_nLC_eq (i := 7) (c0 := 2147483647) (a1 := 2) (a2 := 1) (off := 28) (tgt := 107) (zLd_w (i := 7) (zd (i := .iload 7) (n := 2) (by decide +kernel))) (zCn_c (n := -1) (zd (i := .iconst (-1)) (n := 1) (by decide +kernel)) (by decide +kernel)) (zd (i := .if_icmp .eq (28)) (n := 3) (by decide +kernel)) (by decide +kernel) (zj (hj 9) (by decide +kernel)) (zj (hj 7) (by decide +kernel))
noncomputable def b_X8_near_7 : zBl := fun jp K => oIld 7 <| oIld 1 <| oB2 zsub <| oM1 zabs <| oIld 5 <| oIc zge zlt (jp 9) (jp 8)
theorem s_X8_near_7 (d : Nat) : zPb l G gh (d + 6) n_X8_near p_X8_near 82 b_X8_near_7 := fun K jp hj =>
    z_iload (i := 7) (zd (i := .iload 7) (n := 2) (by decide +kernel)) <|
    z_iload_n (n := 1) (i := 1) (zd (i := .iload_n 1) (n := 1) (by decide +kernel)) rfl <|
    z_isub (zd (i := .isub) (n := 1) (by decide +kernel)) <|
    z_abs (idx := 247) (zd (i := .invokestatic 247) (n := 3) (by decide +kernel)) g943 g754 g111 g755 <|
    z_iload (i := 5) (zd (i := .iload 5) (n := 2) (by decide +kernel)) <|
    z_icmp_ge (off := 16) (tgt := 107) (zd (i := .if_icmp .ge (16)) (n := 3) (by decide +kernel)) (by decide +kernel) (zj (hj 9) (by decide +kernel)) (zj (hj 8) (by decide +kernel))
noncomputable def b_X8_near_8 : zBl := fun jp K => oIld 6 <| oIst 4 <| oIld 7 <| oIld 1 <| oB2 zsub <| oM1 zabs <| oIst 5 <| jp 9
theorem s_X8_near_8 (d : Nat) : zPb l G gh (d + 6) n_X8_near p_X8_near 94 b_X8_near_8 := fun K jp hj =>
    z_iload (i := 6) (zd (i := .iload 6) (n := 2) (by decide +kernel)) <|
    z_istore (i := 4) (zd (i := .istore 4) (n := 2) (by decide +kernel)) (by decide +kernel) <|
    z_iload (i := 7) (zd (i := .iload 7) (n := 2) (by decide +kernel)) <|
    z_iload_n (n := 1) (i := 1) (zd (i := .iload_n 1) (n := 1) (by decide +kernel)) rfl <|
    z_isub (zd (i := .isub) (n := 1) (by decide +kernel)) <|
    z_abs (idx := 247) (zd (i := .invokestatic 247) (n := 3) (by decide +kernel)) g943 g754 g111 g755 <|
    z_istore (i := 5) (zd (i := .istore 5) (n := 2) (by decide +kernel)) (by decide +kernel) <|
    (zj (hj 9) (by decide +kernel))
noncomputable def b_X8_near_9 : zBl := fun jp K => oInc 6 2147483649 <| jp 5
theorem s_X8_near_9 (d : Nat) : zPb l G gh (d + 6) n_X8_near p_X8_near 107 b_X8_near_9 := fun K jp hj =>
    z_iinc (i := 6) (n := 1) (zd (i := .iinc 6 (1)) (n := 3) (by decide +kernel)) (by decide +kernel) (by decide +kernel) <|
    z_goto (off := -66) (tgt := 44) (zd (i := .goto (-66)) (n := 3) (by decide +kernel)) (by decide +kernel) (zj (hj 5) (by decide +kernel))
noncomputable def b_X8_near_10 : zBl := fun jp K => oNLC 2 2147483648 zeqN zneN zn1_eq zn1_ne (jp 12) (jp 11)
theorem s_X8_near_10 (d : Nat) : zPb l G gh (d + 6) n_X8_near p_X8_near 113 b_X8_near_10 := fun K jp hj =>
    z_nL0_eq (i := 2) (a1 := 1) (off := 10) (tgt := 124) (zLd_n (n := 2) (i := 2) (zd (i := .iload_n 2) (n := 1) (by decide +kernel)) rfl) (zd (i := .ifCond .eq (10)) (n := 3) (by decide +kernel)) (by decide +kernel) (zj (hj 12) (by decide +kernel)) (zj (hj 11) (by decide +kernel))
noncomputable def b_X8_near_11 : zBl := fun jp K => oNLC 4 2147483646 zneN zeqN zn1_ne zn1_eq (jp 13) (jp 12)
theorem s_X8_near_11 (d : Nat) : zPb l G gh (d + 6) n_X8_near p_X8_near 117 b_X8_near_11 := fun K jp hj =>
    z_nLC_ne (i := 4) (c0 := 2147483646) (a1 := 2) (a2 := 2) (off := 8) (tgt := 129) (zLd_w (i := 4) (zd (i := .iload 4) (n := 2) (by decide +kernel))) (zCn_b (n := -2) (zd (i := .bipush (-2)) (n := 2) (by decide +kernel)) (by decide +kernel)) (zd (i := .if_icmp .ne (8)) (n := 3) (by decide +kernel)) (by decide +kernel) (zj (hj 13) (by decide +kernel)) (zj (hj 12) (by decide +kernel))
noncomputable def b_X8_near_12 : zBl := fun jp K => oIld 4 <| jp 14
theorem s_X8_near_12 (d : Nat) : zPb l G gh (d + 6) n_X8_near p_X8_near 124 b_X8_near_12 := fun K jp hj =>
    z_iload (i := 4) (zd (i := .iload 4) (n := 2) (by decide +kernel)) <|
    z_goto (off := 5) (tgt := 131) (zd (i := .goto (5)) (n := 3) (by decide +kernel)) (by decide +kernel) (zj (hj 14) (by decide +kernel))
noncomputable def b_X8_near_13 : zBl := fun jp K => oIld 5 <| jp 14
theorem s_X8_near_13 (d : Nat) : zPb l G gh (d + 6) n_X8_near p_X8_near 129 b_X8_near_13 := fun K jp hj =>
    z_iload (i := 5) (zd (i := .iload 5) (n := 2) (by decide +kernel)) <|
    (zj (hj 14) (by decide +kernel))
noncomputable def b_X8_near_14 : zBl := fun jp K => oIret K
theorem s_X8_near_14 (d : Nat) : zPb l G gh (d + 6) n_X8_near p_X8_near 131 b_X8_near_14 := fun K jp hj =>
    z_iret (zd (i := .ireturn) (n := 1) (by decide +kernel)) rfl
noncomputable def t_X8_near : List zBl := [b_X8_near_0, b_X8_near_1, b_X8_near_2, b_X8_near_3, b_X8_near_4, b_X8_near_5, b_X8_near_6, b_X8_near_7, b_X8_near_8, b_X8_near_9, b_X8_near_10, b_X8_near_11, b_X8_near_12, b_X8_near_13, b_X8_near_14]
theorem tt_X8_near (d : Nat) : zT (zPb l G gh (d + 6) n_X8_near p_X8_near) t_X8_near p_X8_near := ⟨s_X8_near_0 d, s_X8_near_1 d, s_X8_near_2 d, s_X8_near_3 d, s_X8_near_4 d, s_X8_near_5 d, s_X8_near_6 d, s_X8_near_7 d, s_X8_near_8 d, s_X8_near_9 d, s_X8_near_10 d, s_X8_near_11 d, s_X8_near_12 d, s_X8_near_13 d, s_X8_near_14 d, trivial⟩
def q_X8_near_0 : List (Nat × Nat) := [(0, zk0), (21, zk10), (259, zk20), (261, zk12), (262, zk12), (265, zk2), (266, zk18), (267, zk18), (268, zk19), (269, zk3), (270, zk7)]
noncomputable def al_X8_near_0 : zAq := [(some (.inl 8589934591), [(0, zk0), (21, zk10), (259, zk20), (261, zk12), (262, zk12), (265, zk2), (266, zk18), (267, zk18), (268, zk19), (269, zk4), (270, zk9)])]
def mq_X8_near_0_1 : List (Nat × Nat) := [(0, zk0), (21, zk10), (259, zk20), (261, zk12), (262, zk12), (265, zk2), (266, zk18), (267, zk18), (268, zk19), (269, zk4), (270, zk9)]
noncomputable def fm_X8_near_0 : List zFm := [(0, [], (fun vs => [.inr (.ref 0), .inl 8589934591, .inl 8589934591]), (fun vs => zP q_X8_near_0), (fun vs => Nat.sub (Nat.add 7 0) 0)),
  (5, [(6, 2147483648, 2147483654)], (fun vs => [.inr (.ref 0), .inl 8589934591, .inl 9223372043297226753, .inl 9223372043297226851, .inl 9223372034707292165, .inl 8589934591, .inl (zn 0 vs 0)]), (fun vs => zP mq_X8_near_0_1), (fun vs => Nat.sub (Nat.add 2147483654 0) (Nat.add 0 (Nat.mul 1 (zn 0 vs 0)))))]
def bf_X8_near_0 : List Nat := [0, 0, 0, 0, 0, 2]
theorem r_X8_near_0_0 : zbox [] (fun vs => zFrun (zpost (zAlq al_X8_near_0)) 1000 t_X8_near fm_X8_near_0 bf_X8_near_0 (0, vs)) = true := by decide +kernel
theorem r_X8_near_0_1 : zbox [(6, 2147483648, 2147483654)] (fun vs => zFrun (zpost (zAlq al_X8_near_0)) 1000 t_X8_near fm_X8_near_0 bf_X8_near_0 (1, vs)) = true := by decide +kernel
set_option maxRecDepth 100000 in
theorem x_X8_near_0 (d : Nat) : zS l G gh (d + 6) (zpost (zAlq al_X8_near_0)) n_X8_near (zn 0 p_X8_near 0) (zwc (0, [.inr (.ref 0), .inl 8589934591, .inl 8589934591], zP q_X8_near_0) 0) := zentry (tt_X8_near d) fm_X8_near_0 bf_X8_near_0 1000 (by decide +kernel) rfl ⟨Nat.zero_lt_succ _, trivial⟩ (fun f hf => match f, hf with
  | 0, _ => fun vs hv => (zbox_t r_X8_near_0_0) vs hv
  | 1, _ => fun vs hv => (zbox_t r_X8_near_0_1) vs hv
  | f + 2, h => absurd (show f + 2 < 2 from h) (Nat.not_lt.mpr (Nat.le_add_left 2 f)))
noncomputable def gs_X8_near_0 : zMt := zgq false [] 8 [.inr (.ref 0), .inl 8589934591, .inl 8589934591] q_X8_near_0 al_X8_near_0
set_option maxRecDepth 100000 in
theorem cs_X8_near_0 (d : Nat) : zC l G gh (d + 6) n_X8_near gs_X8_near_0 := zgq_ok0 (pcs := p_X8_near) (by decide) rfl rfl (fun a ha => by simp only [al_X8_near_0, List.mem_cons, List.not_mem_nil, or_false] at ha; rcases ha with rfl <;> decide +kernel) (fun gh => x_X8_near_0 d) (by decide +kernel)
def q_X8_near_1 : List (Nat × Nat) := [(0, zk1), (9, zk21), (11, zk12), (12, zk12), (15, zk5), (16, zk18), (17, zk18), (18, zk19), (19, zk3), (20, zk7), (21, zk10)]
noncomputable def al_X8_near_1 : zAq := [(some (.inl 8589934591), [(0, zk1), (9, zk21), (11, zk12), (12, zk12), (15, zk5), (16, zk18), (17, zk18), (18, zk19), (19, zk4), (20, zk9), (21, zk10)])]
def mq_X8_near_1_1 : List (Nat × Nat) := [(0, zk1), (9, zk21), (11, zk12), (12, zk12), (15, zk5), (16, zk18), (17, zk18), (18, zk19), (19, zk4), (20, zk9), (21, zk10)]
noncomputable def fm_X8_near_1 : List zFm := [(0, [], (fun vs => [.inr (.ref 0), .inl 8589934591, .inl 8589934591]), (fun vs => zP q_X8_near_1), (fun vs => Nat.sub (Nat.add 7 0) 0)),
  (5, [(6, 2147483648, 2147483654)], (fun vs => [.inr (.ref 0), .inl 8589934591, .inl 9223372043297226753, .inl 9223372043297226851, .inl 9223372034707292165, .inl 8589934591, .inl (zn 0 vs 0)]), (fun vs => zP mq_X8_near_1_1), (fun vs => Nat.sub (Nat.add 2147483654 0) (Nat.add 0 (Nat.mul 1 (zn 0 vs 0)))))]
def bf_X8_near_1 : List Nat := [0, 0, 0, 0, 0, 2]
theorem r_X8_near_1_0 : zbox [] (fun vs => zFrun (zpost (zAlq al_X8_near_1)) 1000 t_X8_near fm_X8_near_1 bf_X8_near_1 (0, vs)) = true := by decide +kernel
theorem r_X8_near_1_1 : zbox [(6, 2147483648, 2147483654)] (fun vs => zFrun (zpost (zAlq al_X8_near_1)) 1000 t_X8_near fm_X8_near_1 bf_X8_near_1 (1, vs)) = true := by decide +kernel
set_option maxRecDepth 100000 in
theorem x_X8_near_1 (d : Nat) : zS l G gh (d + 6) (zpost (zAlq al_X8_near_1)) n_X8_near (zn 0 p_X8_near 0) (zwc (0, [.inr (.ref 0), .inl 8589934591, .inl 8589934591], zP q_X8_near_1) 0) := zentry (tt_X8_near d) fm_X8_near_1 bf_X8_near_1 1000 (by decide +kernel) rfl ⟨Nat.zero_lt_succ _, trivial⟩ (fun f hf => match f, hf with
  | 0, _ => fun vs hv => (zbox_t r_X8_near_1_0) vs hv
  | 1, _ => fun vs hv => (zbox_t r_X8_near_1_1) vs hv
  | f + 2, h => absurd (show f + 2 < 2 from h) (Nat.not_lt.mpr (Nat.le_add_left 2 f)))
noncomputable def gs_X8_near_1 : zMt := zgq false [] 8 [.inr (.ref 0), .inl 8589934591, .inl 8589934591] q_X8_near_1 al_X8_near_1
set_option maxRecDepth 100000 in
theorem cs_X8_near_1 (d : Nat) : zC l G gh (d + 6) n_X8_near gs_X8_near_1 := zgq_ok0 (pcs := p_X8_near) (by decide) rfl rfl (fun a ha => by simp only [al_X8_near_1, List.mem_cons, List.not_mem_nil, or_false] at ha; rcases ha with rfl <;> decide +kernel) (fun gh => x_X8_near_1 d) (by decide +kernel)
noncomputable def gs_X8_near : zMt := (zor gs_X8_near_0 gs_X8_near_1)
theorem cs_X8_near (d : Nat) : zC l G gh (d + 6) n_X8_near gs_X8_near := (zor_ok (cs_X8_near_0 d) (cs_X8_near_1 d))
def p_X8_crowd : List Nat := [0, 7, 9, 29, 41, 44, 56, 87, 94, 100, 106]
noncomputable def b_X8_crowd_0 : zBl := fun jp K => oIld 1 <| oCs 1 f_X8_isX <| oIf zne zeq (jp 2) (jp 1)
theorem s_X8_crowd_0 (d : Nat) : zPb l G gh (d + 6) n_X8_crowd p_X8_crowd 0 b_X8_crowd_0 := fun K jp hj =>
    z_iload_n (n := 1) (i := 1) (zd (i := .iload_n 1) (n := 1) (by decide +kernel)) rfl <|
    z_callS (idx := 175) (N := n_X8_isX) (zd (i := .invokestatic 175) (n := 3) (by decide +kernel)) to_X8_isX g805 g806 rfl rfl (c_X8_isX (l := l) (G := G) (gh := gh) (d + 4)) <|
    z_if_ne (off := 5) (tgt := 9) (zd (i := .ifCond .ne (5)) (n := 3) (by decide +kernel)) (by decide +kernel) (zj (hj 2) (by decide +kernel)) (zj (hj 1) (by decide +kernel))
noncomputable def b_X8_crowd_1 : zBl := fun jp K => oInt 2147483647 <| oIret K
theorem s_X8_crowd_1 (d : Nat) : zPb l G gh (d + 6) n_X8_crowd p_X8_crowd 7 b_X8_crowd_1 := fun K jp hj =>
    z_iconst (n := -1) (zd (i := .iconst (-1)) (n := 1) (by decide +kernel)) (by decide +kernel) <|
    z_iret (zd (i := .ireturn) (n := 1) (by decide +kernel)) rfl
noncomputable def b_X8_crowd_2 : zBl := fun jp K => oAld 0 <| oGetR 8 12 <| oAld 0 <| oGetR 8 2 <| oGetI 4 0 <| oCv 0 1 f_X0_heat <| oIst 2 <| oInt 2147483648 <| oIst 3 <| oInt 2147483648 <| oIst 4 <| jp 3
theorem s_X8_crowd_2 (d : Nat) : zPb l G gh (d + 6) n_X8_crowd p_X8_crowd 9 b_X8_crowd_2 := fun K jp hj =>
    z_aload_n (n := 0) (i := 0) (zd (i := .aload_n 0) (n := 1) (by decide +kernel)) rfl <|
    z_getR (ci := 8) (j := 12) (idx := 71) (zd (i := .getfield 71) (n := 3) (by decide +kernel)) (by decide +kernel) (by decide +kernel) rfl g464 <|
    z_aload_n (n := 0) (i := 0) (zd (i := .aload_n 0) (n := 1) (by decide +kernel)) rfl <|
    z_getR (ci := 8) (j := 2) (idx := 26) (zd (i := .getfield 26) (n := 3) (by decide +kernel)) (by decide +kernel) (by decide +kernel) rfl g454 <|
    z_getI (ci := 4) (j := 0) (idx := 140) (zd (i := .getfield 140) (n := 3) (by decide +kernel)) (by decide +kernel) (by decide +kernel) rfl g368 <|
    z_callV (idx := 143) (ci := 0) (N := n_X0_heat) (zd (i := .invokevirtual 143) (n := 3) (by decide +kernel)) to_X0_heat g716 g717 g718 (by decide +kernel) rfl rfl rfl (c_X0_heat (l := l) (G := G) (gh := gh) (d + 1)) <|
    z_istore_n (n := 2) (i := 2) (zd (i := .istore_n 2) (n := 1) (by decide +kernel)) rfl (by decide +kernel) <|
    z_iconst (n := 0) (zd (i := .iconst (0)) (n := 1) (by decide +kernel)) (by decide +kernel) <|
    z_istore_n (n := 3) (i := 3) (zd (i := .istore_n 3) (n := 1) (by decide +kernel)) rfl (by decide +kernel) <|
    z_iconst (n := 0) (zd (i := .iconst (0)) (n := 1) (by decide +kernel)) (by decide +kernel) <|
    z_istore (i := 4) (zd (i := .istore 4) (n := 2) (by decide +kernel)) (by decide +kernel) <|
    (zj (hj 3) (by decide +kernel))
noncomputable def b_X8_crowd_3 : zBl := fun jp K => oIld 4 <| oAld 0 <| oGetR 8 12 <| oGetI 0 5 <| oIc zge zlt (jp 10) (jp 4)
theorem s_X8_crowd_3 (d : Nat) : zPb l G gh (d + 6) n_X8_crowd p_X8_crowd 29 b_X8_crowd_3 := fun K jp hj =>
    z_iload (i := 4) (zd (i := .iload 4) (n := 2) (by decide +kernel)) <|
    z_aload_n (n := 0) (i := 0) (zd (i := .aload_n 0) (n := 1) (by decide +kernel)) rfl <|
    z_getR (ci := 8) (j := 12) (idx := 71) (zd (i := .getfield 71) (n := 3) (by decide +kernel)) (by decide +kernel) (by decide +kernel) rfl g464 <|
    z_getI (ci := 0) (j := 5) (idx := 230) (zd (i := .getfield 230) (n := 3) (by decide +kernel)) (by decide +kernel) (by decide +kernel) rfl g288 <|
    z_icmp_ge (off := 68) (tgt := 106) (zd (i := .if_icmp .ge (68)) (n := 3) (by decide +kernel)) (by decide +kernel) (zj (hj 10) (by decide +kernel)) (zj (hj 4) (by decide +kernel))
noncomputable def b_X8_crowd_4 : zBl := fun jp K => oInt 2147483648 <| oIst 5 <| jp 5
theorem s_X8_crowd_4 (d : Nat) : zPb l G gh (d + 6) n_X8_crowd p_X8_crowd 41 b_X8_crowd_4 := fun K jp hj =>
    z_iconst (n := 0) (zd (i := .iconst (0)) (n := 1) (by decide +kernel)) (by decide +kernel) <|
    z_istore (i := 5) (zd (i := .istore 5) (n := 2) (by decide +kernel)) (by decide +kernel) <|
    (zj (hj 5) (by decide +kernel))
noncomputable def b_X8_crowd_5 : zBl := fun jp K => oIld 5 <| oAld 0 <| oGetR 8 12 <| oGetI 0 2 <| oIc zge zlt (jp 9) (jp 6)
theorem s_X8_crowd_5 (d : Nat) : zPb l G gh (d + 6) n_X8_crowd p_X8_crowd 44 b_X8_crowd_5 := fun K jp hj =>
    z_iload (i := 5) (zd (i := .iload 5) (n := 2) (by decide +kernel)) <|
    z_aload_n (n := 0) (i := 0) (zd (i := .aload_n 0) (n := 1) (by decide +kernel)) rfl <|
    z_getR (ci := 8) (j := 12) (idx := 71) (zd (i := .getfield 71) (n := 3) (by decide +kernel)) (by decide +kernel) (by decide +kernel) rfl g464 <|
    z_getI (ci := 0) (j := 2) (idx := 236) (zd (i := .getfield 236) (n := 3) (by decide +kernel)) (by decide +kernel) (by decide +kernel) rfl g280 <|
    z_icmp_ge (off := 47) (tgt := 100) (zd (i := .if_icmp .ge (47)) (n := 3) (by decide +kernel)) (by decide +kernel) (zj (hj 9) (by decide +kernel)) (zj (hj 6) (by decide +kernel))
noncomputable def b_X8_crowd_6 : zBl := fun jp K => oAld 0 <| oGetR 8 12 <| oAld 0 <| oGetR 8 2 <| oGetR 4 1 <| oIld 4 <| oXald 10 <| oIld 5 <| oAld 0 <| oGetR 8 2 <| oGetI 4 0 <| oIld 2 <| oCv 0 4 gs_X0_spotFrom <| oIld 1 <| oIc zne zeq (jp 8) (jp 7)
theorem s_X8_crowd_6 (d : Nat) : zPb l G gh (d + 6) n_X8_crowd p_X8_crowd 56 b_X8_crowd_6 := fun K jp hj =>
    z_aload_n (n := 0) (i := 0) (zd (i := .aload_n 0) (n := 1) (by decide +kernel)) rfl <|
    z_getR (ci := 8) (j := 12) (idx := 71) (zd (i := .getfield 71) (n := 3) (by decide +kernel)) (by decide +kernel) (by decide +kernel) rfl g464 <|
    z_aload_n (n := 0) (i := 0) (zd (i := .aload_n 0) (n := 1) (by decide +kernel)) rfl <|
    z_getR (ci := 8) (j := 2) (idx := 26) (zd (i := .getfield 26) (n := 3) (by decide +kernel)) (by decide +kernel) (by decide +kernel) rfl g454 <|
    z_getR (ci := 4) (j := 1) (idx := 134) (zd (i := .getfield 134) (n := 3) (by decide +kernel)) (by decide +kernel) (by decide +kernel) rfl g371 <|
    z_iload (i := 4) (zd (i := .iload 4) (n := 2) (by decide +kernel)) <|
    z_iald (zd (i := .iaload) (n := 1) (by decide +kernel)) <|
    z_iload (i := 5) (zd (i := .iload 5) (n := 2) (by decide +kernel)) <|
    z_aload_n (n := 0) (i := 0) (zd (i := .aload_n 0) (n := 1) (by decide +kernel)) rfl <|
    z_getR (ci := 8) (j := 2) (idx := 26) (zd (i := .getfield 26) (n := 3) (by decide +kernel)) (by decide +kernel) (by decide +kernel) rfl g454 <|
    z_getI (ci := 4) (j := 0) (idx := 140) (zd (i := .getfield 140) (n := 3) (by decide +kernel)) (by decide +kernel) (by decide +kernel) rfl g368 <|
    z_iload_n (n := 2) (i := 2) (zd (i := .iload_n 2) (n := 1) (by decide +kernel)) rfl <|
    z_callV (idx := 224) (ci := 0) (N := n_X0_spotFrom) (zd (i := .invokevirtual 224) (n := 3) (by decide +kernel)) to_X0_spotFrom g901 g902 g903 (by decide +kernel) rfl rfl rfl (cs_X0_spotFrom (l := l) (G := G) (gh := gh) (d)) <|
    z_iload_n (n := 1) (i := 1) (zd (i := .iload_n 1) (n := 1) (by decide +kernel)) rfl <|
    z_icmp_ne (off := 10) (tgt := 94) (zd (i := .if_icmp .ne (10)) (n := 3) (by decide +kernel)) (by decide +kernel) (zj (hj 8) (by decide +kernel)) (zj (hj 7) (by decide +kernel))
noncomputable def b_X8_crowd_7 : zBl := fun jp K => oIld 3 <| oInt 2147483649 <| oIld 5 <| oB2 zishl <| oB2 zior <| oIst 3 <| jp 8
theorem s_X8_crowd_7 (d : Nat) : zPb l G gh (d + 6) n_X8_crowd p_X8_crowd 87 b_X8_crowd_7 := fun K jp hj =>
    z_iload_n (n := 3) (i := 3) (zd (i := .iload_n 3) (n := 1) (by decide +kernel)) rfl <|
    z_iconst (n := 1) (zd (i := .iconst (1)) (n := 1) (by decide +kernel)) (by decide +kernel) <|
    z_iload (i := 5) (zd (i := .iload 5) (n := 2) (by decide +kernel)) <|
    z_ishl (zd (i := .ishl) (n := 1) (by decide +kernel)) <|
    z_ior (zd (i := .ior) (n := 1) (by decide +kernel)) <|
    z_istore_n (n := 3) (i := 3) (zd (i := .istore_n 3) (n := 1) (by decide +kernel)) rfl (by decide +kernel) <|
    (zj (hj 8) (by decide +kernel))
noncomputable def b_X8_crowd_8 : zBl := fun jp K => oInc 5 2147483649 <| jp 5
theorem s_X8_crowd_8 (d : Nat) : zPb l G gh (d + 6) n_X8_crowd p_X8_crowd 94 b_X8_crowd_8 := fun K jp hj =>
    z_iinc (i := 5) (n := 1) (zd (i := .iinc 5 (1)) (n := 3) (by decide +kernel)) (by decide +kernel) (by decide +kernel) <|
    z_goto (off := -53) (tgt := 44) (zd (i := .goto (-53)) (n := 3) (by decide +kernel)) (by decide +kernel) (zj (hj 5) (by decide +kernel))
noncomputable def b_X8_crowd_9 : zBl := fun jp K => oInc 4 2147483649 <| jp 3
theorem s_X8_crowd_9 (d : Nat) : zPb l G gh (d + 6) n_X8_crowd p_X8_crowd 100 b_X8_crowd_9 := fun K jp hj =>
    z_iinc (i := 4) (n := 1) (zd (i := .iinc 4 (1)) (n := 3) (by decide +kernel)) (by decide +kernel) (by decide +kernel) <|
    z_goto (off := -74) (tgt := 29) (zd (i := .goto (-74)) (n := 3) (by decide +kernel)) (by decide +kernel) (zj (hj 3) (by decide +kernel))
noncomputable def b_X8_crowd_10 : zBl := fun jp K => oIld 3 <| oIret K
theorem s_X8_crowd_10 (d : Nat) : zPb l G gh (d + 6) n_X8_crowd p_X8_crowd 106 b_X8_crowd_10 := fun K jp hj =>
    z_iload_n (n := 3) (i := 3) (zd (i := .iload_n 3) (n := 1) (by decide +kernel)) rfl <|
    z_iret (zd (i := .ireturn) (n := 1) (by decide +kernel)) rfl
noncomputable def t_X8_crowd : List zBl := [b_X8_crowd_0, b_X8_crowd_1, b_X8_crowd_2, b_X8_crowd_3, b_X8_crowd_4, b_X8_crowd_5, b_X8_crowd_6, b_X8_crowd_7, b_X8_crowd_8, b_X8_crowd_9, b_X8_crowd_10]
theorem tt_X8_crowd (d : Nat) : zT (zPb l G gh (d + 6) n_X8_crowd p_X8_crowd) t_X8_crowd p_X8_crowd := ⟨s_X8_crowd_0 d, s_X8_crowd_1 d, s_X8_crowd_2 d, s_X8_crowd_3 d, s_X8_crowd_4 d, s_X8_crowd_5 d, s_X8_crowd_6 d, s_X8_crowd_7 d, s_X8_crowd_8 d, s_X8_crowd_9 d, s_X8_crowd_10 d, trivial⟩
def q_X8_crowd_0 : List (Nat × Nat) := [(0, zk0), (21, zk10), (22, zk12), (259, zk20), (261, zk12), (262, zk12), (265, zk2), (266, zk18), (267, zk18), (268, zk19), (269, zk3), (270, zk7)]
noncomputable def al_X8_crowd_0 : zAq := [(some (.inl 9223372039002259519), [(0, zk0), (21, zk10), (22, zk12), (259, zk20), (261, zk12), (262, zk12), (265, zk2), (266, zk18), (267, zk18), (268, zk19), (269, zk4), (270, zk9)])]
def mq_X8_crowd_0_1 : List (Nat × Nat) := [(0, zk0), (21, zk10), (22, zk12), (259, zk20), (261, zk12), (262, zk12), (265, zk2), (266, zk18), (267, zk18), (268, zk19), (269, zk4), (270, zk9)]
def mq_X8_crowd_0_2 : List (Nat × Nat) := [(0, zk0), (21, zk10), (22, zk12), (259, zk20), (261, zk12), (262, zk12), (265, zk2), (266, zk18), (267, zk18), (268, zk19), (269, zk4), (270, zk9)]
noncomputable def fm_X8_crowd_0 : List zFm := [(0, [], (fun vs => [.inr (.ref 0), .inl 8589934591]), (fun vs => zP q_X8_crowd_0), (fun vs => Nat.sub (Nat.add 98 0) 0)),
  (3, [(4, 2147483648, 2147483654)], (fun vs => [.inr (.ref 0), .inl 8589934591, .inl 9223372043297226851, .inl 9223372043297226815, .inl (zn 0 vs 0)]), (fun vs => zP mq_X8_crowd_0_1), (fun vs => Nat.sub (Nat.add 30064771163 0) (Nat.add 0 (Nat.mul 14 (zn 0 vs 0))))),
  (5, [(4, 2147483648, 2147483653), (5, 2147483648, 2147483654)], (fun vs => [.inr (.ref 0), .inl 8589934591, .inl 9223372043297226851, .inl 9223372043297226815, .inl (zn 0 vs 0), .inl (zn 0 vs 1)]), (fun vs => zP mq_X8_crowd_0_2), (fun vs => Nat.sub (Nat.add 32212254810 0) (Nat.add (Nat.add 0 (Nat.mul 14 (zn 0 vs 0))) (Nat.mul 1 (zn 0 vs 1)))))]
def bf_X8_crowd_0 : List Nat := [0, 0, 0, 2, 0, 3]
theorem r_X8_crowd_0_0 : zbox [] (fun vs => zFrun (zpost (zAlq al_X8_crowd_0)) 1000 t_X8_crowd fm_X8_crowd_0 bf_X8_crowd_0 (0, vs)) = true := by decide +kernel
theorem r_X8_crowd_0_1 : zbox [(4, 2147483648, 2147483654)] (fun vs => zFrun (zpost (zAlq al_X8_crowd_0)) 1000 t_X8_crowd fm_X8_crowd_0 bf_X8_crowd_0 (1, vs)) = true := by decide +kernel
theorem r_X8_crowd_0_2 : zbox [(4, 2147483648, 2147483653), (5, 2147483648, 2147483654)] (fun vs => zFrun (zpost (zAlq al_X8_crowd_0)) 1000 t_X8_crowd fm_X8_crowd_0 bf_X8_crowd_0 (2, vs)) = true := by decide +kernel
set_option maxRecDepth 100000 in
theorem x_X8_crowd_0 (d : Nat) : zS l G gh (d + 6) (zpost (zAlq al_X8_crowd_0)) n_X8_crowd (zn 0 p_X8_crowd 0) (zwc (0, [.inr (.ref 0), .inl 8589934591], zP q_X8_crowd_0) 0) := zentry (tt_X8_crowd d) fm_X8_crowd_0 bf_X8_crowd_0 1000 (by decide +kernel) rfl ⟨Nat.zero_lt_succ _, trivial⟩ (fun f hf => match f, hf with
  | 0, _ => fun vs hv => (zbox_t r_X8_crowd_0_0) vs hv
  | 1, _ => fun vs hv => (zbox_t r_X8_crowd_0_1) vs hv
  | 2, _ => fun vs hv => (zbox_t r_X8_crowd_0_2) vs hv
  | f + 3, h => absurd (show f + 3 < 3 from h) (Nat.not_lt.mpr (Nat.le_add_left 3 f)))
noncomputable def gs_X8_crowd_0 : zMt := zgq false [] 6 [.inr (.ref 0), .inl 8589934591] q_X8_crowd_0 al_X8_crowd_0
set_option maxRecDepth 100000 in
theorem cs_X8_crowd_0 (d : Nat) : zC l G gh (d + 6) n_X8_crowd gs_X8_crowd_0 := zgq_ok0 (pcs := p_X8_crowd) (by decide) rfl rfl (fun a ha => by simp only [al_X8_crowd_0, List.mem_cons, List.not_mem_nil, or_false] at ha; rcases ha with rfl <;> decide +kernel) (fun gh => x_X8_crowd_0 d) (by decide +kernel)
def q_X8_crowd_1 : List (Nat × Nat) := [(0, zk1), (9, zk21), (11, zk12), (12, zk12), (15, zk5), (16, zk18), (17, zk18), (18, zk19), (19, zk3), (20, zk7), (21, zk10), (22, zk12)]
noncomputable def al_X8_crowd_1 : zAq := [(some (.inl 9223372039002259519), [(0, zk1), (9, zk21), (11, zk12), (12, zk12), (15, zk5), (16, zk18), (17, zk18), (18, zk19), (19, zk4), (20, zk9), (21, zk10), (22, zk12)])]
def mq_X8_crowd_1_1 : List (Nat × Nat) := [(0, zk1), (9, zk21), (11, zk12), (12, zk12), (15, zk5), (16, zk18), (17, zk18), (18, zk19), (19, zk4), (20, zk9), (21, zk10), (22, zk12)]
def mq_X8_crowd_1_2 : List (Nat × Nat) := [(0, zk1), (9, zk21), (11, zk12), (12, zk12), (15, zk5), (16, zk18), (17, zk18), (18, zk19), (19, zk4), (20, zk9), (21, zk10), (22, zk12)]
noncomputable def fm_X8_crowd_1 : List zFm := [(0, [], (fun vs => [.inr (.ref 0), .inl 8589934591]), (fun vs => zP q_X8_crowd_1), (fun vs => Nat.sub (Nat.add 98 0) 0)),
  (3, [(4, 2147483648, 2147483654)], (fun vs => [.inr (.ref 0), .inl 8589934591, .inl 9223372043297226851, .inl 9223372043297226815, .inl (zn 0 vs 0)]), (fun vs => zP mq_X8_crowd_1_1), (fun vs => Nat.sub (Nat.add 30064771163 0) (Nat.add 0 (Nat.mul 14 (zn 0 vs 0))))),
  (5, [(4, 2147483648, 2147483653), (5, 2147483648, 2147483654)], (fun vs => [.inr (.ref 0), .inl 8589934591, .inl 9223372043297226851, .inl 9223372043297226815, .inl (zn 0 vs 0), .inl (zn 0 vs 1)]), (fun vs => zP mq_X8_crowd_1_2), (fun vs => Nat.sub (Nat.add 32212254810 0) (Nat.add (Nat.add 0 (Nat.mul 14 (zn 0 vs 0))) (Nat.mul 1 (zn 0 vs 1)))))]
def bf_X8_crowd_1 : List Nat := [0, 0, 0, 2, 0, 3]
theorem r_X8_crowd_1_0 : zbox [] (fun vs => zFrun (zpost (zAlq al_X8_crowd_1)) 1000 t_X8_crowd fm_X8_crowd_1 bf_X8_crowd_1 (0, vs)) = true := by decide +kernel
theorem r_X8_crowd_1_1 : zbox [(4, 2147483648, 2147483654)] (fun vs => zFrun (zpost (zAlq al_X8_crowd_1)) 1000 t_X8_crowd fm_X8_crowd_1 bf_X8_crowd_1 (1, vs)) = true := by decide +kernel
theorem r_X8_crowd_1_2 : zbox [(4, 2147483648, 2147483653), (5, 2147483648, 2147483654)] (fun vs => zFrun (zpost (zAlq al_X8_crowd_1)) 1000 t_X8_crowd fm_X8_crowd_1 bf_X8_crowd_1 (2, vs)) = true := by decide +kernel
set_option maxRecDepth 100000 in
theorem x_X8_crowd_1 (d : Nat) : zS l G gh (d + 6) (zpost (zAlq al_X8_crowd_1)) n_X8_crowd (zn 0 p_X8_crowd 0) (zwc (0, [.inr (.ref 0), .inl 8589934591], zP q_X8_crowd_1) 0) := zentry (tt_X8_crowd d) fm_X8_crowd_1 bf_X8_crowd_1 1000 (by decide +kernel) rfl ⟨Nat.zero_lt_succ _, trivial⟩ (fun f hf => match f, hf with
  | 0, _ => fun vs hv => (zbox_t r_X8_crowd_1_0) vs hv
  | 1, _ => fun vs hv => (zbox_t r_X8_crowd_1_1) vs hv
  | 2, _ => fun vs hv => (zbox_t r_X8_crowd_1_2) vs hv
  | f + 3, h => absurd (show f + 3 < 3 from h) (Nat.not_lt.mpr (Nat.le_add_left 3 f)))
noncomputable def gs_X8_crowd_1 : zMt := zgq false [] 6 [.inr (.ref 0), .inl 8589934591] q_X8_crowd_1 al_X8_crowd_1
set_option maxRecDepth 100000 in
theorem cs_X8_crowd_1 (d : Nat) : zC l G gh (d + 6) n_X8_crowd gs_X8_crowd_1 := zgq_ok0 (pcs := p_X8_crowd) (by decide) rfl rfl (fun a ha => by simp only [al_X8_crowd_1, List.mem_cons, List.not_mem_nil, or_false] at ha; rcases ha with rfl <;> decide +kernel) (fun gh => x_X8_crowd_1 d) (by decide +kernel)
noncomputable def gs_X8_crowd : zMt := (zor gs_X8_crowd_0 gs_X8_crowd_1)
theorem cs_X8_crowd (d : Nat) : zC l G gh (d + 6) n_X8_crowd gs_X8_crowd := (zor_ok (cs_X8_crowd_0 d) (cs_X8_crowd_1 d))
def p_X8_goAhead : List Nat := [0]
noncomputable def b_X8_goAhead_0 : zBl := fun jp K => oAld 0 <| oGetR 8 3 <| oAld 0 <| oGetR 8 2 <| oCv 4 1 f_X4_copy <| oAld 0 <| oGetR 8 12 <| oAld 0 <| oGetR 8 3 <| oIld 1 <| oAld 0 <| oGetR 8 12 <| oGetI 0 11 <| oAld 0 <| oGetR 8 12 <| oGetI 0 9 <| oCv 0 4 gs_X0_pass <| oVret K
theorem s_X8_goAhead_0 (d : Nat) : zPb l G gh (d + 6) n_X8_goAhead p_X8_goAhead 0 b_X8_goAhead_0 := fun K jp hj =>
    z_aload_n (n := 0) (i := 0) (zd (i := .aload_n 0) (n := 1) (by decide +kernel)) rfl <|
    z_getR (ci := 8) (j := 3) (idx := 30) (zd (i := .getfield 30) (n := 3) (by decide +kernel)) (by decide +kernel) (by decide +kernel) rfl g455 <|
    z_aload_n (n := 0) (i := 0) (zd (i := .aload_n 0) (n := 1) (by decide +kernel)) rfl <|
    z_getR (ci := 8) (j := 2) (idx := 26) (zd (i := .getfield 26) (n := 3) (by decide +kernel)) (by decide +kernel) (by decide +kernel) rfl g454 <|
    z_callV (idx := 258) (ci := 4) (N := n_X4_copy) (zd (i := .invokevirtual 258) (n := 3) (by decide +kernel)) to_X4_copy g956 g841 g842 (by decide +kernel) rfl rfl rfl (c_X4_copy (l := l) (G := G) (gh := gh) (d + 4)) <|
    z_aload_n (n := 0) (i := 0) (zd (i := .aload_n 0) (n := 1) (by decide +kernel)) rfl <|
    z_getR (ci := 8) (j := 12) (idx := 71) (zd (i := .getfield 71) (n := 3) (by decide +kernel)) (by decide +kernel) (by decide +kernel) rfl g464 <|
    z_aload_n (n := 0) (i := 0) (zd (i := .aload_n 0) (n := 1) (by decide +kernel)) rfl <|
    z_getR (ci := 8) (j := 3) (idx := 30) (zd (i := .getfield 30) (n := 3) (by decide +kernel)) (by decide +kernel) (by decide +kernel) rfl g455 <|
    z_iload_n (n := 1) (i := 1) (zd (i := .iload_n 1) (n := 1) (by decide +kernel)) rfl <|
    z_aload_n (n := 0) (i := 0) (zd (i := .aload_n 0) (n := 1) (by decide +kernel)) rfl <|
    z_getR (ci := 8) (j := 12) (idx := 71) (zd (i := .getfield 71) (n := 3) (by decide +kernel)) (by decide +kernel) (by decide +kernel) rfl g464 <|
    z_getI (ci := 0) (j := 11) (idx := 210) (zd (i := .getfield 210) (n := 3) (by decide +kernel)) (by decide +kernel) (by decide +kernel) rfl g303 <|
    z_aload_n (n := 0) (i := 0) (zd (i := .aload_n 0) (n := 1) (by decide +kernel)) rfl <|
    z_getR (ci := 8) (j := 12) (idx := 71) (zd (i := .getfield 71) (n := 3) (by decide +kernel)) (by decide +kernel) (by decide +kernel) rfl g464 <|
    z_getI (ci := 0) (j := 9) (idx := 213) (zd (i := .getfield 213) (n := 3) (by decide +kernel)) (by decide +kernel) (by decide +kernel) rfl g297 <|
    z_callV (idx := 216) (ci := 0) (N := n_X0_pass) (zd (i := .invokevirtual 216) (n := 3) (by decide +kernel)) to_X0_pass g865 g866 g867 (by decide +kernel) rfl rfl rfl (cs_X0_pass (l := l) (G := G) (gh := gh) (d)) <|
    z_vret (zd (i := .return_) (n := 1) (by decide +kernel)) rfl
noncomputable def t_X8_goAhead : List zBl := [b_X8_goAhead_0]
theorem tt_X8_goAhead (d : Nat) : zT (zPb l G gh (d + 6) n_X8_goAhead p_X8_goAhead) t_X8_goAhead p_X8_goAhead := ⟨s_X8_goAhead_0 d, trivial⟩
def q_X8_goAhead_0 : List (Nat × Nat) := [(0, zk0), (21, zk10), (22, zk12), (23, zk12), (24, zk12), (25, zk12), (26, zk11), (27, zk11), (28, zk22), (29, zk12), (30, zk12), (31, zk12), (32, zk12), (33, zk11), (34, zk11), (259, zk20), (261, zk12), (262, zk12), (265, zk2), (266, zk18), (267, zk18), (268, zk19), (269, zk3), (270, zk7)]
noncomputable def al_X8_goAhead_0 : zAq := [(none, [(0, zk0), (21, zk10), (22, zk12), (23, zk12), (24, zk12), (25, zk12), (26, zk11), (27, zk11), (28, zk98), (29, zk57), (30, zk57), (31, zk57), (32, zk57), (33, zk58), (34, zk58), (259, zk20), (261, zk12), (262, zk12), (265, zk2), (266, zk18), (267, zk18), (268, zk19), (269, zk4), (270, zk9)])]
noncomputable def fm_X8_goAhead_0 : List zFm := [(0, [], (fun vs => [.inr (.ref 0), .inl 9223372043297226800]), (fun vs => zP q_X8_goAhead_0), (fun vs => Nat.sub (Nat.add 0 0) 0))]
def bf_X8_goAhead_0 : List Nat := []
theorem r_X8_goAhead_0_0 : zbox [] (fun vs => zFrun (zpost (zAlq al_X8_goAhead_0)) 1000 t_X8_goAhead fm_X8_goAhead_0 bf_X8_goAhead_0 (0, vs)) = true := by decide +kernel
set_option maxRecDepth 100000 in
theorem x_X8_goAhead_0 (d : Nat) : zS l G gh (d + 6) (zpost (zAlq al_X8_goAhead_0)) n_X8_goAhead (zn 0 p_X8_goAhead 0) (zwc (0, [.inr (.ref 0), .inl 9223372043297226800], zP q_X8_goAhead_0) 0) := zentry (tt_X8_goAhead d) fm_X8_goAhead_0 bf_X8_goAhead_0 1000 (by decide +kernel) rfl ⟨Nat.zero_lt_succ _, trivial⟩ (fun f hf => match f, hf with
  | 0, _ => fun vs hv => (zbox_t r_X8_goAhead_0_0) vs hv
  | f + 1, h => absurd (show f + 1 < 1 from h) (Nat.not_lt.mpr (Nat.le_add_left 1 f)))
noncomputable def gs_X8_goAhead_0 : zMt := zgq false [] 2 [.inr (.ref 0), .inl 9223372043297226800] q_X8_goAhead_0 al_X8_goAhead_0
set_option maxRecDepth 100000 in
theorem cs_X8_goAhead_0 (d : Nat) : zC l G gh (d + 6) n_X8_goAhead gs_X8_goAhead_0 := zgq_ok0 (pcs := p_X8_goAhead) (by decide) rfl rfl (fun a ha => by simp only [al_X8_goAhead_0, List.mem_cons, List.not_mem_nil, or_false] at ha; rcases ha with rfl <;> decide +kernel) (fun gh => x_X8_goAhead_0 d) (by decide +kernel)
def q_X8_goAhead_1 : List (Nat × Nat) := [(0, zk1), (9, zk21), (11, zk12), (12, zk12), (15, zk5), (16, zk18), (17, zk18), (18, zk19), (19, zk3), (20, zk7), (21, zk10), (22, zk12), (23, zk12), (24, zk12), (25, zk12), (26, zk11), (27, zk11), (28, zk22), (29, zk12), (30, zk12), (31, zk12), (32, zk12), (33, zk11), (34, zk11)]
noncomputable def al_X8_goAhead_1 : zAq := [(none, [(0, zk1), (9, zk21), (11, zk12), (12, zk12), (15, zk5), (16, zk18), (17, zk18), (18, zk19), (19, zk4), (20, zk9), (21, zk10), (22, zk12), (23, zk12), (24, zk12), (25, zk12), (26, zk11), (27, zk11), (28, zk98), (29, zk57), (30, zk57), (31, zk57), (32, zk57), (33, zk58), (34, zk58)])]
noncomputable def fm_X8_goAhead_1 : List zFm := [(0, [], (fun vs => [.inr (.ref 0), .inl 9223372043297226800]), (fun vs => zP q_X8_goAhead_1), (fun vs => Nat.sub (Nat.add 0 0) 0))]
def bf_X8_goAhead_1 : List Nat := []
theorem r_X8_goAhead_1_0 : zbox [] (fun vs => zFrun (zpost (zAlq al_X8_goAhead_1)) 1000 t_X8_goAhead fm_X8_goAhead_1 bf_X8_goAhead_1 (0, vs)) = true := by decide +kernel
set_option maxRecDepth 100000 in
theorem x_X8_goAhead_1 (d : Nat) : zS l G gh (d + 6) (zpost (zAlq al_X8_goAhead_1)) n_X8_goAhead (zn 0 p_X8_goAhead 0) (zwc (0, [.inr (.ref 0), .inl 9223372043297226800], zP q_X8_goAhead_1) 0) := zentry (tt_X8_goAhead d) fm_X8_goAhead_1 bf_X8_goAhead_1 1000 (by decide +kernel) rfl ⟨Nat.zero_lt_succ _, trivial⟩ (fun f hf => match f, hf with
  | 0, _ => fun vs hv => (zbox_t r_X8_goAhead_1_0) vs hv
  | f + 1, h => absurd (show f + 1 < 1 from h) (Nat.not_lt.mpr (Nat.le_add_left 1 f)))
noncomputable def gs_X8_goAhead_1 : zMt := zgq false [] 2 [.inr (.ref 0), .inl 9223372043297226800] q_X8_goAhead_1 al_X8_goAhead_1
set_option maxRecDepth 100000 in
theorem cs_X8_goAhead_1 (d : Nat) : zC l G gh (d + 6) n_X8_goAhead gs_X8_goAhead_1 := zgq_ok0 (pcs := p_X8_goAhead) (by decide) rfl rfl (fun a ha => by simp only [al_X8_goAhead_1, List.mem_cons, List.not_mem_nil, or_false] at ha; rcases ha with rfl <;> decide +kernel) (fun gh => x_X8_goAhead_1 d) (by decide +kernel)
noncomputable def gs_X8_goAhead : zMt := (zor gs_X8_goAhead_0 gs_X8_goAhead_1)
theorem cs_X8_goAhead (d : Nat) : zC l G gh (d + 6) n_X8_goAhead gs_X8_goAhead := (zor_ok (cs_X8_goAhead_0 d) (cs_X8_goAhead_1 d))
def p_X8_worth : List Nat := [0, 9, 14, 21, 27, 34, 38, 105, 154, 167, 168]
noncomputable def b_X8_worth_0 : zBl := fun jp K => oAld 0 <| oIld 1 <| oIld 2 <| oCv 8 2 f_X8_isPair <| oIf zeq zne (jp 5) (jp 1)
theorem s_X8_worth_0 (d : Nat) : zPb l G gh (d + 6) n_X8_worth p_X8_worth 0 b_X8_worth_0 := fun K jp hj =>
    z_aload_n (n := 0) (i := 0) (zd (i := .aload_n 0) (n := 1) (by decide +kernel)) rfl <|
    z_iload_n (n := 1) (i := 1) (zd (i := .iload_n 1) (n := 1) (by decide +kernel)) rfl <|
    z_iload_n (n := 2) (i := 2) (zd (i := .iload_n 2) (n := 1) (by decide +kernel)) rfl <|
    z_callV (idx := 162) (ci := 8) (N := n_X8_isPair) (zd (i := .invokevirtual 162) (n := 3) (by decide +kernel)) to_X8_isPair g797 g799 g26 (by decide +kernel) rfl rfl rfl (c_X8_isPair (l := l) (G := G) (gh := gh) (d + 3)) <|
    z_if_eq (off := 28) (tgt := 34) (zd (i := .ifCond .eq (28)) (n := 3) (by decide +kernel)) (by decide +kernel) (zj (hj 5) (by decide +kernel)) (zj (hj 1) (by decide +kernel))
noncomputable def b_X8_worth_1 : zBl := fun jp K => oNLC 3 2147483649 zltN zgeN zn1_lt zn1_ge (jp 5) (jp 2)
theorem s_X8_worth_1 (d : Nat) : zPb l G gh (d + 6) n_X8_worth p_X8_worth 9 b_X8_worth_1 := fun K jp hj =>
    z_nLC_lt (i := 3) (c0 := 2147483649) (a1 := 1) (a2 := 1) (off := 23) (tgt := 34) (zLd_n (n := 3) (i := 3) (zd (i := .iload_n 3) (n := 1) (by decide +kernel)) rfl) (zCn_c (n := 1) (zd (i := .iconst (1)) (n := 1) (by decide +kernel)) (by decide +kernel)) (zd (i := .if_icmp .lt (23)) (n := 3) (by decide +kernel)) (by decide +kernel) (zj (hj 5) (by decide +kernel)) (zj (hj 2) (by decide +kernel))
noncomputable def b_X8_worth_2 : zBl := fun jp K => oNLC 3 2147484647 zgtN zleN zn1_gt zn1_le (jp 5) (jp 3)
theorem s_X8_worth_2 (d : Nat) : zPb l G gh (d + 6) n_X8_worth p_X8_worth 14 b_X8_worth_2 := fun K jp hj =>
    z_nLC_gt (i := 3) (c0 := 2147484647) (a1 := 1) (a2 := 3) (off := 16) (tgt := 34) (zLd_n (n := 3) (i := 3) (zd (i := .iload_n 3) (n := 1) (by decide +kernel)) rfl) (zCn_s (n := 999) (zd (i := .sipush (999)) (n := 3) (by decide +kernel)) (by decide +kernel)) (zd (i := .if_icmp .gt (16)) (n := 3) (by decide +kernel)) (by decide +kernel) (zj (hj 5) (by decide +kernel)) (zj (hj 3) (by decide +kernel))
noncomputable def b_X8_worth_3 : zBl := fun jp K => oNLC 4 2147483649 zltN zgeN zn1_lt zn1_ge (jp 5) (jp 4)
theorem s_X8_worth_3 (d : Nat) : zPb l G gh (d + 6) n_X8_worth p_X8_worth 21 b_X8_worth_3 := fun K jp hj =>
    z_nLC_lt (i := 4) (c0 := 2147483649) (a1 := 2) (a2 := 1) (off := 10) (tgt := 34) (zLd_w (i := 4) (zd (i := .iload 4) (n := 2) (by decide +kernel))) (zCn_c (n := 1) (zd (i := .iconst (1)) (n := 1) (by decide +kernel)) (by decide +kernel)) (zd (i := .if_icmp .lt (10)) (n := 3) (by decide +kernel)) (by decide +kernel) (zj (hj 5) (by decide +kernel)) (zj (hj 4) (by decide +kernel))
noncomputable def b_X8_worth_4 : zBl := fun jp K => oNLC 4 2147483696 zleN zgtN zn1_le zn1_gt (jp 6) (jp 5)
theorem s_X8_worth_4 (d : Nat) : zPb l G gh (d + 6) n_X8_worth p_X8_worth 27 b_X8_worth_4 := fun K jp hj =>
    z_nLC_le (i := 4) (c0 := 2147483696) (a1 := 2) (a2 := 2) (off := 7) (tgt := 38) (zLd_w (i := 4) (zd (i := .iload 4) (n := 2) (by decide +kernel))) (zCn_b (n := 48) (zd (i := .bipush (48)) (n := 2) (by decide +kernel)) (by decide +kernel)) (zd (i := .if_icmp .le (7)) (n := 3) (by decide +kernel)) (by decide +kernel) (zj (hj 6) (by decide +kernel)) (zj (hj 5) (by decide +kernel))
noncomputable def b_X8_worth_5 : zBl := fun jp K => oInt 2147383648 <| oIret K
theorem s_X8_worth_5 (d : Nat) : zPb l G gh (d + 6) n_X8_worth p_X8_worth 34 b_X8_worth_5 := fun K jp hj =>
    z_ldcw (n := 278) (zd (i := .ldc_w 278) (n := 3) (by decide +kernel)) g985 (by decide +kernel) <|
    z_iret (zd (i := .ireturn) (n := 1) (by decide +kernel)) rfl
noncomputable def b_X8_worth_6 : zBl := fun jp K => oIld 1 <| oIld 2 <| oCs 2 f_X8_loanOf <| oIst 5 <| oAld 0 <| oGetR 8 3 <| oAld 0 <| oGetR 8 2 <| oCv 4 1 f_X4_copy <| oAld 0 <| oGetR 8 3 <| oInt 2147483647 <| oCv 4 1 gs_X4_keepOnly <| oAld 0 <| oGetR 8 3 <| oGetR 4 4 <| oIld 1 <| oInt 2147483648 <| oXast 10 zid <| oAld 0 <| oGetR 8 3 <| oGetR 4 5 <| oIld 5 <| oIld 3 <| oXast 10 zid <| oAld 0 <| oGetR 8 12 <| oAld 0 <| oGetR 8 3 <| oIld 4 <| oInt 2147483648 <| oInt 2147483648 <| oCv 0 4 gs_X0_pass <| oAld 0 <| oGetR 8 12 <| oAld 0 <| jp 7
theorem s_X8_worth_6 (d : Nat) : zPb l G gh (d + 6) n_X8_worth p_X8_worth 38 b_X8_worth_6 := fun K jp hj =>
    z_iload_n (n := 1) (i := 1) (zd (i := .iload_n 1) (n := 1) (by decide +kernel)) rfl <|
    z_iload_n (n := 2) (i := 2) (zd (i := .iload_n 2) (n := 1) (by decide +kernel)) rfl <|
    z_callS (idx := 166) (N := n_X8_loanOf) (zd (i := .invokestatic 166) (n := 3) (by decide +kernel)) to_X8_loanOf g764 g765 rfl rfl (c_X8_loanOf (l := l) (G := G) (gh := gh) (d + 4)) <|
    z_istore (i := 5) (zd (i := .istore 5) (n := 2) (by decide +kernel)) (by decide +kernel) <|
    z_aload_n (n := 0) (i := 0) (zd (i := .aload_n 0) (n := 1) (by decide +kernel)) rfl <|
    z_getR (ci := 8) (j := 3) (idx := 30) (zd (i := .getfield 30) (n := 3) (by decide +kernel)) (by decide +kernel) (by decide +kernel) rfl g455 <|
    z_aload_n (n := 0) (i := 0) (zd (i := .aload_n 0) (n := 1) (by decide +kernel)) rfl <|
    z_getR (ci := 8) (j := 2) (idx := 26) (zd (i := .getfield 26) (n := 3) (by decide +kernel)) (by decide +kernel) (by decide +kernel) rfl g454 <|
    z_callV (idx := 258) (ci := 4) (N := n_X4_copy) (zd (i := .invokevirtual 258) (n := 3) (by decide +kernel)) to_X4_copy g956 g841 g842 (by decide +kernel) rfl rfl rfl (c_X4_copy (l := l) (G := G) (gh := gh) (d + 4)) <|
    z_aload_n (n := 0) (i := 0) (zd (i := .aload_n 0) (n := 1) (by decide +kernel)) rfl <|
    z_getR (ci := 8) (j := 3) (idx := 30) (zd (i := .getfield 30) (n := 3) (by decide +kernel)) (by decide +kernel) (by decide +kernel) rfl g455 <|
    z_iconst (n := -1) (zd (i := .iconst (-1)) (n := 1) (by decide +kernel)) (by decide +kernel) <|
    z_callV (idx := 279) (ci := 4) (N := n_X4_keepOnly) (zd (i := .invokevirtual 279) (n := 3) (by decide +kernel)) to_X4_keepOnly g986 g689 g690 (by decide +kernel) rfl rfl rfl (cs_X4_keepOnly (l := l) (G := G) (gh := gh) (d + 3)) <|
    z_aload_n (n := 0) (i := 0) (zd (i := .aload_n 0) (n := 1) (by decide +kernel)) rfl <|
    z_getR (ci := 8) (j := 3) (idx := 30) (zd (i := .getfield 30) (n := 3) (by decide +kernel)) (by decide +kernel) (by decide +kernel) rfl g455 <|
    z_getR (ci := 4) (j := 4) (idx := 159) (zd (i := .getfield 159) (n := 3) (by decide +kernel)) (by decide +kernel) (by decide +kernel) rfl g380 <|
    z_iload_n (n := 1) (i := 1) (zd (i := .iload_n 1) (n := 1) (by decide +kernel)) rfl <|
    z_iconst (n := 0) (zd (i := .iconst (0)) (n := 1) (by decide +kernel)) (by decide +kernel) <|
    z_iast (zd (i := .iastore) (n := 1) (by decide +kernel)) <|
    z_aload_n (n := 0) (i := 0) (zd (i := .aload_n 0) (n := 1) (by decide +kernel)) rfl <|
    z_getR (ci := 8) (j := 3) (idx := 30) (zd (i := .getfield 30) (n := 3) (by decide +kernel)) (by decide +kernel) (by decide +kernel) rfl g455 <|
    z_getR (ci := 4) (j := 5) (idx := 169) (zd (i := .getfield 169) (n := 3) (by decide +kernel)) (by decide +kernel) (by decide +kernel) rfl g383 <|
    z_iload (i := 5) (zd (i := .iload 5) (n := 2) (by decide +kernel)) <|
    z_iload_n (n := 3) (i := 3) (zd (i := .iload_n 3) (n := 1) (by decide +kernel)) rfl <|
    z_iast (zd (i := .iastore) (n := 1) (by decide +kernel)) <|
    z_aload_n (n := 0) (i := 0) (zd (i := .aload_n 0) (n := 1) (by decide +kernel)) rfl <|
    z_getR (ci := 8) (j := 12) (idx := 71) (zd (i := .getfield 71) (n := 3) (by decide +kernel)) (by decide +kernel) (by decide +kernel) rfl g464 <|
    z_aload_n (n := 0) (i := 0) (zd (i := .aload_n 0) (n := 1) (by decide +kernel)) rfl <|
    z_getR (ci := 8) (j := 3) (idx := 30) (zd (i := .getfield 30) (n := 3) (by decide +kernel)) (by decide +kernel) (by decide +kernel) rfl g455 <|
    z_iload (i := 4) (zd (i := .iload 4) (n := 2) (by decide +kernel)) <|
    z_iconst (n := 0) (zd (i := .iconst (0)) (n := 1) (by decide +kernel)) (by decide +kernel) <|
    z_iconst (n := 0) (zd (i := .iconst (0)) (n := 1) (by decide +kernel)) (by decide +kernel) <|
    z_callV (idx := 216) (ci := 0) (N := n_X0_pass) (zd (i := .invokevirtual 216) (n := 3) (by decide +kernel)) to_X0_pass g865 g866 g867 (by decide +kernel) rfl rfl rfl (cs_X0_pass (l := l) (G := G) (gh := gh) (d)) <|
    z_aload_n (n := 0) (i := 0) (zd (i := .aload_n 0) (n := 1) (by decide +kernel)) rfl <|
    z_getR (ci := 8) (j := 12) (idx := 71) (zd (i := .getfield 71) (n := 3) (by decide +kernel)) (by decide +kernel) (by decide +kernel) rfl g464 <|
    z_aload_n (n := 0) (i := 0) (zd (i := .aload_n 0) (n := 1) (by decide +kernel)) rfl <|
    (zj (hj 7) (by decide +kernel))
noncomputable def b_X8_worth_7 : zBl := fun jp K => oGetR 8 3 <| oGetR 4 1 <| oIld 1 <| oXald 10 <| oIld 2 <| oAld 0 <| oGetR 8 3 <| oGetI 4 0 <| oAld 0 <| oGetR 8 12 <| oAld 0 <| oGetR 8 3 <| oGetI 4 0 <| oCv 0 1 f_X0_heat <| oCv 0 4 gs_X0_isSeenFrom <| oIst 6 <| oAld 0 <| oGetR 8 3 <| oGetR 4 4 <| oIld 1 <| oXald 10 <| oNLC 6 2147483648 zeqN zneN zn1_eq zn1_ne (jp 9) (jp 8)
theorem s_X8_worth_7 (d : Nat) : zPb l G gh (d + 6) n_X8_worth p_X8_worth 105 b_X8_worth_7 := fun K jp hj =>
    z_getR (ci := 8) (j := 3) (idx := 30) (zd (i := .getfield 30) (n := 3) (by decide +kernel)) (by decide +kernel) (by decide +kernel) rfl g455 <|
    z_getR (ci := 4) (j := 1) (idx := 134) (zd (i := .getfield 134) (n := 3) (by decide +kernel)) (by decide +kernel) (by decide +kernel) rfl g371 <|
    z_iload_n (n := 1) (i := 1) (zd (i := .iload_n 1) (n := 1) (by decide +kernel)) rfl <|
    z_iald (zd (i := .iaload) (n := 1) (by decide +kernel)) <|
    z_iload_n (n := 2) (i := 2) (zd (i := .iload_n 2) (n := 1) (by decide +kernel)) rfl <|
    z_aload_n (n := 0) (i := 0) (zd (i := .aload_n 0) (n := 1) (by decide +kernel)) rfl <|
    z_getR (ci := 8) (j := 3) (idx := 30) (zd (i := .getfield 30) (n := 3) (by decide +kernel)) (by decide +kernel) (by decide +kernel) rfl g455 <|
    z_getI (ci := 4) (j := 0) (idx := 140) (zd (i := .getfield 140) (n := 3) (by decide +kernel)) (by decide +kernel) (by decide +kernel) rfl g368 <|
    z_aload_n (n := 0) (i := 0) (zd (i := .aload_n 0) (n := 1) (by decide +kernel)) rfl <|
    z_getR (ci := 8) (j := 12) (idx := 71) (zd (i := .getfield 71) (n := 3) (by decide +kernel)) (by decide +kernel) (by decide +kernel) rfl g464 <|
    z_aload_n (n := 0) (i := 0) (zd (i := .aload_n 0) (n := 1) (by decide +kernel)) rfl <|
    z_getR (ci := 8) (j := 3) (idx := 30) (zd (i := .getfield 30) (n := 3) (by decide +kernel)) (by decide +kernel) (by decide +kernel) rfl g455 <|
    z_getI (ci := 4) (j := 0) (idx := 140) (zd (i := .getfield 140) (n := 3) (by decide +kernel)) (by decide +kernel) (by decide +kernel) rfl g368 <|
    z_callV (idx := 143) (ci := 0) (N := n_X0_heat) (zd (i := .invokevirtual 143) (n := 3) (by decide +kernel)) to_X0_heat g716 g717 g718 (by decide +kernel) rfl rfl rfl (c_X0_heat (l := l) (G := G) (gh := gh) (d + 1)) <|
    z_callV (idx := 239) (ci := 0) (N := n_X0_isSeenFrom) (zd (i := .invokevirtual 239) (n := 3) (by decide +kernel)) to_X0_isSeenFrom g745 g746 g747 (by decide +kernel) rfl rfl rfl (cs_X0_isSeenFrom (l := l) (G := G) (gh := gh) (d + 1)) <|
    z_istore (i := 6) (zd (i := .istore 6) (n := 2) (by decide +kernel)) (by decide +kernel) <|
    z_aload_n (n := 0) (i := 0) (zd (i := .aload_n 0) (n := 1) (by decide +kernel)) rfl <|
    z_getR (ci := 8) (j := 3) (idx := 30) (zd (i := .getfield 30) (n := 3) (by decide +kernel)) (by decide +kernel) (by decide +kernel) rfl g455 <|
    z_getR (ci := 4) (j := 4) (idx := 159) (zd (i := .getfield 159) (n := 3) (by decide +kernel)) (by decide +kernel) (by decide +kernel) rfl g380 <|
    z_iload_n (n := 1) (i := 1) (zd (i := .iload_n 1) (n := 1) (by decide +kernel)) rfl <|
    z_iald (zd (i := .iaload) (n := 1) (by decide +kernel)) <|
    z_nL0_eq (i := 6) (a1 := 2) (off := 16) (tgt := 167) (zLd_w (i := 6) (zd (i := .iload 6) (n := 2) (by decide +kernel))) (zd (i := .ifCond .eq (16)) (n := 3) (by decide +kernel)) (by decide +kernel) (zj (hj 9) (by decide +kernel)) (zj (hj 8) (by decide +kernel))
noncomputable def b_X8_worth_8 : zBl := fun jp K => oAld 0 <| oGetR 8 3 <| oGetR 4 5 <| oIld 5 <| oXald 10 <| jp 10
theorem s_X8_worth_8 (d : Nat) : zPb l G gh (d + 6) n_X8_worth p_X8_worth 154 b_X8_worth_8 := fun K jp hj =>
    z_aload_n (n := 0) (i := 0) (zd (i := .aload_n 0) (n := 1) (by decide +kernel)) rfl <|
    z_getR (ci := 8) (j := 3) (idx := 30) (zd (i := .getfield 30) (n := 3) (by decide +kernel)) (by decide +kernel) (by decide +kernel) rfl g455 <|
    z_getR (ci := 4) (j := 5) (idx := 169) (zd (i := .getfield 169) (n := 3) (by decide +kernel)) (by decide +kernel) (by decide +kernel) rfl g383 <|
    z_iload (i := 5) (zd (i := .iload 5) (n := 2) (by decide +kernel)) <|
    z_iald (zd (i := .iaload) (n := 1) (by decide +kernel)) <|
    z_goto (off := 4) (tgt := 168) (zd (i := .goto (4)) (n := 3) (by decide +kernel)) (by decide +kernel) (zj (hj 10) (by decide +kernel))
noncomputable def b_X8_worth_9 : zBl := fun jp K => oInt 2147483648 <| jp 10
theorem s_X8_worth_9 (d : Nat) : zPb l G gh (d + 6) n_X8_worth p_X8_worth 167 b_X8_worth_9 := fun K jp hj =>
    z_iconst (n := 0) (zd (i := .iconst (0)) (n := 1) (by decide +kernel)) (by decide +kernel) <|
    (zj (hj 10) (by decide +kernel))
noncomputable def b_X8_worth_10 : zBl := fun jp K => oB2 zadd <| oIld 3 <| oB2 zsub <| oIret K
theorem s_X8_worth_10 (d : Nat) : zPb l G gh (d + 6) n_X8_worth p_X8_worth 168 b_X8_worth_10 := fun K jp hj =>
    z_iadd (zd (i := .iadd) (n := 1) (by decide +kernel)) <|
    z_iload_n (n := 3) (i := 3) (zd (i := .iload_n 3) (n := 1) (by decide +kernel)) rfl <|
    z_isub (zd (i := .isub) (n := 1) (by decide +kernel)) <|
    z_iret (zd (i := .ireturn) (n := 1) (by decide +kernel)) rfl
noncomputable def t_X8_worth : List zBl := [b_X8_worth_0, b_X8_worth_1, b_X8_worth_2, b_X8_worth_3, b_X8_worth_4, b_X8_worth_5, b_X8_worth_6, b_X8_worth_7, b_X8_worth_8, b_X8_worth_9, b_X8_worth_10]
theorem tt_X8_worth (d : Nat) : zT (zPb l G gh (d + 6) n_X8_worth p_X8_worth) t_X8_worth p_X8_worth := ⟨s_X8_worth_0 d, s_X8_worth_1 d, s_X8_worth_2 d, s_X8_worth_3 d, s_X8_worth_4 d, s_X8_worth_5 d, s_X8_worth_6 d, s_X8_worth_7 d, s_X8_worth_8 d, s_X8_worth_9 d, s_X8_worth_10 d, trivial⟩
def q_X8_worth_0 : List (Nat × Nat) := [(0, zk0), (21, zk10), (22, zk12), (23, zk12), (24, zk12), (25, zk12), (26, zk11), (27, zk11), (28, zk22), (29, zk12), (30, zk12), (31, zk12), (32, zk12), (33, zk11), (34, zk11), (259, zk20), (261, zk12), (262, zk12), (265, zk2), (266, zk18), (267, zk18), (268, zk19), (269, zk3), (270, zk7)]
noncomputable def al_X8_worth_0 : zAq := [(some (.inl 8589934591), [(0, zk0), (21, zk10), (22, zk12), (23, zk12), (24, zk12), (25, zk12), (26, zk11), (27, zk11), (28, zk98), (29, zk57), (30, zk57), (31, zk57), (32, zk57), (33, zk58), (34, zk58), (259, zk20), (261, zk12), (262, zk12), (265, zk2), (266, zk18), (267, zk18), (268, zk19), (269, zk4), (270, zk9)])]
noncomputable def fm_X8_worth_0 : List zFm := [(0, [], (fun vs => [.inr (.ref 0), .inl 9223372043297226757, .inl 9223372043297226757, .inl 9223372047592195047, .inl 9223372047592194096]), (fun vs => zP q_X8_worth_0), (fun vs => Nat.sub (Nat.add 0 0) 0))]
def bf_X8_worth_0 : List Nat := []
theorem r_X8_worth_0_0 : zbox [] (fun vs => zFrun (zpost (zAlq al_X8_worth_0)) 1000 t_X8_worth fm_X8_worth_0 bf_X8_worth_0 (0, vs)) = true := by decide +kernel
set_option maxRecDepth 100000 in
theorem x_X8_worth_0 (d : Nat) : zS l G gh (d + 6) (zpost (zAlq al_X8_worth_0)) n_X8_worth (zn 0 p_X8_worth 0) (zwc (0, [.inr (.ref 0), .inl 9223372043297226757, .inl 9223372043297226757, .inl 9223372047592195047, .inl 9223372047592194096], zP q_X8_worth_0) 0) := zentry (tt_X8_worth d) fm_X8_worth_0 bf_X8_worth_0 1000 (by decide +kernel) rfl ⟨Nat.zero_lt_succ _, trivial⟩ (fun f hf => match f, hf with
  | 0, _ => fun vs hv => (zbox_t r_X8_worth_0_0) vs hv
  | f + 1, h => absurd (show f + 1 < 1 from h) (Nat.not_lt.mpr (Nat.le_add_left 1 f)))
noncomputable def gs_X8_worth_0 : zMt := zgq false [] 7 [.inr (.ref 0), .inl 9223372043297226757, .inl 9223372043297226757, .inl 9223372047592195047, .inl 9223372047592194096] q_X8_worth_0 al_X8_worth_0
set_option maxRecDepth 100000 in
theorem cs_X8_worth_0 (d : Nat) : zC l G gh (d + 6) n_X8_worth gs_X8_worth_0 := zgq_ok0 (pcs := p_X8_worth) (by decide) rfl rfl (fun a ha => by simp only [al_X8_worth_0, List.mem_cons, List.not_mem_nil, or_false] at ha; rcases ha with rfl <;> decide +kernel) (fun gh => x_X8_worth_0 d) (by decide +kernel)
def q_X8_worth_1 : List (Nat × Nat) := [(0, zk0), (259, zk20)]
noncomputable def al_X8_worth_1 : zAq := [(some (.inl 2147383648), [(0, zk0), (259, zk20)])]
noncomputable def fm_X8_worth_1 : List zFm := [(0, [], (fun vs => [.inr (.ref 0), .inl 9223372043297226757, .inl 9223372043297226757, .inl 9223372047592195047, .inl 6442450944]), (fun vs => zP q_X8_worth_1), (fun vs => Nat.sub (Nat.add 0 0) 0))]
def bf_X8_worth_1 : List Nat := []
theorem r_X8_worth_1_0 : zbox [] (fun vs => zFrun (zpost (zAlq al_X8_worth_1)) 1000 t_X8_worth fm_X8_worth_1 bf_X8_worth_1 (0, vs)) = true := by decide +kernel
set_option maxRecDepth 100000 in
theorem x_X8_worth_1 (d : Nat) : zS l G gh (d + 6) (zpost (zAlq al_X8_worth_1)) n_X8_worth (zn 0 p_X8_worth 0) (zwc (0, [.inr (.ref 0), .inl 9223372043297226757, .inl 9223372043297226757, .inl 9223372047592195047, .inl 6442450944], zP q_X8_worth_1) 0) := zentry (tt_X8_worth d) fm_X8_worth_1 bf_X8_worth_1 1000 (by decide +kernel) rfl ⟨Nat.zero_lt_succ _, trivial⟩ (fun f hf => match f, hf with
  | 0, _ => fun vs hv => (zbox_t r_X8_worth_1_0) vs hv
  | f + 1, h => absurd (show f + 1 < 1 from h) (Nat.not_lt.mpr (Nat.le_add_left 1 f)))
noncomputable def gs_X8_worth_1 : zMt := zgq false [] 7 [.inr (.ref 0), .inl 9223372043297226757, .inl 9223372043297226757, .inl 9223372047592195047, .inl 6442450944] q_X8_worth_1 al_X8_worth_1
set_option maxRecDepth 100000 in
theorem cs_X8_worth_1 (d : Nat) : zC l G gh (d + 6) n_X8_worth gs_X8_worth_1 := zgq_ok0 (pcs := p_X8_worth) (by decide) rfl rfl (fun a ha => by simp only [al_X8_worth_1, List.mem_cons, List.not_mem_nil, or_false] at ha; rcases ha with rfl <;> decide +kernel) (fun gh => x_X8_worth_1 d) (by decide +kernel)
def q_X8_worth_2 : List (Nat × Nat) := [(0, zk0), (259, zk20)]
noncomputable def al_X8_worth_2 : zAq := [(some (.inl 2147383648), [(0, zk0), (259, zk20)])]
noncomputable def fm_X8_worth_2 : List zFm := [(0, [], (fun vs => [.inr (.ref 0), .inl 9223372043297226757, .inl 9223372043297226757, .inl 9223372047592195047, .inl 9223372255898107903]), (fun vs => zP q_X8_worth_2), (fun vs => Nat.sub (Nat.add 0 0) 0))]
def bf_X8_worth_2 : List Nat := []
theorem r_X8_worth_2_0 : zbox [] (fun vs => zFrun (zpost (zAlq al_X8_worth_2)) 1000 t_X8_worth fm_X8_worth_2 bf_X8_worth_2 (0, vs)) = true := by decide +kernel
set_option maxRecDepth 100000 in
theorem x_X8_worth_2 (d : Nat) : zS l G gh (d + 6) (zpost (zAlq al_X8_worth_2)) n_X8_worth (zn 0 p_X8_worth 0) (zwc (0, [.inr (.ref 0), .inl 9223372043297226757, .inl 9223372043297226757, .inl 9223372047592195047, .inl 9223372255898107903], zP q_X8_worth_2) 0) := zentry (tt_X8_worth d) fm_X8_worth_2 bf_X8_worth_2 1000 (by decide +kernel) rfl ⟨Nat.zero_lt_succ _, trivial⟩ (fun f hf => match f, hf with
  | 0, _ => fun vs hv => (zbox_t r_X8_worth_2_0) vs hv
  | f + 1, h => absurd (show f + 1 < 1 from h) (Nat.not_lt.mpr (Nat.le_add_left 1 f)))
noncomputable def gs_X8_worth_2 : zMt := zgq false [] 7 [.inr (.ref 0), .inl 9223372043297226757, .inl 9223372043297226757, .inl 9223372047592195047, .inl 9223372255898107903] q_X8_worth_2 al_X8_worth_2
set_option maxRecDepth 100000 in
theorem cs_X8_worth_2 (d : Nat) : zC l G gh (d + 6) n_X8_worth gs_X8_worth_2 := zgq_ok0 (pcs := p_X8_worth) (by decide) rfl rfl (fun a ha => by simp only [al_X8_worth_2, List.mem_cons, List.not_mem_nil, or_false] at ha; rcases ha with rfl <;> decide +kernel) (fun gh => x_X8_worth_2 d) (by decide +kernel)
def q_X8_worth_3 : List (Nat × Nat) := [(0, zk0), (259, zk20)]
noncomputable def al_X8_worth_3 : zAq := [(some (.inl 2147383648), [(0, zk0), (259, zk20)])]
noncomputable def fm_X8_worth_3 : List zFm := [(0, [], (fun vs => [.inr (.ref 0), .inl 9223372043297226757, .inl 9223372043297226757, .inl 6442450944, .inl 8589934591]), (fun vs => zP q_X8_worth_3), (fun vs => Nat.sub (Nat.add 0 0) 0))]
def bf_X8_worth_3 : List Nat := []
theorem r_X8_worth_3_0 : zbox [] (fun vs => zFrun (zpost (zAlq al_X8_worth_3)) 1000 t_X8_worth fm_X8_worth_3 bf_X8_worth_3 (0, vs)) = true := by decide +kernel
set_option maxRecDepth 100000 in
theorem x_X8_worth_3 (d : Nat) : zS l G gh (d + 6) (zpost (zAlq al_X8_worth_3)) n_X8_worth (zn 0 p_X8_worth 0) (zwc (0, [.inr (.ref 0), .inl 9223372043297226757, .inl 9223372043297226757, .inl 6442450944, .inl 8589934591], zP q_X8_worth_3) 0) := zentry (tt_X8_worth d) fm_X8_worth_3 bf_X8_worth_3 1000 (by decide +kernel) rfl ⟨Nat.zero_lt_succ _, trivial⟩ (fun f hf => match f, hf with
  | 0, _ => fun vs hv => (zbox_t r_X8_worth_3_0) vs hv
  | f + 1, h => absurd (show f + 1 < 1 from h) (Nat.not_lt.mpr (Nat.le_add_left 1 f)))
noncomputable def gs_X8_worth_3 : zMt := zgq false [] 7 [.inr (.ref 0), .inl 9223372043297226757, .inl 9223372043297226757, .inl 6442450944, .inl 8589934591] q_X8_worth_3 al_X8_worth_3
set_option maxRecDepth 100000 in
theorem cs_X8_worth_3 (d : Nat) : zC l G gh (d + 6) n_X8_worth gs_X8_worth_3 := zgq_ok0 (pcs := p_X8_worth) (by decide) rfl rfl (fun a ha => by simp only [al_X8_worth_3, List.mem_cons, List.not_mem_nil, or_false] at ha; rcases ha with rfl <;> decide +kernel) (fun gh => x_X8_worth_3 d) (by decide +kernel)
def q_X8_worth_4 : List (Nat × Nat) := [(0, zk0), (259, zk20)]
noncomputable def al_X8_worth_4 : zAq := [(some (.inl 2147383648), [(0, zk0), (259, zk20)])]
noncomputable def fm_X8_worth_4 : List zFm := [(0, [], (fun vs => [.inr (.ref 0), .inl 9223372043297226757, .inl 9223372043297226757, .inl 9223376340412006399, .inl 8589934591]), (fun vs => zP q_X8_worth_4), (fun vs => Nat.sub (Nat.add 0 0) 0))]
def bf_X8_worth_4 : List Nat := []
theorem r_X8_worth_4_0 : zbox [] (fun vs => zFrun (zpost (zAlq al_X8_worth_4)) 1000 t_X8_worth fm_X8_worth_4 bf_X8_worth_4 (0, vs)) = true := by decide +kernel
set_option maxRecDepth 100000 in
theorem x_X8_worth_4 (d : Nat) : zS l G gh (d + 6) (zpost (zAlq al_X8_worth_4)) n_X8_worth (zn 0 p_X8_worth 0) (zwc (0, [.inr (.ref 0), .inl 9223372043297226757, .inl 9223372043297226757, .inl 9223376340412006399, .inl 8589934591], zP q_X8_worth_4) 0) := zentry (tt_X8_worth d) fm_X8_worth_4 bf_X8_worth_4 1000 (by decide +kernel) rfl ⟨Nat.zero_lt_succ _, trivial⟩ (fun f hf => match f, hf with
  | 0, _ => fun vs hv => (zbox_t r_X8_worth_4_0) vs hv
  | f + 1, h => absurd (show f + 1 < 1 from h) (Nat.not_lt.mpr (Nat.le_add_left 1 f)))
noncomputable def gs_X8_worth_4 : zMt := zgq false [] 7 [.inr (.ref 0), .inl 9223372043297226757, .inl 9223372043297226757, .inl 9223376340412006399, .inl 8589934591] q_X8_worth_4 al_X8_worth_4
set_option maxRecDepth 100000 in
theorem cs_X8_worth_4 (d : Nat) : zC l G gh (d + 6) n_X8_worth gs_X8_worth_4 := zgq_ok0 (pcs := p_X8_worth) (by decide) rfl rfl (fun a ha => by simp only [al_X8_worth_4, List.mem_cons, List.not_mem_nil, or_false] at ha; rcases ha with rfl <;> decide +kernel) (fun gh => x_X8_worth_4 d) (by decide +kernel)
def q_X8_worth_5 : List (Nat × Nat) := [(0, zk0), (259, zk20)]
noncomputable def al_X8_worth_5 : zAq := [(some (.inl 2147383648), [(0, zk0), (259, zk20)])]
noncomputable def fm_X8_worth_5 : List zFm := [(0, [], (fun vs => [.inr (.ref 0), .inl 9223372043297226757, .inl 6442450943, .inl 8589934591, .inl 8589934591]), (fun vs => zP q_X8_worth_5), (fun vs => Nat.sub (Nat.add 0 0) 0))]
def bf_X8_worth_5 : List Nat := []
theorem r_X8_worth_5_0 : zbox [] (fun vs => zFrun (zpost (zAlq al_X8_worth_5)) 1000 t_X8_worth fm_X8_worth_5 bf_X8_worth_5 (0, vs)) = true := by decide +kernel
set_option maxRecDepth 100000 in
theorem x_X8_worth_5 (d : Nat) : zS l G gh (d + 6) (zpost (zAlq al_X8_worth_5)) n_X8_worth (zn 0 p_X8_worth 0) (zwc (0, [.inr (.ref 0), .inl 9223372043297226757, .inl 6442450943, .inl 8589934591, .inl 8589934591], zP q_X8_worth_5) 0) := zentry (tt_X8_worth d) fm_X8_worth_5 bf_X8_worth_5 1000 (by decide +kernel) rfl ⟨Nat.zero_lt_succ _, trivial⟩ (fun f hf => match f, hf with
  | 0, _ => fun vs hv => (zbox_t r_X8_worth_5_0) vs hv
  | f + 1, h => absurd (show f + 1 < 1 from h) (Nat.not_lt.mpr (Nat.le_add_left 1 f)))
noncomputable def gs_X8_worth_5 : zMt := zgq false [] 7 [.inr (.ref 0), .inl 9223372043297226757, .inl 6442450943, .inl 8589934591, .inl 8589934591] q_X8_worth_5 al_X8_worth_5
set_option maxRecDepth 100000 in
theorem cs_X8_worth_5 (d : Nat) : zC l G gh (d + 6) n_X8_worth gs_X8_worth_5 := zgq_ok0 (pcs := p_X8_worth) (by decide) rfl rfl (fun a ha => by simp only [al_X8_worth_5, List.mem_cons, List.not_mem_nil, or_false] at ha; rcases ha with rfl <;> decide +kernel) (fun gh => x_X8_worth_5 d) (by decide +kernel)
def q_X8_worth_6 : List (Nat × Nat) := [(0, zk0), (259, zk20)]
noncomputable def al_X8_worth_6 : zAq := [(some (.inl 2147383648), [(0, zk0), (259, zk20)])]
noncomputable def fm_X8_worth_6 : List zFm := [(0, [], (fun vs => [.inr (.ref 0), .inl 9223372043297226757, .inl 9223372071214514175, .inl 8589934591, .inl 8589934591]), (fun vs => zP q_X8_worth_6), (fun vs => Nat.sub (Nat.add 0 0) 0))]
def bf_X8_worth_6 : List Nat := []
theorem r_X8_worth_6_0 : zbox [] (fun vs => zFrun (zpost (zAlq al_X8_worth_6)) 1000 t_X8_worth fm_X8_worth_6 bf_X8_worth_6 (0, vs)) = true := by decide +kernel
set_option maxRecDepth 100000 in
theorem x_X8_worth_6 (d : Nat) : zS l G gh (d + 6) (zpost (zAlq al_X8_worth_6)) n_X8_worth (zn 0 p_X8_worth 0) (zwc (0, [.inr (.ref 0), .inl 9223372043297226757, .inl 9223372071214514175, .inl 8589934591, .inl 8589934591], zP q_X8_worth_6) 0) := zentry (tt_X8_worth d) fm_X8_worth_6 bf_X8_worth_6 1000 (by decide +kernel) rfl ⟨Nat.zero_lt_succ _, trivial⟩ (fun f hf => match f, hf with
  | 0, _ => fun vs hv => (zbox_t r_X8_worth_6_0) vs hv
  | f + 1, h => absurd (show f + 1 < 1 from h) (Nat.not_lt.mpr (Nat.le_add_left 1 f)))
noncomputable def gs_X8_worth_6 : zMt := zgq false [] 7 [.inr (.ref 0), .inl 9223372043297226757, .inl 9223372071214514175, .inl 8589934591, .inl 8589934591] q_X8_worth_6 al_X8_worth_6
set_option maxRecDepth 100000 in
theorem cs_X8_worth_6 (d : Nat) : zC l G gh (d + 6) n_X8_worth gs_X8_worth_6 := zgq_ok0 (pcs := p_X8_worth) (by decide) rfl rfl (fun a ha => by simp only [al_X8_worth_6, List.mem_cons, List.not_mem_nil, or_false] at ha; rcases ha with rfl <;> decide +kernel) (fun gh => x_X8_worth_6 d) (by decide +kernel)
def q_X8_worth_7 : List (Nat × Nat) := [(0, zk0)]
noncomputable def al_X8_worth_7 : zAq := [(some (.inl 2147383648), [(0, zk0)])]
noncomputable def fm_X8_worth_7 : List zFm := [(0, [], (fun vs => [.inr (.ref 0), .inl 6442450943, .inl 8589934591, .inl 8589934591, .inl 8589934591]), (fun vs => zP q_X8_worth_7), (fun vs => Nat.sub (Nat.add 0 0) 0))]
def bf_X8_worth_7 : List Nat := []
theorem r_X8_worth_7_0 : zbox [] (fun vs => zFrun (zpost (zAlq al_X8_worth_7)) 1000 t_X8_worth fm_X8_worth_7 bf_X8_worth_7 (0, vs)) = true := by decide +kernel
set_option maxRecDepth 100000 in
theorem x_X8_worth_7 (d : Nat) : zS l G gh (d + 6) (zpost (zAlq al_X8_worth_7)) n_X8_worth (zn 0 p_X8_worth 0) (zwc (0, [.inr (.ref 0), .inl 6442450943, .inl 8589934591, .inl 8589934591, .inl 8589934591], zP q_X8_worth_7) 0) := zentry (tt_X8_worth d) fm_X8_worth_7 bf_X8_worth_7 1000 (by decide +kernel) rfl ⟨Nat.zero_lt_succ _, trivial⟩ (fun f hf => match f, hf with
  | 0, _ => fun vs hv => (zbox_t r_X8_worth_7_0) vs hv
  | f + 1, h => absurd (show f + 1 < 1 from h) (Nat.not_lt.mpr (Nat.le_add_left 1 f)))
noncomputable def gs_X8_worth_7 : zMt := zgq false [] 7 [.inr (.ref 0), .inl 6442450943, .inl 8589934591, .inl 8589934591, .inl 8589934591] q_X8_worth_7 al_X8_worth_7
set_option maxRecDepth 100000 in
theorem cs_X8_worth_7 (d : Nat) : zC l G gh (d + 6) n_X8_worth gs_X8_worth_7 := zgq_ok0 (pcs := p_X8_worth) (by decide) rfl rfl (fun a ha => by simp only [al_X8_worth_7, List.mem_cons, List.not_mem_nil, or_false] at ha; rcases ha with rfl <;> decide +kernel) (fun gh => x_X8_worth_7 d) (by decide +kernel)
def q_X8_worth_8 : List (Nat × Nat) := [(0, zk0), (259, zk20)]
noncomputable def al_X8_worth_8 : zAq := [(some (.inl 2147383648), [(0, zk0), (259, zk20)])]
noncomputable def fm_X8_worth_8 : List zFm := [(0, [], (fun vs => [.inr (.ref 0), .inl 9223372071214514175, .inl 8589934591, .inl 8589934591, .inl 8589934591]), (fun vs => zP q_X8_worth_8), (fun vs => Nat.sub (Nat.add 0 0) 0))]
def bf_X8_worth_8 : List Nat := []
theorem r_X8_worth_8_0 : zbox [] (fun vs => zFrun (zpost (zAlq al_X8_worth_8)) 1000 t_X8_worth fm_X8_worth_8 bf_X8_worth_8 (0, vs)) = true := by decide +kernel
set_option maxRecDepth 100000 in
theorem x_X8_worth_8 (d : Nat) : zS l G gh (d + 6) (zpost (zAlq al_X8_worth_8)) n_X8_worth (zn 0 p_X8_worth 0) (zwc (0, [.inr (.ref 0), .inl 9223372071214514175, .inl 8589934591, .inl 8589934591, .inl 8589934591], zP q_X8_worth_8) 0) := zentry (tt_X8_worth d) fm_X8_worth_8 bf_X8_worth_8 1000 (by decide +kernel) rfl ⟨Nat.zero_lt_succ _, trivial⟩ (fun f hf => match f, hf with
  | 0, _ => fun vs hv => (zbox_t r_X8_worth_8_0) vs hv
  | f + 1, h => absurd (show f + 1 < 1 from h) (Nat.not_lt.mpr (Nat.le_add_left 1 f)))
noncomputable def gs_X8_worth_8 : zMt := zgq false [] 7 [.inr (.ref 0), .inl 9223372071214514175, .inl 8589934591, .inl 8589934591, .inl 8589934591] q_X8_worth_8 al_X8_worth_8
set_option maxRecDepth 100000 in
theorem cs_X8_worth_8 (d : Nat) : zC l G gh (d + 6) n_X8_worth gs_X8_worth_8 := zgq_ok0 (pcs := p_X8_worth) (by decide) rfl rfl (fun a ha => by simp only [al_X8_worth_8, List.mem_cons, List.not_mem_nil, or_false] at ha; rcases ha with rfl <;> decide +kernel) (fun gh => x_X8_worth_8 d) (by decide +kernel)
def q_X8_worth_9 : List (Nat × Nat) := [(0, zk1), (9, zk21), (11, zk12), (12, zk12), (15, zk5), (16, zk18), (17, zk18), (18, zk19), (19, zk3), (20, zk7), (21, zk10), (22, zk12), (23, zk12), (24, zk12), (25, zk12), (26, zk11), (27, zk11), (28, zk22), (29, zk12), (30, zk12), (31, zk12), (32, zk12), (33, zk11), (34, zk11)]
noncomputable def al_X8_worth_9 : zAq := [(some (.inl 8589934591), [(0, zk1), (9, zk21), (11, zk12), (12, zk12), (15, zk5), (16, zk18), (17, zk18), (18, zk19), (19, zk4), (20, zk9), (21, zk10), (22, zk12), (23, zk12), (24, zk12), (25, zk12), (26, zk11), (27, zk11), (28, zk98), (29, zk57), (30, zk57), (31, zk57), (32, zk57), (33, zk58), (34, zk58)])]
noncomputable def fm_X8_worth_9 : List zFm := [(0, [], (fun vs => [.inr (.ref 0), .inl 9223372043297226757, .inl 9223372043297226757, .inl 9223372047592195047, .inl 9223372047592194096]), (fun vs => zP q_X8_worth_9), (fun vs => Nat.sub (Nat.add 0 0) 0))]
def bf_X8_worth_9 : List Nat := []
theorem r_X8_worth_9_0 : zbox [] (fun vs => zFrun (zpost (zAlq al_X8_worth_9)) 1000 t_X8_worth fm_X8_worth_9 bf_X8_worth_9 (0, vs)) = true := by decide +kernel
set_option maxRecDepth 100000 in
theorem x_X8_worth_9 (d : Nat) : zS l G gh (d + 6) (zpost (zAlq al_X8_worth_9)) n_X8_worth (zn 0 p_X8_worth 0) (zwc (0, [.inr (.ref 0), .inl 9223372043297226757, .inl 9223372043297226757, .inl 9223372047592195047, .inl 9223372047592194096], zP q_X8_worth_9) 0) := zentry (tt_X8_worth d) fm_X8_worth_9 bf_X8_worth_9 1000 (by decide +kernel) rfl ⟨Nat.zero_lt_succ _, trivial⟩ (fun f hf => match f, hf with
  | 0, _ => fun vs hv => (zbox_t r_X8_worth_9_0) vs hv
  | f + 1, h => absurd (show f + 1 < 1 from h) (Nat.not_lt.mpr (Nat.le_add_left 1 f)))
noncomputable def gs_X8_worth_9 : zMt := zgq false [] 7 [.inr (.ref 0), .inl 9223372043297226757, .inl 9223372043297226757, .inl 9223372047592195047, .inl 9223372047592194096] q_X8_worth_9 al_X8_worth_9
set_option maxRecDepth 100000 in
theorem cs_X8_worth_9 (d : Nat) : zC l G gh (d + 6) n_X8_worth gs_X8_worth_9 := zgq_ok0 (pcs := p_X8_worth) (by decide) rfl rfl (fun a ha => by simp only [al_X8_worth_9, List.mem_cons, List.not_mem_nil, or_false] at ha; rcases ha with rfl <;> decide +kernel) (fun gh => x_X8_worth_9 d) (by decide +kernel)
def q_X8_worth_10 : List (Nat × Nat) := [(0, zk1), (9, zk21)]
noncomputable def al_X8_worth_10 : zAq := [(some (.inl 2147383648), [(0, zk1), (9, zk21)])]
noncomputable def fm_X8_worth_10 : List zFm := [(0, [], (fun vs => [.inr (.ref 0), .inl 9223372043297226757, .inl 9223372043297226757, .inl 9223372047592195047, .inl 6442450944]), (fun vs => zP q_X8_worth_10), (fun vs => Nat.sub (Nat.add 0 0) 0))]
def bf_X8_worth_10 : List Nat := []
theorem r_X8_worth_10_0 : zbox [] (fun vs => zFrun (zpost (zAlq al_X8_worth_10)) 1000 t_X8_worth fm_X8_worth_10 bf_X8_worth_10 (0, vs)) = true := by decide +kernel
set_option maxRecDepth 100000 in
theorem x_X8_worth_10 (d : Nat) : zS l G gh (d + 6) (zpost (zAlq al_X8_worth_10)) n_X8_worth (zn 0 p_X8_worth 0) (zwc (0, [.inr (.ref 0), .inl 9223372043297226757, .inl 9223372043297226757, .inl 9223372047592195047, .inl 6442450944], zP q_X8_worth_10) 0) := zentry (tt_X8_worth d) fm_X8_worth_10 bf_X8_worth_10 1000 (by decide +kernel) rfl ⟨Nat.zero_lt_succ _, trivial⟩ (fun f hf => match f, hf with
  | 0, _ => fun vs hv => (zbox_t r_X8_worth_10_0) vs hv
  | f + 1, h => absurd (show f + 1 < 1 from h) (Nat.not_lt.mpr (Nat.le_add_left 1 f)))
noncomputable def gs_X8_worth_10 : zMt := zgq false [] 7 [.inr (.ref 0), .inl 9223372043297226757, .inl 9223372043297226757, .inl 9223372047592195047, .inl 6442450944] q_X8_worth_10 al_X8_worth_10
set_option maxRecDepth 100000 in
theorem cs_X8_worth_10 (d : Nat) : zC l G gh (d + 6) n_X8_worth gs_X8_worth_10 := zgq_ok0 (pcs := p_X8_worth) (by decide) rfl rfl (fun a ha => by simp only [al_X8_worth_10, List.mem_cons, List.not_mem_nil, or_false] at ha; rcases ha with rfl <;> decide +kernel) (fun gh => x_X8_worth_10 d) (by decide +kernel)
def q_X8_worth_11 : List (Nat × Nat) := [(0, zk1), (9, zk21)]
noncomputable def al_X8_worth_11 : zAq := [(some (.inl 2147383648), [(0, zk1), (9, zk21)])]
noncomputable def fm_X8_worth_11 : List zFm := [(0, [], (fun vs => [.inr (.ref 0), .inl 9223372043297226757, .inl 9223372043297226757, .inl 9223372047592195047, .inl 9223372255898107903]), (fun vs => zP q_X8_worth_11), (fun vs => Nat.sub (Nat.add 0 0) 0))]
def bf_X8_worth_11 : List Nat := []
theorem r_X8_worth_11_0 : zbox [] (fun vs => zFrun (zpost (zAlq al_X8_worth_11)) 1000 t_X8_worth fm_X8_worth_11 bf_X8_worth_11 (0, vs)) = true := by decide +kernel
set_option maxRecDepth 100000 in
theorem x_X8_worth_11 (d : Nat) : zS l G gh (d + 6) (zpost (zAlq al_X8_worth_11)) n_X8_worth (zn 0 p_X8_worth 0) (zwc (0, [.inr (.ref 0), .inl 9223372043297226757, .inl 9223372043297226757, .inl 9223372047592195047, .inl 9223372255898107903], zP q_X8_worth_11) 0) := zentry (tt_X8_worth d) fm_X8_worth_11 bf_X8_worth_11 1000 (by decide +kernel) rfl ⟨Nat.zero_lt_succ _, trivial⟩ (fun f hf => match f, hf with
  | 0, _ => fun vs hv => (zbox_t r_X8_worth_11_0) vs hv
  | f + 1, h => absurd (show f + 1 < 1 from h) (Nat.not_lt.mpr (Nat.le_add_left 1 f)))
noncomputable def gs_X8_worth_11 : zMt := zgq false [] 7 [.inr (.ref 0), .inl 9223372043297226757, .inl 9223372043297226757, .inl 9223372047592195047, .inl 9223372255898107903] q_X8_worth_11 al_X8_worth_11
set_option maxRecDepth 100000 in
theorem cs_X8_worth_11 (d : Nat) : zC l G gh (d + 6) n_X8_worth gs_X8_worth_11 := zgq_ok0 (pcs := p_X8_worth) (by decide) rfl rfl (fun a ha => by simp only [al_X8_worth_11, List.mem_cons, List.not_mem_nil, or_false] at ha; rcases ha with rfl <;> decide +kernel) (fun gh => x_X8_worth_11 d) (by decide +kernel)
def q_X8_worth_12 : List (Nat × Nat) := [(0, zk1), (9, zk21)]
noncomputable def al_X8_worth_12 : zAq := [(some (.inl 2147383648), [(0, zk1), (9, zk21)])]
noncomputable def fm_X8_worth_12 : List zFm := [(0, [], (fun vs => [.inr (.ref 0), .inl 9223372043297226757, .inl 9223372043297226757, .inl 6442450944, .inl 8589934591]), (fun vs => zP q_X8_worth_12), (fun vs => Nat.sub (Nat.add 0 0) 0))]
def bf_X8_worth_12 : List Nat := []
theorem r_X8_worth_12_0 : zbox [] (fun vs => zFrun (zpost (zAlq al_X8_worth_12)) 1000 t_X8_worth fm_X8_worth_12 bf_X8_worth_12 (0, vs)) = true := by decide +kernel
set_option maxRecDepth 100000 in
theorem x_X8_worth_12 (d : Nat) : zS l G gh (d + 6) (zpost (zAlq al_X8_worth_12)) n_X8_worth (zn 0 p_X8_worth 0) (zwc (0, [.inr (.ref 0), .inl 9223372043297226757, .inl 9223372043297226757, .inl 6442450944, .inl 8589934591], zP q_X8_worth_12) 0) := zentry (tt_X8_worth d) fm_X8_worth_12 bf_X8_worth_12 1000 (by decide +kernel) rfl ⟨Nat.zero_lt_succ _, trivial⟩ (fun f hf => match f, hf with
  | 0, _ => fun vs hv => (zbox_t r_X8_worth_12_0) vs hv
  | f + 1, h => absurd (show f + 1 < 1 from h) (Nat.not_lt.mpr (Nat.le_add_left 1 f)))
noncomputable def gs_X8_worth_12 : zMt := zgq false [] 7 [.inr (.ref 0), .inl 9223372043297226757, .inl 9223372043297226757, .inl 6442450944, .inl 8589934591] q_X8_worth_12 al_X8_worth_12
set_option maxRecDepth 100000 in
theorem cs_X8_worth_12 (d : Nat) : zC l G gh (d + 6) n_X8_worth gs_X8_worth_12 := zgq_ok0 (pcs := p_X8_worth) (by decide) rfl rfl (fun a ha => by simp only [al_X8_worth_12, List.mem_cons, List.not_mem_nil, or_false] at ha; rcases ha with rfl <;> decide +kernel) (fun gh => x_X8_worth_12 d) (by decide +kernel)
def q_X8_worth_13 : List (Nat × Nat) := [(0, zk1), (9, zk21)]
noncomputable def al_X8_worth_13 : zAq := [(some (.inl 2147383648), [(0, zk1), (9, zk21)])]
noncomputable def fm_X8_worth_13 : List zFm := [(0, [], (fun vs => [.inr (.ref 0), .inl 9223372043297226757, .inl 9223372043297226757, .inl 9223376340412006399, .inl 8589934591]), (fun vs => zP q_X8_worth_13), (fun vs => Nat.sub (Nat.add 0 0) 0))]
def bf_X8_worth_13 : List Nat := []
theorem r_X8_worth_13_0 : zbox [] (fun vs => zFrun (zpost (zAlq al_X8_worth_13)) 1000 t_X8_worth fm_X8_worth_13 bf_X8_worth_13 (0, vs)) = true := by decide +kernel
set_option maxRecDepth 100000 in
theorem x_X8_worth_13 (d : Nat) : zS l G gh (d + 6) (zpost (zAlq al_X8_worth_13)) n_X8_worth (zn 0 p_X8_worth 0) (zwc (0, [.inr (.ref 0), .inl 9223372043297226757, .inl 9223372043297226757, .inl 9223376340412006399, .inl 8589934591], zP q_X8_worth_13) 0) := zentry (tt_X8_worth d) fm_X8_worth_13 bf_X8_worth_13 1000 (by decide +kernel) rfl ⟨Nat.zero_lt_succ _, trivial⟩ (fun f hf => match f, hf with
  | 0, _ => fun vs hv => (zbox_t r_X8_worth_13_0) vs hv
  | f + 1, h => absurd (show f + 1 < 1 from h) (Nat.not_lt.mpr (Nat.le_add_left 1 f)))
noncomputable def gs_X8_worth_13 : zMt := zgq false [] 7 [.inr (.ref 0), .inl 9223372043297226757, .inl 9223372043297226757, .inl 9223376340412006399, .inl 8589934591] q_X8_worth_13 al_X8_worth_13
set_option maxRecDepth 100000 in
theorem cs_X8_worth_13 (d : Nat) : zC l G gh (d + 6) n_X8_worth gs_X8_worth_13 := zgq_ok0 (pcs := p_X8_worth) (by decide) rfl rfl (fun a ha => by simp only [al_X8_worth_13, List.mem_cons, List.not_mem_nil, or_false] at ha; rcases ha with rfl <;> decide +kernel) (fun gh => x_X8_worth_13 d) (by decide +kernel)
def q_X8_worth_14 : List (Nat × Nat) := [(0, zk1), (9, zk21)]
noncomputable def al_X8_worth_14 : zAq := [(some (.inl 2147383648), [(0, zk1), (9, zk21)])]
noncomputable def fm_X8_worth_14 : List zFm := [(0, [], (fun vs => [.inr (.ref 0), .inl 9223372043297226757, .inl 6442450943, .inl 8589934591, .inl 8589934591]), (fun vs => zP q_X8_worth_14), (fun vs => Nat.sub (Nat.add 0 0) 0))]
def bf_X8_worth_14 : List Nat := []
theorem r_X8_worth_14_0 : zbox [] (fun vs => zFrun (zpost (zAlq al_X8_worth_14)) 1000 t_X8_worth fm_X8_worth_14 bf_X8_worth_14 (0, vs)) = true := by decide +kernel
set_option maxRecDepth 100000 in
theorem x_X8_worth_14 (d : Nat) : zS l G gh (d + 6) (zpost (zAlq al_X8_worth_14)) n_X8_worth (zn 0 p_X8_worth 0) (zwc (0, [.inr (.ref 0), .inl 9223372043297226757, .inl 6442450943, .inl 8589934591, .inl 8589934591], zP q_X8_worth_14) 0) := zentry (tt_X8_worth d) fm_X8_worth_14 bf_X8_worth_14 1000 (by decide +kernel) rfl ⟨Nat.zero_lt_succ _, trivial⟩ (fun f hf => match f, hf with
  | 0, _ => fun vs hv => (zbox_t r_X8_worth_14_0) vs hv
  | f + 1, h => absurd (show f + 1 < 1 from h) (Nat.not_lt.mpr (Nat.le_add_left 1 f)))
noncomputable def gs_X8_worth_14 : zMt := zgq false [] 7 [.inr (.ref 0), .inl 9223372043297226757, .inl 6442450943, .inl 8589934591, .inl 8589934591] q_X8_worth_14 al_X8_worth_14
set_option maxRecDepth 100000 in
theorem cs_X8_worth_14 (d : Nat) : zC l G gh (d + 6) n_X8_worth gs_X8_worth_14 := zgq_ok0 (pcs := p_X8_worth) (by decide) rfl rfl (fun a ha => by simp only [al_X8_worth_14, List.mem_cons, List.not_mem_nil, or_false] at ha; rcases ha with rfl <;> decide +kernel) (fun gh => x_X8_worth_14 d) (by decide +kernel)
def q_X8_worth_15 : List (Nat × Nat) := [(0, zk1), (9, zk21)]
noncomputable def al_X8_worth_15 : zAq := [(some (.inl 2147383648), [(0, zk1), (9, zk21)])]
noncomputable def fm_X8_worth_15 : List zFm := [(0, [], (fun vs => [.inr (.ref 0), .inl 9223372043297226757, .inl 9223372071214514175, .inl 8589934591, .inl 8589934591]), (fun vs => zP q_X8_worth_15), (fun vs => Nat.sub (Nat.add 0 0) 0))]
def bf_X8_worth_15 : List Nat := []
theorem r_X8_worth_15_0 : zbox [] (fun vs => zFrun (zpost (zAlq al_X8_worth_15)) 1000 t_X8_worth fm_X8_worth_15 bf_X8_worth_15 (0, vs)) = true := by decide +kernel
set_option maxRecDepth 100000 in
theorem x_X8_worth_15 (d : Nat) : zS l G gh (d + 6) (zpost (zAlq al_X8_worth_15)) n_X8_worth (zn 0 p_X8_worth 0) (zwc (0, [.inr (.ref 0), .inl 9223372043297226757, .inl 9223372071214514175, .inl 8589934591, .inl 8589934591], zP q_X8_worth_15) 0) := zentry (tt_X8_worth d) fm_X8_worth_15 bf_X8_worth_15 1000 (by decide +kernel) rfl ⟨Nat.zero_lt_succ _, trivial⟩ (fun f hf => match f, hf with
  | 0, _ => fun vs hv => (zbox_t r_X8_worth_15_0) vs hv
  | f + 1, h => absurd (show f + 1 < 1 from h) (Nat.not_lt.mpr (Nat.le_add_left 1 f)))
noncomputable def gs_X8_worth_15 : zMt := zgq false [] 7 [.inr (.ref 0), .inl 9223372043297226757, .inl 9223372071214514175, .inl 8589934591, .inl 8589934591] q_X8_worth_15 al_X8_worth_15
set_option maxRecDepth 100000 in
theorem cs_X8_worth_15 (d : Nat) : zC l G gh (d + 6) n_X8_worth gs_X8_worth_15 := zgq_ok0 (pcs := p_X8_worth) (by decide) rfl rfl (fun a ha => by simp only [al_X8_worth_15, List.mem_cons, List.not_mem_nil, or_false] at ha; rcases ha with rfl <;> decide +kernel) (fun gh => x_X8_worth_15 d) (by decide +kernel)
def q_X8_worth_16 : List (Nat × Nat) := [(0, zk1)]
noncomputable def al_X8_worth_16 : zAq := [(some (.inl 2147383648), [(0, zk1)])]
noncomputable def fm_X8_worth_16 : List zFm := [(0, [], (fun vs => [.inr (.ref 0), .inl 6442450943, .inl 8589934591, .inl 8589934591, .inl 8589934591]), (fun vs => zP q_X8_worth_16), (fun vs => Nat.sub (Nat.add 0 0) 0))]
def bf_X8_worth_16 : List Nat := []
theorem r_X8_worth_16_0 : zbox [] (fun vs => zFrun (zpost (zAlq al_X8_worth_16)) 1000 t_X8_worth fm_X8_worth_16 bf_X8_worth_16 (0, vs)) = true := by decide +kernel
set_option maxRecDepth 100000 in
theorem x_X8_worth_16 (d : Nat) : zS l G gh (d + 6) (zpost (zAlq al_X8_worth_16)) n_X8_worth (zn 0 p_X8_worth 0) (zwc (0, [.inr (.ref 0), .inl 6442450943, .inl 8589934591, .inl 8589934591, .inl 8589934591], zP q_X8_worth_16) 0) := zentry (tt_X8_worth d) fm_X8_worth_16 bf_X8_worth_16 1000 (by decide +kernel) rfl ⟨Nat.zero_lt_succ _, trivial⟩ (fun f hf => match f, hf with
  | 0, _ => fun vs hv => (zbox_t r_X8_worth_16_0) vs hv
  | f + 1, h => absurd (show f + 1 < 1 from h) (Nat.not_lt.mpr (Nat.le_add_left 1 f)))
noncomputable def gs_X8_worth_16 : zMt := zgq false [] 7 [.inr (.ref 0), .inl 6442450943, .inl 8589934591, .inl 8589934591, .inl 8589934591] q_X8_worth_16 al_X8_worth_16
set_option maxRecDepth 100000 in
theorem cs_X8_worth_16 (d : Nat) : zC l G gh (d + 6) n_X8_worth gs_X8_worth_16 := zgq_ok0 (pcs := p_X8_worth) (by decide) rfl rfl (fun a ha => by simp only [al_X8_worth_16, List.mem_cons, List.not_mem_nil, or_false] at ha; rcases ha with rfl <;> decide +kernel) (fun gh => x_X8_worth_16 d) (by decide +kernel)
def q_X8_worth_17 : List (Nat × Nat) := [(0, zk1), (9, zk21)]
noncomputable def al_X8_worth_17 : zAq := [(some (.inl 2147383648), [(0, zk1), (9, zk21)])]
noncomputable def fm_X8_worth_17 : List zFm := [(0, [], (fun vs => [.inr (.ref 0), .inl 9223372071214514175, .inl 8589934591, .inl 8589934591, .inl 8589934591]), (fun vs => zP q_X8_worth_17), (fun vs => Nat.sub (Nat.add 0 0) 0))]
def bf_X8_worth_17 : List Nat := []
theorem r_X8_worth_17_0 : zbox [] (fun vs => zFrun (zpost (zAlq al_X8_worth_17)) 1000 t_X8_worth fm_X8_worth_17 bf_X8_worth_17 (0, vs)) = true := by decide +kernel
set_option maxRecDepth 100000 in
theorem x_X8_worth_17 (d : Nat) : zS l G gh (d + 6) (zpost (zAlq al_X8_worth_17)) n_X8_worth (zn 0 p_X8_worth 0) (zwc (0, [.inr (.ref 0), .inl 9223372071214514175, .inl 8589934591, .inl 8589934591, .inl 8589934591], zP q_X8_worth_17) 0) := zentry (tt_X8_worth d) fm_X8_worth_17 bf_X8_worth_17 1000 (by decide +kernel) rfl ⟨Nat.zero_lt_succ _, trivial⟩ (fun f hf => match f, hf with
  | 0, _ => fun vs hv => (zbox_t r_X8_worth_17_0) vs hv
  | f + 1, h => absurd (show f + 1 < 1 from h) (Nat.not_lt.mpr (Nat.le_add_left 1 f)))
noncomputable def gs_X8_worth_17 : zMt := zgq false [] 7 [.inr (.ref 0), .inl 9223372071214514175, .inl 8589934591, .inl 8589934591, .inl 8589934591] q_X8_worth_17 al_X8_worth_17
set_option maxRecDepth 100000 in
theorem cs_X8_worth_17 (d : Nat) : zC l G gh (d + 6) n_X8_worth gs_X8_worth_17 := zgq_ok0 (pcs := p_X8_worth) (by decide) rfl rfl (fun a ha => by simp only [al_X8_worth_17, List.mem_cons, List.not_mem_nil, or_false] at ha; rcases ha with rfl <;> decide +kernel) (fun gh => x_X8_worth_17 d) (by decide +kernel)
noncomputable def gs_X8_worth : zMt := (zor gs_X8_worth_0 (zor gs_X8_worth_1 (zor gs_X8_worth_2 (zor gs_X8_worth_3 (zor gs_X8_worth_4 (zor gs_X8_worth_5 (zor gs_X8_worth_6 (zor gs_X8_worth_7 (zor gs_X8_worth_8 (zor gs_X8_worth_9 (zor gs_X8_worth_10 (zor gs_X8_worth_11 (zor gs_X8_worth_12 (zor gs_X8_worth_13 (zor gs_X8_worth_14 (zor gs_X8_worth_15 (zor gs_X8_worth_16 gs_X8_worth_17)))))))))))))))))
theorem cs_X8_worth (d : Nat) : zC l G gh (d + 6) n_X8_worth gs_X8_worth := (zor_ok (cs_X8_worth_0 d) (zor_ok (cs_X8_worth_1 d) (zor_ok (cs_X8_worth_2 d) (zor_ok (cs_X8_worth_3 d) (zor_ok (cs_X8_worth_4 d) (zor_ok (cs_X8_worth_5 d) (zor_ok (cs_X8_worth_6 d) (zor_ok (cs_X8_worth_7 d) (zor_ok (cs_X8_worth_8 d) (zor_ok (cs_X8_worth_9 d) (zor_ok (cs_X8_worth_10 d) (zor_ok (cs_X8_worth_11 d) (zor_ok (cs_X8_worth_12 d) (zor_ok (cs_X8_worth_13 d) (zor_ok (cs_X8_worth_14 d) (zor_ok (cs_X8_worth_15 d) (zor_ok (cs_X8_worth_16 d) (cs_X8_worth_17 d))))))))))))))))))
def p_X8_hidden : List Nat := [0, 7, 14, 19, 25, 27, 47, 54, 63, 66, 111]
noncomputable def b_X8_hidden_0 : zBl := fun jp K => oIld 1 <| oCs 1 f_X8_isX <| oIf zeq zne (jp 4) (jp 1)
theorem s_X8_hidden_0 (d : Nat) : zPb l G gh (d + 6) n_X8_hidden p_X8_hidden 0 b_X8_hidden_0 := fun K jp hj =>
    z_iload_n (n := 1) (i := 1) (zd (i := .iload_n 1) (n := 1) (by decide +kernel)) rfl <|
    z_callS (idx := 175) (N := n_X8_isX) (zd (i := .invokestatic 175) (n := 3) (by decide +kernel)) to_X8_isX g805 g806 rfl rfl (c_X8_isX (l := l) (G := G) (gh := gh) (d + 4)) <|
    z_if_eq (off := 21) (tgt := 25) (zd (i := .ifCond .eq (21)) (n := 3) (by decide +kernel)) (by decide +kernel) (zj (hj 4) (by decide +kernel)) (zj (hj 1) (by decide +kernel))
noncomputable def b_X8_hidden_1 : zBl := fun jp K => oIld 2 <| oCs 1 f_X8_isX <| oIf zeq zne (jp 4) (jp 2)
theorem s_X8_hidden_1 (d : Nat) : zPb l G gh (d + 6) n_X8_hidden p_X8_hidden 7 b_X8_hidden_1 := fun K jp hj =>
    z_iload_n (n := 2) (i := 2) (zd (i := .iload_n 2) (n := 1) (by decide +kernel)) rfl <|
    z_callS (idx := 175) (N := n_X8_isX) (zd (i := .invokestatic 175) (n := 3) (by decide +kernel)) to_X8_isX g805 g806 rfl rfl (c_X8_isX (l := l) (G := G) (gh := gh) (d + 4)) <|
    z_if_eq (off := 14) (tgt := 25) (zd (i := .ifCond .eq (14)) (n := 3) (by decide +kernel)) (by decide +kernel) (zj (hj 4) (by decide +kernel)) (zj (hj 2) (by decide +kernel))
noncomputable def b_X8_hidden_2 : zBl := fun jp K => oNLC 3 2147483649 zltN zgeN zn1_lt zn1_ge (jp 4) (jp 3)
theorem s_X8_hidden_2 (d : Nat) : zPb l G gh (d + 6) n_X8_hidden p_X8_hidden 14 b_X8_hidden_2 := fun K jp hj =>
    z_nLC_lt (i := 3) (c0 := 2147483649) (a1 := 1) (a2 := 1) (off := 9) (tgt := 25) (zLd_n (n := 3) (i := 3) (zd (i := .iload_n 3) (n := 1) (by decide +kernel)) rfl) (zCn_c (n := 1) (zd (i := .iconst (1)) (n := 1) (by decide +kernel)) (by decide +kernel)) (zd (i := .if_icmp .lt (9)) (n := 3) (by decide +kernel)) (by decide +kernel) (zj (hj 4) (by decide +kernel)) (zj (hj 3) (by decide +kernel))
noncomputable def b_X8_hidden_3 : zBl := fun jp K => oNLC 3 2147483657 zleN zgtN zn1_le zn1_gt (jp 5) (jp 4)
theorem s_X8_hidden_3 (d : Nat) : zPb l G gh (d + 6) n_X8_hidden p_X8_hidden 19 b_X8_hidden_3 := fun K jp hj =>
    z_nLC_le (i := 3) (c0 := 2147483657) (a1 := 1) (a2 := 2) (off := 5) (tgt := 27) (zLd_n (n := 3) (i := 3) (zd (i := .iload_n 3) (n := 1) (by decide +kernel)) rfl) (zCn_b (n := 9) (zd (i := .bipush (9)) (n := 2) (by decide +kernel)) (by decide +kernel)) (zd (i := .if_icmp .le (5)) (n := 3) (by decide +kernel)) (by decide +kernel) (zj (hj 5) (by decide +kernel)) (zj (hj 4) (by decide +kernel))
noncomputable def b_X8_hidden_4 : zBl := fun jp K => oInt 2147483647 <| oIret K
theorem s_X8_hidden_4 (d : Nat) : zPb l G gh (d + 6) n_X8_hidden p_X8_hidden 25 b_X8_hidden_4 := fun K jp hj =>
    z_iconst (n := -1) (zd (i := .iconst (-1)) (n := 1) (by decide +kernel)) (by decide +kernel) <|
    z_iret (zd (i := .ireturn) (n := 1) (by decide +kernel)) rfl
noncomputable def b_X8_hidden_5 : zBl := fun jp K => oAld 0 <| oInt 2147483649 <| oIld 1 <| oB2 zishl <| oIld 3 <| oAld 0 <| oGetR 8 2 <| oGetI 4 0 <| oCv 8 3 gs_X8_unseenOf <| oIst 4 <| oInt 2147483648 <| oIst 5 <| jp 6
theorem s_X8_hidden_5 (d : Nat) : zPb l G gh (d + 6) n_X8_hidden p_X8_hidden 27 b_X8_hidden_5 := fun K jp hj =>
    z_aload_n (n := 0) (i := 0) (zd (i := .aload_n 0) (n := 1) (by decide +kernel)) rfl <|
    z_iconst (n := 1) (zd (i := .iconst (1)) (n := 1) (by decide +kernel)) (by decide +kernel) <|
    z_iload_n (n := 1) (i := 1) (zd (i := .iload_n 1) (n := 1) (by decide +kernel)) rfl <|
    z_ishl (zd (i := .ishl) (n := 1) (by decide +kernel)) <|
    z_iload_n (n := 3) (i := 3) (zd (i := .iload_n 3) (n := 1) (by decide +kernel)) rfl <|
    z_aload_n (n := 0) (i := 0) (zd (i := .aload_n 0) (n := 1) (by decide +kernel)) rfl <|
    z_getR (ci := 8) (j := 2) (idx := 26) (zd (i := .getfield 26) (n := 3) (by decide +kernel)) (by decide +kernel) (by decide +kernel) rfl g454 <|
    z_getI (ci := 4) (j := 0) (idx := 140) (zd (i := .getfield 140) (n := 3) (by decide +kernel)) (by decide +kernel) (by decide +kernel) rfl g368 <|
    z_callV (idx := 282) (ci := 8) (N := n_X8_unseenOf) (zd (i := .invokevirtual 282) (n := 3) (by decide +kernel)) to_X8_unseenOf g995 g997 g35 (by decide +kernel) rfl rfl rfl (cs_X8_unseenOf (l := l) (G := G) (gh := gh) (d)) <|
    z_istore (i := 4) (zd (i := .istore 4) (n := 2) (by decide +kernel)) (by decide +kernel) <|
    z_iconst (n := 0) (zd (i := .iconst (0)) (n := 1) (by decide +kernel)) (by decide +kernel) <|
    z_istore (i := 5) (zd (i := .istore 5) (n := 2) (by decide +kernel)) (by decide +kernel) <|
    (zj (hj 6) (by decide +kernel))
noncomputable def b_X8_hidden_6 : zBl := fun jp K => oNLC 5 2147483696 zgtN zleN zn1_gt zn1_le (jp 10) (jp 7)
theorem s_X8_hidden_6 (d : Nat) : zPb l G gh (d + 6) n_X8_hidden p_X8_hidden 47 b_X8_hidden_6 := fun K jp hj =>
    z_nLC_gt (i := 5) (c0 := 2147483696) (a1 := 2) (a2 := 2) (off := 60) (tgt := 111) (zLd_w (i := 5) (zd (i := .iload 5) (n := 2) (by decide +kernel))) (zCn_b (n := 48) (zd (i := .bipush (48)) (n := 2) (by decide +kernel)) (by decide +kernel)) (zd (i := .if_icmp .gt (60)) (n := 3) (by decide +kernel)) (by decide +kernel) (zj (hj 10) (by decide +kernel)) (zj (hj 7) (by decide +kernel))
noncomputable def b_X8_hidden_7 : zBl := fun jp K => oIld 4 <| oIld 2 <| oB2 zishr <| oInt 2147483649 <| oB2 ziand <| oIf zeq zne (jp 9) (jp 8)
theorem s_X8_hidden_7 (d : Nat) : zPb l G gh (d + 6) n_X8_hidden p_X8_hidden 54 b_X8_hidden_7 := fun K jp hj =>
    z_iload (i := 4) (zd (i := .iload 4) (n := 2) (by decide +kernel)) <|
    z_iload_n (n := 2) (i := 2) (zd (i := .iload_n 2) (n := 1) (by decide +kernel)) rfl <|
    z_ishr (zd (i := .ishr) (n := 1) (by decide +kernel)) <|
    z_iconst (n := 1) (zd (i := .iconst (1)) (n := 1) (by decide +kernel)) (by decide +kernel) <|
    z_iand (zd (i := .iand) (n := 1) (by decide +kernel)) <|
    z_if_eq (off := 6) (tgt := 66) (zd (i := .ifCond .eq (6)) (n := 3) (by decide +kernel)) (by decide +kernel) (zj (hj 9) (by decide +kernel)) (zj (hj 8) (by decide +kernel))
noncomputable def b_X8_hidden_8 : zBl := fun jp K => oIld 5 <| oIret K
theorem s_X8_hidden_8 (d : Nat) : zPb l G gh (d + 6) n_X8_hidden p_X8_hidden 63 b_X8_hidden_8 := fun K jp hj =>
    z_iload (i := 5) (zd (i := .iload 5) (n := 2) (by decide +kernel)) <|
    z_iret (zd (i := .ireturn) (n := 1) (by decide +kernel)) rfl
noncomputable def b_X8_hidden_9 : zBl := fun jp K => oIld 4 <| oIld 4 <| oInt 2147483649 <| oB2 zishl <| oB2 zior <| oIld 4 <| oInt 2147483649 <| oB2 zishr <| oB2 zior <| oInt 2148532223 <| oB2 ziand <| oIst 6 <| oAld 0 <| oIld 6 <| oIld 3 <| oAld 0 <| oGetR 8 2 <| oGetI 4 0 <| oIld 5 <| oB2 zadd <| oInt 2147483649 <| oB2 zadd <| oCv 8 3 gs_X8_unseenOf <| oIst 4 <| oInc 5 2147483649 <| jp 6
theorem s_X8_hidden_9 (d : Nat) : zPb l G gh (d + 6) n_X8_hidden p_X8_hidden 66 b_X8_hidden_9 := fun K jp hj =>
    z_iload (i := 4) (zd (i := .iload 4) (n := 2) (by decide +kernel)) <|
    z_iload (i := 4) (zd (i := .iload 4) (n := 2) (by decide +kernel)) <|
    z_iconst (n := 1) (zd (i := .iconst (1)) (n := 1) (by decide +kernel)) (by decide +kernel) <|
    z_ishl (zd (i := .ishl) (n := 1) (by decide +kernel)) <|
    z_ior (zd (i := .ior) (n := 1) (by decide +kernel)) <|
    z_iload (i := 4) (zd (i := .iload 4) (n := 2) (by decide +kernel)) <|
    z_iconst (n := 1) (zd (i := .iconst (1)) (n := 1) (by decide +kernel)) (by decide +kernel) <|
    z_ishr (zd (i := .ishr) (n := 1) (by decide +kernel)) <|
    z_ior (zd (i := .ior) (n := 1) (by decide +kernel)) <|
    z_ldcw (n := 285) (zd (i := .ldc_w 285) (n := 3) (by decide +kernel)) g1001 (by decide +kernel) <|
    z_iand (zd (i := .iand) (n := 1) (by decide +kernel)) <|
    z_istore (i := 6) (zd (i := .istore 6) (n := 2) (by decide +kernel)) (by decide +kernel) <|
    z_aload_n (n := 0) (i := 0) (zd (i := .aload_n 0) (n := 1) (by decide +kernel)) rfl <|
    z_iload (i := 6) (zd (i := .iload 6) (n := 2) (by decide +kernel)) <|
    z_iload_n (n := 3) (i := 3) (zd (i := .iload_n 3) (n := 1) (by decide +kernel)) rfl <|
    z_aload_n (n := 0) (i := 0) (zd (i := .aload_n 0) (n := 1) (by decide +kernel)) rfl <|
    z_getR (ci := 8) (j := 2) (idx := 26) (zd (i := .getfield 26) (n := 3) (by decide +kernel)) (by decide +kernel) (by decide +kernel) rfl g454 <|
    z_getI (ci := 4) (j := 0) (idx := 140) (zd (i := .getfield 140) (n := 3) (by decide +kernel)) (by decide +kernel) (by decide +kernel) rfl g368 <|
    z_iload (i := 5) (zd (i := .iload 5) (n := 2) (by decide +kernel)) <|
    z_iadd (zd (i := .iadd) (n := 1) (by decide +kernel)) <|
    z_iconst (n := 1) (zd (i := .iconst (1)) (n := 1) (by decide +kernel)) (by decide +kernel) <|
    z_iadd (zd (i := .iadd) (n := 1) (by decide +kernel)) <|
    z_callV (idx := 282) (ci := 8) (N := n_X8_unseenOf) (zd (i := .invokevirtual 282) (n := 3) (by decide +kernel)) to_X8_unseenOf g995 g997 g35 (by decide +kernel) rfl rfl rfl (cs_X8_unseenOf (l := l) (G := G) (gh := gh) (d)) <|
    z_istore (i := 4) (zd (i := .istore 4) (n := 2) (by decide +kernel)) (by decide +kernel) <|
    z_iinc (i := 5) (n := 1) (zd (i := .iinc 5 (1)) (n := 3) (by decide +kernel)) (by decide +kernel) (by decide +kernel) <|
    z_goto (off := -61) (tgt := 47) (zd (i := .goto (-61)) (n := 3) (by decide +kernel)) (by decide +kernel) (zj (hj 6) (by decide +kernel))
noncomputable def b_X8_hidden_10 : zBl := fun jp K => oInt 2147483646 <| oIret K
theorem s_X8_hidden_10 (d : Nat) : zPb l G gh (d + 6) n_X8_hidden p_X8_hidden 111 b_X8_hidden_10 := fun K jp hj =>
    z_bipush (n := -2) (zd (i := .bipush (-2)) (n := 2) (by decide +kernel)) (by decide +kernel) <|
    z_iret (zd (i := .ireturn) (n := 1) (by decide +kernel)) rfl
noncomputable def t_X8_hidden : List zBl := [b_X8_hidden_0, b_X8_hidden_1, b_X8_hidden_2, b_X8_hidden_3, b_X8_hidden_4, b_X8_hidden_5, b_X8_hidden_6, b_X8_hidden_7, b_X8_hidden_8, b_X8_hidden_9, b_X8_hidden_10]
theorem tt_X8_hidden (d : Nat) : zT (zPb l G gh (d + 6) n_X8_hidden p_X8_hidden) t_X8_hidden p_X8_hidden := ⟨s_X8_hidden_0 d, s_X8_hidden_1 d, s_X8_hidden_2 d, s_X8_hidden_3 d, s_X8_hidden_4 d, s_X8_hidden_5 d, s_X8_hidden_6 d, s_X8_hidden_7 d, s_X8_hidden_8 d, s_X8_hidden_9 d, s_X8_hidden_10 d, trivial⟩
def q_X8_hidden_0 : List (Nat × Nat) := [(0, zk0), (21, zk10), (22, zk12), (259, zk20), (265, zk2), (266, zk18), (267, zk18), (268, zk19), (269, zk3), (270, zk7)]
noncomputable def al_X8_hidden_0 : zAq := [(some (.inl 9223372034707292208), [(0, zk0), (21, zk10), (22, zk12), (259, zk20), (265, zk2), (266, zk18), (267, zk18), (268, zk19), (269, zk4), (270, zk9)])]
def mq_X8_hidden_0_1 : List (Nat × Nat) := [(0, zk0), (21, zk10), (22, zk12), (259, zk20), (265, zk2), (266, zk18), (267, zk18), (268, zk19), (269, zk4), (270, zk9)]
noncomputable def fm_X8_hidden_0 : List zFm := [(0, [], (fun vs => [.inr (.ref 0), .inl 9223372043297226771, .inl 9223372043297226771, .inl 9223372047592194057]), (fun vs => zP q_X8_hidden_0), (fun vs => Nat.sub (Nat.add 50 0) 0)),
  (6, [(5, 2147483648, 2147483697)], (fun vs => [.inr (.ref 0), .inl 9223372043297226771, .inl 9223372043297226771, .inl 9223372047592194057, .inl 8589934591, .inl (zn 0 vs 0)]), (fun vs => zP mq_X8_hidden_0_1), (fun vs => Nat.sub (Nat.add 2147483697 0) (Nat.add 0 (Nat.mul 1 (zn 0 vs 0)))))]
def bf_X8_hidden_0 : List Nat := [0, 0, 0, 0, 0, 0, 2]
theorem r_X8_hidden_0_0 : zbox [] (fun vs => zFrun (zpost (zAlq al_X8_hidden_0)) 1000 t_X8_hidden fm_X8_hidden_0 bf_X8_hidden_0 (0, vs)) = true := by decide +kernel
theorem r_X8_hidden_0_1 : zbox [(5, 2147483648, 2147483697)] (fun vs => zFrun (zpost (zAlq al_X8_hidden_0)) 1000 t_X8_hidden fm_X8_hidden_0 bf_X8_hidden_0 (1, vs)) = true := by decide +kernel
set_option maxRecDepth 100000 in
theorem x_X8_hidden_0 (d : Nat) : zS l G gh (d + 6) (zpost (zAlq al_X8_hidden_0)) n_X8_hidden (zn 0 p_X8_hidden 0) (zwc (0, [.inr (.ref 0), .inl 9223372043297226771, .inl 9223372043297226771, .inl 9223372047592194057], zP q_X8_hidden_0) 0) := zentry (tt_X8_hidden d) fm_X8_hidden_0 bf_X8_hidden_0 1000 (by decide +kernel) rfl ⟨Nat.zero_lt_succ _, trivial⟩ (fun f hf => match f, hf with
  | 0, _ => fun vs hv => (zbox_t r_X8_hidden_0_0) vs hv
  | 1, _ => fun vs hv => (zbox_t r_X8_hidden_0_1) vs hv
  | f + 2, h => absurd (show f + 2 < 2 from h) (Nat.not_lt.mpr (Nat.le_add_left 2 f)))
noncomputable def gs_X8_hidden_0 : zMt := zgq false [] 7 [.inr (.ref 0), .inl 9223372043297226771, .inl 9223372043297226771, .inl 9223372047592194057] q_X8_hidden_0 al_X8_hidden_0
set_option maxRecDepth 100000 in
theorem cs_X8_hidden_0 (d : Nat) : zC l G gh (d + 6) n_X8_hidden gs_X8_hidden_0 := zgq_ok0 (pcs := p_X8_hidden) (by decide) rfl rfl (fun a ha => by simp only [al_X8_hidden_0, List.mem_cons, List.not_mem_nil, or_false] at ha; rcases ha with rfl <;> decide +kernel) (fun gh => x_X8_hidden_0 d) (by decide +kernel)
def q_X8_hidden_1 : List (Nat × Nat) := []
noncomputable def al_X8_hidden_1 : zAq := [(some (.inl 2147483647), [])]
noncomputable def fm_X8_hidden_1 : List zFm := [(0, [], (fun vs => [.inr (.ref 0), .inl 9223372043297226771, .inl 9223372043297226771, .inl 6442450944]), (fun vs => zP q_X8_hidden_1), (fun vs => Nat.sub (Nat.add 0 0) 0))]
def bf_X8_hidden_1 : List Nat := []
theorem r_X8_hidden_1_0 : zbox [] (fun vs => zFrun (zpost (zAlq al_X8_hidden_1)) 1000 t_X8_hidden fm_X8_hidden_1 bf_X8_hidden_1 (0, vs)) = true := by decide +kernel
set_option maxRecDepth 100000 in
theorem x_X8_hidden_1 (d : Nat) : zS l G gh (d + 6) (zpost (zAlq al_X8_hidden_1)) n_X8_hidden (zn 0 p_X8_hidden 0) (zwc (0, [.inr (.ref 0), .inl 9223372043297226771, .inl 9223372043297226771, .inl 6442450944], zP q_X8_hidden_1) 0) := zentry (tt_X8_hidden d) fm_X8_hidden_1 bf_X8_hidden_1 1000 (by decide +kernel) rfl ⟨Nat.zero_lt_succ _, trivial⟩ (fun f hf => match f, hf with
  | 0, _ => fun vs hv => (zbox_t r_X8_hidden_1_0) vs hv
  | f + 1, h => absurd (show f + 1 < 1 from h) (Nat.not_lt.mpr (Nat.le_add_left 1 f)))
noncomputable def gs_X8_hidden_1 : zMt := zgq false [] 7 [.inr (.ref 0), .inl 9223372043297226771, .inl 9223372043297226771, .inl 6442450944] q_X8_hidden_1 al_X8_hidden_1
set_option maxRecDepth 100000 in
theorem cs_X8_hidden_1 (d : Nat) : zC l G gh (d + 6) n_X8_hidden gs_X8_hidden_1 := zgq_ok0 (pcs := p_X8_hidden) (by decide) rfl rfl (fun a ha => by simp only [al_X8_hidden_1, List.mem_cons, List.not_mem_nil, or_false] at ha; rcases ha with rfl <;> decide +kernel) (fun gh => x_X8_hidden_1 d) (by decide +kernel)
def q_X8_hidden_2 : List (Nat × Nat) := []
noncomputable def al_X8_hidden_2 : zAq := [(some (.inl 2147483647), [])]
noncomputable def fm_X8_hidden_2 : List zFm := [(0, [], (fun vs => [.inr (.ref 0), .inl 9223372043297226771, .inl 9223372043297226771, .inl 9223372088394383359]), (fun vs => zP q_X8_hidden_2), (fun vs => Nat.sub (Nat.add 0 0) 0))]
def bf_X8_hidden_2 : List Nat := []
theorem r_X8_hidden_2_0 : zbox [] (fun vs => zFrun (zpost (zAlq al_X8_hidden_2)) 1000 t_X8_hidden fm_X8_hidden_2 bf_X8_hidden_2 (0, vs)) = true := by decide +kernel
set_option maxRecDepth 100000 in
theorem x_X8_hidden_2 (d : Nat) : zS l G gh (d + 6) (zpost (zAlq al_X8_hidden_2)) n_X8_hidden (zn 0 p_X8_hidden 0) (zwc (0, [.inr (.ref 0), .inl 9223372043297226771, .inl 9223372043297226771, .inl 9223372088394383359], zP q_X8_hidden_2) 0) := zentry (tt_X8_hidden d) fm_X8_hidden_2 bf_X8_hidden_2 1000 (by decide +kernel) rfl ⟨Nat.zero_lt_succ _, trivial⟩ (fun f hf => match f, hf with
  | 0, _ => fun vs hv => (zbox_t r_X8_hidden_2_0) vs hv
  | f + 1, h => absurd (show f + 1 < 1 from h) (Nat.not_lt.mpr (Nat.le_add_left 1 f)))
noncomputable def gs_X8_hidden_2 : zMt := zgq false [] 7 [.inr (.ref 0), .inl 9223372043297226771, .inl 9223372043297226771, .inl 9223372088394383359] q_X8_hidden_2 al_X8_hidden_2
set_option maxRecDepth 100000 in
theorem cs_X8_hidden_2 (d : Nat) : zC l G gh (d + 6) n_X8_hidden gs_X8_hidden_2 := zgq_ok0 (pcs := p_X8_hidden) (by decide) rfl rfl (fun a ha => by simp only [al_X8_hidden_2, List.mem_cons, List.not_mem_nil, or_false] at ha; rcases ha with rfl <;> decide +kernel) (fun gh => x_X8_hidden_2 d) (by decide +kernel)
def q_X8_hidden_3 : List (Nat × Nat) := []
noncomputable def al_X8_hidden_3 : zAq := [(some (.inl 2147483647), [])]
noncomputable def fm_X8_hidden_3 : List zFm := [(0, [], (fun vs => [.inr (.ref 0), .inl 9223372043297226771, .inl 6442450943, .inl 8589934591]), (fun vs => zP q_X8_hidden_3), (fun vs => Nat.sub (Nat.add 0 0) 0))]
def bf_X8_hidden_3 : List Nat := []
theorem r_X8_hidden_3_0 : zbox [] (fun vs => zFrun (zpost (zAlq al_X8_hidden_3)) 1000 t_X8_hidden fm_X8_hidden_3 bf_X8_hidden_3 (0, vs)) = true := by decide +kernel
set_option maxRecDepth 100000 in
theorem x_X8_hidden_3 (d : Nat) : zS l G gh (d + 6) (zpost (zAlq al_X8_hidden_3)) n_X8_hidden (zn 0 p_X8_hidden 0) (zwc (0, [.inr (.ref 0), .inl 9223372043297226771, .inl 6442450943, .inl 8589934591], zP q_X8_hidden_3) 0) := zentry (tt_X8_hidden d) fm_X8_hidden_3 bf_X8_hidden_3 1000 (by decide +kernel) rfl ⟨Nat.zero_lt_succ _, trivial⟩ (fun f hf => match f, hf with
  | 0, _ => fun vs hv => (zbox_t r_X8_hidden_3_0) vs hv
  | f + 1, h => absurd (show f + 1 < 1 from h) (Nat.not_lt.mpr (Nat.le_add_left 1 f)))
noncomputable def gs_X8_hidden_3 : zMt := zgq false [] 7 [.inr (.ref 0), .inl 9223372043297226771, .inl 6442450943, .inl 8589934591] q_X8_hidden_3 al_X8_hidden_3
set_option maxRecDepth 100000 in
theorem cs_X8_hidden_3 (d : Nat) : zC l G gh (d + 6) n_X8_hidden gs_X8_hidden_3 := zgq_ok0 (pcs := p_X8_hidden) (by decide) rfl rfl (fun a ha => by simp only [al_X8_hidden_3, List.mem_cons, List.not_mem_nil, or_false] at ha; rcases ha with rfl <;> decide +kernel) (fun gh => x_X8_hidden_3 d) (by decide +kernel)
def q_X8_hidden_4 : List (Nat × Nat) := []
noncomputable def al_X8_hidden_4 : zAq := [(some (.inl 2147483647), [])]
noncomputable def fm_X8_hidden_4 : List zFm := [(0, [], (fun vs => [.inr (.ref 0), .inl 9223372043297226771, .inl 9223372131344056319, .inl 8589934591]), (fun vs => zP q_X8_hidden_4), (fun vs => Nat.sub (Nat.add 0 0) 0))]
def bf_X8_hidden_4 : List Nat := []
theorem r_X8_hidden_4_0 : zbox [] (fun vs => zFrun (zpost (zAlq al_X8_hidden_4)) 1000 t_X8_hidden fm_X8_hidden_4 bf_X8_hidden_4 (0, vs)) = true := by decide +kernel
set_option maxRecDepth 100000 in
theorem x_X8_hidden_4 (d : Nat) : zS l G gh (d + 6) (zpost (zAlq al_X8_hidden_4)) n_X8_hidden (zn 0 p_X8_hidden 0) (zwc (0, [.inr (.ref 0), .inl 9223372043297226771, .inl 9223372131344056319, .inl 8589934591], zP q_X8_hidden_4) 0) := zentry (tt_X8_hidden d) fm_X8_hidden_4 bf_X8_hidden_4 1000 (by decide +kernel) rfl ⟨Nat.zero_lt_succ _, trivial⟩ (fun f hf => match f, hf with
  | 0, _ => fun vs hv => (zbox_t r_X8_hidden_4_0) vs hv
  | f + 1, h => absurd (show f + 1 < 1 from h) (Nat.not_lt.mpr (Nat.le_add_left 1 f)))
noncomputable def gs_X8_hidden_4 : zMt := zgq false [] 7 [.inr (.ref 0), .inl 9223372043297226771, .inl 9223372131344056319, .inl 8589934591] q_X8_hidden_4 al_X8_hidden_4
set_option maxRecDepth 100000 in
theorem cs_X8_hidden_4 (d : Nat) : zC l G gh (d + 6) n_X8_hidden gs_X8_hidden_4 := zgq_ok0 (pcs := p_X8_hidden) (by decide) rfl rfl (fun a ha => by simp only [al_X8_hidden_4, List.mem_cons, List.not_mem_nil, or_false] at ha; rcases ha with rfl <;> decide +kernel) (fun gh => x_X8_hidden_4 d) (by decide +kernel)
def q_X8_hidden_5 : List (Nat × Nat) := []
noncomputable def al_X8_hidden_5 : zAq := [(some (.inl 2147483647), [])]
noncomputable def fm_X8_hidden_5 : List zFm := [(0, [], (fun vs => [.inr (.ref 0), .inl 6442450943, .inl 8589934591, .inl 8589934591]), (fun vs => zP q_X8_hidden_5), (fun vs => Nat.sub (Nat.add 0 0) 0))]
def bf_X8_hidden_5 : List Nat := []
theorem r_X8_hidden_5_0 : zbox [] (fun vs => zFrun (zpost (zAlq al_X8_hidden_5)) 1000 t_X8_hidden fm_X8_hidden_5 bf_X8_hidden_5 (0, vs)) = true := by decide +kernel
set_option maxRecDepth 100000 in
theorem x_X8_hidden_5 (d : Nat) : zS l G gh (d + 6) (zpost (zAlq al_X8_hidden_5)) n_X8_hidden (zn 0 p_X8_hidden 0) (zwc (0, [.inr (.ref 0), .inl 6442450943, .inl 8589934591, .inl 8589934591], zP q_X8_hidden_5) 0) := zentry (tt_X8_hidden d) fm_X8_hidden_5 bf_X8_hidden_5 1000 (by decide +kernel) rfl ⟨Nat.zero_lt_succ _, trivial⟩ (fun f hf => match f, hf with
  | 0, _ => fun vs hv => (zbox_t r_X8_hidden_5_0) vs hv
  | f + 1, h => absurd (show f + 1 < 1 from h) (Nat.not_lt.mpr (Nat.le_add_left 1 f)))
noncomputable def gs_X8_hidden_5 : zMt := zgq false [] 7 [.inr (.ref 0), .inl 6442450943, .inl 8589934591, .inl 8589934591] q_X8_hidden_5 al_X8_hidden_5
set_option maxRecDepth 100000 in
theorem cs_X8_hidden_5 (d : Nat) : zC l G gh (d + 6) n_X8_hidden gs_X8_hidden_5 := zgq_ok0 (pcs := p_X8_hidden) (by decide) rfl rfl (fun a ha => by simp only [al_X8_hidden_5, List.mem_cons, List.not_mem_nil, or_false] at ha; rcases ha with rfl <;> decide +kernel) (fun gh => x_X8_hidden_5 d) (by decide +kernel)
def q_X8_hidden_6 : List (Nat × Nat) := []
noncomputable def al_X8_hidden_6 : zAq := [(some (.inl 2147483647), [])]
noncomputable def fm_X8_hidden_6 : List zFm := [(0, [], (fun vs => [.inr (.ref 0), .inl 9223372131344056319, .inl 8589934591, .inl 8589934591]), (fun vs => zP q_X8_hidden_6), (fun vs => Nat.sub (Nat.add 0 0) 0))]
def bf_X8_hidden_6 : List Nat := []
theorem r_X8_hidden_6_0 : zbox [] (fun vs => zFrun (zpost (zAlq al_X8_hidden_6)) 1000 t_X8_hidden fm_X8_hidden_6 bf_X8_hidden_6 (0, vs)) = true := by decide +kernel
set_option maxRecDepth 100000 in
theorem x_X8_hidden_6 (d : Nat) : zS l G gh (d + 6) (zpost (zAlq al_X8_hidden_6)) n_X8_hidden (zn 0 p_X8_hidden 0) (zwc (0, [.inr (.ref 0), .inl 9223372131344056319, .inl 8589934591, .inl 8589934591], zP q_X8_hidden_6) 0) := zentry (tt_X8_hidden d) fm_X8_hidden_6 bf_X8_hidden_6 1000 (by decide +kernel) rfl ⟨Nat.zero_lt_succ _, trivial⟩ (fun f hf => match f, hf with
  | 0, _ => fun vs hv => (zbox_t r_X8_hidden_6_0) vs hv
  | f + 1, h => absurd (show f + 1 < 1 from h) (Nat.not_lt.mpr (Nat.le_add_left 1 f)))
noncomputable def gs_X8_hidden_6 : zMt := zgq false [] 7 [.inr (.ref 0), .inl 9223372131344056319, .inl 8589934591, .inl 8589934591] q_X8_hidden_6 al_X8_hidden_6
set_option maxRecDepth 100000 in
theorem cs_X8_hidden_6 (d : Nat) : zC l G gh (d + 6) n_X8_hidden gs_X8_hidden_6 := zgq_ok0 (pcs := p_X8_hidden) (by decide) rfl rfl (fun a ha => by simp only [al_X8_hidden_6, List.mem_cons, List.not_mem_nil, or_false] at ha; rcases ha with rfl <;> decide +kernel) (fun gh => x_X8_hidden_6 d) (by decide +kernel)
def q_X8_hidden_7 : List (Nat × Nat) := [(0, zk1), (9, zk21), (15, zk5), (16, zk18), (17, zk18), (18, zk19), (19, zk3), (20, zk7), (21, zk10), (22, zk12)]
noncomputable def al_X8_hidden_7 : zAq := [(some (.inl 9223372034707292208), [(0, zk1), (9, zk21), (15, zk5), (16, zk18), (17, zk18), (18, zk19), (19, zk4), (20, zk9), (21, zk10), (22, zk12)])]
def mq_X8_hidden_7_1 : List (Nat × Nat) := [(0, zk1), (9, zk21), (15, zk5), (16, zk18), (17, zk18), (18, zk19), (19, zk4), (20, zk9), (21, zk10), (22, zk12)]
noncomputable def fm_X8_hidden_7 : List zFm := [(0, [], (fun vs => [.inr (.ref 0), .inl 9223372043297226771, .inl 9223372043297226771, .inl 9223372047592194057]), (fun vs => zP q_X8_hidden_7), (fun vs => Nat.sub (Nat.add 50 0) 0)),
  (6, [(5, 2147483648, 2147483697)], (fun vs => [.inr (.ref 0), .inl 9223372043297226771, .inl 9223372043297226771, .inl 9223372047592194057, .inl 8589934591, .inl (zn 0 vs 0)]), (fun vs => zP mq_X8_hidden_7_1), (fun vs => Nat.sub (Nat.add 2147483697 0) (Nat.add 0 (Nat.mul 1 (zn 0 vs 0)))))]
def bf_X8_hidden_7 : List Nat := [0, 0, 0, 0, 0, 0, 2]
theorem r_X8_hidden_7_0 : zbox [] (fun vs => zFrun (zpost (zAlq al_X8_hidden_7)) 1000 t_X8_hidden fm_X8_hidden_7 bf_X8_hidden_7 (0, vs)) = true := by decide +kernel
theorem r_X8_hidden_7_1 : zbox [(5, 2147483648, 2147483697)] (fun vs => zFrun (zpost (zAlq al_X8_hidden_7)) 1000 t_X8_hidden fm_X8_hidden_7 bf_X8_hidden_7 (1, vs)) = true := by decide +kernel
set_option maxRecDepth 100000 in
theorem x_X8_hidden_7 (d : Nat) : zS l G gh (d + 6) (zpost (zAlq al_X8_hidden_7)) n_X8_hidden (zn 0 p_X8_hidden 0) (zwc (0, [.inr (.ref 0), .inl 9223372043297226771, .inl 9223372043297226771, .inl 9223372047592194057], zP q_X8_hidden_7) 0) := zentry (tt_X8_hidden d) fm_X8_hidden_7 bf_X8_hidden_7 1000 (by decide +kernel) rfl ⟨Nat.zero_lt_succ _, trivial⟩ (fun f hf => match f, hf with
  | 0, _ => fun vs hv => (zbox_t r_X8_hidden_7_0) vs hv
  | 1, _ => fun vs hv => (zbox_t r_X8_hidden_7_1) vs hv
  | f + 2, h => absurd (show f + 2 < 2 from h) (Nat.not_lt.mpr (Nat.le_add_left 2 f)))
noncomputable def gs_X8_hidden_7 : zMt := zgq false [] 7 [.inr (.ref 0), .inl 9223372043297226771, .inl 9223372043297226771, .inl 9223372047592194057] q_X8_hidden_7 al_X8_hidden_7
set_option maxRecDepth 100000 in
theorem cs_X8_hidden_7 (d : Nat) : zC l G gh (d + 6) n_X8_hidden gs_X8_hidden_7 := zgq_ok0 (pcs := p_X8_hidden) (by decide) rfl rfl (fun a ha => by simp only [al_X8_hidden_7, List.mem_cons, List.not_mem_nil, or_false] at ha; rcases ha with rfl <;> decide +kernel) (fun gh => x_X8_hidden_7 d) (by decide +kernel)
def q_X8_hidden_8 : List (Nat × Nat) := []
noncomputable def al_X8_hidden_8 : zAq := [(some (.inl 2147483647), [])]
noncomputable def fm_X8_hidden_8 : List zFm := [(0, [], (fun vs => [.inr (.ref 0), .inl 9223372043297226771, .inl 9223372043297226771, .inl 6442450944]), (fun vs => zP q_X8_hidden_8), (fun vs => Nat.sub (Nat.add 0 0) 0))]
def bf_X8_hidden_8 : List Nat := []
theorem r_X8_hidden_8_0 : zbox [] (fun vs => zFrun (zpost (zAlq al_X8_hidden_8)) 1000 t_X8_hidden fm_X8_hidden_8 bf_X8_hidden_8 (0, vs)) = true := by decide +kernel
set_option maxRecDepth 100000 in
theorem x_X8_hidden_8 (d : Nat) : zS l G gh (d + 6) (zpost (zAlq al_X8_hidden_8)) n_X8_hidden (zn 0 p_X8_hidden 0) (zwc (0, [.inr (.ref 0), .inl 9223372043297226771, .inl 9223372043297226771, .inl 6442450944], zP q_X8_hidden_8) 0) := zentry (tt_X8_hidden d) fm_X8_hidden_8 bf_X8_hidden_8 1000 (by decide +kernel) rfl ⟨Nat.zero_lt_succ _, trivial⟩ (fun f hf => match f, hf with
  | 0, _ => fun vs hv => (zbox_t r_X8_hidden_8_0) vs hv
  | f + 1, h => absurd (show f + 1 < 1 from h) (Nat.not_lt.mpr (Nat.le_add_left 1 f)))
noncomputable def gs_X8_hidden_8 : zMt := zgq false [] 7 [.inr (.ref 0), .inl 9223372043297226771, .inl 9223372043297226771, .inl 6442450944] q_X8_hidden_8 al_X8_hidden_8
set_option maxRecDepth 100000 in
theorem cs_X8_hidden_8 (d : Nat) : zC l G gh (d + 6) n_X8_hidden gs_X8_hidden_8 := zgq_ok0 (pcs := p_X8_hidden) (by decide) rfl rfl (fun a ha => by simp only [al_X8_hidden_8, List.mem_cons, List.not_mem_nil, or_false] at ha; rcases ha with rfl <;> decide +kernel) (fun gh => x_X8_hidden_8 d) (by decide +kernel)
def q_X8_hidden_9 : List (Nat × Nat) := []
noncomputable def al_X8_hidden_9 : zAq := [(some (.inl 2147483647), [])]
noncomputable def fm_X8_hidden_9 : List zFm := [(0, [], (fun vs => [.inr (.ref 0), .inl 9223372043297226771, .inl 9223372043297226771, .inl 9223372088394383359]), (fun vs => zP q_X8_hidden_9), (fun vs => Nat.sub (Nat.add 0 0) 0))]
def bf_X8_hidden_9 : List Nat := []
theorem r_X8_hidden_9_0 : zbox [] (fun vs => zFrun (zpost (zAlq al_X8_hidden_9)) 1000 t_X8_hidden fm_X8_hidden_9 bf_X8_hidden_9 (0, vs)) = true := by decide +kernel
set_option maxRecDepth 100000 in
theorem x_X8_hidden_9 (d : Nat) : zS l G gh (d + 6) (zpost (zAlq al_X8_hidden_9)) n_X8_hidden (zn 0 p_X8_hidden 0) (zwc (0, [.inr (.ref 0), .inl 9223372043297226771, .inl 9223372043297226771, .inl 9223372088394383359], zP q_X8_hidden_9) 0) := zentry (tt_X8_hidden d) fm_X8_hidden_9 bf_X8_hidden_9 1000 (by decide +kernel) rfl ⟨Nat.zero_lt_succ _, trivial⟩ (fun f hf => match f, hf with
  | 0, _ => fun vs hv => (zbox_t r_X8_hidden_9_0) vs hv
  | f + 1, h => absurd (show f + 1 < 1 from h) (Nat.not_lt.mpr (Nat.le_add_left 1 f)))
noncomputable def gs_X8_hidden_9 : zMt := zgq false [] 7 [.inr (.ref 0), .inl 9223372043297226771, .inl 9223372043297226771, .inl 9223372088394383359] q_X8_hidden_9 al_X8_hidden_9
set_option maxRecDepth 100000 in
theorem cs_X8_hidden_9 (d : Nat) : zC l G gh (d + 6) n_X8_hidden gs_X8_hidden_9 := zgq_ok0 (pcs := p_X8_hidden) (by decide) rfl rfl (fun a ha => by simp only [al_X8_hidden_9, List.mem_cons, List.not_mem_nil, or_false] at ha; rcases ha with rfl <;> decide +kernel) (fun gh => x_X8_hidden_9 d) (by decide +kernel)
def q_X8_hidden_10 : List (Nat × Nat) := []
noncomputable def al_X8_hidden_10 : zAq := [(some (.inl 2147483647), [])]
noncomputable def fm_X8_hidden_10 : List zFm := [(0, [], (fun vs => [.inr (.ref 0), .inl 9223372043297226771, .inl 6442450943, .inl 8589934591]), (fun vs => zP q_X8_hidden_10), (fun vs => Nat.sub (Nat.add 0 0) 0))]
def bf_X8_hidden_10 : List Nat := []
theorem r_X8_hidden_10_0 : zbox [] (fun vs => zFrun (zpost (zAlq al_X8_hidden_10)) 1000 t_X8_hidden fm_X8_hidden_10 bf_X8_hidden_10 (0, vs)) = true := by decide +kernel
set_option maxRecDepth 100000 in
theorem x_X8_hidden_10 (d : Nat) : zS l G gh (d + 6) (zpost (zAlq al_X8_hidden_10)) n_X8_hidden (zn 0 p_X8_hidden 0) (zwc (0, [.inr (.ref 0), .inl 9223372043297226771, .inl 6442450943, .inl 8589934591], zP q_X8_hidden_10) 0) := zentry (tt_X8_hidden d) fm_X8_hidden_10 bf_X8_hidden_10 1000 (by decide +kernel) rfl ⟨Nat.zero_lt_succ _, trivial⟩ (fun f hf => match f, hf with
  | 0, _ => fun vs hv => (zbox_t r_X8_hidden_10_0) vs hv
  | f + 1, h => absurd (show f + 1 < 1 from h) (Nat.not_lt.mpr (Nat.le_add_left 1 f)))
noncomputable def gs_X8_hidden_10 : zMt := zgq false [] 7 [.inr (.ref 0), .inl 9223372043297226771, .inl 6442450943, .inl 8589934591] q_X8_hidden_10 al_X8_hidden_10
set_option maxRecDepth 100000 in
theorem cs_X8_hidden_10 (d : Nat) : zC l G gh (d + 6) n_X8_hidden gs_X8_hidden_10 := zgq_ok0 (pcs := p_X8_hidden) (by decide) rfl rfl (fun a ha => by simp only [al_X8_hidden_10, List.mem_cons, List.not_mem_nil, or_false] at ha; rcases ha with rfl <;> decide +kernel) (fun gh => x_X8_hidden_10 d) (by decide +kernel)
def q_X8_hidden_11 : List (Nat × Nat) := []
noncomputable def al_X8_hidden_11 : zAq := [(some (.inl 2147483647), [])]
noncomputable def fm_X8_hidden_11 : List zFm := [(0, [], (fun vs => [.inr (.ref 0), .inl 9223372043297226771, .inl 9223372131344056319, .inl 8589934591]), (fun vs => zP q_X8_hidden_11), (fun vs => Nat.sub (Nat.add 0 0) 0))]
def bf_X8_hidden_11 : List Nat := []
theorem r_X8_hidden_11_0 : zbox [] (fun vs => zFrun (zpost (zAlq al_X8_hidden_11)) 1000 t_X8_hidden fm_X8_hidden_11 bf_X8_hidden_11 (0, vs)) = true := by decide +kernel
set_option maxRecDepth 100000 in
theorem x_X8_hidden_11 (d : Nat) : zS l G gh (d + 6) (zpost (zAlq al_X8_hidden_11)) n_X8_hidden (zn 0 p_X8_hidden 0) (zwc (0, [.inr (.ref 0), .inl 9223372043297226771, .inl 9223372131344056319, .inl 8589934591], zP q_X8_hidden_11) 0) := zentry (tt_X8_hidden d) fm_X8_hidden_11 bf_X8_hidden_11 1000 (by decide +kernel) rfl ⟨Nat.zero_lt_succ _, trivial⟩ (fun f hf => match f, hf with
  | 0, _ => fun vs hv => (zbox_t r_X8_hidden_11_0) vs hv
  | f + 1, h => absurd (show f + 1 < 1 from h) (Nat.not_lt.mpr (Nat.le_add_left 1 f)))
noncomputable def gs_X8_hidden_11 : zMt := zgq false [] 7 [.inr (.ref 0), .inl 9223372043297226771, .inl 9223372131344056319, .inl 8589934591] q_X8_hidden_11 al_X8_hidden_11
set_option maxRecDepth 100000 in
theorem cs_X8_hidden_11 (d : Nat) : zC l G gh (d + 6) n_X8_hidden gs_X8_hidden_11 := zgq_ok0 (pcs := p_X8_hidden) (by decide) rfl rfl (fun a ha => by simp only [al_X8_hidden_11, List.mem_cons, List.not_mem_nil, or_false] at ha; rcases ha with rfl <;> decide +kernel) (fun gh => x_X8_hidden_11 d) (by decide +kernel)
def q_X8_hidden_12 : List (Nat × Nat) := []
noncomputable def al_X8_hidden_12 : zAq := [(some (.inl 2147483647), [])]
noncomputable def fm_X8_hidden_12 : List zFm := [(0, [], (fun vs => [.inr (.ref 0), .inl 6442450943, .inl 8589934591, .inl 8589934591]), (fun vs => zP q_X8_hidden_12), (fun vs => Nat.sub (Nat.add 0 0) 0))]
def bf_X8_hidden_12 : List Nat := []
theorem r_X8_hidden_12_0 : zbox [] (fun vs => zFrun (zpost (zAlq al_X8_hidden_12)) 1000 t_X8_hidden fm_X8_hidden_12 bf_X8_hidden_12 (0, vs)) = true := by decide +kernel
set_option maxRecDepth 100000 in
theorem x_X8_hidden_12 (d : Nat) : zS l G gh (d + 6) (zpost (zAlq al_X8_hidden_12)) n_X8_hidden (zn 0 p_X8_hidden 0) (zwc (0, [.inr (.ref 0), .inl 6442450943, .inl 8589934591, .inl 8589934591], zP q_X8_hidden_12) 0) := zentry (tt_X8_hidden d) fm_X8_hidden_12 bf_X8_hidden_12 1000 (by decide +kernel) rfl ⟨Nat.zero_lt_succ _, trivial⟩ (fun f hf => match f, hf with
  | 0, _ => fun vs hv => (zbox_t r_X8_hidden_12_0) vs hv
  | f + 1, h => absurd (show f + 1 < 1 from h) (Nat.not_lt.mpr (Nat.le_add_left 1 f)))
noncomputable def gs_X8_hidden_12 : zMt := zgq false [] 7 [.inr (.ref 0), .inl 6442450943, .inl 8589934591, .inl 8589934591] q_X8_hidden_12 al_X8_hidden_12
set_option maxRecDepth 100000 in
theorem cs_X8_hidden_12 (d : Nat) : zC l G gh (d + 6) n_X8_hidden gs_X8_hidden_12 := zgq_ok0 (pcs := p_X8_hidden) (by decide) rfl rfl (fun a ha => by simp only [al_X8_hidden_12, List.mem_cons, List.not_mem_nil, or_false] at ha; rcases ha with rfl <;> decide +kernel) (fun gh => x_X8_hidden_12 d) (by decide +kernel)
def q_X8_hidden_13 : List (Nat × Nat) := []
noncomputable def al_X8_hidden_13 : zAq := [(some (.inl 2147483647), [])]
noncomputable def fm_X8_hidden_13 : List zFm := [(0, [], (fun vs => [.inr (.ref 0), .inl 9223372131344056319, .inl 8589934591, .inl 8589934591]), (fun vs => zP q_X8_hidden_13), (fun vs => Nat.sub (Nat.add 0 0) 0))]
def bf_X8_hidden_13 : List Nat := []
theorem r_X8_hidden_13_0 : zbox [] (fun vs => zFrun (zpost (zAlq al_X8_hidden_13)) 1000 t_X8_hidden fm_X8_hidden_13 bf_X8_hidden_13 (0, vs)) = true := by decide +kernel
set_option maxRecDepth 100000 in
theorem x_X8_hidden_13 (d : Nat) : zS l G gh (d + 6) (zpost (zAlq al_X8_hidden_13)) n_X8_hidden (zn 0 p_X8_hidden 0) (zwc (0, [.inr (.ref 0), .inl 9223372131344056319, .inl 8589934591, .inl 8589934591], zP q_X8_hidden_13) 0) := zentry (tt_X8_hidden d) fm_X8_hidden_13 bf_X8_hidden_13 1000 (by decide +kernel) rfl ⟨Nat.zero_lt_succ _, trivial⟩ (fun f hf => match f, hf with
  | 0, _ => fun vs hv => (zbox_t r_X8_hidden_13_0) vs hv
  | f + 1, h => absurd (show f + 1 < 1 from h) (Nat.not_lt.mpr (Nat.le_add_left 1 f)))
noncomputable def gs_X8_hidden_13 : zMt := zgq false [] 7 [.inr (.ref 0), .inl 9223372131344056319, .inl 8589934591, .inl 8589934591] q_X8_hidden_13 al_X8_hidden_13
set_option maxRecDepth 100000 in
theorem cs_X8_hidden_13 (d : Nat) : zC l G gh (d + 6) n_X8_hidden gs_X8_hidden_13 := zgq_ok0 (pcs := p_X8_hidden) (by decide) rfl rfl (fun a ha => by simp only [al_X8_hidden_13, List.mem_cons, List.not_mem_nil, or_false] at ha; rcases ha with rfl <;> decide +kernel) (fun gh => x_X8_hidden_13 d) (by decide +kernel)
noncomputable def gs_X8_hidden : zMt := (zor gs_X8_hidden_0 (zor gs_X8_hidden_1 (zor gs_X8_hidden_2 (zor gs_X8_hidden_3 (zor gs_X8_hidden_4 (zor gs_X8_hidden_5 (zor gs_X8_hidden_6 (zor gs_X8_hidden_7 (zor gs_X8_hidden_8 (zor gs_X8_hidden_9 (zor gs_X8_hidden_10 (zor gs_X8_hidden_11 (zor gs_X8_hidden_12 gs_X8_hidden_13)))))))))))))
theorem cs_X8_hidden (d : Nat) : zC l G gh (d + 6) n_X8_hidden gs_X8_hidden := (zor_ok (cs_X8_hidden_0 d) (zor_ok (cs_X8_hidden_1 d) (zor_ok (cs_X8_hidden_2 d) (zor_ok (cs_X8_hidden_3 d) (zor_ok (cs_X8_hidden_4 d) (zor_ok (cs_X8_hidden_5 d) (zor_ok (cs_X8_hidden_6 d) (zor_ok (cs_X8_hidden_7 d) (zor_ok (cs_X8_hidden_8 d) (zor_ok (cs_X8_hidden_9 d) (zor_ok (cs_X8_hidden_10 d) (zor_ok (cs_X8_hidden_11 d) (zor_ok (cs_X8_hidden_12 d) (cs_X8_hidden_13 d))))))))))))))
def p_X8_thingsSeen : List Nat := [0, 14, 26, 54]
noncomputable def b_X8_thingsSeen_0 : zBl := fun jp K => oAld 0 <| oGetR 8 12 <| oIld 1 <| oCv 0 1 f_X0_heat <| oIst 2 <| oInt 2147483648 <| oIst 3 <| oInt 2147483648 <| oIst 4 <| jp 1
theorem s_X8_thingsSeen_0 (d : Nat) : zPb l G gh (d + 6) n_X8_thingsSeen p_X8_thingsSeen 0 b_X8_thingsSeen_0 := fun K jp hj =>
    z_aload_n (n := 0) (i := 0) (zd (i := .aload_n 0) (n := 1) (by decide +kernel)) rfl <|
    z_getR (ci := 8) (j := 12) (idx := 71) (zd (i := .getfield 71) (n := 3) (by decide +kernel)) (by decide +kernel) (by decide +kernel) rfl g464 <|
    z_iload_n (n := 1) (i := 1) (zd (i := .iload_n 1) (n := 1) (by decide +kernel)) rfl <|
    z_callV (idx := 143) (ci := 0) (N := n_X0_heat) (zd (i := .invokevirtual 143) (n := 3) (by decide +kernel)) to_X0_heat g716 g717 g718 (by decide +kernel) rfl rfl rfl (c_X0_heat (l := l) (G := G) (gh := gh) (d + 1)) <|
    z_istore_n (n := 2) (i := 2) (zd (i := .istore_n 2) (n := 1) (by decide +kernel)) rfl (by decide +kernel) <|
    z_iconst (n := 0) (zd (i := .iconst (0)) (n := 1) (by decide +kernel)) (by decide +kernel) <|
    z_istore_n (n := 3) (i := 3) (zd (i := .istore_n 3) (n := 1) (by decide +kernel)) rfl (by decide +kernel) <|
    z_iconst (n := 0) (zd (i := .iconst (0)) (n := 1) (by decide +kernel)) (by decide +kernel) <|
    z_istore (i := 4) (zd (i := .istore 4) (n := 2) (by decide +kernel)) (by decide +kernel) <|
    (zj (hj 1) (by decide +kernel))
noncomputable def b_X8_thingsSeen_1 : zBl := fun jp K => oIld 4 <| oAld 0 <| oGetR 8 12 <| oGetI 0 5 <| oIc zge zlt (jp 3) (jp 2)
theorem s_X8_thingsSeen_1 (d : Nat) : zPb l G gh (d + 6) n_X8_thingsSeen p_X8_thingsSeen 14 b_X8_thingsSeen_1 := fun K jp hj =>
    z_iload (i := 4) (zd (i := .iload 4) (n := 2) (by decide +kernel)) <|
    z_aload_n (n := 0) (i := 0) (zd (i := .aload_n 0) (n := 1) (by decide +kernel)) rfl <|
    z_getR (ci := 8) (j := 12) (idx := 71) (zd (i := .getfield 71) (n := 3) (by decide +kernel)) (by decide +kernel) (by decide +kernel) rfl g464 <|
    z_getI (ci := 0) (j := 5) (idx := 230) (zd (i := .getfield 230) (n := 3) (by decide +kernel)) (by decide +kernel) (by decide +kernel) rfl g288 <|
    z_icmp_ge (off := 31) (tgt := 54) (zd (i := .if_icmp .ge (31)) (n := 3) (by decide +kernel)) (by decide +kernel) (zj (hj 3) (by decide +kernel)) (zj (hj 2) (by decide +kernel))
noncomputable def b_X8_thingsSeen_2 : zBl := fun jp K => oIld 3 <| oAld 0 <| oGetR 8 12 <| oAld 0 <| oGetR 8 2 <| oGetR 4 1 <| oIld 4 <| oXald 10 <| oIld 1 <| oIld 2 <| oCv 0 3 gs_X0_thingsSeenFrom <| oB2 zior <| oIst 3 <| oInc 4 2147483649 <| jp 1
theorem s_X8_thingsSeen_2 (d : Nat) : zPb l G gh (d + 6) n_X8_thingsSeen p_X8_thingsSeen 26 b_X8_thingsSeen_2 := fun K jp hj =>
    z_iload_n (n := 3) (i := 3) (zd (i := .iload_n 3) (n := 1) (by decide +kernel)) rfl <|
    z_aload_n (n := 0) (i := 0) (zd (i := .aload_n 0) (n := 1) (by decide +kernel)) rfl <|
    z_getR (ci := 8) (j := 12) (idx := 71) (zd (i := .getfield 71) (n := 3) (by decide +kernel)) (by decide +kernel) (by decide +kernel) rfl g464 <|
    z_aload_n (n := 0) (i := 0) (zd (i := .aload_n 0) (n := 1) (by decide +kernel)) rfl <|
    z_getR (ci := 8) (j := 2) (idx := 26) (zd (i := .getfield 26) (n := 3) (by decide +kernel)) (by decide +kernel) (by decide +kernel) rfl g454 <|
    z_getR (ci := 4) (j := 1) (idx := 134) (zd (i := .getfield 134) (n := 3) (by decide +kernel)) (by decide +kernel) (by decide +kernel) rfl g371 <|
    z_iload (i := 4) (zd (i := .iload 4) (n := 2) (by decide +kernel)) <|
    z_iald (zd (i := .iaload) (n := 1) (by decide +kernel)) <|
    z_iload_n (n := 1) (i := 1) (zd (i := .iload_n 1) (n := 1) (by decide +kernel)) rfl <|
    z_iload_n (n := 2) (i := 2) (zd (i := .iload_n 2) (n := 1) (by decide +kernel)) rfl <|
    z_callV (idx := 336) (ci := 0) (N := n_X0_thingsSeenFrom) (zd (i := .invokevirtual 336) (n := 3) (by decide +kernel)) to_X0_thingsSeenFrom g779 g780 g781 (by decide +kernel) rfl rfl rfl (cs_X0_thingsSeenFrom (l := l) (G := G) (gh := gh) (d)) <|
    z_ior (zd (i := .ior) (n := 1) (by decide +kernel)) <|
    z_istore_n (n := 3) (i := 3) (zd (i := .istore_n 3) (n := 1) (by decide +kernel)) rfl (by decide +kernel) <|
    z_iinc (i := 4) (n := 1) (zd (i := .iinc 4 (1)) (n := 3) (by decide +kernel)) (by decide +kernel) (by decide +kernel) <|
    z_goto (off := -37) (tgt := 14) (zd (i := .goto (-37)) (n := 3) (by decide +kernel)) (by decide +kernel) (zj (hj 1) (by decide +kernel))
noncomputable def b_X8_thingsSeen_3 : zBl := fun jp K => oIld 3 <| oIret K
theorem s_X8_thingsSeen_3 (d : Nat) : zPb l G gh (d + 6) n_X8_thingsSeen p_X8_thingsSeen 54 b_X8_thingsSeen_3 := fun K jp hj =>
    z_iload_n (n := 3) (i := 3) (zd (i := .iload_n 3) (n := 1) (by decide +kernel)) rfl <|
    z_iret (zd (i := .ireturn) (n := 1) (by decide +kernel)) rfl
noncomputable def t_X8_thingsSeen : List zBl := [b_X8_thingsSeen_0, b_X8_thingsSeen_1, b_X8_thingsSeen_2, b_X8_thingsSeen_3]
theorem tt_X8_thingsSeen (d : Nat) : zT (zPb l G gh (d + 6) n_X8_thingsSeen p_X8_thingsSeen) t_X8_thingsSeen p_X8_thingsSeen := ⟨s_X8_thingsSeen_0 d, s_X8_thingsSeen_1 d, s_X8_thingsSeen_2 d, s_X8_thingsSeen_3 d, trivial⟩
def q_X8_thingsSeen_0 : List (Nat × Nat) := [(0, zk0), (21, zk10), (22, zk12), (259, zk20), (261, zk12), (262, zk12), (265, zk2), (266, zk18), (267, zk18), (268, zk19), (269, zk3), (270, zk7)]
noncomputable def al_X8_thingsSeen_0 : zAq := [(some (.inl 9223372043297226815), [(0, zk0), (21, zk10), (22, zk12), (259, zk20), (261, zk12), (262, zk12), (265, zk2), (266, zk18), (267, zk18), (268, zk19), (269, zk4), (270, zk9)])]
def mq_X8_thingsSeen_0_1 : List (Nat × Nat) := [(0, zk0), (21, zk10), (22, zk12), (259, zk20), (261, zk12), (262, zk12), (265, zk2), (266, zk18), (267, zk18), (268, zk19), (269, zk4), (270, zk9)]
noncomputable def fm_X8_thingsSeen_0 : List zFm := [(0, [], (fun vs => [.inr (.ref 0), .inl 8589934591]), (fun vs => zP q_X8_thingsSeen_0), (fun vs => Nat.sub (Nat.add 7 0) 0)),
  (1, [(4, 2147483648, 2147483654)], (fun vs => [.inr (.ref 0), .inl 8589934591, .inl 9223372043297226851, .inl 9223372043297226815, .inl (zn 0 vs 0)]), (fun vs => zP mq_X8_thingsSeen_0_1), (fun vs => Nat.sub (Nat.add 2147483654 0) (Nat.add 0 (Nat.mul 1 (zn 0 vs 0)))))]
def bf_X8_thingsSeen_0 : List Nat := [0, 2]
theorem r_X8_thingsSeen_0_0 : zbox [] (fun vs => zFrun (zpost (zAlq al_X8_thingsSeen_0)) 1000 t_X8_thingsSeen fm_X8_thingsSeen_0 bf_X8_thingsSeen_0 (0, vs)) = true := by decide +kernel
theorem r_X8_thingsSeen_0_1 : zbox [(4, 2147483648, 2147483654)] (fun vs => zFrun (zpost (zAlq al_X8_thingsSeen_0)) 1000 t_X8_thingsSeen fm_X8_thingsSeen_0 bf_X8_thingsSeen_0 (1, vs)) = true := by decide +kernel
set_option maxRecDepth 100000 in
theorem x_X8_thingsSeen_0 (d : Nat) : zS l G gh (d + 6) (zpost (zAlq al_X8_thingsSeen_0)) n_X8_thingsSeen (zn 0 p_X8_thingsSeen 0) (zwc (0, [.inr (.ref 0), .inl 8589934591], zP q_X8_thingsSeen_0) 0) := zentry (tt_X8_thingsSeen d) fm_X8_thingsSeen_0 bf_X8_thingsSeen_0 1000 (by decide +kernel) rfl ⟨Nat.zero_lt_succ _, trivial⟩ (fun f hf => match f, hf with
  | 0, _ => fun vs hv => (zbox_t r_X8_thingsSeen_0_0) vs hv
  | 1, _ => fun vs hv => (zbox_t r_X8_thingsSeen_0_1) vs hv
  | f + 2, h => absurd (show f + 2 < 2 from h) (Nat.not_lt.mpr (Nat.le_add_left 2 f)))
noncomputable def gs_X8_thingsSeen_0 : zMt := zgq false [] 5 [.inr (.ref 0), .inl 8589934591] q_X8_thingsSeen_0 al_X8_thingsSeen_0
set_option maxRecDepth 100000 in
theorem cs_X8_thingsSeen_0 (d : Nat) : zC l G gh (d + 6) n_X8_thingsSeen gs_X8_thingsSeen_0 := zgq_ok0 (pcs := p_X8_thingsSeen) (by decide) rfl rfl (fun a ha => by simp only [al_X8_thingsSeen_0, List.mem_cons, List.not_mem_nil, or_false] at ha; rcases ha with rfl <;> decide +kernel) (fun gh => x_X8_thingsSeen_0 d) (by decide +kernel)
def q_X8_thingsSeen_1 : List (Nat × Nat) := [(0, zk1), (9, zk21), (11, zk12), (12, zk12), (15, zk5), (16, zk18), (17, zk18), (18, zk19), (19, zk3), (20, zk7), (21, zk10), (22, zk12)]
noncomputable def al_X8_thingsSeen_1 : zAq := [(some (.inl 9223372043297226815), [(0, zk1), (9, zk21), (11, zk12), (12, zk12), (15, zk5), (16, zk18), (17, zk18), (18, zk19), (19, zk4), (20, zk9), (21, zk10), (22, zk12)])]
def mq_X8_thingsSeen_1_1 : List (Nat × Nat) := [(0, zk1), (9, zk21), (11, zk12), (12, zk12), (15, zk5), (16, zk18), (17, zk18), (18, zk19), (19, zk4), (20, zk9), (21, zk10), (22, zk12)]
noncomputable def fm_X8_thingsSeen_1 : List zFm := [(0, [], (fun vs => [.inr (.ref 0), .inl 8589934591]), (fun vs => zP q_X8_thingsSeen_1), (fun vs => Nat.sub (Nat.add 7 0) 0)),
  (1, [(4, 2147483648, 2147483654)], (fun vs => [.inr (.ref 0), .inl 8589934591, .inl 9223372043297226851, .inl 9223372043297226815, .inl (zn 0 vs 0)]), (fun vs => zP mq_X8_thingsSeen_1_1), (fun vs => Nat.sub (Nat.add 2147483654 0) (Nat.add 0 (Nat.mul 1 (zn 0 vs 0)))))]
def bf_X8_thingsSeen_1 : List Nat := [0, 2]
theorem r_X8_thingsSeen_1_0 : zbox [] (fun vs => zFrun (zpost (zAlq al_X8_thingsSeen_1)) 1000 t_X8_thingsSeen fm_X8_thingsSeen_1 bf_X8_thingsSeen_1 (0, vs)) = true := by decide +kernel
theorem r_X8_thingsSeen_1_1 : zbox [(4, 2147483648, 2147483654)] (fun vs => zFrun (zpost (zAlq al_X8_thingsSeen_1)) 1000 t_X8_thingsSeen fm_X8_thingsSeen_1 bf_X8_thingsSeen_1 (1, vs)) = true := by decide +kernel
set_option maxRecDepth 100000 in
theorem x_X8_thingsSeen_1 (d : Nat) : zS l G gh (d + 6) (zpost (zAlq al_X8_thingsSeen_1)) n_X8_thingsSeen (zn 0 p_X8_thingsSeen 0) (zwc (0, [.inr (.ref 0), .inl 8589934591], zP q_X8_thingsSeen_1) 0) := zentry (tt_X8_thingsSeen d) fm_X8_thingsSeen_1 bf_X8_thingsSeen_1 1000 (by decide +kernel) rfl ⟨Nat.zero_lt_succ _, trivial⟩ (fun f hf => match f, hf with
  | 0, _ => fun vs hv => (zbox_t r_X8_thingsSeen_1_0) vs hv
  | 1, _ => fun vs hv => (zbox_t r_X8_thingsSeen_1_1) vs hv
  | f + 2, h => absurd (show f + 2 < 2 from h) (Nat.not_lt.mpr (Nat.le_add_left 2 f)))
noncomputable def gs_X8_thingsSeen_1 : zMt := zgq false [] 5 [.inr (.ref 0), .inl 8589934591] q_X8_thingsSeen_1 al_X8_thingsSeen_1
set_option maxRecDepth 100000 in
theorem cs_X8_thingsSeen_1 (d : Nat) : zC l G gh (d + 6) n_X8_thingsSeen gs_X8_thingsSeen_1 := zgq_ok0 (pcs := p_X8_thingsSeen) (by decide) rfl rfl (fun a ha => by simp only [al_X8_thingsSeen_1, List.mem_cons, List.not_mem_nil, or_false] at ha; rcases ha with rfl <;> decide +kernel) (fun gh => x_X8_thingsSeen_1 d) (by decide +kernel)
noncomputable def gs_X8_thingsSeen : zMt := (zor gs_X8_thingsSeen_0 gs_X8_thingsSeen_1)
theorem cs_X8_thingsSeen (d : Nat) : zC l G gh (d + 6) n_X8_thingsSeen gs_X8_thingsSeen := (zor_ok (cs_X8_thingsSeen_0 d) (cs_X8_thingsSeen_1 d))
def p_X8_lentIn : List Nat := [0, 9, 16, 18, 84, 89, 99]
noncomputable def b_X8_lentIn_0 : zBl := fun jp K => oAld 0 <| oIld 1 <| oIld 2 <| oCv 8 2 f_X8_isPair <| oIf zeq zne (jp 2) (jp 1)
theorem s_X8_lentIn_0 (d : Nat) : zPb l G gh (d + 6) n_X8_lentIn p_X8_lentIn 0 b_X8_lentIn_0 := fun K jp hj =>
    z_aload_n (n := 0) (i := 0) (zd (i := .aload_n 0) (n := 1) (by decide +kernel)) rfl <|
    z_iload_n (n := 1) (i := 1) (zd (i := .iload_n 1) (n := 1) (by decide +kernel)) rfl <|
    z_iload_n (n := 2) (i := 2) (zd (i := .iload_n 2) (n := 1) (by decide +kernel)) rfl <|
    z_callV (idx := 162) (ci := 8) (N := n_X8_isPair) (zd (i := .invokevirtual 162) (n := 3) (by decide +kernel)) to_X8_isPair g797 g799 g26 (by decide +kernel) rfl rfl rfl (c_X8_isPair (l := l) (G := G) (gh := gh) (d + 3)) <|
    z_if_eq (off := 10) (tgt := 16) (zd (i := .ifCond .eq (10)) (n := 3) (by decide +kernel)) (by decide +kernel) (zj (hj 2) (by decide +kernel)) (zj (hj 1) (by decide +kernel))
noncomputable def b_X8_lentIn_1 : zBl := fun jp K => oIld 3 <| oCs 1 f_X8_isAhead <| oIf zne zeq (jp 3) (jp 2)
theorem s_X8_lentIn_1 (d : Nat) : zPb l G gh (d + 6) n_X8_lentIn p_X8_lentIn 9 b_X8_lentIn_1 := fun K jp hj =>
    z_iload_n (n := 3) (i := 3) (zd (i := .iload_n 3) (n := 1) (by decide +kernel)) rfl <|
    z_callS (idx := 207) (N := n_X8_isAhead) (zd (i := .invokestatic 207) (n := 3) (by decide +kernel)) to_X8_isAhead g862 g863 rfl rfl (c_X8_isAhead (l := l) (G := G) (gh := gh) (d + 4)) <|
    z_if_ne (off := 5) (tgt := 18) (zd (i := .ifCond .ne (5)) (n := 3) (by decide +kernel)) (by decide +kernel) (zj (hj 3) (by decide +kernel)) (zj (hj 2) (by decide +kernel))
noncomputable def b_X8_lentIn_2 : zBl := fun jp K => oInt 2147483647 <| oIret K
theorem s_X8_lentIn_2 (d : Nat) : zPb l G gh (d + 6) n_X8_lentIn p_X8_lentIn 16 b_X8_lentIn_2 := fun K jp hj =>
    z_iconst (n := -1) (zd (i := .iconst (-1)) (n := 1) (by decide +kernel)) (by decide +kernel) <|
    z_iret (zd (i := .ireturn) (n := 1) (by decide +kernel)) rfl
noncomputable def b_X8_lentIn_3 : zBl := fun jp K => oIld 1 <| oIld 2 <| oCs 2 f_X8_loanOf <| oIst 4 <| oAld 0 <| oGetR 8 3 <| oAld 0 <| oGetR 8 2 <| oCv 4 1 f_X4_copy <| oAld 0 <| oGetR 8 3 <| oIld 4 <| oCv 4 1 gs_X4_keepOnly <| oAld 0 <| oGetR 8 12 <| oAld 0 <| oGetR 8 3 <| oIld 3 <| oAld 0 <| oGetR 8 12 <| oGetI 0 11 <| oAld 0 <| oGetR 8 12 <| oGetI 0 9 <| oCv 0 4 gs_X0_pass <| oAld 0 <| oGetR 8 3 <| oGetR 4 5 <| oIld 4 <| oXald 10 <| oIf zne zeq (jp 5) (jp 4)
theorem s_X8_lentIn_3 (d : Nat) : zPb l G gh (d + 6) n_X8_lentIn p_X8_lentIn 18 b_X8_lentIn_3 := fun K jp hj =>
    z_iload_n (n := 1) (i := 1) (zd (i := .iload_n 1) (n := 1) (by decide +kernel)) rfl <|
    z_iload_n (n := 2) (i := 2) (zd (i := .iload_n 2) (n := 1) (by decide +kernel)) rfl <|
    z_callS (idx := 166) (N := n_X8_loanOf) (zd (i := .invokestatic 166) (n := 3) (by decide +kernel)) to_X8_loanOf g764 g765 rfl rfl (c_X8_loanOf (l := l) (G := G) (gh := gh) (d + 4)) <|
    z_istore (i := 4) (zd (i := .istore 4) (n := 2) (by decide +kernel)) (by decide +kernel) <|
    z_aload_n (n := 0) (i := 0) (zd (i := .aload_n 0) (n := 1) (by decide +kernel)) rfl <|
    z_getR (ci := 8) (j := 3) (idx := 30) (zd (i := .getfield 30) (n := 3) (by decide +kernel)) (by decide +kernel) (by decide +kernel) rfl g455 <|
    z_aload_n (n := 0) (i := 0) (zd (i := .aload_n 0) (n := 1) (by decide +kernel)) rfl <|
    z_getR (ci := 8) (j := 2) (idx := 26) (zd (i := .getfield 26) (n := 3) (by decide +kernel)) (by decide +kernel) (by decide +kernel) rfl g454 <|
    z_callV (idx := 258) (ci := 4) (N := n_X4_copy) (zd (i := .invokevirtual 258) (n := 3) (by decide +kernel)) to_X4_copy g956 g841 g842 (by decide +kernel) rfl rfl rfl (c_X4_copy (l := l) (G := G) (gh := gh) (d + 4)) <|
    z_aload_n (n := 0) (i := 0) (zd (i := .aload_n 0) (n := 1) (by decide +kernel)) rfl <|
    z_getR (ci := 8) (j := 3) (idx := 30) (zd (i := .getfield 30) (n := 3) (by decide +kernel)) (by decide +kernel) (by decide +kernel) rfl g455 <|
    z_iload (i := 4) (zd (i := .iload 4) (n := 2) (by decide +kernel)) <|
    z_callV (idx := 279) (ci := 4) (N := n_X4_keepOnly) (zd (i := .invokevirtual 279) (n := 3) (by decide +kernel)) to_X4_keepOnly g986 g689 g690 (by decide +kernel) rfl rfl rfl (cs_X4_keepOnly (l := l) (G := G) (gh := gh) (d + 3)) <|
    z_aload_n (n := 0) (i := 0) (zd (i := .aload_n 0) (n := 1) (by decide +kernel)) rfl <|
    z_getR (ci := 8) (j := 12) (idx := 71) (zd (i := .getfield 71) (n := 3) (by decide +kernel)) (by decide +kernel) (by decide +kernel) rfl g464 <|
    z_aload_n (n := 0) (i := 0) (zd (i := .aload_n 0) (n := 1) (by decide +kernel)) rfl <|
    z_getR (ci := 8) (j := 3) (idx := 30) (zd (i := .getfield 30) (n := 3) (by decide +kernel)) (by decide +kernel) (by decide +kernel) rfl g455 <|
    z_iload_n (n := 3) (i := 3) (zd (i := .iload_n 3) (n := 1) (by decide +kernel)) rfl <|
    z_aload_n (n := 0) (i := 0) (zd (i := .aload_n 0) (n := 1) (by decide +kernel)) rfl <|
    z_getR (ci := 8) (j := 12) (idx := 71) (zd (i := .getfield 71) (n := 3) (by decide +kernel)) (by decide +kernel) (by decide +kernel) rfl g464 <|
    z_getI (ci := 0) (j := 11) (idx := 210) (zd (i := .getfield 210) (n := 3) (by decide +kernel)) (by decide +kernel) (by decide +kernel) rfl g303 <|
    z_aload_n (n := 0) (i := 0) (zd (i := .aload_n 0) (n := 1) (by decide +kernel)) rfl <|
    z_getR (ci := 8) (j := 12) (idx := 71) (zd (i := .getfield 71) (n := 3) (by decide +kernel)) (by decide +kernel) (by decide +kernel) rfl g464 <|
    z_getI (ci := 0) (j := 9) (idx := 213) (zd (i := .getfield 213) (n := 3) (by decide +kernel)) (by decide +kernel) (by decide +kernel) rfl g297 <|
    z_callV (idx := 216) (ci := 0) (N := n_X0_pass) (zd (i := .invokevirtual 216) (n := 3) (by decide +kernel)) to_X0_pass g865 g866 g867 (by decide +kernel) rfl rfl rfl (cs_X0_pass (l := l) (G := G) (gh := gh) (d)) <|
    z_aload_n (n := 0) (i := 0) (zd (i := .aload_n 0) (n := 1) (by decide +kernel)) rfl <|
    z_getR (ci := 8) (j := 3) (idx := 30) (zd (i := .getfield 30) (n := 3) (by decide +kernel)) (by decide +kernel) (by decide +kernel) rfl g455 <|
    z_getR (ci := 4) (j := 5) (idx := 169) (zd (i := .getfield 169) (n := 3) (by decide +kernel)) (by decide +kernel) (by decide +kernel) rfl g383 <|
    z_iload (i := 4) (zd (i := .iload 4) (n := 2) (by decide +kernel)) <|
    z_iald (zd (i := .iaload) (n := 1) (by decide +kernel)) <|
    z_if_ne (off := 8) (tgt := 89) (zd (i := .ifCond .ne (8)) (n := 3) (by decide +kernel)) (by decide +kernel) (zj (hj 5) (by decide +kernel)) (zj (hj 4) (by decide +kernel))
noncomputable def b_X8_lentIn_4 : zBl := fun jp K => oInt 2147483646 <| jp 6
theorem s_X8_lentIn_4 (d : Nat) : zPb l G gh (d + 6) n_X8_lentIn p_X8_lentIn 84 b_X8_lentIn_4 := fun K jp hj =>
    z_bipush (n := -2) (zd (i := .bipush (-2)) (n := 2) (by decide +kernel)) (by decide +kernel) <|
    z_goto (off := 13) (tgt := 99) (zd (i := .goto (13)) (n := 3) (by decide +kernel)) (by decide +kernel) (zj (hj 6) (by decide +kernel))
noncomputable def b_X8_lentIn_5 : zBl := fun jp K => oAld 0 <| oGetR 8 3 <| oGetR 4 5 <| oIld 4 <| oXald 10 <| jp 6
theorem s_X8_lentIn_5 (d : Nat) : zPb l G gh (d + 6) n_X8_lentIn p_X8_lentIn 89 b_X8_lentIn_5 := fun K jp hj =>
    z_aload_n (n := 0) (i := 0) (zd (i := .aload_n 0) (n := 1) (by decide +kernel)) rfl <|
    z_getR (ci := 8) (j := 3) (idx := 30) (zd (i := .getfield 30) (n := 3) (by decide +kernel)) (by decide +kernel) (by decide +kernel) rfl g455 <|
    z_getR (ci := 4) (j := 5) (idx := 169) (zd (i := .getfield 169) (n := 3) (by decide +kernel)) (by decide +kernel) (by decide +kernel) rfl g383 <|
    z_iload (i := 4) (zd (i := .iload 4) (n := 2) (by decide +kernel)) <|
    z_iald (zd (i := .iaload) (n := 1) (by decide +kernel)) <|
    (zj (hj 6) (by decide +kernel))
noncomputable def b_X8_lentIn_6 : zBl := fun jp K => oIret K
theorem s_X8_lentIn_6 (d : Nat) : zPb l G gh (d + 6) n_X8_lentIn p_X8_lentIn 99 b_X8_lentIn_6 := fun K jp hj =>
    z_iret (zd (i := .ireturn) (n := 1) (by decide +kernel)) rfl
noncomputable def t_X8_lentIn : List zBl := [b_X8_lentIn_0, b_X8_lentIn_1, b_X8_lentIn_2, b_X8_lentIn_3, b_X8_lentIn_4, b_X8_lentIn_5, b_X8_lentIn_6]
theorem tt_X8_lentIn (d : Nat) : zT (zPb l G gh (d + 6) n_X8_lentIn p_X8_lentIn) t_X8_lentIn p_X8_lentIn := ⟨s_X8_lentIn_0 d, s_X8_lentIn_1 d, s_X8_lentIn_2 d, s_X8_lentIn_3 d, s_X8_lentIn_4 d, s_X8_lentIn_5 d, s_X8_lentIn_6 d, trivial⟩
def q_X8_lentIn_0 : List (Nat × Nat) := [(0, zk0), (21, zk10), (22, zk12), (23, zk12), (24, zk12), (25, zk12), (26, zk11), (27, zk11), (28, zk22), (29, zk12), (30, zk12), (31, zk12), (32, zk12), (33, zk11), (34, zk11), (259, zk20), (261, zk12), (262, zk12), (265, zk2), (266, zk18), (267, zk18), (268, zk19), (269, zk3), (270, zk7)]
noncomputable def al_X8_lentIn_0 : zAq := [(some (.inl 8589934591), [(0, zk0), (21, zk10), (22, zk12), (23, zk12), (24, zk12), (25, zk12), (26, zk11), (27, zk11), (28, zk98), (29, zk57), (30, zk57), (31, zk57), (32, zk57), (33, zk58), (34, zk58), (259, zk20), (261, zk12), (262, zk12), (265, zk2), (266, zk18), (267, zk18), (268, zk19), (269, zk4), (270, zk9)])]
noncomputable def fm_X8_lentIn_0 : List zFm := [(0, [], (fun vs => [.inr (.ref 0), .inl 9223372043297226757, .inl 9223372043297226757, .inl 9223372043297226800]), (fun vs => zP q_X8_lentIn_0), (fun vs => Nat.sub (Nat.add 0 0) 0))]
def bf_X8_lentIn_0 : List Nat := []
theorem r_X8_lentIn_0_0 : zbox [] (fun vs => zFrun (zpost (zAlq al_X8_lentIn_0)) 1000 t_X8_lentIn fm_X8_lentIn_0 bf_X8_lentIn_0 (0, vs)) = true := by decide +kernel
set_option maxRecDepth 100000 in
theorem x_X8_lentIn_0 (d : Nat) : zS l G gh (d + 6) (zpost (zAlq al_X8_lentIn_0)) n_X8_lentIn (zn 0 p_X8_lentIn 0) (zwc (0, [.inr (.ref 0), .inl 9223372043297226757, .inl 9223372043297226757, .inl 9223372043297226800], zP q_X8_lentIn_0) 0) := zentry (tt_X8_lentIn d) fm_X8_lentIn_0 bf_X8_lentIn_0 1000 (by decide +kernel) rfl ⟨Nat.zero_lt_succ _, trivial⟩ (fun f hf => match f, hf with
  | 0, _ => fun vs hv => (zbox_t r_X8_lentIn_0_0) vs hv
  | f + 1, h => absurd (show f + 1 < 1 from h) (Nat.not_lt.mpr (Nat.le_add_left 1 f)))
noncomputable def gs_X8_lentIn_0 : zMt := zgq false [] 5 [.inr (.ref 0), .inl 9223372043297226757, .inl 9223372043297226757, .inl 9223372043297226800] q_X8_lentIn_0 al_X8_lentIn_0
set_option maxRecDepth 100000 in
theorem cs_X8_lentIn_0 (d : Nat) : zC l G gh (d + 6) n_X8_lentIn gs_X8_lentIn_0 := zgq_ok0 (pcs := p_X8_lentIn) (by decide) rfl rfl (fun a ha => by simp only [al_X8_lentIn_0, List.mem_cons, List.not_mem_nil, or_false] at ha; rcases ha with rfl <;> decide +kernel) (fun gh => x_X8_lentIn_0 d) (by decide +kernel)
def q_X8_lentIn_1 : List (Nat × Nat) := [(0, zk0), (259, zk20)]
noncomputable def al_X8_lentIn_1 : zAq := [(some (.inl 2147483647), [(0, zk0), (259, zk20)])]
noncomputable def fm_X8_lentIn_1 : List zFm := [(0, [], (fun vs => [.inr (.ref 0), .inl 9223372043297226757, .inl 9223372043297226757, .inl 6442450943]), (fun vs => zP q_X8_lentIn_1), (fun vs => Nat.sub (Nat.add 0 0) 0))]
def bf_X8_lentIn_1 : List Nat := []
theorem r_X8_lentIn_1_0 : zbox [] (fun vs => zFrun (zpost (zAlq al_X8_lentIn_1)) 1000 t_X8_lentIn fm_X8_lentIn_1 bf_X8_lentIn_1 (0, vs)) = true := by decide +kernel
set_option maxRecDepth 100000 in
theorem x_X8_lentIn_1 (d : Nat) : zS l G gh (d + 6) (zpost (zAlq al_X8_lentIn_1)) n_X8_lentIn (zn 0 p_X8_lentIn 0) (zwc (0, [.inr (.ref 0), .inl 9223372043297226757, .inl 9223372043297226757, .inl 6442450943], zP q_X8_lentIn_1) 0) := zentry (tt_X8_lentIn d) fm_X8_lentIn_1 bf_X8_lentIn_1 1000 (by decide +kernel) rfl ⟨Nat.zero_lt_succ _, trivial⟩ (fun f hf => match f, hf with
  | 0, _ => fun vs hv => (zbox_t r_X8_lentIn_1_0) vs hv
  | f + 1, h => absurd (show f + 1 < 1 from h) (Nat.not_lt.mpr (Nat.le_add_left 1 f)))
noncomputable def gs_X8_lentIn_1 : zMt := zgq false [] 5 [.inr (.ref 0), .inl 9223372043297226757, .inl 9223372043297226757, .inl 6442450943] q_X8_lentIn_1 al_X8_lentIn_1
set_option maxRecDepth 100000 in
theorem cs_X8_lentIn_1 (d : Nat) : zC l G gh (d + 6) n_X8_lentIn gs_X8_lentIn_1 := zgq_ok0 (pcs := p_X8_lentIn) (by decide) rfl rfl (fun a ha => by simp only [al_X8_lentIn_1, List.mem_cons, List.not_mem_nil, or_false] at ha; rcases ha with rfl <;> decide +kernel) (fun gh => x_X8_lentIn_1 d) (by decide +kernel)
def q_X8_lentIn_2 : List (Nat × Nat) := [(0, zk0), (259, zk20)]
noncomputable def al_X8_lentIn_2 : zAq := [(some (.inl 2147483647), [(0, zk0), (259, zk20)])]
noncomputable def fm_X8_lentIn_2 : List zFm := [(0, [], (fun vs => [.inr (.ref 0), .inl 9223372043297226757, .inl 9223372043297226757, .inl 9223372255898107903]), (fun vs => zP q_X8_lentIn_2), (fun vs => Nat.sub (Nat.add 0 0) 0))]
def bf_X8_lentIn_2 : List Nat := []
theorem r_X8_lentIn_2_0 : zbox [] (fun vs => zFrun (zpost (zAlq al_X8_lentIn_2)) 1000 t_X8_lentIn fm_X8_lentIn_2 bf_X8_lentIn_2 (0, vs)) = true := by decide +kernel
set_option maxRecDepth 100000 in
theorem x_X8_lentIn_2 (d : Nat) : zS l G gh (d + 6) (zpost (zAlq al_X8_lentIn_2)) n_X8_lentIn (zn 0 p_X8_lentIn 0) (zwc (0, [.inr (.ref 0), .inl 9223372043297226757, .inl 9223372043297226757, .inl 9223372255898107903], zP q_X8_lentIn_2) 0) := zentry (tt_X8_lentIn d) fm_X8_lentIn_2 bf_X8_lentIn_2 1000 (by decide +kernel) rfl ⟨Nat.zero_lt_succ _, trivial⟩ (fun f hf => match f, hf with
  | 0, _ => fun vs hv => (zbox_t r_X8_lentIn_2_0) vs hv
  | f + 1, h => absurd (show f + 1 < 1 from h) (Nat.not_lt.mpr (Nat.le_add_left 1 f)))
noncomputable def gs_X8_lentIn_2 : zMt := zgq false [] 5 [.inr (.ref 0), .inl 9223372043297226757, .inl 9223372043297226757, .inl 9223372255898107903] q_X8_lentIn_2 al_X8_lentIn_2
set_option maxRecDepth 100000 in
theorem cs_X8_lentIn_2 (d : Nat) : zC l G gh (d + 6) n_X8_lentIn gs_X8_lentIn_2 := zgq_ok0 (pcs := p_X8_lentIn) (by decide) rfl rfl (fun a ha => by simp only [al_X8_lentIn_2, List.mem_cons, List.not_mem_nil, or_false] at ha; rcases ha with rfl <;> decide +kernel) (fun gh => x_X8_lentIn_2 d) (by decide +kernel)
def q_X8_lentIn_3 : List (Nat × Nat) := [(0, zk0), (259, zk20)]
noncomputable def al_X8_lentIn_3 : zAq := [(some (.inl 2147483647), [(0, zk0), (259, zk20)])]
noncomputable def fm_X8_lentIn_3 : List zFm := [(0, [], (fun vs => [.inr (.ref 0), .inl 9223372043297226757, .inl 6442450943, .inl 8589934591]), (fun vs => zP q_X8_lentIn_3), (fun vs => Nat.sub (Nat.add 0 0) 0))]
def bf_X8_lentIn_3 : List Nat := []
theorem r_X8_lentIn_3_0 : zbox [] (fun vs => zFrun (zpost (zAlq al_X8_lentIn_3)) 1000 t_X8_lentIn fm_X8_lentIn_3 bf_X8_lentIn_3 (0, vs)) = true := by decide +kernel
set_option maxRecDepth 100000 in
theorem x_X8_lentIn_3 (d : Nat) : zS l G gh (d + 6) (zpost (zAlq al_X8_lentIn_3)) n_X8_lentIn (zn 0 p_X8_lentIn 0) (zwc (0, [.inr (.ref 0), .inl 9223372043297226757, .inl 6442450943, .inl 8589934591], zP q_X8_lentIn_3) 0) := zentry (tt_X8_lentIn d) fm_X8_lentIn_3 bf_X8_lentIn_3 1000 (by decide +kernel) rfl ⟨Nat.zero_lt_succ _, trivial⟩ (fun f hf => match f, hf with
  | 0, _ => fun vs hv => (zbox_t r_X8_lentIn_3_0) vs hv
  | f + 1, h => absurd (show f + 1 < 1 from h) (Nat.not_lt.mpr (Nat.le_add_left 1 f)))
noncomputable def gs_X8_lentIn_3 : zMt := zgq false [] 5 [.inr (.ref 0), .inl 9223372043297226757, .inl 6442450943, .inl 8589934591] q_X8_lentIn_3 al_X8_lentIn_3
set_option maxRecDepth 100000 in
theorem cs_X8_lentIn_3 (d : Nat) : zC l G gh (d + 6) n_X8_lentIn gs_X8_lentIn_3 := zgq_ok0 (pcs := p_X8_lentIn) (by decide) rfl rfl (fun a ha => by simp only [al_X8_lentIn_3, List.mem_cons, List.not_mem_nil, or_false] at ha; rcases ha with rfl <;> decide +kernel) (fun gh => x_X8_lentIn_3 d) (by decide +kernel)
def q_X8_lentIn_4 : List (Nat × Nat) := [(0, zk0), (259, zk20)]
noncomputable def al_X8_lentIn_4 : zAq := [(some (.inl 2147483647), [(0, zk0), (259, zk20)])]
noncomputable def fm_X8_lentIn_4 : List zFm := [(0, [], (fun vs => [.inr (.ref 0), .inl 9223372043297226757, .inl 9223372071214514175, .inl 8589934591]), (fun vs => zP q_X8_lentIn_4), (fun vs => Nat.sub (Nat.add 0 0) 0))]
def bf_X8_lentIn_4 : List Nat := []
theorem r_X8_lentIn_4_0 : zbox [] (fun vs => zFrun (zpost (zAlq al_X8_lentIn_4)) 1000 t_X8_lentIn fm_X8_lentIn_4 bf_X8_lentIn_4 (0, vs)) = true := by decide +kernel
set_option maxRecDepth 100000 in
theorem x_X8_lentIn_4 (d : Nat) : zS l G gh (d + 6) (zpost (zAlq al_X8_lentIn_4)) n_X8_lentIn (zn 0 p_X8_lentIn 0) (zwc (0, [.inr (.ref 0), .inl 9223372043297226757, .inl 9223372071214514175, .inl 8589934591], zP q_X8_lentIn_4) 0) := zentry (tt_X8_lentIn d) fm_X8_lentIn_4 bf_X8_lentIn_4 1000 (by decide +kernel) rfl ⟨Nat.zero_lt_succ _, trivial⟩ (fun f hf => match f, hf with
  | 0, _ => fun vs hv => (zbox_t r_X8_lentIn_4_0) vs hv
  | f + 1, h => absurd (show f + 1 < 1 from h) (Nat.not_lt.mpr (Nat.le_add_left 1 f)))
noncomputable def gs_X8_lentIn_4 : zMt := zgq false [] 5 [.inr (.ref 0), .inl 9223372043297226757, .inl 9223372071214514175, .inl 8589934591] q_X8_lentIn_4 al_X8_lentIn_4
set_option maxRecDepth 100000 in
theorem cs_X8_lentIn_4 (d : Nat) : zC l G gh (d + 6) n_X8_lentIn gs_X8_lentIn_4 := zgq_ok0 (pcs := p_X8_lentIn) (by decide) rfl rfl (fun a ha => by simp only [al_X8_lentIn_4, List.mem_cons, List.not_mem_nil, or_false] at ha; rcases ha with rfl <;> decide +kernel) (fun gh => x_X8_lentIn_4 d) (by decide +kernel)
def q_X8_lentIn_5 : List (Nat × Nat) := [(0, zk0)]
noncomputable def al_X8_lentIn_5 : zAq := [(some (.inl 2147483647), [(0, zk0)])]
noncomputable def fm_X8_lentIn_5 : List zFm := [(0, [], (fun vs => [.inr (.ref 0), .inl 6442450943, .inl 8589934591, .inl 8589934591]), (fun vs => zP q_X8_lentIn_5), (fun vs => Nat.sub (Nat.add 0 0) 0))]
def bf_X8_lentIn_5 : List Nat := []
theorem r_X8_lentIn_5_0 : zbox [] (fun vs => zFrun (zpost (zAlq al_X8_lentIn_5)) 1000 t_X8_lentIn fm_X8_lentIn_5 bf_X8_lentIn_5 (0, vs)) = true := by decide +kernel
set_option maxRecDepth 100000 in
theorem x_X8_lentIn_5 (d : Nat) : zS l G gh (d + 6) (zpost (zAlq al_X8_lentIn_5)) n_X8_lentIn (zn 0 p_X8_lentIn 0) (zwc (0, [.inr (.ref 0), .inl 6442450943, .inl 8589934591, .inl 8589934591], zP q_X8_lentIn_5) 0) := zentry (tt_X8_lentIn d) fm_X8_lentIn_5 bf_X8_lentIn_5 1000 (by decide +kernel) rfl ⟨Nat.zero_lt_succ _, trivial⟩ (fun f hf => match f, hf with
  | 0, _ => fun vs hv => (zbox_t r_X8_lentIn_5_0) vs hv
  | f + 1, h => absurd (show f + 1 < 1 from h) (Nat.not_lt.mpr (Nat.le_add_left 1 f)))
noncomputable def gs_X8_lentIn_5 : zMt := zgq false [] 5 [.inr (.ref 0), .inl 6442450943, .inl 8589934591, .inl 8589934591] q_X8_lentIn_5 al_X8_lentIn_5
set_option maxRecDepth 100000 in
theorem cs_X8_lentIn_5 (d : Nat) : zC l G gh (d + 6) n_X8_lentIn gs_X8_lentIn_5 := zgq_ok0 (pcs := p_X8_lentIn) (by decide) rfl rfl (fun a ha => by simp only [al_X8_lentIn_5, List.mem_cons, List.not_mem_nil, or_false] at ha; rcases ha with rfl <;> decide +kernel) (fun gh => x_X8_lentIn_5 d) (by decide +kernel)
def q_X8_lentIn_6 : List (Nat × Nat) := [(0, zk0), (259, zk20)]
noncomputable def al_X8_lentIn_6 : zAq := [(some (.inl 2147483647), [(0, zk0), (259, zk20)])]
noncomputable def fm_X8_lentIn_6 : List zFm := [(0, [], (fun vs => [.inr (.ref 0), .inl 9223372071214514175, .inl 8589934591, .inl 8589934591]), (fun vs => zP q_X8_lentIn_6), (fun vs => Nat.sub (Nat.add 0 0) 0))]
def bf_X8_lentIn_6 : List Nat := []
theorem r_X8_lentIn_6_0 : zbox [] (fun vs => zFrun (zpost (zAlq al_X8_lentIn_6)) 1000 t_X8_lentIn fm_X8_lentIn_6 bf_X8_lentIn_6 (0, vs)) = true := by decide +kernel
set_option maxRecDepth 100000 in
theorem x_X8_lentIn_6 (d : Nat) : zS l G gh (d + 6) (zpost (zAlq al_X8_lentIn_6)) n_X8_lentIn (zn 0 p_X8_lentIn 0) (zwc (0, [.inr (.ref 0), .inl 9223372071214514175, .inl 8589934591, .inl 8589934591], zP q_X8_lentIn_6) 0) := zentry (tt_X8_lentIn d) fm_X8_lentIn_6 bf_X8_lentIn_6 1000 (by decide +kernel) rfl ⟨Nat.zero_lt_succ _, trivial⟩ (fun f hf => match f, hf with
  | 0, _ => fun vs hv => (zbox_t r_X8_lentIn_6_0) vs hv
  | f + 1, h => absurd (show f + 1 < 1 from h) (Nat.not_lt.mpr (Nat.le_add_left 1 f)))
noncomputable def gs_X8_lentIn_6 : zMt := zgq false [] 5 [.inr (.ref 0), .inl 9223372071214514175, .inl 8589934591, .inl 8589934591] q_X8_lentIn_6 al_X8_lentIn_6
set_option maxRecDepth 100000 in
theorem cs_X8_lentIn_6 (d : Nat) : zC l G gh (d + 6) n_X8_lentIn gs_X8_lentIn_6 := zgq_ok0 (pcs := p_X8_lentIn) (by decide) rfl rfl (fun a ha => by simp only [al_X8_lentIn_6, List.mem_cons, List.not_mem_nil, or_false] at ha; rcases ha with rfl <;> decide +kernel) (fun gh => x_X8_lentIn_6 d) (by decide +kernel)
def q_X8_lentIn_7 : List (Nat × Nat) := [(0, zk1), (9, zk21), (11, zk12), (12, zk12), (15, zk5), (16, zk18), (17, zk18), (18, zk19), (19, zk3), (20, zk7), (21, zk10), (22, zk12), (23, zk12), (24, zk12), (25, zk12), (26, zk11), (27, zk11), (28, zk22), (29, zk12), (30, zk12), (31, zk12), (32, zk12), (33, zk11), (34, zk11)]
noncomputable def al_X8_lentIn_7 : zAq := [(some (.inl 8589934591), [(0, zk1), (9, zk21), (11, zk12), (12, zk12), (15, zk5), (16, zk18), (17, zk18), (18, zk19), (19, zk4), (20, zk9), (21, zk10), (22, zk12), (23, zk12), (24, zk12), (25, zk12), (26, zk11), (27, zk11), (28, zk98), (29, zk57), (30, zk57), (31, zk57), (32, zk57), (33, zk58), (34, zk58)])]
noncomputable def fm_X8_lentIn_7 : List zFm := [(0, [], (fun vs => [.inr (.ref 0), .inl 9223372043297226757, .inl 9223372043297226757, .inl 9223372043297226800]), (fun vs => zP q_X8_lentIn_7), (fun vs => Nat.sub (Nat.add 0 0) 0))]
def bf_X8_lentIn_7 : List Nat := []
theorem r_X8_lentIn_7_0 : zbox [] (fun vs => zFrun (zpost (zAlq al_X8_lentIn_7)) 1000 t_X8_lentIn fm_X8_lentIn_7 bf_X8_lentIn_7 (0, vs)) = true := by decide +kernel
set_option maxRecDepth 100000 in
theorem x_X8_lentIn_7 (d : Nat) : zS l G gh (d + 6) (zpost (zAlq al_X8_lentIn_7)) n_X8_lentIn (zn 0 p_X8_lentIn 0) (zwc (0, [.inr (.ref 0), .inl 9223372043297226757, .inl 9223372043297226757, .inl 9223372043297226800], zP q_X8_lentIn_7) 0) := zentry (tt_X8_lentIn d) fm_X8_lentIn_7 bf_X8_lentIn_7 1000 (by decide +kernel) rfl ⟨Nat.zero_lt_succ _, trivial⟩ (fun f hf => match f, hf with
  | 0, _ => fun vs hv => (zbox_t r_X8_lentIn_7_0) vs hv
  | f + 1, h => absurd (show f + 1 < 1 from h) (Nat.not_lt.mpr (Nat.le_add_left 1 f)))
noncomputable def gs_X8_lentIn_7 : zMt := zgq false [] 5 [.inr (.ref 0), .inl 9223372043297226757, .inl 9223372043297226757, .inl 9223372043297226800] q_X8_lentIn_7 al_X8_lentIn_7
set_option maxRecDepth 100000 in
theorem cs_X8_lentIn_7 (d : Nat) : zC l G gh (d + 6) n_X8_lentIn gs_X8_lentIn_7 := zgq_ok0 (pcs := p_X8_lentIn) (by decide) rfl rfl (fun a ha => by simp only [al_X8_lentIn_7, List.mem_cons, List.not_mem_nil, or_false] at ha; rcases ha with rfl <;> decide +kernel) (fun gh => x_X8_lentIn_7 d) (by decide +kernel)
def q_X8_lentIn_8 : List (Nat × Nat) := [(0, zk1), (9, zk21)]
noncomputable def al_X8_lentIn_8 : zAq := [(some (.inl 2147483647), [(0, zk1), (9, zk21)])]
noncomputable def fm_X8_lentIn_8 : List zFm := [(0, [], (fun vs => [.inr (.ref 0), .inl 9223372043297226757, .inl 9223372043297226757, .inl 6442450943]), (fun vs => zP q_X8_lentIn_8), (fun vs => Nat.sub (Nat.add 0 0) 0))]
def bf_X8_lentIn_8 : List Nat := []
theorem r_X8_lentIn_8_0 : zbox [] (fun vs => zFrun (zpost (zAlq al_X8_lentIn_8)) 1000 t_X8_lentIn fm_X8_lentIn_8 bf_X8_lentIn_8 (0, vs)) = true := by decide +kernel
set_option maxRecDepth 100000 in
theorem x_X8_lentIn_8 (d : Nat) : zS l G gh (d + 6) (zpost (zAlq al_X8_lentIn_8)) n_X8_lentIn (zn 0 p_X8_lentIn 0) (zwc (0, [.inr (.ref 0), .inl 9223372043297226757, .inl 9223372043297226757, .inl 6442450943], zP q_X8_lentIn_8) 0) := zentry (tt_X8_lentIn d) fm_X8_lentIn_8 bf_X8_lentIn_8 1000 (by decide +kernel) rfl ⟨Nat.zero_lt_succ _, trivial⟩ (fun f hf => match f, hf with
  | 0, _ => fun vs hv => (zbox_t r_X8_lentIn_8_0) vs hv
  | f + 1, h => absurd (show f + 1 < 1 from h) (Nat.not_lt.mpr (Nat.le_add_left 1 f)))
noncomputable def gs_X8_lentIn_8 : zMt := zgq false [] 5 [.inr (.ref 0), .inl 9223372043297226757, .inl 9223372043297226757, .inl 6442450943] q_X8_lentIn_8 al_X8_lentIn_8
set_option maxRecDepth 100000 in
theorem cs_X8_lentIn_8 (d : Nat) : zC l G gh (d + 6) n_X8_lentIn gs_X8_lentIn_8 := zgq_ok0 (pcs := p_X8_lentIn) (by decide) rfl rfl (fun a ha => by simp only [al_X8_lentIn_8, List.mem_cons, List.not_mem_nil, or_false] at ha; rcases ha with rfl <;> decide +kernel) (fun gh => x_X8_lentIn_8 d) (by decide +kernel)
def q_X8_lentIn_9 : List (Nat × Nat) := [(0, zk1), (9, zk21)]
noncomputable def al_X8_lentIn_9 : zAq := [(some (.inl 2147483647), [(0, zk1), (9, zk21)])]
noncomputable def fm_X8_lentIn_9 : List zFm := [(0, [], (fun vs => [.inr (.ref 0), .inl 9223372043297226757, .inl 9223372043297226757, .inl 9223372255898107903]), (fun vs => zP q_X8_lentIn_9), (fun vs => Nat.sub (Nat.add 0 0) 0))]
def bf_X8_lentIn_9 : List Nat := []
theorem r_X8_lentIn_9_0 : zbox [] (fun vs => zFrun (zpost (zAlq al_X8_lentIn_9)) 1000 t_X8_lentIn fm_X8_lentIn_9 bf_X8_lentIn_9 (0, vs)) = true := by decide +kernel
set_option maxRecDepth 100000 in
theorem x_X8_lentIn_9 (d : Nat) : zS l G gh (d + 6) (zpost (zAlq al_X8_lentIn_9)) n_X8_lentIn (zn 0 p_X8_lentIn 0) (zwc (0, [.inr (.ref 0), .inl 9223372043297226757, .inl 9223372043297226757, .inl 9223372255898107903], zP q_X8_lentIn_9) 0) := zentry (tt_X8_lentIn d) fm_X8_lentIn_9 bf_X8_lentIn_9 1000 (by decide +kernel) rfl ⟨Nat.zero_lt_succ _, trivial⟩ (fun f hf => match f, hf with
  | 0, _ => fun vs hv => (zbox_t r_X8_lentIn_9_0) vs hv
  | f + 1, h => absurd (show f + 1 < 1 from h) (Nat.not_lt.mpr (Nat.le_add_left 1 f)))
noncomputable def gs_X8_lentIn_9 : zMt := zgq false [] 5 [.inr (.ref 0), .inl 9223372043297226757, .inl 9223372043297226757, .inl 9223372255898107903] q_X8_lentIn_9 al_X8_lentIn_9
set_option maxRecDepth 100000 in
theorem cs_X8_lentIn_9 (d : Nat) : zC l G gh (d + 6) n_X8_lentIn gs_X8_lentIn_9 := zgq_ok0 (pcs := p_X8_lentIn) (by decide) rfl rfl (fun a ha => by simp only [al_X8_lentIn_9, List.mem_cons, List.not_mem_nil, or_false] at ha; rcases ha with rfl <;> decide +kernel) (fun gh => x_X8_lentIn_9 d) (by decide +kernel)
def q_X8_lentIn_10 : List (Nat × Nat) := [(0, zk1), (9, zk21)]
noncomputable def al_X8_lentIn_10 : zAq := [(some (.inl 2147483647), [(0, zk1), (9, zk21)])]
noncomputable def fm_X8_lentIn_10 : List zFm := [(0, [], (fun vs => [.inr (.ref 0), .inl 9223372043297226757, .inl 6442450943, .inl 8589934591]), (fun vs => zP q_X8_lentIn_10), (fun vs => Nat.sub (Nat.add 0 0) 0))]
def bf_X8_lentIn_10 : List Nat := []
theorem r_X8_lentIn_10_0 : zbox [] (fun vs => zFrun (zpost (zAlq al_X8_lentIn_10)) 1000 t_X8_lentIn fm_X8_lentIn_10 bf_X8_lentIn_10 (0, vs)) = true := by decide +kernel
set_option maxRecDepth 100000 in
theorem x_X8_lentIn_10 (d : Nat) : zS l G gh (d + 6) (zpost (zAlq al_X8_lentIn_10)) n_X8_lentIn (zn 0 p_X8_lentIn 0) (zwc (0, [.inr (.ref 0), .inl 9223372043297226757, .inl 6442450943, .inl 8589934591], zP q_X8_lentIn_10) 0) := zentry (tt_X8_lentIn d) fm_X8_lentIn_10 bf_X8_lentIn_10 1000 (by decide +kernel) rfl ⟨Nat.zero_lt_succ _, trivial⟩ (fun f hf => match f, hf with
  | 0, _ => fun vs hv => (zbox_t r_X8_lentIn_10_0) vs hv
  | f + 1, h => absurd (show f + 1 < 1 from h) (Nat.not_lt.mpr (Nat.le_add_left 1 f)))
noncomputable def gs_X8_lentIn_10 : zMt := zgq false [] 5 [.inr (.ref 0), .inl 9223372043297226757, .inl 6442450943, .inl 8589934591] q_X8_lentIn_10 al_X8_lentIn_10
set_option maxRecDepth 100000 in
theorem cs_X8_lentIn_10 (d : Nat) : zC l G gh (d + 6) n_X8_lentIn gs_X8_lentIn_10 := zgq_ok0 (pcs := p_X8_lentIn) (by decide) rfl rfl (fun a ha => by simp only [al_X8_lentIn_10, List.mem_cons, List.not_mem_nil, or_false] at ha; rcases ha with rfl <;> decide +kernel) (fun gh => x_X8_lentIn_10 d) (by decide +kernel)
def q_X8_lentIn_11 : List (Nat × Nat) := [(0, zk1), (9, zk21)]
noncomputable def al_X8_lentIn_11 : zAq := [(some (.inl 2147483647), [(0, zk1), (9, zk21)])]
noncomputable def fm_X8_lentIn_11 : List zFm := [(0, [], (fun vs => [.inr (.ref 0), .inl 9223372043297226757, .inl 9223372071214514175, .inl 8589934591]), (fun vs => zP q_X8_lentIn_11), (fun vs => Nat.sub (Nat.add 0 0) 0))]
def bf_X8_lentIn_11 : List Nat := []
theorem r_X8_lentIn_11_0 : zbox [] (fun vs => zFrun (zpost (zAlq al_X8_lentIn_11)) 1000 t_X8_lentIn fm_X8_lentIn_11 bf_X8_lentIn_11 (0, vs)) = true := by decide +kernel
set_option maxRecDepth 100000 in
theorem x_X8_lentIn_11 (d : Nat) : zS l G gh (d + 6) (zpost (zAlq al_X8_lentIn_11)) n_X8_lentIn (zn 0 p_X8_lentIn 0) (zwc (0, [.inr (.ref 0), .inl 9223372043297226757, .inl 9223372071214514175, .inl 8589934591], zP q_X8_lentIn_11) 0) := zentry (tt_X8_lentIn d) fm_X8_lentIn_11 bf_X8_lentIn_11 1000 (by decide +kernel) rfl ⟨Nat.zero_lt_succ _, trivial⟩ (fun f hf => match f, hf with
  | 0, _ => fun vs hv => (zbox_t r_X8_lentIn_11_0) vs hv
  | f + 1, h => absurd (show f + 1 < 1 from h) (Nat.not_lt.mpr (Nat.le_add_left 1 f)))
noncomputable def gs_X8_lentIn_11 : zMt := zgq false [] 5 [.inr (.ref 0), .inl 9223372043297226757, .inl 9223372071214514175, .inl 8589934591] q_X8_lentIn_11 al_X8_lentIn_11
set_option maxRecDepth 100000 in
theorem cs_X8_lentIn_11 (d : Nat) : zC l G gh (d + 6) n_X8_lentIn gs_X8_lentIn_11 := zgq_ok0 (pcs := p_X8_lentIn) (by decide) rfl rfl (fun a ha => by simp only [al_X8_lentIn_11, List.mem_cons, List.not_mem_nil, or_false] at ha; rcases ha with rfl <;> decide +kernel) (fun gh => x_X8_lentIn_11 d) (by decide +kernel)
def q_X8_lentIn_12 : List (Nat × Nat) := [(0, zk1)]
noncomputable def al_X8_lentIn_12 : zAq := [(some (.inl 2147483647), [(0, zk1)])]
noncomputable def fm_X8_lentIn_12 : List zFm := [(0, [], (fun vs => [.inr (.ref 0), .inl 6442450943, .inl 8589934591, .inl 8589934591]), (fun vs => zP q_X8_lentIn_12), (fun vs => Nat.sub (Nat.add 0 0) 0))]
def bf_X8_lentIn_12 : List Nat := []
theorem r_X8_lentIn_12_0 : zbox [] (fun vs => zFrun (zpost (zAlq al_X8_lentIn_12)) 1000 t_X8_lentIn fm_X8_lentIn_12 bf_X8_lentIn_12 (0, vs)) = true := by decide +kernel
set_option maxRecDepth 100000 in
theorem x_X8_lentIn_12 (d : Nat) : zS l G gh (d + 6) (zpost (zAlq al_X8_lentIn_12)) n_X8_lentIn (zn 0 p_X8_lentIn 0) (zwc (0, [.inr (.ref 0), .inl 6442450943, .inl 8589934591, .inl 8589934591], zP q_X8_lentIn_12) 0) := zentry (tt_X8_lentIn d) fm_X8_lentIn_12 bf_X8_lentIn_12 1000 (by decide +kernel) rfl ⟨Nat.zero_lt_succ _, trivial⟩ (fun f hf => match f, hf with
  | 0, _ => fun vs hv => (zbox_t r_X8_lentIn_12_0) vs hv
  | f + 1, h => absurd (show f + 1 < 1 from h) (Nat.not_lt.mpr (Nat.le_add_left 1 f)))
noncomputable def gs_X8_lentIn_12 : zMt := zgq false [] 5 [.inr (.ref 0), .inl 6442450943, .inl 8589934591, .inl 8589934591] q_X8_lentIn_12 al_X8_lentIn_12
set_option maxRecDepth 100000 in
theorem cs_X8_lentIn_12 (d : Nat) : zC l G gh (d + 6) n_X8_lentIn gs_X8_lentIn_12 := zgq_ok0 (pcs := p_X8_lentIn) (by decide) rfl rfl (fun a ha => by simp only [al_X8_lentIn_12, List.mem_cons, List.not_mem_nil, or_false] at ha; rcases ha with rfl <;> decide +kernel) (fun gh => x_X8_lentIn_12 d) (by decide +kernel)
def q_X8_lentIn_13 : List (Nat × Nat) := [(0, zk1), (9, zk21)]
noncomputable def al_X8_lentIn_13 : zAq := [(some (.inl 2147483647), [(0, zk1), (9, zk21)])]
noncomputable def fm_X8_lentIn_13 : List zFm := [(0, [], (fun vs => [.inr (.ref 0), .inl 9223372071214514175, .inl 8589934591, .inl 8589934591]), (fun vs => zP q_X8_lentIn_13), (fun vs => Nat.sub (Nat.add 0 0) 0))]
def bf_X8_lentIn_13 : List Nat := []
theorem r_X8_lentIn_13_0 : zbox [] (fun vs => zFrun (zpost (zAlq al_X8_lentIn_13)) 1000 t_X8_lentIn fm_X8_lentIn_13 bf_X8_lentIn_13 (0, vs)) = true := by decide +kernel
set_option maxRecDepth 100000 in
theorem x_X8_lentIn_13 (d : Nat) : zS l G gh (d + 6) (zpost (zAlq al_X8_lentIn_13)) n_X8_lentIn (zn 0 p_X8_lentIn 0) (zwc (0, [.inr (.ref 0), .inl 9223372071214514175, .inl 8589934591, .inl 8589934591], zP q_X8_lentIn_13) 0) := zentry (tt_X8_lentIn d) fm_X8_lentIn_13 bf_X8_lentIn_13 1000 (by decide +kernel) rfl ⟨Nat.zero_lt_succ _, trivial⟩ (fun f hf => match f, hf with
  | 0, _ => fun vs hv => (zbox_t r_X8_lentIn_13_0) vs hv
  | f + 1, h => absurd (show f + 1 < 1 from h) (Nat.not_lt.mpr (Nat.le_add_left 1 f)))
noncomputable def gs_X8_lentIn_13 : zMt := zgq false [] 5 [.inr (.ref 0), .inl 9223372071214514175, .inl 8589934591, .inl 8589934591] q_X8_lentIn_13 al_X8_lentIn_13
set_option maxRecDepth 100000 in
theorem cs_X8_lentIn_13 (d : Nat) : zC l G gh (d + 6) n_X8_lentIn gs_X8_lentIn_13 := zgq_ok0 (pcs := p_X8_lentIn) (by decide) rfl rfl (fun a ha => by simp only [al_X8_lentIn_13, List.mem_cons, List.not_mem_nil, or_false] at ha; rcases ha with rfl <;> decide +kernel) (fun gh => x_X8_lentIn_13 d) (by decide +kernel)
noncomputable def gs_X8_lentIn : zMt := (zor gs_X8_lentIn_0 (zor gs_X8_lentIn_1 (zor gs_X8_lentIn_2 (zor gs_X8_lentIn_3 (zor gs_X8_lentIn_4 (zor gs_X8_lentIn_5 (zor gs_X8_lentIn_6 (zor gs_X8_lentIn_7 (zor gs_X8_lentIn_8 (zor gs_X8_lentIn_9 (zor gs_X8_lentIn_10 (zor gs_X8_lentIn_11 (zor gs_X8_lentIn_12 gs_X8_lentIn_13)))))))))))))
theorem cs_X8_lentIn (d : Nat) : zC l G gh (d + 6) n_X8_lentIn gs_X8_lentIn := (zor_ok (cs_X8_lentIn_0 d) (zor_ok (cs_X8_lentIn_1 d) (zor_ok (cs_X8_lentIn_2 d) (zor_ok (cs_X8_lentIn_3 d) (zor_ok (cs_X8_lentIn_4 d) (zor_ok (cs_X8_lentIn_5 d) (zor_ok (cs_X8_lentIn_6 d) (zor_ok (cs_X8_lentIn_7 d) (zor_ok (cs_X8_lentIn_8 d) (zor_ok (cs_X8_lentIn_9 d) (zor_ok (cs_X8_lentIn_10 d) (zor_ok (cs_X8_lentIn_11 d) (zor_ok (cs_X8_lentIn_12 d) (cs_X8_lentIn_13 d))))))))))))))
end
