section
variable {l : Launch} {G : qG} {gh : zGh}
def p_X3_push : List Nat := [0]
noncomputable def b_X3_push_0 : zBl := fun jp K => oSpF 0 3 1 30 <| oAld 0 <| oGetR 3 0 <| oAld 0 <| oGetI 3 1 <| oAald <| oAld 1 <| oCv 4 1 f_X4_copy <| oAld 0 <| oAld 0 <| oGetI 3 1 <| oInt 2147483649 <| oB2 zadd <| oInt 2147483678 <| oB2z zirem <| oPutI 3 1 <| oAld 0 <| oAld 0 <| oGetI 3 2 <| oInt 2147483649 <| oB2 zadd <| oInt 2147483678 <| oM2 zmin <| oPutI 3 2 <| oVret K
theorem s_X3_push_0 (d : Nat) : zPb l G gh (d + 2) n_X3_push p_X3_push 0 b_X3_push_0 := fun K jp hj =>
    z_spF (r := 0) (ci := 3) (j := 1) (n := 30) (by decide +kernel) rfl <|
    z_aload_n (n := 0) (i := 0) (zd (i := .aload_n 0) (n := 1) (by decide +kernel)) rfl <|
    z_getR (ci := 3) (j := 0) (idx := 11) (zd (i := .getfield 11) (n := 3) (by decide +kernel)) (by decide +kernel) (by decide +kernel) rfl g412 <|
    z_aload_n (n := 0) (i := 0) (zd (i := .aload_n 0) (n := 1) (by decide +kernel)) rfl <|
    z_getI (ci := 3) (j := 1) (idx := 15) (zd (i := .getfield 15) (n := 3) (by decide +kernel)) (by decide +kernel) (by decide +kernel) rfl g413 <|
    z_aald (zd (i := .aaload) (n := 1) (by decide +kernel)) <|
    z_aload_n (n := 1) (i := 1) (zd (i := .aload_n 1) (n := 1) (by decide +kernel)) rfl <|
    z_callV (idx := 23) (ci := 4) (N := n_X4_copy) (zd (i := .invokevirtual 23) (n := 3) (by decide +kernel)) to_X4_copy g840 g841 g842 (by decide +kernel) rfl rfl rfl (c_X4_copy (l := l) (G := G) (gh := gh) (d)) <|
    z_aload_n (n := 0) (i := 0) (zd (i := .aload_n 0) (n := 1) (by decide +kernel)) rfl <|
    z_aload_n (n := 0) (i := 0) (zd (i := .aload_n 0) (n := 1) (by decide +kernel)) rfl <|
    z_getI (ci := 3) (j := 1) (idx := 15) (zd (i := .getfield 15) (n := 3) (by decide +kernel)) (by decide +kernel) (by decide +kernel) rfl g413 <|
    z_iconst (n := 1) (zd (i := .iconst (1)) (n := 1) (by decide +kernel)) (by decide +kernel) <|
    z_iadd (zd (i := .iadd) (n := 1) (by decide +kernel)) <|
    z_bipush (n := 30) (zd (i := .bipush (30)) (n := 2) (by decide +kernel)) (by decide +kernel) <|
    z_irem (zd (i := .irem) (n := 1) (by decide +kernel)) <|
    z_putI (ci := 3) (j := 1) (idx := 15) (zd (i := .putfield 15) (n := 3) (by decide +kernel)) (by decide +kernel) (by decide +kernel) rfl g413 (Or.inl rfl) <|
    z_aload_n (n := 0) (i := 0) (zd (i := .aload_n 0) (n := 1) (by decide +kernel)) rfl <|
    z_aload_n (n := 0) (i := 0) (zd (i := .aload_n 0) (n := 1) (by decide +kernel)) rfl <|
    z_getI (ci := 3) (j := 2) (idx := 19) (zd (i := .getfield 19) (n := 3) (by decide +kernel)) (by decide +kernel) (by decide +kernel) rfl g414 <|
    z_iconst (n := 1) (zd (i := .iconst (1)) (n := 1) (by decide +kernel)) (by decide +kernel) <|
    z_iadd (zd (i := .iadd) (n := 1) (by decide +kernel)) <|
    z_bipush (n := 30) (zd (i := .bipush (30)) (n := 2) (by decide +kernel)) (by decide +kernel) <|
    z_min (idx := 27) (zd (i := .invokestatic 27) (n := 3) (by decide +kernel)) g847 g578 g111 g579 <|
    z_putI (ci := 3) (j := 2) (idx := 19) (zd (i := .putfield 19) (n := 3) (by decide +kernel)) (by decide +kernel) (by decide +kernel) rfl g414 (Or.inl rfl) <|
    z_vret (zd (i := .return_) (n := 1) (by decide +kernel)) rfl
noncomputable def t_X3_push : List zBl := [b_X3_push_0]
theorem tt_X3_push (d : Nat) : zT (zPb l G gh (d + 2) n_X3_push p_X3_push) t_X3_push p_X3_push := ⟨s_X3_push_0 d, trivial⟩
def q_X3_push_0 : List (Nat × Nat) := [(21, zk10), (22, zk12), (23, zk12), (24, zk12), (25, zk12), (26, zk11), (27, zk11), (35, zk23), (36, zk24), (37, zk25), (38, zk12), (39, zk12), (40, zk12), (41, zk12), (42, zk11), (43, zk11), (44, zk26), (45, zk12), (46, zk12), (47, zk12), (48, zk12), (49, zk11), (50, zk11), (51, zk27), (52, zk12), (53, zk12), (54, zk12), (55, zk12), (56, zk11), (57, zk11), (58, zk28), (59, zk12), (60, zk12), (61, zk12), (62, zk12), (63, zk11), (64, zk11), (65, zk29), (66, zk12), (67, zk12), (68, zk12), (69, zk12), (70, zk11), (71, zk11), (72, zk30), (73, zk12), (74, zk12), (75, zk12), (76, zk12), (77, zk11), (78, zk11), (79, zk31), (80, zk12), (81, zk12), (82, zk12), (83, zk12), (84, zk11), (85, zk11), (86, zk32), (87, zk12), (88, zk12), (89, zk12), (90, zk12), (91, zk11), (92, zk11), (93, zk33), (94, zk12), (95, zk12), (96, zk12), (97, zk12), (98, zk11), (99, zk11), (100, zk34), (101, zk12), (102, zk12), (103, zk12), (104, zk12), (105, zk11), (106, zk11), (107, zk35), (108, zk12), (109, zk12), (110, zk12), (111, zk12), (112, zk11), (113, zk11), (114, zk36), (115, zk12), (116, zk12), (117, zk12), (118, zk12), (119, zk11), (120, zk11), (121, zk37), (122, zk12), (123, zk12), (124, zk12), (125, zk12), (126, zk11), (127, zk11), (128, zk38), (129, zk12), (130, zk12), (131, zk12), (132, zk12), (133, zk11), (134, zk11), (135, zk39), (136, zk12), (137, zk12), (138, zk12), (139, zk12), (140, zk11), (141, zk11), (142, zk40), (143, zk12), (144, zk12), (145, zk12), (146, zk12), (147, zk11), (148, zk11), (149, zk41), (150, zk12), (151, zk12), (152, zk12), (153, zk12), (154, zk11), (155, zk11), (156, zk42), (157, zk12), (158, zk12), (159, zk12), (160, zk12), (161, zk11), (162, zk11), (163, zk43), (164, zk12), (165, zk12), (166, zk12), (167, zk12), (168, zk11), (169, zk11), (170, zk44), (171, zk12), (172, zk12), (173, zk12), (174, zk12), (175, zk11), (176, zk11), (177, zk45), (178, zk12), (179, zk12), (180, zk12), (181, zk12), (182, zk11), (183, zk11), (184, zk46), (185, zk12), (186, zk12), (187, zk12), (188, zk12), (189, zk11), (190, zk11), (191, zk47), (192, zk12), (193, zk12), (194, zk12), (195, zk12), (196, zk11), (197, zk11), (198, zk48), (199, zk12), (200, zk12), (201, zk12), (202, zk12), (203, zk11), (204, zk11), (205, zk49), (206, zk12), (207, zk12), (208, zk12), (209, zk12), (210, zk11), (211, zk11), (212, zk50), (213, zk12), (214, zk12), (215, zk12), (216, zk12), (217, zk11), (218, zk11), (219, zk51), (220, zk12), (221, zk12), (222, zk12), (223, zk12), (224, zk11), (225, zk11), (226, zk52), (227, zk12), (228, zk12), (229, zk12), (230, zk12), (231, zk11), (232, zk11), (233, zk53), (234, zk12), (235, zk12), (236, zk12), (237, zk12), (238, zk11), (239, zk11), (240, zk54), (241, zk12), (242, zk12), (243, zk12), (244, zk12), (245, zk11), (246, zk11)]
noncomputable def al_X3_push_0 : zAq := [(none, [(21, zk10), (22, zk12), (23, zk12), (24, zk12), (25, zk12), (26, zk11), (27, zk11), (35, zk55), (36, zk24), (37, zk56), (38, zk57), (39, zk57), (40, zk57), (41, zk57), (42, zk58), (43, zk58), (44, zk59), (45, zk57), (46, zk57), (47, zk57), (48, zk57), (49, zk58), (50, zk58), (51, zk60), (52, zk57), (53, zk57), (54, zk57), (55, zk57), (56, zk58), (57, zk58), (58, zk61), (59, zk57), (60, zk57), (61, zk57), (62, zk57), (63, zk58), (64, zk58), (65, zk62), (66, zk57), (67, zk57), (68, zk57), (69, zk57), (70, zk58), (71, zk58), (72, zk63), (73, zk57), (74, zk57), (75, zk57), (76, zk57), (77, zk58), (78, zk58), (79, zk64), (80, zk57), (81, zk57), (82, zk57), (83, zk57), (84, zk58), (85, zk58), (86, zk65), (87, zk57), (88, zk57), (89, zk57), (90, zk57), (91, zk58), (92, zk58), (93, zk66), (94, zk57), (95, zk57), (96, zk57), (97, zk57), (98, zk58), (99, zk58), (100, zk67), (101, zk57), (102, zk57), (103, zk57), (104, zk57), (105, zk58), (106, zk58), (107, zk68), (108, zk57), (109, zk57), (110, zk57), (111, zk57), (112, zk58), (113, zk58), (114, zk69), (115, zk57), (116, zk57), (117, zk57), (118, zk57), (119, zk58), (120, zk58), (121, zk70), (122, zk57), (123, zk57), (124, zk57), (125, zk57), (126, zk58), (127, zk58), (128, zk71), (129, zk57), (130, zk57), (131, zk57), (132, zk57), (133, zk58), (134, zk58), (135, zk72), (136, zk57), (137, zk57), (138, zk57), (139, zk57), (140, zk58), (141, zk58), (142, zk73), (143, zk57), (144, zk57), (145, zk57), (146, zk57), (147, zk58), (148, zk58), (149, zk74), (150, zk57), (151, zk57), (152, zk57), (153, zk57), (154, zk58), (155, zk58), (156, zk75), (157, zk57), (158, zk57), (159, zk57), (160, zk57), (161, zk58), (162, zk58), (163, zk76), (164, zk57), (165, zk57), (166, zk57), (167, zk57), (168, zk58), (169, zk58), (170, zk77), (171, zk57), (172, zk57), (173, zk57), (174, zk57), (175, zk58), (176, zk58), (177, zk78), (178, zk57), (179, zk57), (180, zk57), (181, zk57), (182, zk58), (183, zk58), (184, zk79), (185, zk57), (186, zk57), (187, zk57), (188, zk57), (189, zk58), (190, zk58), (191, zk80), (192, zk57), (193, zk57), (194, zk57), (195, zk57), (196, zk58), (197, zk58), (198, zk81), (199, zk57), (200, zk57), (201, zk57), (202, zk57), (203, zk58), (204, zk58), (205, zk82), (206, zk57), (207, zk57), (208, zk57), (209, zk57), (210, zk58), (211, zk58), (212, zk83), (213, zk57), (214, zk57), (215, zk57), (216, zk57), (217, zk58), (218, zk58), (219, zk84), (220, zk57), (221, zk57), (222, zk57), (223, zk57), (224, zk58), (225, zk58), (226, zk85), (227, zk57), (228, zk57), (229, zk57), (230, zk57), (231, zk58), (232, zk58), (233, zk86), (234, zk57), (235, zk57), (236, zk57), (237, zk57), (238, zk58), (239, zk58), (240, zk87), (241, zk57), (242, zk57), (243, zk57), (244, zk57), (245, zk58), (246, zk58)])]
noncomputable def fm_X3_push_0 : List zFm := [(0, [], (fun vs => [.inr (.ref 35), .inr (.ref 21)]), (fun vs => zP q_X3_push_0), (fun vs => Nat.sub (Nat.add 0 0) 0))]
def bf_X3_push_0 : List Nat := []
theorem r_X3_push_0_0 : zbox [] (fun vs => zFrun (zpost (zAlq al_X3_push_0)) 1000 t_X3_push fm_X3_push_0 bf_X3_push_0 (0, vs)) = true := by decide +kernel
set_option maxRecDepth 100000 in
theorem x_X3_push_0 (d : Nat) : zS l G gh (d + 2) (zpost (zAlq al_X3_push_0)) n_X3_push (zn 0 p_X3_push 0) (zwc (0, [.inr (.ref 35), .inr (.ref 21)], zP q_X3_push_0) 0) := zentry (tt_X3_push d) fm_X3_push_0 bf_X3_push_0 1000 (by decide +kernel) rfl ⟨Nat.zero_lt_succ _, trivial⟩ (fun f hf => match f, hf with
  | 0, _ => fun vs hv => (zbox_t r_X3_push_0_0) vs hv
  | f + 1, h => absurd (show f + 1 < 1 from h) (Nat.not_lt.mpr (Nat.le_add_left 1 f)))
noncomputable def gs_X3_push_0 : zMt := zgq false [] 2 [.inr (.ref 35), .inr (.ref 21)] q_X3_push_0 al_X3_push_0
set_option maxRecDepth 100000 in
theorem cs_X3_push_0 (d : Nat) : zC l G gh (d + 2) n_X3_push gs_X3_push_0 := zgq_ok0 (pcs := p_X3_push) (by decide) rfl rfl (fun a ha => by simp only [al_X3_push_0, List.mem_cons, List.not_mem_nil, or_false] at ha; rcases ha with rfl <;> decide +kernel) (fun gh => x_X3_push_0 d) (by decide +kernel)
noncomputable def gs_X3_push : zMt := gs_X3_push_0
theorem cs_X3_push (d : Nat) : zC l G gh (d + 2) n_X3_push gs_X3_push := (cs_X3_push_0 d)
def p_X0_lot : List Nat := [0]
noncomputable def b_X0_lot_0 : zBl := fun jp K => oIld 0 <| oInt 2147483767 <| oCs 2 f_X0_stirred <| oIld 1 <| oCs 2 f_X0_stirred <| oIst 2 <| oIld 2 <| oInt 2147483649 <| oB2 ziushr <| oInt 2147483748 <| oB2z zirem <| oIret K
theorem s_X0_lot_0 (d : Nat) : zPb l G gh (d + 2) n_X0_lot p_X0_lot 0 b_X0_lot_0 := fun K jp hj =>
    z_iload_n (n := 0) (i := 0) (zd (i := .iload_n 0) (n := 1) (by decide +kernel)) rfl <|
    z_bipush (n := 119) (zd (i := .bipush (119)) (n := 2) (by decide +kernel)) (by decide +kernel) <|
    z_callS (idx := 91) (N := n_X0_stirred) (zd (i := .invokestatic 91) (n := 3) (by decide +kernel)) to_X0_stirred g876 g877 rfl rfl (c_X0_stirred (l := l) (G := G) (gh := gh) (d)) <|
    z_iload_n (n := 1) (i := 1) (zd (i := .iload_n 1) (n := 1) (by decide +kernel)) rfl <|
    z_callS (idx := 91) (N := n_X0_stirred) (zd (i := .invokestatic 91) (n := 3) (by decide +kernel)) to_X0_stirred g876 g877 rfl rfl (c_X0_stirred (l := l) (G := G) (gh := gh) (d)) <|
    z_istore_n (n := 2) (i := 2) (zd (i := .istore_n 2) (n := 1) (by decide +kernel)) rfl (by decide +kernel) <|
    z_iload_n (n := 2) (i := 2) (zd (i := .iload_n 2) (n := 1) (by decide +kernel)) rfl <|
    z_iconst (n := 1) (zd (i := .iconst (1)) (n := 1) (by decide +kernel)) (by decide +kernel) <|
    z_iushr (zd (i := .iushr) (n := 1) (by decide +kernel)) <|
    z_bipush (n := 100) (zd (i := .bipush (100)) (n := 2) (by decide +kernel)) (by decide +kernel) <|
    z_irem (zd (i := .irem) (n := 1) (by decide +kernel)) <|
    z_iret (zd (i := .ireturn) (n := 1) (by decide +kernel)) rfl
noncomputable def t_X0_lot : List zBl := [b_X0_lot_0]
theorem tt_X0_lot (d : Nat) : zT (zPb l G gh (d + 2) n_X0_lot p_X0_lot) t_X0_lot p_X0_lot := ⟨s_X0_lot_0 d, trivial⟩
noncomputable def f_X0_lot : zMt := zmet 3 t_X0_lot
theorem c_X0_lot (d : Nat) : zC l G gh (d + 2) n_X0_lot f_X0_lot := zmet_ok (pcs := p_X0_lot) (by decide) rfl rfl (tt_X0_lot d)
def p_X3_pop : List Nat := [0, 7, 9]
noncomputable def b_X3_pop_0 : zBl := fun jp K => oSpF 0 3 1 30 <| oNFC 0 3 2 2147483648 zneN zeqN zn1_ne zn1_eq (jp 2) (jp 1)
theorem s_X3_pop_0 (d : Nat) : zPb l G gh (d + 2) n_X3_pop p_X3_pop 0 b_X3_pop_0 := fun K jp hj =>
    z_spF (r := 0) (ci := 3) (j := 1) (n := 30) (by decide +kernel) rfl <|
    z_nF0_ne (r := 0) (ci := 3) (j := 2) (a1 := 4) (off := 5) (tgt := 9) (zFd_n (n := 0) (r := 0) (ci := 3) (j := 2) (idx := 19) (zd (i := .aload_n 0) (n := 1) (by decide +kernel)) rfl (zd (i := .getfield 19) (n := 3) (by decide +kernel)) (by decide +kernel) (by decide +kernel) rfl g414) (by decide +kernel) rfl (zd (i := .ifCond .ne (5)) (n := 3) (by decide +kernel)) (by decide +kernel) (zj (hj 2) (by decide +kernel)) (zj (hj 1) (by decide +kernel))
noncomputable def b_X3_pop_1 : zBl := fun jp K => oInt 2147483648 <| oZret K
theorem s_X3_pop_1 (d : Nat) : zPb l G gh (d + 2) n_X3_pop p_X3_pop 7 b_X3_pop_1 := fun K jp hj =>
    z_iconst (n := 0) (zd (i := .iconst (0)) (n := 1) (by decide +kernel)) (by decide +kernel) <|
    z_zret (zd (i := .ireturn) (n := 1) (by decide +kernel)) rfl
noncomputable def b_X3_pop_2 : zBl := fun jp K => oAld 0 <| oDup <| oGetI 3 2 <| oInt 2147483649 <| oB2 zsub <| oPutI 3 2 <| oAld 0 <| oAld 0 <| oGetI 3 1 <| oInt 2147483678 <| oB2 zadd <| oInt 2147483649 <| oB2 zsub <| oInt 2147483678 <| oB2z zirem <| oPutI 3 1 <| oAld 1 <| oAld 0 <| oGetR 3 0 <| oAld 0 <| oGetI 3 1 <| oAald <| oCv 4 1 f_X4_copy <| oInt 2147483649 <| oZret K
theorem s_X3_pop_2 (d : Nat) : zPb l G gh (d + 2) n_X3_pop p_X3_pop 9 b_X3_pop_2 := fun K jp hj =>
    z_aload_n (n := 0) (i := 0) (zd (i := .aload_n 0) (n := 1) (by decide +kernel)) rfl <|
    z_dup (zd (i := .dup) (n := 1) (by decide +kernel)) <|
    z_getI (ci := 3) (j := 2) (idx := 19) (zd (i := .getfield 19) (n := 3) (by decide +kernel)) (by decide +kernel) (by decide +kernel) rfl g414 <|
    z_iconst (n := 1) (zd (i := .iconst (1)) (n := 1) (by decide +kernel)) (by decide +kernel) <|
    z_isub (zd (i := .isub) (n := 1) (by decide +kernel)) <|
    z_putI (ci := 3) (j := 2) (idx := 19) (zd (i := .putfield 19) (n := 3) (by decide +kernel)) (by decide +kernel) (by decide +kernel) rfl g414 (Or.inl rfl) <|
    z_aload_n (n := 0) (i := 0) (zd (i := .aload_n 0) (n := 1) (by decide +kernel)) rfl <|
    z_aload_n (n := 0) (i := 0) (zd (i := .aload_n 0) (n := 1) (by decide +kernel)) rfl <|
    z_getI (ci := 3) (j := 1) (idx := 15) (zd (i := .getfield 15) (n := 3) (by decide +kernel)) (by decide +kernel) (by decide +kernel) rfl g413 <|
    z_bipush (n := 30) (zd (i := .bipush (30)) (n := 2) (by decide +kernel)) (by decide +kernel) <|
    z_iadd (zd (i := .iadd) (n := 1) (by decide +kernel)) <|
    z_iconst (n := 1) (zd (i := .iconst (1)) (n := 1) (by decide +kernel)) (by decide +kernel) <|
    z_isub (zd (i := .isub) (n := 1) (by decide +kernel)) <|
    z_bipush (n := 30) (zd (i := .bipush (30)) (n := 2) (by decide +kernel)) (by decide +kernel) <|
    z_irem (zd (i := .irem) (n := 1) (by decide +kernel)) <|
    z_putI (ci := 3) (j := 1) (idx := 15) (zd (i := .putfield 15) (n := 3) (by decide +kernel)) (by decide +kernel) (by decide +kernel) rfl g413 (Or.inl rfl) <|
    z_aload_n (n := 1) (i := 1) (zd (i := .aload_n 1) (n := 1) (by decide +kernel)) rfl <|
    z_aload_n (n := 0) (i := 0) (zd (i := .aload_n 0) (n := 1) (by decide +kernel)) rfl <|
    z_getR (ci := 3) (j := 0) (idx := 11) (zd (i := .getfield 11) (n := 3) (by decide +kernel)) (by decide +kernel) (by decide +kernel) rfl g412 <|
    z_aload_n (n := 0) (i := 0) (zd (i := .aload_n 0) (n := 1) (by decide +kernel)) rfl <|
    z_getI (ci := 3) (j := 1) (idx := 15) (zd (i := .getfield 15) (n := 3) (by decide +kernel)) (by decide +kernel) (by decide +kernel) rfl g413 <|
    z_aald (zd (i := .aaload) (n := 1) (by decide +kernel)) <|
    z_callV (idx := 23) (ci := 4) (N := n_X4_copy) (zd (i := .invokevirtual 23) (n := 3) (by decide +kernel)) to_X4_copy g840 g841 g842 (by decide +kernel) rfl rfl rfl (c_X4_copy (l := l) (G := G) (gh := gh) (d)) <|
    z_iconst (n := 1) (zd (i := .iconst (1)) (n := 1) (by decide +kernel)) (by decide +kernel) <|
    z_zret (zd (i := .ireturn) (n := 1) (by decide +kernel)) rfl
noncomputable def t_X3_pop : List zBl := [b_X3_pop_0, b_X3_pop_1, b_X3_pop_2]
theorem tt_X3_pop (d : Nat) : zT (zPb l G gh (d + 2) n_X3_pop p_X3_pop) t_X3_pop p_X3_pop := ⟨s_X3_pop_0 d, s_X3_pop_1 d, s_X3_pop_2 d, trivial⟩
def q_X3_pop_0 : List (Nat × Nat) := [(21, zk10), (22, zk12), (23, zk12), (24, zk12), (25, zk12), (26, zk11), (27, zk11), (35, zk23), (36, zk24), (37, zk25), (38, zk12), (39, zk12), (40, zk12), (41, zk12), (42, zk11), (43, zk11), (44, zk26), (45, zk12), (46, zk12), (47, zk12), (48, zk12), (49, zk11), (50, zk11), (51, zk27), (52, zk12), (53, zk12), (54, zk12), (55, zk12), (56, zk11), (57, zk11), (58, zk28), (59, zk12), (60, zk12), (61, zk12), (62, zk12), (63, zk11), (64, zk11), (65, zk29), (66, zk12), (67, zk12), (68, zk12), (69, zk12), (70, zk11), (71, zk11), (72, zk30), (73, zk12), (74, zk12), (75, zk12), (76, zk12), (77, zk11), (78, zk11), (79, zk31), (80, zk12), (81, zk12), (82, zk12), (83, zk12), (84, zk11), (85, zk11), (86, zk32), (87, zk12), (88, zk12), (89, zk12), (90, zk12), (91, zk11), (92, zk11), (93, zk33), (94, zk12), (95, zk12), (96, zk12), (97, zk12), (98, zk11), (99, zk11), (100, zk34), (101, zk12), (102, zk12), (103, zk12), (104, zk12), (105, zk11), (106, zk11), (107, zk35), (108, zk12), (109, zk12), (110, zk12), (111, zk12), (112, zk11), (113, zk11), (114, zk36), (115, zk12), (116, zk12), (117, zk12), (118, zk12), (119, zk11), (120, zk11), (121, zk37), (122, zk12), (123, zk12), (124, zk12), (125, zk12), (126, zk11), (127, zk11), (128, zk38), (129, zk12), (130, zk12), (131, zk12), (132, zk12), (133, zk11), (134, zk11), (135, zk39), (136, zk12), (137, zk12), (138, zk12), (139, zk12), (140, zk11), (141, zk11), (142, zk40), (143, zk12), (144, zk12), (145, zk12), (146, zk12), (147, zk11), (148, zk11), (149, zk41), (150, zk12), (151, zk12), (152, zk12), (153, zk12), (154, zk11), (155, zk11), (156, zk42), (157, zk12), (158, zk12), (159, zk12), (160, zk12), (161, zk11), (162, zk11), (163, zk43), (164, zk12), (165, zk12), (166, zk12), (167, zk12), (168, zk11), (169, zk11), (170, zk44), (171, zk12), (172, zk12), (173, zk12), (174, zk12), (175, zk11), (176, zk11), (177, zk45), (178, zk12), (179, zk12), (180, zk12), (181, zk12), (182, zk11), (183, zk11), (184, zk46), (185, zk12), (186, zk12), (187, zk12), (188, zk12), (189, zk11), (190, zk11), (191, zk47), (192, zk12), (193, zk12), (194, zk12), (195, zk12), (196, zk11), (197, zk11), (198, zk48), (199, zk12), (200, zk12), (201, zk12), (202, zk12), (203, zk11), (204, zk11), (205, zk49), (206, zk12), (207, zk12), (208, zk12), (209, zk12), (210, zk11), (211, zk11), (212, zk50), (213, zk12), (214, zk12), (215, zk12), (216, zk12), (217, zk11), (218, zk11), (219, zk51), (220, zk12), (221, zk12), (222, zk12), (223, zk12), (224, zk11), (225, zk11), (226, zk52), (227, zk12), (228, zk12), (229, zk12), (230, zk12), (231, zk11), (232, zk11), (233, zk53), (234, zk12), (235, zk12), (236, zk12), (237, zk12), (238, zk11), (239, zk11), (240, zk54), (241, zk12), (242, zk12), (243, zk12), (244, zk12), (245, zk11), (246, zk11)]
noncomputable def al_X3_pop_0 : zAq := [(some (.inl 9223372043297226753), [(21, zk88), (22, zk57), (23, zk57), (24, zk57), (25, zk57), (26, zk58), (27, zk58), (35, zk55), (36, zk24), (37, zk25), (38, zk12), (39, zk12), (40, zk12), (41, zk12), (42, zk11), (43, zk11), (44, zk26), (45, zk12), (46, zk12), (47, zk12), (48, zk12), (49, zk11), (50, zk11), (51, zk27), (52, zk12), (53, zk12), (54, zk12), (55, zk12), (56, zk11), (57, zk11), (58, zk28), (59, zk12), (60, zk12), (61, zk12), (62, zk12), (63, zk11), (64, zk11), (65, zk29), (66, zk12), (67, zk12), (68, zk12), (69, zk12), (70, zk11), (71, zk11), (72, zk30), (73, zk12), (74, zk12), (75, zk12), (76, zk12), (77, zk11), (78, zk11), (79, zk31), (80, zk12), (81, zk12), (82, zk12), (83, zk12), (84, zk11), (85, zk11), (86, zk32), (87, zk12), (88, zk12), (89, zk12), (90, zk12), (91, zk11), (92, zk11), (93, zk33), (94, zk12), (95, zk12), (96, zk12), (97, zk12), (98, zk11), (99, zk11), (100, zk34), (101, zk12), (102, zk12), (103, zk12), (104, zk12), (105, zk11), (106, zk11), (107, zk35), (108, zk12), (109, zk12), (110, zk12), (111, zk12), (112, zk11), (113, zk11), (114, zk36), (115, zk12), (116, zk12), (117, zk12), (118, zk12), (119, zk11), (120, zk11), (121, zk37), (122, zk12), (123, zk12), (124, zk12), (125, zk12), (126, zk11), (127, zk11), (128, zk38), (129, zk12), (130, zk12), (131, zk12), (132, zk12), (133, zk11), (134, zk11), (135, zk39), (136, zk12), (137, zk12), (138, zk12), (139, zk12), (140, zk11), (141, zk11), (142, zk40), (143, zk12), (144, zk12), (145, zk12), (146, zk12), (147, zk11), (148, zk11), (149, zk41), (150, zk12), (151, zk12), (152, zk12), (153, zk12), (154, zk11), (155, zk11), (156, zk42), (157, zk12), (158, zk12), (159, zk12), (160, zk12), (161, zk11), (162, zk11), (163, zk43), (164, zk12), (165, zk12), (166, zk12), (167, zk12), (168, zk11), (169, zk11), (170, zk44), (171, zk12), (172, zk12), (173, zk12), (174, zk12), (175, zk11), (176, zk11), (177, zk45), (178, zk12), (179, zk12), (180, zk12), (181, zk12), (182, zk11), (183, zk11), (184, zk46), (185, zk12), (186, zk12), (187, zk12), (188, zk12), (189, zk11), (190, zk11), (191, zk47), (192, zk12), (193, zk12), (194, zk12), (195, zk12), (196, zk11), (197, zk11), (198, zk48), (199, zk12), (200, zk12), (201, zk12), (202, zk12), (203, zk11), (204, zk11), (205, zk49), (206, zk12), (207, zk12), (208, zk12), (209, zk12), (210, zk11), (211, zk11), (212, zk50), (213, zk12), (214, zk12), (215, zk12), (216, zk12), (217, zk11), (218, zk11), (219, zk51), (220, zk12), (221, zk12), (222, zk12), (223, zk12), (224, zk11), (225, zk11), (226, zk52), (227, zk12), (228, zk12), (229, zk12), (230, zk12), (231, zk11), (232, zk11), (233, zk53), (234, zk12), (235, zk12), (236, zk12), (237, zk12), (238, zk11), (239, zk11), (240, zk54), (241, zk12), (242, zk12), (243, zk12), (244, zk12), (245, zk11), (246, zk11)])]
noncomputable def fm_X3_pop_0 : List zFm := [(0, [], (fun vs => [.inr (.ref 35), .inr (.ref 21)]), (fun vs => zP q_X3_pop_0), (fun vs => Nat.sub (Nat.add 0 0) 0))]
def bf_X3_pop_0 : List Nat := []
theorem r_X3_pop_0_0 : zbox [] (fun vs => zFrun (zpost (zAlq al_X3_pop_0)) 1000 t_X3_pop fm_X3_pop_0 bf_X3_pop_0 (0, vs)) = true := by decide +kernel
set_option maxRecDepth 100000 in
theorem x_X3_pop_0 (d : Nat) : zS l G gh (d + 2) (zpost (zAlq al_X3_pop_0)) n_X3_pop (zn 0 p_X3_pop 0) (zwc (0, [.inr (.ref 35), .inr (.ref 21)], zP q_X3_pop_0) 0) := zentry (tt_X3_pop d) fm_X3_pop_0 bf_X3_pop_0 1000 (by decide +kernel) rfl ⟨Nat.zero_lt_succ _, trivial⟩ (fun f hf => match f, hf with
  | 0, _ => fun vs hv => (zbox_t r_X3_pop_0_0) vs hv
  | f + 1, h => absurd (show f + 1 < 1 from h) (Nat.not_lt.mpr (Nat.le_add_left 1 f)))
noncomputable def gs_X3_pop_0 : zMt := zgq false [] 2 [.inr (.ref 35), .inr (.ref 21)] q_X3_pop_0 al_X3_pop_0
set_option maxRecDepth 100000 in
theorem cs_X3_pop_0 (d : Nat) : zC l G gh (d + 2) n_X3_pop gs_X3_pop_0 := zgq_ok0 (pcs := p_X3_pop) (by decide) rfl rfl (fun a ha => by simp only [al_X3_pop_0, List.mem_cons, List.not_mem_nil, or_false] at ha; rcases ha with rfl <;> decide +kernel) (fun gh => x_X3_pop_0 d) (by decide +kernel)
noncomputable def gs_X3_pop : zMt := gs_X3_pop_0
theorem cs_X3_pop (d : Nat) : zC l G gh (d + 2) n_X3_pop gs_X3_pop := (cs_X3_pop_0 d)
def p_X8_titlesClash : List Nat := [0, 2, 13, 28, 40, 46, 52, 68, 70, 76, 82]
noncomputable def b_X8_titlesClash_0 : zBl := fun jp K => oInt 2147483648 <| oIst 3 <| jp 1
theorem s_X8_titlesClash_0 (d : Nat) : zPb l G gh (d + 2) n_X8_titlesClash p_X8_titlesClash 0 b_X8_titlesClash_0 := fun K jp hj =>
    z_iconst (n := 0) (zd (i := .iconst (0)) (n := 1) (by decide +kernel)) (by decide +kernel) <|
    z_istore_n (n := 3) (i := 3) (zd (i := .istore_n 3) (n := 1) (by decide +kernel)) rfl (by decide +kernel) <|
    (zj (hj 1) (by decide +kernel))
noncomputable def b_X8_titlesClash_1 : zBl := fun jp K => oIld 3 <| oAld 0 <| oGetR 8 12 <| oGetI 0 2 <| oIc zge zlt (jp 10) (jp 2)
theorem s_X8_titlesClash_1 (d : Nat) : zPb l G gh (d + 2) n_X8_titlesClash p_X8_titlesClash 2 b_X8_titlesClash_1 := fun K jp hj =>
    z_iload_n (n := 3) (i := 3) (zd (i := .iload_n 3) (n := 1) (by decide +kernel)) rfl <|
    z_aload_n (n := 0) (i := 0) (zd (i := .aload_n 0) (n := 1) (by decide +kernel)) rfl <|
    z_getR (ci := 8) (j := 12) (idx := 71) (zd (i := .getfield 71) (n := 3) (by decide +kernel)) (by decide +kernel) (by decide +kernel) rfl g464 <|
    z_getI (ci := 0) (j := 2) (idx := 236) (zd (i := .getfield 236) (n := 3) (by decide +kernel)) (by decide +kernel) (by decide +kernel) rfl g280 <|
    z_icmp_ge (off := 72) (tgt := 82) (zd (i := .if_icmp .ge (72)) (n := 3) (by decide +kernel)) (by decide +kernel) (zj (hj 10) (by decide +kernel)) (zj (hj 2) (by decide +kernel))
noncomputable def b_X8_titlesClash_2 : zBl := fun jp K => oAld 0 <| oGetR 8 9 <| oIld 1 <| oIld 3 <| oCs 2 f_X8_loanOf <| oXald 10 <| oIst 4 <| oInt 2147483648 <| oIst 5 <| jp 3
theorem s_X8_titlesClash_2 (d : Nat) : zPb l G gh (d + 2) n_X8_titlesClash p_X8_titlesClash 13 b_X8_titlesClash_2 := fun K jp hj =>
    z_aload_n (n := 0) (i := 0) (zd (i := .aload_n 0) (n := 1) (by decide +kernel)) rfl <|
    z_getR (ci := 8) (j := 9) (idx := 59) (zd (i := .getfield 59) (n := 3) (by decide +kernel)) (by decide +kernel) (by decide +kernel) rfl g461 <|
    z_iload_n (n := 1) (i := 1) (zd (i := .iload_n 1) (n := 1) (by decide +kernel)) rfl <|
    z_iload_n (n := 3) (i := 3) (zd (i := .iload_n 3) (n := 1) (by decide +kernel)) rfl <|
    z_callS (idx := 166) (N := n_X8_loanOf) (zd (i := .invokestatic 166) (n := 3) (by decide +kernel)) to_X8_loanOf g764 g765 rfl rfl (c_X8_loanOf (l := l) (G := G) (gh := gh) (d)) <|
    z_iald (zd (i := .iaload) (n := 1) (by decide +kernel)) <|
    z_istore (i := 4) (zd (i := .istore 4) (n := 2) (by decide +kernel)) (by decide +kernel) <|
    z_iconst (n := 0) (zd (i := .iconst (0)) (n := 1) (by decide +kernel)) (by decide +kernel) <|
    z_istore (i := 5) (zd (i := .istore 5) (n := 2) (by decide +kernel)) (by decide +kernel) <|
    (zj (hj 3) (by decide +kernel))
noncomputable def b_X8_titlesClash_3 : zBl := fun jp K => oIld 5 <| oAld 0 <| oGetR 8 12 <| oGetI 0 2 <| oIc zge zlt (jp 9) (jp 4)
theorem s_X8_titlesClash_3 (d : Nat) : zPb l G gh (d + 2) n_X8_titlesClash p_X8_titlesClash 28 b_X8_titlesClash_3 := fun K jp hj =>
    z_iload (i := 5) (zd (i := .iload 5) (n := 2) (by decide +kernel)) <|
    z_aload_n (n := 0) (i := 0) (zd (i := .aload_n 0) (n := 1) (by decide +kernel)) rfl <|
    z_getR (ci := 8) (j := 12) (idx := 71) (zd (i := .getfield 71) (n := 3) (by decide +kernel)) (by decide +kernel) (by decide +kernel) rfl g464 <|
    z_getI (ci := 0) (j := 2) (idx := 236) (zd (i := .getfield 236) (n := 3) (by decide +kernel)) (by decide +kernel) (by decide +kernel) rfl g280 <|
    z_icmp_ge (off := 39) (tgt := 76) (zd (i := .if_icmp .ge (39)) (n := 3) (by decide +kernel)) (by decide +kernel) (zj (hj 9) (by decide +kernel)) (zj (hj 4) (by decide +kernel))
noncomputable def b_X8_titlesClash_4 : zBl := fun jp K => oNLC 4 2147483647 zeqN zneN zn1_eq zn1_ne (jp 9) (jp 5)
theorem s_X8_titlesClash_4 (d : Nat) : zPb l G gh (d + 2) n_X8_titlesClash p_X8_titlesClash 40 b_X8_titlesClash_4 := fun K jp hj =>
    z_nLC_eq (i := 4) (c0 := 2147483647) (a1 := 2) (a2 := 1) (off := 33) (tgt := 76) (zLd_w (i := 4) (zd (i := .iload 4) (n := 2) (by decide +kernel))) (zCn_c (n := -1) (zd (i := .iconst (-1)) (n := 1) (by decide +kernel)) (by decide +kernel)) (zd (i := .if_icmp .eq (33)) (n := 3) (by decide +kernel)) (by decide +kernel) (zj (hj 9) (by decide +kernel)) (zj (hj 5) (by decide +kernel))
noncomputable def b_X8_titlesClash_5 : zBl := fun jp K => oNLL 5 3 zeqN zneN zn1_eq zn2_eq zn1_ne zn2_ne (jp 8) (jp 6)
theorem s_X8_titlesClash_5 (d : Nat) : zPb l G gh (d + 2) n_X8_titlesClash p_X8_titlesClash 46 b_X8_titlesClash_5 := fun K jp hj =>
    z_nLL_eq (i := 5) (j := 3) (a1 := 2) (a2 := 1) (off := 21) (tgt := 70) (zLd_w (i := 5) (zd (i := .iload 5) (n := 2) (by decide +kernel))) (zLd_n (n := 3) (i := 3) (zd (i := .iload_n 3) (n := 1) (by decide +kernel)) rfl) (zd (i := .if_icmp .eq (21)) (n := 3) (by decide +kernel)) (by decide +kernel) (zj (hj 8) (by decide +kernel)) (zj (hj 6) (by decide +kernel))
noncomputable def b_X8_titlesClash_6 : zBl := fun jp K => oAld 0 <| oGetR 8 9 <| oIld 2 <| oIld 5 <| oCs 2 f_X8_loanOf <| oXald 10 <| oIld 4 <| oIc zne zeq (jp 8) (jp 7)
theorem s_X8_titlesClash_6 (d : Nat) : zPb l G gh (d + 2) n_X8_titlesClash p_X8_titlesClash 52 b_X8_titlesClash_6 := fun K jp hj =>
    z_aload_n (n := 0) (i := 0) (zd (i := .aload_n 0) (n := 1) (by decide +kernel)) rfl <|
    z_getR (ci := 8) (j := 9) (idx := 59) (zd (i := .getfield 59) (n := 3) (by decide +kernel)) (by decide +kernel) (by decide +kernel) rfl g461 <|
    z_iload_n (n := 2) (i := 2) (zd (i := .iload_n 2) (n := 1) (by decide +kernel)) rfl <|
    z_iload (i := 5) (zd (i := .iload 5) (n := 2) (by decide +kernel)) <|
    z_callS (idx := 166) (N := n_X8_loanOf) (zd (i := .invokestatic 166) (n := 3) (by decide +kernel)) to_X8_loanOf g764 g765 rfl rfl (c_X8_loanOf (l := l) (G := G) (gh := gh) (d)) <|
    z_iald (zd (i := .iaload) (n := 1) (by decide +kernel)) <|
    z_iload (i := 4) (zd (i := .iload 4) (n := 2) (by decide +kernel)) <|
    z_icmp_ne (off := 5) (tgt := 70) (zd (i := .if_icmp .ne (5)) (n := 3) (by decide +kernel)) (by decide +kernel) (zj (hj 8) (by decide +kernel)) (zj (hj 7) (by decide +kernel))
noncomputable def b_X8_titlesClash_7 : zBl := fun jp K => oInt 2147483649 <| oZret K
theorem s_X8_titlesClash_7 (d : Nat) : zPb l G gh (d + 2) n_X8_titlesClash p_X8_titlesClash 68 b_X8_titlesClash_7 := fun K jp hj =>
    z_iconst (n := 1) (zd (i := .iconst (1)) (n := 1) (by decide +kernel)) (by decide +kernel) <|
    z_zret (zd (i := .ireturn) (n := 1) (by decide +kernel)) rfl
noncomputable def b_X8_titlesClash_8 : zBl := fun jp K => oInc 5 2147483649 <| jp 3
theorem s_X8_titlesClash_8 (d : Nat) : zPb l G gh (d + 2) n_X8_titlesClash p_X8_titlesClash 70 b_X8_titlesClash_8 := fun K jp hj =>
    z_iinc (i := 5) (n := 1) (zd (i := .iinc 5 (1)) (n := 3) (by decide +kernel)) (by decide +kernel) (by decide +kernel) <|
    z_goto (off := -45) (tgt := 28) (zd (i := .goto (-45)) (n := 3) (by decide +kernel)) (by decide +kernel) (zj (hj 3) (by decide +kernel))
noncomputable def b_X8_titlesClash_9 : zBl := fun jp K => oInc 3 2147483649 <| jp 1
theorem s_X8_titlesClash_9 (d : Nat) : zPb l G gh (d + 2) n_X8_titlesClash p_X8_titlesClash 76 b_X8_titlesClash_9 := fun K jp hj =>
    z_iinc (i := 3) (n := 1) (zd (i := .iinc 3 (1)) (n := 3) (by decide +kernel)) (by decide +kernel) (by decide +kernel) <|
    z_goto (off := -77) (tgt := 2) (zd (i := .goto (-77)) (n := 3) (by decide +kernel)) (by decide +kernel) (zj (hj 1) (by decide +kernel))
noncomputable def b_X8_titlesClash_10 : zBl := fun jp K => oInt 2147483648 <| oZret K
theorem s_X8_titlesClash_10 (d : Nat) : zPb l G gh (d + 2) n_X8_titlesClash p_X8_titlesClash 82 b_X8_titlesClash_10 := fun K jp hj =>
    z_iconst (n := 0) (zd (i := .iconst (0)) (n := 1) (by decide +kernel)) (by decide +kernel) <|
    z_zret (zd (i := .ireturn) (n := 1) (by decide +kernel)) rfl
noncomputable def t_X8_titlesClash : List zBl := [b_X8_titlesClash_0, b_X8_titlesClash_1, b_X8_titlesClash_2, b_X8_titlesClash_3, b_X8_titlesClash_4, b_X8_titlesClash_5, b_X8_titlesClash_6, b_X8_titlesClash_7, b_X8_titlesClash_8, b_X8_titlesClash_9, b_X8_titlesClash_10]
theorem tt_X8_titlesClash (d : Nat) : zT (zPb l G gh (d + 2) n_X8_titlesClash p_X8_titlesClash) t_X8_titlesClash p_X8_titlesClash := ⟨s_X8_titlesClash_0 d, s_X8_titlesClash_1 d, s_X8_titlesClash_2 d, s_X8_titlesClash_3 d, s_X8_titlesClash_4 d, s_X8_titlesClash_5 d, s_X8_titlesClash_6 d, s_X8_titlesClash_7 d, s_X8_titlesClash_8 d, s_X8_titlesClash_9 d, s_X8_titlesClash_10 d, trivial⟩
def q_X8_titlesClash_0 : List (Nat × Nat) := [(0, zk0), (256, zk11), (259, zk20)]
noncomputable def al_X8_titlesClash_0 : zAq := [(some (.inl 9223372043297226753), [(0, zk0), (256, zk11), (259, zk20)])]
noncomputable def fm_X8_titlesClash_0 : List zFm := [(0, [], (fun vs => [.inr (.ref 0), .inl 9223372043297226757, .inl 9223372043297226757]), (fun vs => zP q_X8_titlesClash_0), (fun vs => Nat.sub (Nat.add 98 0) 0)),
  (1, [(3, 2147483648, 2147483654)], (fun vs => [.inr (.ref 0), .inl 9223372043297226757, .inl 9223372043297226757, .inl (zn 0 vs 0)]), (fun vs => zP q_X8_titlesClash_0), (fun vs => Nat.sub (Nat.add 30064771163 0) (Nat.add 0 (Nat.mul 14 (zn 0 vs 0))))),
  (3, [(3, 2147483648, 2147483653), (5, 2147483648, 2147483654)], (fun vs => [.inr (.ref 0), .inl 9223372043297226757, .inl 9223372043297226757, .inl (zn 0 vs 0), .inl 8589934591, .inl (zn 0 vs 1)]), (fun vs => zP q_X8_titlesClash_0), (fun vs => Nat.sub (Nat.add 32212254810 0) (Nat.add (Nat.add 0 (Nat.mul 14 (zn 0 vs 0))) (Nat.mul 1 (zn 0 vs 1)))))]
def bf_X8_titlesClash_0 : List Nat := [0, 2, 0, 3]
theorem r_X8_titlesClash_0_0 : zbox [] (fun vs => zFrun (zpost (zAlq al_X8_titlesClash_0)) 1000 t_X8_titlesClash fm_X8_titlesClash_0 bf_X8_titlesClash_0 (0, vs)) = true := by decide +kernel
theorem r_X8_titlesClash_0_1 : zbox [(3, 2147483648, 2147483654)] (fun vs => zFrun (zpost (zAlq al_X8_titlesClash_0)) 1000 t_X8_titlesClash fm_X8_titlesClash_0 bf_X8_titlesClash_0 (1, vs)) = true := by decide +kernel
theorem r_X8_titlesClash_0_2 : zbox [(3, 2147483648, 2147483653), (5, 2147483648, 2147483654)] (fun vs => zFrun (zpost (zAlq al_X8_titlesClash_0)) 1000 t_X8_titlesClash fm_X8_titlesClash_0 bf_X8_titlesClash_0 (2, vs)) = true := by decide +kernel
set_option maxRecDepth 100000 in
theorem x_X8_titlesClash_0 (d : Nat) : zS l G gh (d + 2) (zpost (zAlq al_X8_titlesClash_0)) n_X8_titlesClash (zn 0 p_X8_titlesClash 0) (zwc (0, [.inr (.ref 0), .inl 9223372043297226757, .inl 9223372043297226757], zP q_X8_titlesClash_0) 0) := zentry (tt_X8_titlesClash d) fm_X8_titlesClash_0 bf_X8_titlesClash_0 1000 (by decide +kernel) rfl ⟨Nat.zero_lt_succ _, trivial⟩ (fun f hf => match f, hf with
  | 0, _ => fun vs hv => (zbox_t r_X8_titlesClash_0_0) vs hv
  | 1, _ => fun vs hv => (zbox_t r_X8_titlesClash_0_1) vs hv
  | 2, _ => fun vs hv => (zbox_t r_X8_titlesClash_0_2) vs hv
  | f + 3, h => absurd (show f + 3 < 3 from h) (Nat.not_lt.mpr (Nat.le_add_left 3 f)))
noncomputable def gs_X8_titlesClash_0 : zMt := zgq false [] 6 [.inr (.ref 0), .inl 9223372043297226757, .inl 9223372043297226757] q_X8_titlesClash_0 al_X8_titlesClash_0
set_option maxRecDepth 100000 in
theorem cs_X8_titlesClash_0 (d : Nat) : zC l G gh (d + 2) n_X8_titlesClash gs_X8_titlesClash_0 := zgq_ok0 (pcs := p_X8_titlesClash) (by decide) rfl rfl (fun a ha => by simp only [al_X8_titlesClash_0, List.mem_cons, List.not_mem_nil, or_false] at ha; rcases ha with rfl <;> decide +kernel) (fun gh => x_X8_titlesClash_0 d) (by decide +kernel)
def q_X8_titlesClash_1 : List (Nat × Nat) := [(0, zk1), (9, zk21), (256, zk11)]
noncomputable def al_X8_titlesClash_1 : zAq := [(some (.inl 9223372043297226753), [(0, zk1), (9, zk21), (256, zk11)])]
noncomputable def fm_X8_titlesClash_1 : List zFm := [(0, [], (fun vs => [.inr (.ref 0), .inl 9223372043297226757, .inl 9223372043297226757]), (fun vs => zP q_X8_titlesClash_1), (fun vs => Nat.sub (Nat.add 98 0) 0)),
  (1, [(3, 2147483648, 2147483654)], (fun vs => [.inr (.ref 0), .inl 9223372043297226757, .inl 9223372043297226757, .inl (zn 0 vs 0)]), (fun vs => zP q_X8_titlesClash_1), (fun vs => Nat.sub (Nat.add 30064771163 0) (Nat.add 0 (Nat.mul 14 (zn 0 vs 0))))),
  (3, [(3, 2147483648, 2147483653), (5, 2147483648, 2147483654)], (fun vs => [.inr (.ref 0), .inl 9223372043297226757, .inl 9223372043297226757, .inl (zn 0 vs 0), .inl 8589934591, .inl (zn 0 vs 1)]), (fun vs => zP q_X8_titlesClash_1), (fun vs => Nat.sub (Nat.add 32212254810 0) (Nat.add (Nat.add 0 (Nat.mul 14 (zn 0 vs 0))) (Nat.mul 1 (zn 0 vs 1)))))]
def bf_X8_titlesClash_1 : List Nat := [0, 2, 0, 3]
theorem r_X8_titlesClash_1_0 : zbox [] (fun vs => zFrun (zpost (zAlq al_X8_titlesClash_1)) 1000 t_X8_titlesClash fm_X8_titlesClash_1 bf_X8_titlesClash_1 (0, vs)) = true := by decide +kernel
theorem r_X8_titlesClash_1_1 : zbox [(3, 2147483648, 2147483654)] (fun vs => zFrun (zpost (zAlq al_X8_titlesClash_1)) 1000 t_X8_titlesClash fm_X8_titlesClash_1 bf_X8_titlesClash_1 (1, vs)) = true := by decide +kernel
theorem r_X8_titlesClash_1_2 : zbox [(3, 2147483648, 2147483653), (5, 2147483648, 2147483654)] (fun vs => zFrun (zpost (zAlq al_X8_titlesClash_1)) 1000 t_X8_titlesClash fm_X8_titlesClash_1 bf_X8_titlesClash_1 (2, vs)) = true := by decide +kernel
set_option maxRecDepth 100000 in
theorem x_X8_titlesClash_1 (d : Nat) : zS l G gh (d + 2) (zpost (zAlq al_X8_titlesClash_1)) n_X8_titlesClash (zn 0 p_X8_titlesClash 0) (zwc (0, [.inr (.ref 0), .inl 9223372043297226757, .inl 9223372043297226757], zP q_X8_titlesClash_1) 0) := zentry (tt_X8_titlesClash d) fm_X8_titlesClash_1 bf_X8_titlesClash_1 1000 (by decide +kernel) rfl ⟨Nat.zero_lt_succ _, trivial⟩ (fun f hf => match f, hf with
  | 0, _ => fun vs hv => (zbox_t r_X8_titlesClash_1_0) vs hv
  | 1, _ => fun vs hv => (zbox_t r_X8_titlesClash_1_1) vs hv
  | 2, _ => fun vs hv => (zbox_t r_X8_titlesClash_1_2) vs hv
  | f + 3, h => absurd (show f + 3 < 3 from h) (Nat.not_lt.mpr (Nat.le_add_left 3 f)))
noncomputable def gs_X8_titlesClash_1 : zMt := zgq false [] 6 [.inr (.ref 0), .inl 9223372043297226757, .inl 9223372043297226757] q_X8_titlesClash_1 al_X8_titlesClash_1
set_option maxRecDepth 100000 in
theorem cs_X8_titlesClash_1 (d : Nat) : zC l G gh (d + 2) n_X8_titlesClash gs_X8_titlesClash_1 := zgq_ok0 (pcs := p_X8_titlesClash) (by decide) rfl rfl (fun a ha => by simp only [al_X8_titlesClash_1, List.mem_cons, List.not_mem_nil, or_false] at ha; rcases ha with rfl <;> decide +kernel) (fun gh => x_X8_titlesClash_1 d) (by decide +kernel)
noncomputable def gs_X8_titlesClash : zMt := (zor gs_X8_titlesClash_0 gs_X8_titlesClash_1)
theorem cs_X8_titlesClash (d : Nat) : zC l G gh (d + 2) n_X8_titlesClash gs_X8_titlesClash := (zor_ok (cs_X8_titlesClash_0 d) (cs_X8_titlesClash_1 d))
def p_X4_keepOnly : List Nat := [0, 2, 11, 16, 21, 27]
noncomputable def b_X4_keepOnly_0 : zBl := fun jp K => oInt 2147483648 <| oIst 2 <| jp 1
theorem s_X4_keepOnly_0 (d : Nat) : zPb l G gh (d + 2) n_X4_keepOnly p_X4_keepOnly 0 b_X4_keepOnly_0 := fun K jp hj =>
    z_iconst (n := 0) (zd (i := .iconst (0)) (n := 1) (by decide +kernel)) (by decide +kernel) <|
    z_istore_n (n := 2) (i := 2) (zd (i := .istore_n 2) (n := 1) (by decide +kernel)) rfl (by decide +kernel) <|
    (zj (hj 1) (by decide +kernel))
noncomputable def b_X4_keepOnly_1 : zBl := fun jp K => oIld 2 <| oAld 0 <| oGetR 4 5 <| oAlen <| oIc zge zlt (jp 5) (jp 2)
theorem s_X4_keepOnly_1 (d : Nat) : zPb l G gh (d + 2) n_X4_keepOnly p_X4_keepOnly 2 b_X4_keepOnly_1 := fun K jp hj =>
    z_iload_n (n := 2) (i := 2) (zd (i := .iload_n 2) (n := 1) (by decide +kernel)) rfl <|
    z_aload_n (n := 0) (i := 0) (zd (i := .aload_n 0) (n := 1) (by decide +kernel)) rfl <|
    z_getR (ci := 4) (j := 5) (idx := 28) (zd (i := .getfield 28) (n := 3) (by decide +kernel)) (by decide +kernel) (by decide +kernel) rfl g382 <|
    z_alen (zd (i := .arraylength) (n := 1) (by decide +kernel)) <|
    z_icmp_ge (off := 19) (tgt := 27) (zd (i := .if_icmp .ge (19)) (n := 3) (by decide +kernel)) (by decide +kernel) (zj (hj 5) (by decide +kernel)) (zj (hj 2) (by decide +kernel))
noncomputable def b_X4_keepOnly_2 : zBl := fun jp K => oNLL 2 1 zeqN zneN zn1_eq zn2_eq zn1_ne zn2_ne (jp 4) (jp 3)
theorem s_X4_keepOnly_2 (d : Nat) : zPb l G gh (d + 2) n_X4_keepOnly p_X4_keepOnly 11 b_X4_keepOnly_2 := fun K jp hj =>
    z_nLL_eq (i := 2) (j := 1) (a1 := 1) (a2 := 1) (off := 8) (tgt := 21) (zLd_n (n := 2) (i := 2) (zd (i := .iload_n 2) (n := 1) (by decide +kernel)) rfl) (zLd_n (n := 1) (i := 1) (zd (i := .iload_n 1) (n := 1) (by decide +kernel)) rfl) (zd (i := .if_icmp .eq (8)) (n := 3) (by decide +kernel)) (by decide +kernel) (zj (hj 4) (by decide +kernel)) (zj (hj 3) (by decide +kernel))
noncomputable def b_X4_keepOnly_3 : zBl := fun jp K => oAld 0 <| oIld 2 <| oCv 4 1 f_X4_end <| jp 4
theorem s_X4_keepOnly_3 (d : Nat) : zPb l G gh (d + 2) n_X4_keepOnly p_X4_keepOnly 16 b_X4_keepOnly_3 := fun K jp hj =>
    z_aload_n (n := 0) (i := 0) (zd (i := .aload_n 0) (n := 1) (by decide +kernel)) rfl <|
    z_iload_n (n := 2) (i := 2) (zd (i := .iload_n 2) (n := 1) (by decide +kernel)) rfl <|
    z_callV (idx := 56) (ci := 4) (N := n_X4_end) (zd (i := .invokevirtual 56) (n := 3) (by decide +kernel)) to_X4_end g692 g693 g694 (by decide +kernel) rfl rfl rfl (c_X4_end (l := l) (G := G) (gh := gh) (d)) <|
    (zj (hj 4) (by decide +kernel))
noncomputable def b_X4_keepOnly_4 : zBl := fun jp K => oInc 2 2147483649 <| jp 1
theorem s_X4_keepOnly_4 (d : Nat) : zPb l G gh (d + 2) n_X4_keepOnly p_X4_keepOnly 21 b_X4_keepOnly_4 := fun K jp hj =>
    z_iinc (i := 2) (n := 1) (zd (i := .iinc 2 (1)) (n := 3) (by decide +kernel)) (by decide +kernel) (by decide +kernel) <|
    z_goto (off := -22) (tgt := 2) (zd (i := .goto (-22)) (n := 3) (by decide +kernel)) (by decide +kernel) (zj (hj 1) (by decide +kernel))
noncomputable def b_X4_keepOnly_5 : zBl := fun jp K => oVret K
theorem s_X4_keepOnly_5 (d : Nat) : zPb l G gh (d + 2) n_X4_keepOnly p_X4_keepOnly 27 b_X4_keepOnly_5 := fun K jp hj =>
    z_vret (zd (i := .return_) (n := 1) (by decide +kernel)) rfl
noncomputable def t_X4_keepOnly : List zBl := [b_X4_keepOnly_0, b_X4_keepOnly_1, b_X4_keepOnly_2, b_X4_keepOnly_3, b_X4_keepOnly_4, b_X4_keepOnly_5]
theorem tt_X4_keepOnly (d : Nat) : zT (zPb l G gh (d + 2) n_X4_keepOnly p_X4_keepOnly) t_X4_keepOnly p_X4_keepOnly := ⟨s_X4_keepOnly_0 d, s_X4_keepOnly_1 d, s_X4_keepOnly_2 d, s_X4_keepOnly_3 d, s_X4_keepOnly_4 d, s_X4_keepOnly_5 d, trivial⟩
def q_X4_keepOnly_0 : List (Nat × Nat) := [(28, zk22), (33, zk11), (34, zk11)]
noncomputable def al_X4_keepOnly_0 : zAq := [(none, [(28, zk22), (33, zk58), (34, zk58)])]
def mq_X4_keepOnly_0_1 : List (Nat × Nat) := [(28, zk22), (33, zk58), (34, zk58)]
noncomputable def fm_X4_keepOnly_0 : List zFm := [(0, [], (fun vs => [.inr (.ref 28), .inl 8589934591]), (fun vs => zP q_X4_keepOnly_0), (fun vs => Nat.sub (Nat.add 37 0) 0)),
  (1, [(2, 2147483648, 2147483684)], (fun vs => [.inr (.ref 28), .inl 8589934591, .inl (zn 0 vs 0)]), (fun vs => zP mq_X4_keepOnly_0_1), (fun vs => Nat.sub (Nat.add 2147483684 0) (Nat.add 0 (Nat.mul 1 (zn 0 vs 0)))))]
def bf_X4_keepOnly_0 : List Nat := [0, 2]
theorem r_X4_keepOnly_0_0 : zbox [] (fun vs => zFrun (zpost (zAlq al_X4_keepOnly_0)) 1000 t_X4_keepOnly fm_X4_keepOnly_0 bf_X4_keepOnly_0 (0, vs)) = true := by decide +kernel
theorem r_X4_keepOnly_0_1 : zbox [(2, 2147483648, 2147483684)] (fun vs => zFrun (zpost (zAlq al_X4_keepOnly_0)) 1000 t_X4_keepOnly fm_X4_keepOnly_0 bf_X4_keepOnly_0 (1, vs)) = true := by decide +kernel
set_option maxRecDepth 100000 in
theorem x_X4_keepOnly_0 (d : Nat) : zS l G gh (d + 2) (zpost (zAlq al_X4_keepOnly_0)) n_X4_keepOnly (zn 0 p_X4_keepOnly 0) (zwc (0, [.inr (.ref 28), .inl 8589934591], zP q_X4_keepOnly_0) 0) := zentry (tt_X4_keepOnly d) fm_X4_keepOnly_0 bf_X4_keepOnly_0 1000 (by decide +kernel) rfl ⟨Nat.zero_lt_succ _, trivial⟩ (fun f hf => match f, hf with
  | 0, _ => fun vs hv => (zbox_t r_X4_keepOnly_0_0) vs hv
  | 1, _ => fun vs hv => (zbox_t r_X4_keepOnly_0_1) vs hv
  | f + 2, h => absurd (show f + 2 < 2 from h) (Nat.not_lt.mpr (Nat.le_add_left 2 f)))
noncomputable def gs_X4_keepOnly_0 : zMt := zgq false [] 3 [.inr (.ref 28), .inl 8589934591] q_X4_keepOnly_0 al_X4_keepOnly_0
set_option maxRecDepth 100000 in
theorem cs_X4_keepOnly_0 (d : Nat) : zC l G gh (d + 2) n_X4_keepOnly gs_X4_keepOnly_0 := zgq_ok0 (pcs := p_X4_keepOnly) (by decide) rfl rfl (fun a ha => by simp only [al_X4_keepOnly_0, List.mem_cons, List.not_mem_nil, or_false] at ha; rcases ha with rfl <;> decide +kernel) (fun gh => x_X4_keepOnly_0 d) (by decide +kernel)
def q_X4_keepOnly_1 : List (Nat × Nat) := [(21, zk10), (26, zk11), (27, zk11)]
noncomputable def al_X4_keepOnly_1 : zAq := [(none, [(21, zk10), (26, zk58), (27, zk58)])]
def mq_X4_keepOnly_1_1 : List (Nat × Nat) := [(21, zk10), (26, zk58), (27, zk58)]
noncomputable def fm_X4_keepOnly_1 : List zFm := [(0, [], (fun vs => [.inr (.ref 21), .inl 8589934591]), (fun vs => zP q_X4_keepOnly_1), (fun vs => Nat.sub (Nat.add 37 0) 0)),
  (1, [(2, 2147483648, 2147483684)], (fun vs => [.inr (.ref 21), .inl 8589934591, .inl (zn 0 vs 0)]), (fun vs => zP mq_X4_keepOnly_1_1), (fun vs => Nat.sub (Nat.add 2147483684 0) (Nat.add 0 (Nat.mul 1 (zn 0 vs 0)))))]
def bf_X4_keepOnly_1 : List Nat := [0, 2]
theorem r_X4_keepOnly_1_0 : zbox [] (fun vs => zFrun (zpost (zAlq al_X4_keepOnly_1)) 1000 t_X4_keepOnly fm_X4_keepOnly_1 bf_X4_keepOnly_1 (0, vs)) = true := by decide +kernel
theorem r_X4_keepOnly_1_1 : zbox [(2, 2147483648, 2147483684)] (fun vs => zFrun (zpost (zAlq al_X4_keepOnly_1)) 1000 t_X4_keepOnly fm_X4_keepOnly_1 bf_X4_keepOnly_1 (1, vs)) = true := by decide +kernel
set_option maxRecDepth 100000 in
theorem x_X4_keepOnly_1 (d : Nat) : zS l G gh (d + 2) (zpost (zAlq al_X4_keepOnly_1)) n_X4_keepOnly (zn 0 p_X4_keepOnly 0) (zwc (0, [.inr (.ref 21), .inl 8589934591], zP q_X4_keepOnly_1) 0) := zentry (tt_X4_keepOnly d) fm_X4_keepOnly_1 bf_X4_keepOnly_1 1000 (by decide +kernel) rfl ⟨Nat.zero_lt_succ _, trivial⟩ (fun f hf => match f, hf with
  | 0, _ => fun vs hv => (zbox_t r_X4_keepOnly_1_0) vs hv
  | 1, _ => fun vs hv => (zbox_t r_X4_keepOnly_1_1) vs hv
  | f + 2, h => absurd (show f + 2 < 2 from h) (Nat.not_lt.mpr (Nat.le_add_left 2 f)))
noncomputable def gs_X4_keepOnly_1 : zMt := zgq false [] 3 [.inr (.ref 21), .inl 8589934591] q_X4_keepOnly_1 al_X4_keepOnly_1
set_option maxRecDepth 100000 in
theorem cs_X4_keepOnly_1 (d : Nat) : zC l G gh (d + 2) n_X4_keepOnly gs_X4_keepOnly_1 := zgq_ok0 (pcs := p_X4_keepOnly) (by decide) rfl rfl (fun a ha => by simp only [al_X4_keepOnly_1, List.mem_cons, List.not_mem_nil, or_false] at ha; rcases ha with rfl <;> decide +kernel) (fun gh => x_X4_keepOnly_1 d) (by decide +kernel)
noncomputable def gs_X4_keepOnly : zMt := (zor gs_X4_keepOnly_0 gs_X4_keepOnly_1)
theorem cs_X4_keepOnly (d : Nat) : zC l G gh (d + 2) n_X4_keepOnly gs_X4_keepOnly := (zor_ok (cs_X4_keepOnly_0 d) (cs_X4_keepOnly_1 d))
def p_X8_tell : List Nat := [0, 7, 12, 19, 23, 29, 31]
noncomputable def b_X8_tell_0 : zBl := fun jp K => oIld 1 <| oCs 1 f_X8_isX <| oIf zeq zne (jp 5) (jp 1)
theorem s_X8_tell_0 (d : Nat) : zPb l G gh (d + 2) n_X8_tell p_X8_tell 0 b_X8_tell_0 := fun K jp hj =>
    z_iload_n (n := 1) (i := 1) (zd (i := .iload_n 1) (n := 1) (by decide +kernel)) rfl <|
    z_callS (idx := 175) (N := n_X8_isX) (zd (i := .invokestatic 175) (n := 3) (by decide +kernel)) to_X8_isX g805 g806 rfl rfl (c_X8_isX (l := l) (G := G) (gh := gh) (d)) <|
    z_if_eq (off := 25) (tgt := 29) (zd (i := .ifCond .eq (25)) (n := 3) (by decide +kernel)) (by decide +kernel) (zj (hj 5) (by decide +kernel)) (zj (hj 1) (by decide +kernel))
noncomputable def b_X8_tell_1 : zBl := fun jp K => oNLC 2 2147483647 zeqN zneN zn1_eq zn1_ne (jp 3) (jp 2)
theorem s_X8_tell_1 (d : Nat) : zPb l G gh (d + 2) n_X8_tell p_X8_tell 7 b_X8_tell_1 := fun K jp hj =>
    z_nLC_eq (i := 2) (c0 := 2147483647) (a1 := 1) (a2 := 1) (off := 10) (tgt := 19) (zLd_n (n := 2) (i := 2) (zd (i := .iload_n 2) (n := 1) (by decide +kernel)) rfl) (zCn_c (n := -1) (zd (i := .iconst (-1)) (n := 1) (by decide +kernel)) (by decide +kernel)) (zd (i := .if_icmp .eq (10)) (n := 3) (by decide +kernel)) (by decide +kernel) (zj (hj 3) (by decide +kernel)) (zj (hj 2) (by decide +kernel))
noncomputable def b_X8_tell_2 : zBl := fun jp K => oIld 2 <| oCs 1 f_X8_isX <| oIf zeq zne (jp 5) (jp 3)
theorem s_X8_tell_2 (d : Nat) : zPb l G gh (d + 2) n_X8_tell p_X8_tell 12 b_X8_tell_2 := fun K jp hj =>
    z_iload_n (n := 2) (i := 2) (zd (i := .iload_n 2) (n := 1) (by decide +kernel)) rfl <|
    z_callS (idx := 175) (N := n_X8_isX) (zd (i := .invokestatic 175) (n := 3) (by decide +kernel)) to_X8_isX g805 g806 rfl rfl (c_X8_isX (l := l) (G := G) (gh := gh) (d)) <|
    z_if_eq (off := 13) (tgt := 29) (zd (i := .ifCond .eq (13)) (n := 3) (by decide +kernel)) (by decide +kernel) (zj (hj 5) (by decide +kernel)) (zj (hj 3) (by decide +kernel))
noncomputable def b_X8_tell_3 : zBl := fun jp K => oNLC 3 2147483648 zltN zgeN zn1_lt zn1_ge (jp 5) (jp 4)
theorem s_X8_tell_3 (d : Nat) : zPb l G gh (d + 2) n_X8_tell p_X8_tell 19 b_X8_tell_3 := fun K jp hj =>
    z_nL0_lt (i := 3) (a1 := 1) (off := 9) (tgt := 29) (zLd_n (n := 3) (i := 3) (zd (i := .iload_n 3) (n := 1) (by decide +kernel)) rfl) (zd (i := .ifCond .lt (9)) (n := 3) (by decide +kernel)) (by decide +kernel) (zj (hj 5) (by decide +kernel)) (zj (hj 4) (by decide +kernel))
noncomputable def b_X8_tell_4 : zBl := fun jp K => oNLC 3 2147483672 zleN zgtN zn1_le zn1_gt (jp 6) (jp 5)
theorem s_X8_tell_4 (d : Nat) : zPb l G gh (d + 2) n_X8_tell p_X8_tell 23 b_X8_tell_4 := fun K jp hj =>
    z_nLC_le (i := 3) (c0 := 2147483672) (a1 := 1) (a2 := 2) (off := 5) (tgt := 31) (zLd_n (n := 3) (i := 3) (zd (i := .iload_n 3) (n := 1) (by decide +kernel)) rfl) (zCn_b (n := 24) (zd (i := .bipush (24)) (n := 2) (by decide +kernel)) (by decide +kernel)) (zd (i := .if_icmp .le (5)) (n := 3) (by decide +kernel)) (by decide +kernel) (zj (hj 6) (by decide +kernel)) (zj (hj 5) (by decide +kernel))
noncomputable def b_X8_tell_5 : zBl := fun jp K => oInt 2147483647 <| oIret K
theorem s_X8_tell_5 (d : Nat) : zPb l G gh (d + 2) n_X8_tell p_X8_tell 29 b_X8_tell_5 := fun K jp hj =>
    z_iconst (n := -1) (zd (i := .iconst (-1)) (n := 1) (by decide +kernel)) (by decide +kernel) <|
    z_iret (zd (i := .ireturn) (n := 1) (by decide +kernel)) rfl
noncomputable def b_X8_tell_6 : zBl := fun jp K => oAld 0 <| oGetR 8 7 <| oIld 1 <| oIld 2 <| oAld 0 <| oGetR 8 2 <| oGetI 4 0 <| oIld 3 <| oB2 zadd <| oCv 7 3 gs_X7_put <| oIret K
theorem s_X8_tell_6 (d : Nat) : zPb l G gh (d + 2) n_X8_tell p_X8_tell 31 b_X8_tell_6 := fun K jp hj =>
    z_aload_n (n := 0) (i := 0) (zd (i := .aload_n 0) (n := 1) (by decide +kernel)) rfl <|
    z_getR (ci := 8) (j := 7) (idx := 51) (zd (i := .getfield 51) (n := 3) (by decide +kernel)) (by decide +kernel) (by decide +kernel) rfl g459 <|
    z_iload_n (n := 1) (i := 1) (zd (i := .iload_n 1) (n := 1) (by decide +kernel)) rfl <|
    z_iload_n (n := 2) (i := 2) (zd (i := .iload_n 2) (n := 1) (by decide +kernel)) rfl <|
    z_aload_n (n := 0) (i := 0) (zd (i := .aload_n 0) (n := 1) (by decide +kernel)) rfl <|
    z_getR (ci := 8) (j := 2) (idx := 26) (zd (i := .getfield 26) (n := 3) (by decide +kernel)) (by decide +kernel) (by decide +kernel) rfl g454 <|
    z_getI (ci := 4) (j := 0) (idx := 140) (zd (i := .getfield 140) (n := 3) (by decide +kernel)) (by decide +kernel) (by decide +kernel) rfl g368 <|
    z_iload_n (n := 3) (i := 3) (zd (i := .iload_n 3) (n := 1) (by decide +kernel)) rfl <|
    z_iadd (zd (i := .iadd) (n := 1) (by decide +kernel)) <|
    z_callV (idx := 297) (ci := 7) (N := n_X7_put) (zd (i := .invokevirtual 297) (n := 3) (by decide +kernel)) to_X7_put g1026 g1027 g1028 (by decide +kernel) rfl rfl rfl (cs_X7_put (l := l) (G := G) (gh := gh) (d)) <|
    z_iret (zd (i := .ireturn) (n := 1) (by decide +kernel)) rfl
noncomputable def t_X8_tell : List zBl := [b_X8_tell_0, b_X8_tell_1, b_X8_tell_2, b_X8_tell_3, b_X8_tell_4, b_X8_tell_5, b_X8_tell_6]
theorem tt_X8_tell (d : Nat) : zT (zPb l G gh (d + 2) n_X8_tell p_X8_tell) t_X8_tell p_X8_tell := ⟨s_X8_tell_0 d, s_X8_tell_1 d, s_X8_tell_2 d, s_X8_tell_3 d, s_X8_tell_4 d, s_X8_tell_5 d, s_X8_tell_6 d, trivial⟩
def q_X8_tell_0 : List (Nat × Nat) := [(0, zk0), (21, zk10), (249, zk6), (250, zk7), (251, zk7), (252, zk7)]
noncomputable def al_X8_tell_0 : zAq := [(some (.inl 9223372039002259475), [(0, zk0), (21, zk10), (249, zk8), (250, zk9), (251, zk9), (252, zk9)])]
noncomputable def fm_X8_tell_0 : List zFm := [(0, [], (fun vs => [.inr (.ref 0), .inl 8589934591, .inl 8589934591, .inl 8589934591]), (fun vs => zP q_X8_tell_0), (fun vs => Nat.sub (Nat.add 0 0) 0))]
def bf_X8_tell_0 : List Nat := []
theorem r_X8_tell_0_0 : zbox [] (fun vs => zFrun (zpost (zAlq al_X8_tell_0)) 1000 t_X8_tell fm_X8_tell_0 bf_X8_tell_0 (0, vs)) = true := by decide +kernel
set_option maxRecDepth 100000 in
theorem x_X8_tell_0 (d : Nat) : zS l G gh (d + 2) (zpost (zAlq al_X8_tell_0)) n_X8_tell (zn 0 p_X8_tell 0) (zwc (0, [.inr (.ref 0), .inl 8589934591, .inl 8589934591, .inl 8589934591], zP q_X8_tell_0) 0) := zentry (tt_X8_tell d) fm_X8_tell_0 bf_X8_tell_0 1000 (by decide +kernel) rfl ⟨Nat.zero_lt_succ _, trivial⟩ (fun f hf => match f, hf with
  | 0, _ => fun vs hv => (zbox_t r_X8_tell_0_0) vs hv
  | f + 1, h => absurd (show f + 1 < 1 from h) (Nat.not_lt.mpr (Nat.le_add_left 1 f)))
noncomputable def gs_X8_tell_0 : zMt := zgq false [] 4 [.inr (.ref 0), .inl 8589934591, .inl 8589934591, .inl 8589934591] q_X8_tell_0 al_X8_tell_0
set_option maxRecDepth 100000 in
theorem cs_X8_tell_0 (d : Nat) : zC l G gh (d + 2) n_X8_tell gs_X8_tell_0 := zgq_ok0 (pcs := p_X8_tell) (by decide) rfl rfl (fun a ha => by simp only [al_X8_tell_0, List.mem_cons, List.not_mem_nil, or_false] at ha; rcases ha with rfl <;> decide +kernel) (fun gh => x_X8_tell_0 d) (by decide +kernel)
def q_X8_tell_1 : List (Nat × Nat) := [(0, zk1), (21, zk10), (249, zk6), (250, zk7), (251, zk7), (252, zk7)]
noncomputable def al_X8_tell_1 : zAq := [(some (.inl 9223372039002259475), [(0, zk1), (21, zk10), (249, zk8), (250, zk9), (251, zk9), (252, zk9)])]
noncomputable def fm_X8_tell_1 : List zFm := [(0, [], (fun vs => [.inr (.ref 0), .inl 8589934591, .inl 8589934591, .inl 8589934591]), (fun vs => zP q_X8_tell_1), (fun vs => Nat.sub (Nat.add 0 0) 0))]
def bf_X8_tell_1 : List Nat := []
theorem r_X8_tell_1_0 : zbox [] (fun vs => zFrun (zpost (zAlq al_X8_tell_1)) 1000 t_X8_tell fm_X8_tell_1 bf_X8_tell_1 (0, vs)) = true := by decide +kernel
set_option maxRecDepth 100000 in
theorem x_X8_tell_1 (d : Nat) : zS l G gh (d + 2) (zpost (zAlq al_X8_tell_1)) n_X8_tell (zn 0 p_X8_tell 0) (zwc (0, [.inr (.ref 0), .inl 8589934591, .inl 8589934591, .inl 8589934591], zP q_X8_tell_1) 0) := zentry (tt_X8_tell d) fm_X8_tell_1 bf_X8_tell_1 1000 (by decide +kernel) rfl ⟨Nat.zero_lt_succ _, trivial⟩ (fun f hf => match f, hf with
  | 0, _ => fun vs hv => (zbox_t r_X8_tell_1_0) vs hv
  | f + 1, h => absurd (show f + 1 < 1 from h) (Nat.not_lt.mpr (Nat.le_add_left 1 f)))
noncomputable def gs_X8_tell_1 : zMt := zgq false [] 4 [.inr (.ref 0), .inl 8589934591, .inl 8589934591, .inl 8589934591] q_X8_tell_1 al_X8_tell_1
set_option maxRecDepth 100000 in
theorem cs_X8_tell_1 (d : Nat) : zC l G gh (d + 2) n_X8_tell gs_X8_tell_1 := zgq_ok0 (pcs := p_X8_tell) (by decide) rfl rfl (fun a ha => by simp only [al_X8_tell_1, List.mem_cons, List.not_mem_nil, or_false] at ha; rcases ha with rfl <;> decide +kernel) (fun gh => x_X8_tell_1 d) (by decide +kernel)
noncomputable def gs_X8_tell : zMt := (zor gs_X8_tell_0 gs_X8_tell_1)
theorem cs_X8_tell (d : Nat) : zC l G gh (d + 2) n_X8_tell gs_X8_tell := (zor_ok (cs_X8_tell_0 d) (cs_X8_tell_1 d))
def p_X7_common : List Nat := [0, 5, 12, 16, 23, 27, 38, 44, 50, 53, 62, 67, 68, 75]
noncomputable def b_X7_common_0 : zBl := fun jp K => oInt 2147483646 <| oIst 2 <| oInt 2147483648 <| oIst 3 <| jp 1
theorem s_X7_common_0 (d : Nat) : zPb l G gh (d + 2) n_X7_common p_X7_common 0 b_X7_common_0 := fun K jp hj =>
    z_bipush (n := -2) (zd (i := .bipush (-2)) (n := 2) (by decide +kernel)) (by decide +kernel) <|
    z_istore_n (n := 2) (i := 2) (zd (i := .istore_n 2) (n := 1) (by decide +kernel)) rfl (by decide +kernel) <|
    z_iconst (n := 0) (zd (i := .iconst (0)) (n := 1) (by decide +kernel)) (by decide +kernel) <|
    z_istore_n (n := 3) (i := 3) (zd (i := .istore_n 3) (n := 1) (by decide +kernel)) rfl (by decide +kernel) <|
    (zj (hj 1) (by decide +kernel))
noncomputable def b_X7_common_1 : zBl := fun jp K => oNLC 3 2147483828 zgeN zltN zn1_ge zn1_lt (jp 13) (jp 2)
theorem s_X7_common_1 (d : Nat) : zPb l G gh (d + 2) n_X7_common p_X7_common 5 b_X7_common_1 := fun K jp hj =>
    z_nLC_ge (i := 3) (c0 := 2147483828) (a1 := 1) (a2 := 3) (off := 66) (tgt := 75) (zLd_n (n := 3) (i := 3) (zd (i := .iload_n 3) (n := 1) (by decide +kernel)) rfl) (zCn_s (n := 180) (zd (i := .sipush (180)) (n := 3) (by decide +kernel)) (by decide +kernel)) (zd (i := .if_icmp .ge (66)) (n := 3) (by decide +kernel)) (by decide +kernel) (zj (hj 13) (by decide +kernel)) (zj (hj 2) (by decide +kernel))
noncomputable def b_X7_common_2 : zBl := fun jp K => oNLC 1 2147483648 zeqN zneN zn1_eq zn1_ne (jp 4) (jp 3)
theorem s_X7_common_2 (d : Nat) : zPb l G gh (d + 2) n_X7_common p_X7_common 12 b_X7_common_2 := fun K jp hj =>
    z_nL0_eq (i := 1) (a1 := 1) (off := 10) (tgt := 23) (zLd_n (n := 1) (i := 1) (zd (i := .iload_n 1) (n := 1) (by decide +kernel)) rfl) (zd (i := .ifCond .eq (10)) (n := 3) (by decide +kernel)) (by decide +kernel) (zj (hj 4) (by decide +kernel)) (zj (hj 3) (by decide +kernel))
noncomputable def b_X7_common_3 : zBl := fun jp K => oIld 3 <| oCs 1 f_X7_xOf <| jp 5
theorem s_X7_common_3 (d : Nat) : zPb l G gh (d + 2) n_X7_common p_X7_common 16 b_X7_common_3 := fun K jp hj =>
    z_iload_n (n := 3) (i := 3) (zd (i := .iload_n 3) (n := 1) (by decide +kernel)) rfl <|
    z_callS (idx := 46) (N := n_X7_xOf) (zd (i := .invokestatic 46) (n := 3) (by decide +kernel)) to_X7_xOf g1051 g1052 rfl rfl (c_X7_xOf (l := l) (G := G) (gh := gh) (d)) <|
    z_goto (off := 7) (tgt := 27) (zd (i := .goto (7)) (n := 3) (by decide +kernel)) (by decide +kernel) (zj (hj 5) (by decide +kernel))
noncomputable def b_X7_common_4 : zBl := fun jp K => oIld 3 <| oCs 1 f_X7_tallOf <| jp 5
theorem s_X7_common_4 (d : Nat) : zPb l G gh (d + 2) n_X7_common p_X7_common 23 b_X7_common_4 := fun K jp hj =>
    z_iload_n (n := 3) (i := 3) (zd (i := .iload_n 3) (n := 1) (by decide +kernel)) rfl <|
    z_callS (idx := 49) (N := n_X7_tallOf) (zd (i := .invokestatic 49) (n := 3) (by decide +kernel)) to_X7_tallOf g1054 g1055 rfl rfl (c_X7_tallOf (l := l) (G := G) (gh := gh) (d)) <|
    (zj (hj 5) (by decide +kernel))
noncomputable def b_X7_common_5 : zBl := fun jp K => oIst 4 <| oAld 0 <| oGetR 7 4 <| oIld 3 <| oXald 12 <| oIf zeq zne (jp 9) (jp 6)
theorem s_X7_common_5 (d : Nat) : zPb l G gh (d + 2) n_X7_common p_X7_common 27 b_X7_common_5 := fun K jp hj =>
    z_istore (i := 4) (zd (i := .istore 4) (n := 2) (by decide +kernel)) (by decide +kernel) <|
    z_aload_n (n := 0) (i := 0) (zd (i := .aload_n 0) (n := 1) (by decide +kernel)) rfl <|
    z_getR (ci := 7) (j := 4) (idx := 25) (zd (i := .getfield 25) (n := 3) (by decide +kernel)) (by decide +kernel) (by decide +kernel) rfl g434 <|
    z_iload_n (n := 3) (i := 3) (zd (i := .iload_n 3) (n := 1) (by decide +kernel)) rfl <|
    z_zald (zd (i := .baload) (n := 1) (by decide +kernel)) <|
    z_if_eq (off := 18) (tgt := 53) (zd (i := .ifCond .eq (18)) (n := 3) (by decide +kernel)) (by decide +kernel) (zj (hj 9) (by decide +kernel)) (zj (hj 6) (by decide +kernel))
noncomputable def b_X7_common_6 : zBl := fun jp K => oNLC 2 2147483646 zeqN zneN zn1_eq zn1_ne (jp 9) (jp 7)
theorem s_X7_common_6 (d : Nat) : zPb l G gh (d + 2) n_X7_common p_X7_common 38 b_X7_common_6 := fun K jp hj =>
    z_nLC_eq (i := 2) (c0 := 2147483646) (a1 := 1) (a2 := 2) (off := 12) (tgt := 53) (zLd_n (n := 2) (i := 2) (zd (i := .iload_n 2) (n := 1) (by decide +kernel)) rfl) (zCn_b (n := -2) (zd (i := .bipush (-2)) (n := 2) (by decide +kernel)) (by decide +kernel)) (zd (i := .if_icmp .eq (12)) (n := 3) (by decide +kernel)) (by decide +kernel) (zj (hj 9) (by decide +kernel)) (zj (hj 7) (by decide +kernel))
noncomputable def b_X7_common_7 : zBl := fun jp K => oNLL 2 4 zeqN zneN zn1_eq zn2_eq zn1_ne zn2_ne (jp 9) (jp 8)
theorem s_X7_common_7 (d : Nat) : zPb l G gh (d + 2) n_X7_common p_X7_common 44 b_X7_common_7 := fun K jp hj =>
    z_nLL_eq (i := 2) (j := 4) (a1 := 1) (a2 := 2) (off := 6) (tgt := 53) (zLd_n (n := 2) (i := 2) (zd (i := .iload_n 2) (n := 1) (by decide +kernel)) rfl) (zLd_w (i := 4) (zd (i := .iload 4) (n := 2) (by decide +kernel))) (zd (i := .if_icmp .eq (6)) (n := 3) (by decide +kernel)) (by decide +kernel) (zj (hj 9) (by decide +kernel)) (zj (hj 8) (by decide +kernel))
noncomputable def b_X7_common_8 : zBl := fun jp K => oInt 2147483646 <| oIret K
theorem s_X7_common_8 (d : Nat) : zPb l G gh (d + 2) n_X7_common p_X7_common 50 b_X7_common_8 := fun K jp hj =>
    z_bipush (n := -2) (zd (i := .bipush (-2)) (n := 2) (by decide +kernel)) (by decide +kernel) <|
    z_iret (zd (i := .ireturn) (n := 1) (by decide +kernel)) rfl
noncomputable def b_X7_common_9 : zBl := fun jp K => oAld 0 <| oGetR 7 4 <| oIld 3 <| oXald 12 <| oIf zeq zne (jp 11) (jp 10)
theorem s_X7_common_9 (d : Nat) : zPb l G gh (d + 2) n_X7_common p_X7_common 53 b_X7_common_9 := fun K jp hj =>
    z_aload_n (n := 0) (i := 0) (zd (i := .aload_n 0) (n := 1) (by decide +kernel)) rfl <|
    z_getR (ci := 7) (j := 4) (idx := 25) (zd (i := .getfield 25) (n := 3) (by decide +kernel)) (by decide +kernel) (by decide +kernel) rfl g434 <|
    z_iload_n (n := 3) (i := 3) (zd (i := .iload_n 3) (n := 1) (by decide +kernel)) rfl <|
    z_zald (zd (i := .baload) (n := 1) (by decide +kernel)) <|
    z_if_eq (off := 8) (tgt := 67) (zd (i := .ifCond .eq (8)) (n := 3) (by decide +kernel)) (by decide +kernel) (zj (hj 11) (by decide +kernel)) (zj (hj 10) (by decide +kernel))
noncomputable def b_X7_common_10 : zBl := fun jp K => oIld 4 <| jp 12
theorem s_X7_common_10 (d : Nat) : zPb l G gh (d + 2) n_X7_common p_X7_common 62 b_X7_common_10 := fun K jp hj =>
    z_iload (i := 4) (zd (i := .iload 4) (n := 2) (by decide +kernel)) <|
    z_goto (off := 4) (tgt := 68) (zd (i := .goto (4)) (n := 3) (by decide +kernel)) (by decide +kernel) (zj (hj 12) (by decide +kernel))
noncomputable def b_X7_common_11 : zBl := fun jp K => oIld 2 <| jp 12
theorem s_X7_common_11 (d : Nat) : zPb l G gh (d + 2) n_X7_common p_X7_common 67 b_X7_common_11 := fun K jp hj =>
    z_iload_n (n := 2) (i := 2) (zd (i := .iload_n 2) (n := 1) (by decide +kernel)) rfl <|
    (zj (hj 12) (by decide +kernel))
noncomputable def b_X7_common_12 : zBl := fun jp K => oIst 2 <| oInc 3 2147483649 <| jp 1
theorem s_X7_common_12 (d : Nat) : zPb l G gh (d + 2) n_X7_common p_X7_common 68 b_X7_common_12 := fun K jp hj =>
    z_istore_n (n := 2) (i := 2) (zd (i := .istore_n 2) (n := 1) (by decide +kernel)) rfl (by decide +kernel) <|
    z_iinc (i := 3) (n := 1) (zd (i := .iinc 3 (1)) (n := 3) (by decide +kernel)) (by decide +kernel) (by decide +kernel) <|
    z_goto (off := -67) (tgt := 5) (zd (i := .goto (-67)) (n := 3) (by decide +kernel)) (by decide +kernel) (zj (hj 1) (by decide +kernel))
noncomputable def b_X7_common_13 : zBl := fun jp K => oIld 2 <| oIret K
theorem s_X7_common_13 (d : Nat) : zPb l G gh (d + 2) n_X7_common p_X7_common 75 b_X7_common_13 := fun K jp hj =>
    z_iload_n (n := 2) (i := 2) (zd (i := .iload_n 2) (n := 1) (by decide +kernel)) rfl <|
    z_iret (zd (i := .ireturn) (n := 1) (by decide +kernel)) rfl
noncomputable def t_X7_common : List zBl := [b_X7_common_0, b_X7_common_1, b_X7_common_2, b_X7_common_3, b_X7_common_4, b_X7_common_5, b_X7_common_6, b_X7_common_7, b_X7_common_8, b_X7_common_9, b_X7_common_10, b_X7_common_11, b_X7_common_12, b_X7_common_13]
theorem tt_X7_common (d : Nat) : zT (zPb l G gh (d + 2) n_X7_common p_X7_common) t_X7_common p_X7_common := ⟨s_X7_common_0 d, s_X7_common_1 d, s_X7_common_2 d, s_X7_common_3 d, s_X7_common_4 d, s_X7_common_5 d, s_X7_common_6 d, s_X7_common_7 d, s_X7_common_8 d, s_X7_common_9 d, s_X7_common_10 d, s_X7_common_11 d, s_X7_common_12 d, s_X7_common_13 d, trivial⟩
def q_X7_common_0 : List (Nat × Nat) := [(249, zk6), (253, zk89)]
noncomputable def al_X7_common_0 : zAq := [(some (.inl 9223372034707292179), [(249, zk6), (253, zk89)])]
noncomputable def fm_X7_common_0 : List zFm := [(0, [], (fun vs => [.inr (.ref 249), .inl 9223372043297226753]), (fun vs => zP q_X7_common_0), (fun vs => Nat.sub (Nat.add 181 0) 0)),
  (1, [(3, 2147483648, 2147483828)], (fun vs => [.inr (.ref 249), .inl 9223372043297226753, .inl 9223372034707292179, .inl (zn 0 vs 0)]), (fun vs => zP q_X7_common_0), (fun vs => Nat.sub (Nat.add 2147483828 0) (Nat.add 0 (Nat.mul 1 (zn 0 vs 0)))))]
def bf_X7_common_0 : List Nat := [0, 2]
theorem r_X7_common_0_0 : zbox [] (fun vs => zFrun (zpost (zAlq al_X7_common_0)) 1000 t_X7_common fm_X7_common_0 bf_X7_common_0 (0, vs)) = true := by decide +kernel
theorem r_X7_common_0_1 : zbox [(3, 2147483648, 2147483828)] (fun vs => zFrun (zpost (zAlq al_X7_common_0)) 1000 t_X7_common fm_X7_common_0 bf_X7_common_0 (1, vs)) = true := by decide +kernel
set_option maxRecDepth 100000 in
theorem x_X7_common_0 (d : Nat) : zS l G gh (d + 2) (zpost (zAlq al_X7_common_0)) n_X7_common (zn 0 p_X7_common 0) (zwc (0, [.inr (.ref 249), .inl 9223372043297226753], zP q_X7_common_0) 0) := zentry (tt_X7_common d) fm_X7_common_0 bf_X7_common_0 1000 (by decide +kernel) rfl ⟨Nat.zero_lt_succ _, trivial⟩ (fun f hf => match f, hf with
  | 0, _ => fun vs hv => (zbox_t r_X7_common_0_0) vs hv
  | 1, _ => fun vs hv => (zbox_t r_X7_common_0_1) vs hv
  | f + 2, h => absurd (show f + 2 < 2 from h) (Nat.not_lt.mpr (Nat.le_add_left 2 f)))
noncomputable def gs_X7_common_0 : zMt := zgq false [] 5 [.inr (.ref 249), .inl 9223372043297226753] q_X7_common_0 al_X7_common_0
set_option maxRecDepth 100000 in
theorem cs_X7_common_0 (d : Nat) : zC l G gh (d + 2) n_X7_common gs_X7_common_0 := zgq_ok0 (pcs := p_X7_common) (by decide) rfl rfl (fun a ha => by simp only [al_X7_common_0, List.mem_cons, List.not_mem_nil, or_false] at ha; rcases ha with rfl <;> decide +kernel) (fun gh => x_X7_common_0 d) (by decide +kernel)
noncomputable def gs_X7_common : zMt := gs_X7_common_0
theorem cs_X7_common (d : Nat) : zC l G gh (d + 2) n_X7_common gs_X7_common := (cs_X7_common_0 d)
def p_X8_hold : List Nat := [0, 4, 9, 11]
noncomputable def b_X8_hold_0 : zBl := fun jp K => oNLC 1 2147483648 zltN zgeN zn1_lt zn1_ge (jp 2) (jp 1)
theorem s_X8_hold_0 (d : Nat) : zPb l G gh (d + 2) n_X8_hold p_X8_hold 0 b_X8_hold_0 := fun K jp hj =>
    z_nL0_lt (i := 1) (a1 := 1) (off := 8) (tgt := 9) (zLd_n (n := 1) (i := 1) (zd (i := .iload_n 1) (n := 1) (by decide +kernel)) rfl) (zd (i := .ifCond .lt (8)) (n := 3) (by decide +kernel)) (by decide +kernel) (zj (hj 2) (by decide +kernel)) (zj (hj 1) (by decide +kernel))
noncomputable def b_X8_hold_1 : zBl := fun jp K => oNLC 1 2147483651 zltN zgeN zn1_lt zn1_ge (jp 3) (jp 2)
theorem s_X8_hold_1 (d : Nat) : zPb l G gh (d + 2) n_X8_hold p_X8_hold 4 b_X8_hold_1 := fun K jp hj =>
    z_nLC_lt (i := 1) (c0 := 2147483651) (a1 := 1) (a2 := 1) (off := 5) (tgt := 11) (zLd_n (n := 1) (i := 1) (zd (i := .iload_n 1) (n := 1) (by decide +kernel)) rfl) (zCn_c (n := 3) (zd (i := .iconst (3)) (n := 1) (by decide +kernel)) (by decide +kernel)) (zd (i := .if_icmp .lt (5)) (n := 3) (by decide +kernel)) (by decide +kernel) (zj (hj 3) (by decide +kernel)) (zj (hj 2) (by decide +kernel))
noncomputable def b_X8_hold_2 : zBl := fun jp K => oInt 2147483648 <| oZret K
theorem s_X8_hold_2 (d : Nat) : zPb l G gh (d + 2) n_X8_hold p_X8_hold 9 b_X8_hold_2 := fun K jp hj =>
    z_iconst (n := 0) (zd (i := .iconst (0)) (n := 1) (by decide +kernel)) (by decide +kernel) <|
    z_zret (zd (i := .ireturn) (n := 1) (by decide +kernel)) rfl
noncomputable def b_X8_hold_3 : zBl := fun jp K => oAld 0 <| oGetR 8 5 <| oIld 1 <| oAald <| oAld 0 <| oGetR 8 2 <| oCv 4 1 f_X4_copy <| oAld 0 <| oGetR 8 6 <| oIld 1 <| oInt 2147483649 <| oXast 12 znz1 <| oInt 2147483649 <| oZret K
theorem s_X8_hold_3 (d : Nat) : zPb l G gh (d + 2) n_X8_hold p_X8_hold 11 b_X8_hold_3 := fun K jp hj =>
    z_aload_n (n := 0) (i := 0) (zd (i := .aload_n 0) (n := 1) (by decide +kernel)) rfl <|
    z_getR (ci := 8) (j := 5) (idx := 40) (zd (i := .getfield 40) (n := 3) (by decide +kernel)) (by decide +kernel) (by decide +kernel) rfl g457 <|
    z_iload_n (n := 1) (i := 1) (zd (i := .iload_n 1) (n := 1) (by decide +kernel)) rfl <|
    z_aald (zd (i := .aaload) (n := 1) (by decide +kernel)) <|
    z_aload_n (n := 0) (i := 0) (zd (i := .aload_n 0) (n := 1) (by decide +kernel)) rfl <|
    z_getR (ci := 8) (j := 2) (idx := 26) (zd (i := .getfield 26) (n := 3) (by decide +kernel)) (by decide +kernel) (by decide +kernel) rfl g454 <|
    z_callV (idx := 258) (ci := 4) (N := n_X4_copy) (zd (i := .invokevirtual 258) (n := 3) (by decide +kernel)) to_X4_copy g956 g841 g842 (by decide +kernel) rfl rfl rfl (c_X4_copy (l := l) (G := G) (gh := gh) (d)) <|
    z_aload_n (n := 0) (i := 0) (zd (i := .aload_n 0) (n := 1) (by decide +kernel)) rfl <|
    z_getR (ci := 8) (j := 6) (idx := 44) (zd (i := .getfield 44) (n := 3) (by decide +kernel)) (by decide +kernel) (by decide +kernel) rfl g458 <|
    z_iload_n (n := 1) (i := 1) (zd (i := .iload_n 1) (n := 1) (by decide +kernel)) rfl <|
    z_iconst (n := 1) (zd (i := .iconst (1)) (n := 1) (by decide +kernel)) (by decide +kernel) <|
    z_zast (zd (i := .bastore) (n := 1) (by decide +kernel)) <|
    z_iconst (n := 1) (zd (i := .iconst (1)) (n := 1) (by decide +kernel)) (by decide +kernel) <|
    z_zret (zd (i := .ireturn) (n := 1) (by decide +kernel)) rfl
noncomputable def t_X8_hold : List zBl := [b_X8_hold_0, b_X8_hold_1, b_X8_hold_2, b_X8_hold_3]
theorem tt_X8_hold (d : Nat) : zT (zPb l G gh (d + 2) n_X8_hold p_X8_hold) t_X8_hold p_X8_hold := ⟨s_X8_hold_0 d, s_X8_hold_1 d, s_X8_hold_2 d, s_X8_hold_3 d, trivial⟩
def q_X8_hold_0 : List (Nat × Nat) := [(0, zk0), (21, zk10), (22, zk12), (23, zk12), (24, zk12), (25, zk12), (26, zk11), (27, zk11), (247, zk90), (248, zk13), (271, zk91), (272, zk12), (273, zk12), (274, zk12), (275, zk12), (276, zk11), (277, zk11)]
noncomputable def al_X8_hold_0 : zAq := [(some (.inl 2147483649), [(0, zk0), (21, zk10), (22, zk12), (23, zk12), (24, zk12), (25, zk12), (26, zk11), (27, zk11), (247, zk90), (248, zk92), (271, zk93), (272, zk57), (273, zk57), (274, zk57), (275, zk57), (276, zk58), (277, zk58)])]
noncomputable def fm_X8_hold_0 : List zFm := [(0, [], (fun vs => [.inr (.ref 0), .inl 2147483648]), (fun vs => zP q_X8_hold_0), (fun vs => Nat.sub (Nat.add 0 0) 0))]
def bf_X8_hold_0 : List Nat := []
theorem r_X8_hold_0_0 : zbox [] (fun vs => zFrun (zpost (zAlq al_X8_hold_0)) 1000 t_X8_hold fm_X8_hold_0 bf_X8_hold_0 (0, vs)) = true := by decide +kernel
set_option maxRecDepth 100000 in
theorem x_X8_hold_0 (d : Nat) : zS l G gh (d + 2) (zpost (zAlq al_X8_hold_0)) n_X8_hold (zn 0 p_X8_hold 0) (zwc (0, [.inr (.ref 0), .inl 2147483648], zP q_X8_hold_0) 0) := zentry (tt_X8_hold d) fm_X8_hold_0 bf_X8_hold_0 1000 (by decide +kernel) rfl ⟨Nat.zero_lt_succ _, trivial⟩ (fun f hf => match f, hf with
  | 0, _ => fun vs hv => (zbox_t r_X8_hold_0_0) vs hv
  | f + 1, h => absurd (show f + 1 < 1 from h) (Nat.not_lt.mpr (Nat.le_add_left 1 f)))
noncomputable def gs_X8_hold_0 : zMt := zgq false [] 2 [.inr (.ref 0), .inl 2147483648] q_X8_hold_0 al_X8_hold_0
set_option maxRecDepth 100000 in
theorem cs_X8_hold_0 (d : Nat) : zC l G gh (d + 2) n_X8_hold gs_X8_hold_0 := zgq_ok0 (pcs := p_X8_hold) (by decide) rfl rfl (fun a ha => by simp only [al_X8_hold_0, List.mem_cons, List.not_mem_nil, or_false] at ha; rcases ha with rfl <;> decide +kernel) (fun gh => x_X8_hold_0 d) (by decide +kernel)
def q_X8_hold_1 : List (Nat × Nat) := [(0, zk0), (21, zk10), (22, zk12), (23, zk12), (24, zk12), (25, zk12), (26, zk11), (27, zk11), (247, zk90), (248, zk13), (278, zk94), (279, zk12), (280, zk12), (281, zk12), (282, zk12), (283, zk11), (284, zk11)]
noncomputable def al_X8_hold_1 : zAq := [(some (.inl 2147483649), [(0, zk0), (21, zk10), (22, zk12), (23, zk12), (24, zk12), (25, zk12), (26, zk11), (27, zk11), (247, zk90), (248, zk92), (278, zk95), (279, zk57), (280, zk57), (281, zk57), (282, zk57), (283, zk58), (284, zk58)])]
noncomputable def fm_X8_hold_1 : List zFm := [(0, [], (fun vs => [.inr (.ref 0), .inl 2147483649]), (fun vs => zP q_X8_hold_1), (fun vs => Nat.sub (Nat.add 0 0) 0))]
def bf_X8_hold_1 : List Nat := []
theorem r_X8_hold_1_0 : zbox [] (fun vs => zFrun (zpost (zAlq al_X8_hold_1)) 1000 t_X8_hold fm_X8_hold_1 bf_X8_hold_1 (0, vs)) = true := by decide +kernel
set_option maxRecDepth 100000 in
theorem x_X8_hold_1 (d : Nat) : zS l G gh (d + 2) (zpost (zAlq al_X8_hold_1)) n_X8_hold (zn 0 p_X8_hold 0) (zwc (0, [.inr (.ref 0), .inl 2147483649], zP q_X8_hold_1) 0) := zentry (tt_X8_hold d) fm_X8_hold_1 bf_X8_hold_1 1000 (by decide +kernel) rfl ⟨Nat.zero_lt_succ _, trivial⟩ (fun f hf => match f, hf with
  | 0, _ => fun vs hv => (zbox_t r_X8_hold_1_0) vs hv
  | f + 1, h => absurd (show f + 1 < 1 from h) (Nat.not_lt.mpr (Nat.le_add_left 1 f)))
noncomputable def gs_X8_hold_1 : zMt := zgq false [] 2 [.inr (.ref 0), .inl 2147483649] q_X8_hold_1 al_X8_hold_1
set_option maxRecDepth 100000 in
theorem cs_X8_hold_1 (d : Nat) : zC l G gh (d + 2) n_X8_hold gs_X8_hold_1 := zgq_ok0 (pcs := p_X8_hold) (by decide) rfl rfl (fun a ha => by simp only [al_X8_hold_1, List.mem_cons, List.not_mem_nil, or_false] at ha; rcases ha with rfl <;> decide +kernel) (fun gh => x_X8_hold_1 d) (by decide +kernel)
def q_X8_hold_2 : List (Nat × Nat) := [(0, zk0), (21, zk10), (22, zk12), (23, zk12), (24, zk12), (25, zk12), (26, zk11), (27, zk11), (247, zk90), (248, zk13), (285, zk96), (286, zk12), (287, zk12), (288, zk12), (289, zk12), (290, zk11), (291, zk11)]
noncomputable def al_X8_hold_2 : zAq := [(some (.inl 2147483649), [(0, zk0), (21, zk10), (22, zk12), (23, zk12), (24, zk12), (25, zk12), (26, zk11), (27, zk11), (247, zk90), (248, zk92), (285, zk97), (286, zk57), (287, zk57), (288, zk57), (289, zk57), (290, zk58), (291, zk58)])]
noncomputable def fm_X8_hold_2 : List zFm := [(0, [], (fun vs => [.inr (.ref 0), .inl 2147483650]), (fun vs => zP q_X8_hold_2), (fun vs => Nat.sub (Nat.add 0 0) 0))]
def bf_X8_hold_2 : List Nat := []
theorem r_X8_hold_2_0 : zbox [] (fun vs => zFrun (zpost (zAlq al_X8_hold_2)) 1000 t_X8_hold fm_X8_hold_2 bf_X8_hold_2 (0, vs)) = true := by decide +kernel
set_option maxRecDepth 100000 in
theorem x_X8_hold_2 (d : Nat) : zS l G gh (d + 2) (zpost (zAlq al_X8_hold_2)) n_X8_hold (zn 0 p_X8_hold 0) (zwc (0, [.inr (.ref 0), .inl 2147483650], zP q_X8_hold_2) 0) := zentry (tt_X8_hold d) fm_X8_hold_2 bf_X8_hold_2 1000 (by decide +kernel) rfl ⟨Nat.zero_lt_succ _, trivial⟩ (fun f hf => match f, hf with
  | 0, _ => fun vs hv => (zbox_t r_X8_hold_2_0) vs hv
  | f + 1, h => absurd (show f + 1 < 1 from h) (Nat.not_lt.mpr (Nat.le_add_left 1 f)))
noncomputable def gs_X8_hold_2 : zMt := zgq false [] 2 [.inr (.ref 0), .inl 2147483650] q_X8_hold_2 al_X8_hold_2
set_option maxRecDepth 100000 in
theorem cs_X8_hold_2 (d : Nat) : zC l G gh (d + 2) n_X8_hold gs_X8_hold_2 := zgq_ok0 (pcs := p_X8_hold) (by decide) rfl rfl (fun a ha => by simp only [al_X8_hold_2, List.mem_cons, List.not_mem_nil, or_false] at ha; rcases ha with rfl <;> decide +kernel) (fun gh => x_X8_hold_2 d) (by decide +kernel)
def q_X8_hold_3 : List (Nat × Nat) := []
noncomputable def al_X8_hold_3 : zAq := [(some (.inl 2147483648), [])]
noncomputable def fm_X8_hold_3 : List zFm := [(0, [], (fun vs => [.inr (.ref 0), .inl 6442450943]), (fun vs => zP q_X8_hold_3), (fun vs => Nat.sub (Nat.add 0 0) 0))]
def bf_X8_hold_3 : List Nat := []
theorem r_X8_hold_3_0 : zbox [] (fun vs => zFrun (zpost (zAlq al_X8_hold_3)) 1000 t_X8_hold fm_X8_hold_3 bf_X8_hold_3 (0, vs)) = true := by decide +kernel
set_option maxRecDepth 100000 in
theorem x_X8_hold_3 (d : Nat) : zS l G gh (d + 2) (zpost (zAlq al_X8_hold_3)) n_X8_hold (zn 0 p_X8_hold 0) (zwc (0, [.inr (.ref 0), .inl 6442450943], zP q_X8_hold_3) 0) := zentry (tt_X8_hold d) fm_X8_hold_3 bf_X8_hold_3 1000 (by decide +kernel) rfl ⟨Nat.zero_lt_succ _, trivial⟩ (fun f hf => match f, hf with
  | 0, _ => fun vs hv => (zbox_t r_X8_hold_3_0) vs hv
  | f + 1, h => absurd (show f + 1 < 1 from h) (Nat.not_lt.mpr (Nat.le_add_left 1 f)))
noncomputable def gs_X8_hold_3 : zMt := zgq false [] 2 [.inr (.ref 0), .inl 6442450943] q_X8_hold_3 al_X8_hold_3
set_option maxRecDepth 100000 in
theorem cs_X8_hold_3 (d : Nat) : zC l G gh (d + 2) n_X8_hold gs_X8_hold_3 := zgq_ok0 (pcs := p_X8_hold) (by decide) rfl rfl (fun a ha => by simp only [al_X8_hold_3, List.mem_cons, List.not_mem_nil, or_false] at ha; rcases ha with rfl <;> decide +kernel) (fun gh => x_X8_hold_3 d) (by decide +kernel)
def q_X8_hold_4 : List (Nat × Nat) := []
noncomputable def al_X8_hold_4 : zAq := [(some (.inl 2147483648), [])]
noncomputable def fm_X8_hold_4 : List zFm := [(0, [], (fun vs => [.inr (.ref 0), .inl 9223372058329612287]), (fun vs => zP q_X8_hold_4), (fun vs => Nat.sub (Nat.add 0 0) 0))]
def bf_X8_hold_4 : List Nat := []
theorem r_X8_hold_4_0 : zbox [] (fun vs => zFrun (zpost (zAlq al_X8_hold_4)) 1000 t_X8_hold fm_X8_hold_4 bf_X8_hold_4 (0, vs)) = true := by decide +kernel
set_option maxRecDepth 100000 in
theorem x_X8_hold_4 (d : Nat) : zS l G gh (d + 2) (zpost (zAlq al_X8_hold_4)) n_X8_hold (zn 0 p_X8_hold 0) (zwc (0, [.inr (.ref 0), .inl 9223372058329612287], zP q_X8_hold_4) 0) := zentry (tt_X8_hold d) fm_X8_hold_4 bf_X8_hold_4 1000 (by decide +kernel) rfl ⟨Nat.zero_lt_succ _, trivial⟩ (fun f hf => match f, hf with
  | 0, _ => fun vs hv => (zbox_t r_X8_hold_4_0) vs hv
  | f + 1, h => absurd (show f + 1 < 1 from h) (Nat.not_lt.mpr (Nat.le_add_left 1 f)))
noncomputable def gs_X8_hold_4 : zMt := zgq false [] 2 [.inr (.ref 0), .inl 9223372058329612287] q_X8_hold_4 al_X8_hold_4
set_option maxRecDepth 100000 in
theorem cs_X8_hold_4 (d : Nat) : zC l G gh (d + 2) n_X8_hold gs_X8_hold_4 := zgq_ok0 (pcs := p_X8_hold) (by decide) rfl rfl (fun a ha => by simp only [al_X8_hold_4, List.mem_cons, List.not_mem_nil, or_false] at ha; rcases ha with rfl <;> decide +kernel) (fun gh => x_X8_hold_4 d) (by decide +kernel)
def q_X8_hold_5 : List (Nat × Nat) := [(0, zk1), (21, zk10), (22, zk12), (23, zk12), (24, zk12), (25, zk12), (26, zk11), (27, zk11), (247, zk90), (248, zk13), (271, zk91), (272, zk12), (273, zk12), (274, zk12), (275, zk12), (276, zk11), (277, zk11)]
noncomputable def al_X8_hold_5 : zAq := [(some (.inl 2147483649), [(0, zk1), (21, zk10), (22, zk12), (23, zk12), (24, zk12), (25, zk12), (26, zk11), (27, zk11), (247, zk90), (248, zk92), (271, zk93), (272, zk57), (273, zk57), (274, zk57), (275, zk57), (276, zk58), (277, zk58)])]
noncomputable def fm_X8_hold_5 : List zFm := [(0, [], (fun vs => [.inr (.ref 0), .inl 2147483648]), (fun vs => zP q_X8_hold_5), (fun vs => Nat.sub (Nat.add 0 0) 0))]
def bf_X8_hold_5 : List Nat := []
theorem r_X8_hold_5_0 : zbox [] (fun vs => zFrun (zpost (zAlq al_X8_hold_5)) 1000 t_X8_hold fm_X8_hold_5 bf_X8_hold_5 (0, vs)) = true := by decide +kernel
set_option maxRecDepth 100000 in
theorem x_X8_hold_5 (d : Nat) : zS l G gh (d + 2) (zpost (zAlq al_X8_hold_5)) n_X8_hold (zn 0 p_X8_hold 0) (zwc (0, [.inr (.ref 0), .inl 2147483648], zP q_X8_hold_5) 0) := zentry (tt_X8_hold d) fm_X8_hold_5 bf_X8_hold_5 1000 (by decide +kernel) rfl ⟨Nat.zero_lt_succ _, trivial⟩ (fun f hf => match f, hf with
  | 0, _ => fun vs hv => (zbox_t r_X8_hold_5_0) vs hv
  | f + 1, h => absurd (show f + 1 < 1 from h) (Nat.not_lt.mpr (Nat.le_add_left 1 f)))
noncomputable def gs_X8_hold_5 : zMt := zgq false [] 2 [.inr (.ref 0), .inl 2147483648] q_X8_hold_5 al_X8_hold_5
set_option maxRecDepth 100000 in
theorem cs_X8_hold_5 (d : Nat) : zC l G gh (d + 2) n_X8_hold gs_X8_hold_5 := zgq_ok0 (pcs := p_X8_hold) (by decide) rfl rfl (fun a ha => by simp only [al_X8_hold_5, List.mem_cons, List.not_mem_nil, or_false] at ha; rcases ha with rfl <;> decide +kernel) (fun gh => x_X8_hold_5 d) (by decide +kernel)
def q_X8_hold_6 : List (Nat × Nat) := [(0, zk1), (21, zk10), (22, zk12), (23, zk12), (24, zk12), (25, zk12), (26, zk11), (27, zk11), (247, zk90), (248, zk13), (278, zk94), (279, zk12), (280, zk12), (281, zk12), (282, zk12), (283, zk11), (284, zk11)]
noncomputable def al_X8_hold_6 : zAq := [(some (.inl 2147483649), [(0, zk1), (21, zk10), (22, zk12), (23, zk12), (24, zk12), (25, zk12), (26, zk11), (27, zk11), (247, zk90), (248, zk92), (278, zk95), (279, zk57), (280, zk57), (281, zk57), (282, zk57), (283, zk58), (284, zk58)])]
noncomputable def fm_X8_hold_6 : List zFm := [(0, [], (fun vs => [.inr (.ref 0), .inl 2147483649]), (fun vs => zP q_X8_hold_6), (fun vs => Nat.sub (Nat.add 0 0) 0))]
def bf_X8_hold_6 : List Nat := []
theorem r_X8_hold_6_0 : zbox [] (fun vs => zFrun (zpost (zAlq al_X8_hold_6)) 1000 t_X8_hold fm_X8_hold_6 bf_X8_hold_6 (0, vs)) = true := by decide +kernel
set_option maxRecDepth 100000 in
theorem x_X8_hold_6 (d : Nat) : zS l G gh (d + 2) (zpost (zAlq al_X8_hold_6)) n_X8_hold (zn 0 p_X8_hold 0) (zwc (0, [.inr (.ref 0), .inl 2147483649], zP q_X8_hold_6) 0) := zentry (tt_X8_hold d) fm_X8_hold_6 bf_X8_hold_6 1000 (by decide +kernel) rfl ⟨Nat.zero_lt_succ _, trivial⟩ (fun f hf => match f, hf with
  | 0, _ => fun vs hv => (zbox_t r_X8_hold_6_0) vs hv
  | f + 1, h => absurd (show f + 1 < 1 from h) (Nat.not_lt.mpr (Nat.le_add_left 1 f)))
noncomputable def gs_X8_hold_6 : zMt := zgq false [] 2 [.inr (.ref 0), .inl 2147483649] q_X8_hold_6 al_X8_hold_6
set_option maxRecDepth 100000 in
theorem cs_X8_hold_6 (d : Nat) : zC l G gh (d + 2) n_X8_hold gs_X8_hold_6 := zgq_ok0 (pcs := p_X8_hold) (by decide) rfl rfl (fun a ha => by simp only [al_X8_hold_6, List.mem_cons, List.not_mem_nil, or_false] at ha; rcases ha with rfl <;> decide +kernel) (fun gh => x_X8_hold_6 d) (by decide +kernel)
def q_X8_hold_7 : List (Nat × Nat) := [(0, zk1), (21, zk10), (22, zk12), (23, zk12), (24, zk12), (25, zk12), (26, zk11), (27, zk11), (247, zk90), (248, zk13), (285, zk96), (286, zk12), (287, zk12), (288, zk12), (289, zk12), (290, zk11), (291, zk11)]
noncomputable def al_X8_hold_7 : zAq := [(some (.inl 2147483649), [(0, zk1), (21, zk10), (22, zk12), (23, zk12), (24, zk12), (25, zk12), (26, zk11), (27, zk11), (247, zk90), (248, zk92), (285, zk97), (286, zk57), (287, zk57), (288, zk57), (289, zk57), (290, zk58), (291, zk58)])]
noncomputable def fm_X8_hold_7 : List zFm := [(0, [], (fun vs => [.inr (.ref 0), .inl 2147483650]), (fun vs => zP q_X8_hold_7), (fun vs => Nat.sub (Nat.add 0 0) 0))]
def bf_X8_hold_7 : List Nat := []
theorem r_X8_hold_7_0 : zbox [] (fun vs => zFrun (zpost (zAlq al_X8_hold_7)) 1000 t_X8_hold fm_X8_hold_7 bf_X8_hold_7 (0, vs)) = true := by decide +kernel
set_option maxRecDepth 100000 in
theorem x_X8_hold_7 (d : Nat) : zS l G gh (d + 2) (zpost (zAlq al_X8_hold_7)) n_X8_hold (zn 0 p_X8_hold 0) (zwc (0, [.inr (.ref 0), .inl 2147483650], zP q_X8_hold_7) 0) := zentry (tt_X8_hold d) fm_X8_hold_7 bf_X8_hold_7 1000 (by decide +kernel) rfl ⟨Nat.zero_lt_succ _, trivial⟩ (fun f hf => match f, hf with
  | 0, _ => fun vs hv => (zbox_t r_X8_hold_7_0) vs hv
  | f + 1, h => absurd (show f + 1 < 1 from h) (Nat.not_lt.mpr (Nat.le_add_left 1 f)))
noncomputable def gs_X8_hold_7 : zMt := zgq false [] 2 [.inr (.ref 0), .inl 2147483650] q_X8_hold_7 al_X8_hold_7
set_option maxRecDepth 100000 in
theorem cs_X8_hold_7 (d : Nat) : zC l G gh (d + 2) n_X8_hold gs_X8_hold_7 := zgq_ok0 (pcs := p_X8_hold) (by decide) rfl rfl (fun a ha => by simp only [al_X8_hold_7, List.mem_cons, List.not_mem_nil, or_false] at ha; rcases ha with rfl <;> decide +kernel) (fun gh => x_X8_hold_7 d) (by decide +kernel)
def q_X8_hold_8 : List (Nat × Nat) := []
noncomputable def al_X8_hold_8 : zAq := [(some (.inl 2147483648), [])]
noncomputable def fm_X8_hold_8 : List zFm := [(0, [], (fun vs => [.inr (.ref 0), .inl 6442450943]), (fun vs => zP q_X8_hold_8), (fun vs => Nat.sub (Nat.add 0 0) 0))]
def bf_X8_hold_8 : List Nat := []
theorem r_X8_hold_8_0 : zbox [] (fun vs => zFrun (zpost (zAlq al_X8_hold_8)) 1000 t_X8_hold fm_X8_hold_8 bf_X8_hold_8 (0, vs)) = true := by decide +kernel
set_option maxRecDepth 100000 in
theorem x_X8_hold_8 (d : Nat) : zS l G gh (d + 2) (zpost (zAlq al_X8_hold_8)) n_X8_hold (zn 0 p_X8_hold 0) (zwc (0, [.inr (.ref 0), .inl 6442450943], zP q_X8_hold_8) 0) := zentry (tt_X8_hold d) fm_X8_hold_8 bf_X8_hold_8 1000 (by decide +kernel) rfl ⟨Nat.zero_lt_succ _, trivial⟩ (fun f hf => match f, hf with
  | 0, _ => fun vs hv => (zbox_t r_X8_hold_8_0) vs hv
  | f + 1, h => absurd (show f + 1 < 1 from h) (Nat.not_lt.mpr (Nat.le_add_left 1 f)))
noncomputable def gs_X8_hold_8 : zMt := zgq false [] 2 [.inr (.ref 0), .inl 6442450943] q_X8_hold_8 al_X8_hold_8
set_option maxRecDepth 100000 in
theorem cs_X8_hold_8 (d : Nat) : zC l G gh (d + 2) n_X8_hold gs_X8_hold_8 := zgq_ok0 (pcs := p_X8_hold) (by decide) rfl rfl (fun a ha => by simp only [al_X8_hold_8, List.mem_cons, List.not_mem_nil, or_false] at ha; rcases ha with rfl <;> decide +kernel) (fun gh => x_X8_hold_8 d) (by decide +kernel)
def q_X8_hold_9 : List (Nat × Nat) := []
noncomputable def al_X8_hold_9 : zAq := [(some (.inl 2147483648), [])]
noncomputable def fm_X8_hold_9 : List zFm := [(0, [], (fun vs => [.inr (.ref 0), .inl 9223372058329612287]), (fun vs => zP q_X8_hold_9), (fun vs => Nat.sub (Nat.add 0 0) 0))]
def bf_X8_hold_9 : List Nat := []
theorem r_X8_hold_9_0 : zbox [] (fun vs => zFrun (zpost (zAlq al_X8_hold_9)) 1000 t_X8_hold fm_X8_hold_9 bf_X8_hold_9 (0, vs)) = true := by decide +kernel
set_option maxRecDepth 100000 in
theorem x_X8_hold_9 (d : Nat) : zS l G gh (d + 2) (zpost (zAlq al_X8_hold_9)) n_X8_hold (zn 0 p_X8_hold 0) (zwc (0, [.inr (.ref 0), .inl 9223372058329612287], zP q_X8_hold_9) 0) := zentry (tt_X8_hold d) fm_X8_hold_9 bf_X8_hold_9 1000 (by decide +kernel) rfl ⟨Nat.zero_lt_succ _, trivial⟩ (fun f hf => match f, hf with
  | 0, _ => fun vs hv => (zbox_t r_X8_hold_9_0) vs hv
  | f + 1, h => absurd (show f + 1 < 1 from h) (Nat.not_lt.mpr (Nat.le_add_left 1 f)))
noncomputable def gs_X8_hold_9 : zMt := zgq false [] 2 [.inr (.ref 0), .inl 9223372058329612287] q_X8_hold_9 al_X8_hold_9
set_option maxRecDepth 100000 in
theorem cs_X8_hold_9 (d : Nat) : zC l G gh (d + 2) n_X8_hold gs_X8_hold_9 := zgq_ok0 (pcs := p_X8_hold) (by decide) rfl rfl (fun a ha => by simp only [al_X8_hold_9, List.mem_cons, List.not_mem_nil, or_false] at ha; rcases ha with rfl <;> decide +kernel) (fun gh => x_X8_hold_9 d) (by decide +kernel)
noncomputable def gs_X8_hold : zMt := (zor gs_X8_hold_0 (zor gs_X8_hold_1 (zor gs_X8_hold_2 (zor gs_X8_hold_3 (zor gs_X8_hold_4 (zor gs_X8_hold_5 (zor gs_X8_hold_6 (zor gs_X8_hold_7 (zor gs_X8_hold_8 gs_X8_hold_9)))))))))
theorem cs_X8_hold (d : Nat) : zC l G gh (d + 2) n_X8_hold gs_X8_hold := (zor_ok (cs_X8_hold_0 d) (zor_ok (cs_X8_hold_1 d) (zor_ok (cs_X8_hold_2 d) (zor_ok (cs_X8_hold_3 d) (zor_ok (cs_X8_hold_4 d) (zor_ok (cs_X8_hold_5 d) (zor_ok (cs_X8_hold_6 d) (zor_ok (cs_X8_hold_7 d) (zor_ok (cs_X8_hold_8 d) (cs_X8_hold_9 d))))))))))
def p_X8_restore : List Nat := [0, 4, 9, 18, 20]
noncomputable def b_X8_restore_0 : zBl := fun jp K => oNLC 1 2147483648 zltN zgeN zn1_lt zn1_ge (jp 3) (jp 1)
theorem s_X8_restore_0 (d : Nat) : zPb l G gh (d + 2) n_X8_restore p_X8_restore 0 b_X8_restore_0 := fun K jp hj =>
    z_nL0_lt (i := 1) (a1 := 1) (off := 17) (tgt := 18) (zLd_n (n := 1) (i := 1) (zd (i := .iload_n 1) (n := 1) (by decide +kernel)) rfl) (zd (i := .ifCond .lt (17)) (n := 3) (by decide +kernel)) (by decide +kernel) (zj (hj 3) (by decide +kernel)) (zj (hj 1) (by decide +kernel))
noncomputable def b_X8_restore_1 : zBl := fun jp K => oNLC 1 2147483651 zgeN zltN zn1_ge zn1_lt (jp 3) (jp 2)
theorem s_X8_restore_1 (d : Nat) : zPb l G gh (d + 2) n_X8_restore p_X8_restore 4 b_X8_restore_1 := fun K jp hj =>
    z_nLC_ge (i := 1) (c0 := 2147483651) (a1 := 1) (a2 := 1) (off := 12) (tgt := 18) (zLd_n (n := 1) (i := 1) (zd (i := .iload_n 1) (n := 1) (by decide +kernel)) rfl) (zCn_c (n := 3) (zd (i := .iconst (3)) (n := 1) (by decide +kernel)) (by decide +kernel)) (zd (i := .if_icmp .ge (12)) (n := 3) (by decide +kernel)) (by decide +kernel) (zj (hj 3) (by decide +kernel)) (zj (hj 2) (by decide +kernel))
noncomputable def b_X8_restore_2 : zBl := fun jp K => oAld 0 <| oGetR 8 6 <| oIld 1 <| oXald 12 <| oIf zne zeq (jp 4) (jp 3)
theorem s_X8_restore_2 (d : Nat) : zPb l G gh (d + 2) n_X8_restore p_X8_restore 9 b_X8_restore_2 := fun K jp hj =>
    z_aload_n (n := 0) (i := 0) (zd (i := .aload_n 0) (n := 1) (by decide +kernel)) rfl <|
    z_getR (ci := 8) (j := 6) (idx := 44) (zd (i := .getfield 44) (n := 3) (by decide +kernel)) (by decide +kernel) (by decide +kernel) rfl g458 <|
    z_iload_n (n := 1) (i := 1) (zd (i := .iload_n 1) (n := 1) (by decide +kernel)) rfl <|
    z_zald (zd (i := .baload) (n := 1) (by decide +kernel)) <|
    z_if_ne (off := 5) (tgt := 20) (zd (i := .ifCond .ne (5)) (n := 3) (by decide +kernel)) (by decide +kernel) (zj (hj 4) (by decide +kernel)) (zj (hj 3) (by decide +kernel))
noncomputable def b_X8_restore_3 : zBl := fun jp K => oInt 2147483648 <| oZret K
theorem s_X8_restore_3 (d : Nat) : zPb l G gh (d + 2) n_X8_restore p_X8_restore 18 b_X8_restore_3 := fun K jp hj =>
    z_iconst (n := 0) (zd (i := .iconst (0)) (n := 1) (by decide +kernel)) (by decide +kernel) <|
    z_zret (zd (i := .ireturn) (n := 1) (by decide +kernel)) rfl
noncomputable def b_X8_restore_4 : zBl := fun jp K => oAld 0 <| oGetR 8 2 <| oAld 0 <| oGetR 8 5 <| oIld 1 <| oAald <| oCv 4 1 f_X4_copy <| oAld 0 <| oGetR 8 4 <| oCv 3 0 f_X3_clear <| oInt 2147483649 <| oZret K
theorem s_X8_restore_4 (d : Nat) : zPb l G gh (d + 2) n_X8_restore p_X8_restore 20 b_X8_restore_4 := fun K jp hj =>
    z_aload_n (n := 0) (i := 0) (zd (i := .aload_n 0) (n := 1) (by decide +kernel)) rfl <|
    z_getR (ci := 8) (j := 2) (idx := 26) (zd (i := .getfield 26) (n := 3) (by decide +kernel)) (by decide +kernel) (by decide +kernel) rfl g454 <|
    z_aload_n (n := 0) (i := 0) (zd (i := .aload_n 0) (n := 1) (by decide +kernel)) rfl <|
    z_getR (ci := 8) (j := 5) (idx := 40) (zd (i := .getfield 40) (n := 3) (by decide +kernel)) (by decide +kernel) (by decide +kernel) rfl g457 <|
    z_iload_n (n := 1) (i := 1) (zd (i := .iload_n 1) (n := 1) (by decide +kernel)) rfl <|
    z_aald (zd (i := .aaload) (n := 1) (by decide +kernel)) <|
    z_callV (idx := 258) (ci := 4) (N := n_X4_copy) (zd (i := .invokevirtual 258) (n := 3) (by decide +kernel)) to_X4_copy g956 g841 g842 (by decide +kernel) rfl rfl rfl (c_X4_copy (l := l) (G := G) (gh := gh) (d)) <|
    z_aload_n (n := 0) (i := 0) (zd (i := .aload_n 0) (n := 1) (by decide +kernel)) rfl <|
    z_getR (ci := 8) (j := 4) (idx := 36) (zd (i := .getfield 36) (n := 3) (by decide +kernel)) (by decide +kernel) (by decide +kernel) rfl g456 <|
    z_callV (idx := 111) (ci := 3) (N := n_X3_clear) (zd (i := .invokevirtual 111) (n := 3) (by decide +kernel)) to_X3_clear g696 g697 g698 (by decide +kernel) rfl rfl rfl (c_X3_clear (l := l) (G := G) (gh := gh) (d)) <|
    z_iconst (n := 1) (zd (i := .iconst (1)) (n := 1) (by decide +kernel)) (by decide +kernel) <|
    z_zret (zd (i := .ireturn) (n := 1) (by decide +kernel)) rfl
noncomputable def t_X8_restore : List zBl := [b_X8_restore_0, b_X8_restore_1, b_X8_restore_2, b_X8_restore_3, b_X8_restore_4]
theorem tt_X8_restore (d : Nat) : zT (zPb l G gh (d + 2) n_X8_restore p_X8_restore) t_X8_restore p_X8_restore := ⟨s_X8_restore_0 d, s_X8_restore_1 d, s_X8_restore_2 d, s_X8_restore_3 d, s_X8_restore_4 d, trivial⟩
def q_X8_restore_0 : List (Nat × Nat) := [(0, zk0), (21, zk10), (22, zk12), (23, zk12), (24, zk12), (25, zk12), (26, zk11), (27, zk11), (35, zk23), (247, zk90), (248, zk13), (271, zk91), (272, zk12), (273, zk12), (274, zk12), (275, zk12), (276, zk11), (277, zk11)]
noncomputable def al_X8_restore_0 : zAq := [(some (.inl 9223372043297226753), [(0, zk0), (21, zk88), (22, zk57), (23, zk57), (24, zk57), (25, zk57), (26, zk58), (27, zk58), (35, zk55), (247, zk90), (248, zk13), (271, zk91), (272, zk12), (273, zk12), (274, zk12), (275, zk12), (276, zk11), (277, zk11)])]
noncomputable def fm_X8_restore_0 : List zFm := [(0, [], (fun vs => [.inr (.ref 0), .inl 2147483648]), (fun vs => zP q_X8_restore_0), (fun vs => Nat.sub (Nat.add 0 0) 0))]
def bf_X8_restore_0 : List Nat := []
theorem r_X8_restore_0_0 : zbox [] (fun vs => zFrun (zpost (zAlq al_X8_restore_0)) 1000 t_X8_restore fm_X8_restore_0 bf_X8_restore_0 (0, vs)) = true := by decide +kernel
set_option maxRecDepth 100000 in
theorem x_X8_restore_0 (d : Nat) : zS l G gh (d + 2) (zpost (zAlq al_X8_restore_0)) n_X8_restore (zn 0 p_X8_restore 0) (zwc (0, [.inr (.ref 0), .inl 2147483648], zP q_X8_restore_0) 0) := zentry (tt_X8_restore d) fm_X8_restore_0 bf_X8_restore_0 1000 (by decide +kernel) rfl ⟨Nat.zero_lt_succ _, trivial⟩ (fun f hf => match f, hf with
  | 0, _ => fun vs hv => (zbox_t r_X8_restore_0_0) vs hv
  | f + 1, h => absurd (show f + 1 < 1 from h) (Nat.not_lt.mpr (Nat.le_add_left 1 f)))
noncomputable def gs_X8_restore_0 : zMt := zgq false [] 2 [.inr (.ref 0), .inl 2147483648] q_X8_restore_0 al_X8_restore_0
set_option maxRecDepth 100000 in
theorem cs_X8_restore_0 (d : Nat) : zC l G gh (d + 2) n_X8_restore gs_X8_restore_0 := zgq_ok0 (pcs := p_X8_restore) (by decide) rfl rfl (fun a ha => by simp only [al_X8_restore_0, List.mem_cons, List.not_mem_nil, or_false] at ha; rcases ha with rfl <;> decide +kernel) (fun gh => x_X8_restore_0 d) (by decide +kernel)
def q_X8_restore_1 : List (Nat × Nat) := [(0, zk0), (21, zk10), (22, zk12), (23, zk12), (24, zk12), (25, zk12), (26, zk11), (27, zk11), (35, zk23), (247, zk90), (248, zk13), (278, zk94), (279, zk12), (280, zk12), (281, zk12), (282, zk12), (283, zk11), (284, zk11)]
noncomputable def al_X8_restore_1 : zAq := [(some (.inl 9223372043297226753), [(0, zk0), (21, zk88), (22, zk57), (23, zk57), (24, zk57), (25, zk57), (26, zk58), (27, zk58), (35, zk55), (247, zk90), (248, zk13), (278, zk94), (279, zk12), (280, zk12), (281, zk12), (282, zk12), (283, zk11), (284, zk11)])]
noncomputable def fm_X8_restore_1 : List zFm := [(0, [], (fun vs => [.inr (.ref 0), .inl 2147483649]), (fun vs => zP q_X8_restore_1), (fun vs => Nat.sub (Nat.add 0 0) 0))]
def bf_X8_restore_1 : List Nat := []
theorem r_X8_restore_1_0 : zbox [] (fun vs => zFrun (zpost (zAlq al_X8_restore_1)) 1000 t_X8_restore fm_X8_restore_1 bf_X8_restore_1 (0, vs)) = true := by decide +kernel
set_option maxRecDepth 100000 in
theorem x_X8_restore_1 (d : Nat) : zS l G gh (d + 2) (zpost (zAlq al_X8_restore_1)) n_X8_restore (zn 0 p_X8_restore 0) (zwc (0, [.inr (.ref 0), .inl 2147483649], zP q_X8_restore_1) 0) := zentry (tt_X8_restore d) fm_X8_restore_1 bf_X8_restore_1 1000 (by decide +kernel) rfl ⟨Nat.zero_lt_succ _, trivial⟩ (fun f hf => match f, hf with
  | 0, _ => fun vs hv => (zbox_t r_X8_restore_1_0) vs hv
  | f + 1, h => absurd (show f + 1 < 1 from h) (Nat.not_lt.mpr (Nat.le_add_left 1 f)))
noncomputable def gs_X8_restore_1 : zMt := zgq false [] 2 [.inr (.ref 0), .inl 2147483649] q_X8_restore_1 al_X8_restore_1
set_option maxRecDepth 100000 in
theorem cs_X8_restore_1 (d : Nat) : zC l G gh (d + 2) n_X8_restore gs_X8_restore_1 := zgq_ok0 (pcs := p_X8_restore) (by decide) rfl rfl (fun a ha => by simp only [al_X8_restore_1, List.mem_cons, List.not_mem_nil, or_false] at ha; rcases ha with rfl <;> decide +kernel) (fun gh => x_X8_restore_1 d) (by decide +kernel)
def q_X8_restore_2 : List (Nat × Nat) := [(0, zk0), (21, zk10), (22, zk12), (23, zk12), (24, zk12), (25, zk12), (26, zk11), (27, zk11), (35, zk23), (247, zk90), (248, zk13), (285, zk96), (286, zk12), (287, zk12), (288, zk12), (289, zk12), (290, zk11), (291, zk11)]
noncomputable def al_X8_restore_2 : zAq := [(some (.inl 9223372043297226753), [(0, zk0), (21, zk88), (22, zk57), (23, zk57), (24, zk57), (25, zk57), (26, zk58), (27, zk58), (35, zk55), (247, zk90), (248, zk13), (285, zk96), (286, zk12), (287, zk12), (288, zk12), (289, zk12), (290, zk11), (291, zk11)])]
noncomputable def fm_X8_restore_2 : List zFm := [(0, [], (fun vs => [.inr (.ref 0), .inl 2147483650]), (fun vs => zP q_X8_restore_2), (fun vs => Nat.sub (Nat.add 0 0) 0))]
def bf_X8_restore_2 : List Nat := []
theorem r_X8_restore_2_0 : zbox [] (fun vs => zFrun (zpost (zAlq al_X8_restore_2)) 1000 t_X8_restore fm_X8_restore_2 bf_X8_restore_2 (0, vs)) = true := by decide +kernel
set_option maxRecDepth 100000 in
theorem x_X8_restore_2 (d : Nat) : zS l G gh (d + 2) (zpost (zAlq al_X8_restore_2)) n_X8_restore (zn 0 p_X8_restore 0) (zwc (0, [.inr (.ref 0), .inl 2147483650], zP q_X8_restore_2) 0) := zentry (tt_X8_restore d) fm_X8_restore_2 bf_X8_restore_2 1000 (by decide +kernel) rfl ⟨Nat.zero_lt_succ _, trivial⟩ (fun f hf => match f, hf with
  | 0, _ => fun vs hv => (zbox_t r_X8_restore_2_0) vs hv
  | f + 1, h => absurd (show f + 1 < 1 from h) (Nat.not_lt.mpr (Nat.le_add_left 1 f)))
noncomputable def gs_X8_restore_2 : zMt := zgq false [] 2 [.inr (.ref 0), .inl 2147483650] q_X8_restore_2 al_X8_restore_2
set_option maxRecDepth 100000 in
theorem cs_X8_restore_2 (d : Nat) : zC l G gh (d + 2) n_X8_restore gs_X8_restore_2 := zgq_ok0 (pcs := p_X8_restore) (by decide) rfl rfl (fun a ha => by simp only [al_X8_restore_2, List.mem_cons, List.not_mem_nil, or_false] at ha; rcases ha with rfl <;> decide +kernel) (fun gh => x_X8_restore_2 d) (by decide +kernel)
def q_X8_restore_3 : List (Nat × Nat) := []
noncomputable def al_X8_restore_3 : zAq := [(some (.inl 2147483648), [])]
noncomputable def fm_X8_restore_3 : List zFm := [(0, [], (fun vs => [.inr (.ref 0), .inl 6442450943]), (fun vs => zP q_X8_restore_3), (fun vs => Nat.sub (Nat.add 0 0) 0))]
def bf_X8_restore_3 : List Nat := []
theorem r_X8_restore_3_0 : zbox [] (fun vs => zFrun (zpost (zAlq al_X8_restore_3)) 1000 t_X8_restore fm_X8_restore_3 bf_X8_restore_3 (0, vs)) = true := by decide +kernel
set_option maxRecDepth 100000 in
theorem x_X8_restore_3 (d : Nat) : zS l G gh (d + 2) (zpost (zAlq al_X8_restore_3)) n_X8_restore (zn 0 p_X8_restore 0) (zwc (0, [.inr (.ref 0), .inl 6442450943], zP q_X8_restore_3) 0) := zentry (tt_X8_restore d) fm_X8_restore_3 bf_X8_restore_3 1000 (by decide +kernel) rfl ⟨Nat.zero_lt_succ _, trivial⟩ (fun f hf => match f, hf with
  | 0, _ => fun vs hv => (zbox_t r_X8_restore_3_0) vs hv
  | f + 1, h => absurd (show f + 1 < 1 from h) (Nat.not_lt.mpr (Nat.le_add_left 1 f)))
noncomputable def gs_X8_restore_3 : zMt := zgq false [] 2 [.inr (.ref 0), .inl 6442450943] q_X8_restore_3 al_X8_restore_3
set_option maxRecDepth 100000 in
theorem cs_X8_restore_3 (d : Nat) : zC l G gh (d + 2) n_X8_restore gs_X8_restore_3 := zgq_ok0 (pcs := p_X8_restore) (by decide) rfl rfl (fun a ha => by simp only [al_X8_restore_3, List.mem_cons, List.not_mem_nil, or_false] at ha; rcases ha with rfl <;> decide +kernel) (fun gh => x_X8_restore_3 d) (by decide +kernel)
def q_X8_restore_4 : List (Nat × Nat) := []
noncomputable def al_X8_restore_4 : zAq := [(some (.inl 2147483648), [])]
noncomputable def fm_X8_restore_4 : List zFm := [(0, [], (fun vs => [.inr (.ref 0), .inl 9223372058329612287]), (fun vs => zP q_X8_restore_4), (fun vs => Nat.sub (Nat.add 0 0) 0))]
def bf_X8_restore_4 : List Nat := []
theorem r_X8_restore_4_0 : zbox [] (fun vs => zFrun (zpost (zAlq al_X8_restore_4)) 1000 t_X8_restore fm_X8_restore_4 bf_X8_restore_4 (0, vs)) = true := by decide +kernel
set_option maxRecDepth 100000 in
theorem x_X8_restore_4 (d : Nat) : zS l G gh (d + 2) (zpost (zAlq al_X8_restore_4)) n_X8_restore (zn 0 p_X8_restore 0) (zwc (0, [.inr (.ref 0), .inl 9223372058329612287], zP q_X8_restore_4) 0) := zentry (tt_X8_restore d) fm_X8_restore_4 bf_X8_restore_4 1000 (by decide +kernel) rfl ⟨Nat.zero_lt_succ _, trivial⟩ (fun f hf => match f, hf with
  | 0, _ => fun vs hv => (zbox_t r_X8_restore_4_0) vs hv
  | f + 1, h => absurd (show f + 1 < 1 from h) (Nat.not_lt.mpr (Nat.le_add_left 1 f)))
noncomputable def gs_X8_restore_4 : zMt := zgq false [] 2 [.inr (.ref 0), .inl 9223372058329612287] q_X8_restore_4 al_X8_restore_4
set_option maxRecDepth 100000 in
theorem cs_X8_restore_4 (d : Nat) : zC l G gh (d + 2) n_X8_restore gs_X8_restore_4 := zgq_ok0 (pcs := p_X8_restore) (by decide) rfl rfl (fun a ha => by simp only [al_X8_restore_4, List.mem_cons, List.not_mem_nil, or_false] at ha; rcases ha with rfl <;> decide +kernel) (fun gh => x_X8_restore_4 d) (by decide +kernel)
def q_X8_restore_5 : List (Nat × Nat) := [(0, zk1), (21, zk10), (22, zk12), (23, zk12), (24, zk12), (25, zk12), (26, zk11), (27, zk11), (35, zk23), (247, zk90), (248, zk13), (271, zk91), (272, zk12), (273, zk12), (274, zk12), (275, zk12), (276, zk11), (277, zk11)]
noncomputable def al_X8_restore_5 : zAq := [(some (.inl 9223372043297226753), [(0, zk1), (21, zk88), (22, zk57), (23, zk57), (24, zk57), (25, zk57), (26, zk58), (27, zk58), (35, zk55), (247, zk90), (248, zk13), (271, zk91), (272, zk12), (273, zk12), (274, zk12), (275, zk12), (276, zk11), (277, zk11)])]
noncomputable def fm_X8_restore_5 : List zFm := [(0, [], (fun vs => [.inr (.ref 0), .inl 2147483648]), (fun vs => zP q_X8_restore_5), (fun vs => Nat.sub (Nat.add 0 0) 0))]
def bf_X8_restore_5 : List Nat := []
theorem r_X8_restore_5_0 : zbox [] (fun vs => zFrun (zpost (zAlq al_X8_restore_5)) 1000 t_X8_restore fm_X8_restore_5 bf_X8_restore_5 (0, vs)) = true := by decide +kernel
set_option maxRecDepth 100000 in
theorem x_X8_restore_5 (d : Nat) : zS l G gh (d + 2) (zpost (zAlq al_X8_restore_5)) n_X8_restore (zn 0 p_X8_restore 0) (zwc (0, [.inr (.ref 0), .inl 2147483648], zP q_X8_restore_5) 0) := zentry (tt_X8_restore d) fm_X8_restore_5 bf_X8_restore_5 1000 (by decide +kernel) rfl ⟨Nat.zero_lt_succ _, trivial⟩ (fun f hf => match f, hf with
  | 0, _ => fun vs hv => (zbox_t r_X8_restore_5_0) vs hv
  | f + 1, h => absurd (show f + 1 < 1 from h) (Nat.not_lt.mpr (Nat.le_add_left 1 f)))
noncomputable def gs_X8_restore_5 : zMt := zgq false [] 2 [.inr (.ref 0), .inl 2147483648] q_X8_restore_5 al_X8_restore_5
set_option maxRecDepth 100000 in
theorem cs_X8_restore_5 (d : Nat) : zC l G gh (d + 2) n_X8_restore gs_X8_restore_5 := zgq_ok0 (pcs := p_X8_restore) (by decide) rfl rfl (fun a ha => by simp only [al_X8_restore_5, List.mem_cons, List.not_mem_nil, or_false] at ha; rcases ha with rfl <;> decide +kernel) (fun gh => x_X8_restore_5 d) (by decide +kernel)
def q_X8_restore_6 : List (Nat × Nat) := [(0, zk1), (21, zk10), (22, zk12), (23, zk12), (24, zk12), (25, zk12), (26, zk11), (27, zk11), (35, zk23), (247, zk90), (248, zk13), (278, zk94), (279, zk12), (280, zk12), (281, zk12), (282, zk12), (283, zk11), (284, zk11)]
noncomputable def al_X8_restore_6 : zAq := [(some (.inl 9223372043297226753), [(0, zk1), (21, zk88), (22, zk57), (23, zk57), (24, zk57), (25, zk57), (26, zk58), (27, zk58), (35, zk55), (247, zk90), (248, zk13), (278, zk94), (279, zk12), (280, zk12), (281, zk12), (282, zk12), (283, zk11), (284, zk11)])]
noncomputable def fm_X8_restore_6 : List zFm := [(0, [], (fun vs => [.inr (.ref 0), .inl 2147483649]), (fun vs => zP q_X8_restore_6), (fun vs => Nat.sub (Nat.add 0 0) 0))]
def bf_X8_restore_6 : List Nat := []
theorem r_X8_restore_6_0 : zbox [] (fun vs => zFrun (zpost (zAlq al_X8_restore_6)) 1000 t_X8_restore fm_X8_restore_6 bf_X8_restore_6 (0, vs)) = true := by decide +kernel
set_option maxRecDepth 100000 in
theorem x_X8_restore_6 (d : Nat) : zS l G gh (d + 2) (zpost (zAlq al_X8_restore_6)) n_X8_restore (zn 0 p_X8_restore 0) (zwc (0, [.inr (.ref 0), .inl 2147483649], zP q_X8_restore_6) 0) := zentry (tt_X8_restore d) fm_X8_restore_6 bf_X8_restore_6 1000 (by decide +kernel) rfl ⟨Nat.zero_lt_succ _, trivial⟩ (fun f hf => match f, hf with
  | 0, _ => fun vs hv => (zbox_t r_X8_restore_6_0) vs hv
  | f + 1, h => absurd (show f + 1 < 1 from h) (Nat.not_lt.mpr (Nat.le_add_left 1 f)))
noncomputable def gs_X8_restore_6 : zMt := zgq false [] 2 [.inr (.ref 0), .inl 2147483649] q_X8_restore_6 al_X8_restore_6
set_option maxRecDepth 100000 in
theorem cs_X8_restore_6 (d : Nat) : zC l G gh (d + 2) n_X8_restore gs_X8_restore_6 := zgq_ok0 (pcs := p_X8_restore) (by decide) rfl rfl (fun a ha => by simp only [al_X8_restore_6, List.mem_cons, List.not_mem_nil, or_false] at ha; rcases ha with rfl <;> decide +kernel) (fun gh => x_X8_restore_6 d) (by decide +kernel)
def q_X8_restore_7 : List (Nat × Nat) := [(0, zk1), (21, zk10), (22, zk12), (23, zk12), (24, zk12), (25, zk12), (26, zk11), (27, zk11), (35, zk23), (247, zk90), (248, zk13), (285, zk96), (286, zk12), (287, zk12), (288, zk12), (289, zk12), (290, zk11), (291, zk11)]
noncomputable def al_X8_restore_7 : zAq := [(some (.inl 9223372043297226753), [(0, zk1), (21, zk88), (22, zk57), (23, zk57), (24, zk57), (25, zk57), (26, zk58), (27, zk58), (35, zk55), (247, zk90), (248, zk13), (285, zk96), (286, zk12), (287, zk12), (288, zk12), (289, zk12), (290, zk11), (291, zk11)])]
noncomputable def fm_X8_restore_7 : List zFm := [(0, [], (fun vs => [.inr (.ref 0), .inl 2147483650]), (fun vs => zP q_X8_restore_7), (fun vs => Nat.sub (Nat.add 0 0) 0))]
def bf_X8_restore_7 : List Nat := []
theorem r_X8_restore_7_0 : zbox [] (fun vs => zFrun (zpost (zAlq al_X8_restore_7)) 1000 t_X8_restore fm_X8_restore_7 bf_X8_restore_7 (0, vs)) = true := by decide +kernel
set_option maxRecDepth 100000 in
theorem x_X8_restore_7 (d : Nat) : zS l G gh (d + 2) (zpost (zAlq al_X8_restore_7)) n_X8_restore (zn 0 p_X8_restore 0) (zwc (0, [.inr (.ref 0), .inl 2147483650], zP q_X8_restore_7) 0) := zentry (tt_X8_restore d) fm_X8_restore_7 bf_X8_restore_7 1000 (by decide +kernel) rfl ⟨Nat.zero_lt_succ _, trivial⟩ (fun f hf => match f, hf with
  | 0, _ => fun vs hv => (zbox_t r_X8_restore_7_0) vs hv
  | f + 1, h => absurd (show f + 1 < 1 from h) (Nat.not_lt.mpr (Nat.le_add_left 1 f)))
noncomputable def gs_X8_restore_7 : zMt := zgq false [] 2 [.inr (.ref 0), .inl 2147483650] q_X8_restore_7 al_X8_restore_7
set_option maxRecDepth 100000 in
theorem cs_X8_restore_7 (d : Nat) : zC l G gh (d + 2) n_X8_restore gs_X8_restore_7 := zgq_ok0 (pcs := p_X8_restore) (by decide) rfl rfl (fun a ha => by simp only [al_X8_restore_7, List.mem_cons, List.not_mem_nil, or_false] at ha; rcases ha with rfl <;> decide +kernel) (fun gh => x_X8_restore_7 d) (by decide +kernel)
def q_X8_restore_8 : List (Nat × Nat) := []
noncomputable def al_X8_restore_8 : zAq := [(some (.inl 2147483648), [])]
noncomputable def fm_X8_restore_8 : List zFm := [(0, [], (fun vs => [.inr (.ref 0), .inl 6442450943]), (fun vs => zP q_X8_restore_8), (fun vs => Nat.sub (Nat.add 0 0) 0))]
def bf_X8_restore_8 : List Nat := []
theorem r_X8_restore_8_0 : zbox [] (fun vs => zFrun (zpost (zAlq al_X8_restore_8)) 1000 t_X8_restore fm_X8_restore_8 bf_X8_restore_8 (0, vs)) = true := by decide +kernel
set_option maxRecDepth 100000 in
theorem x_X8_restore_8 (d : Nat) : zS l G gh (d + 2) (zpost (zAlq al_X8_restore_8)) n_X8_restore (zn 0 p_X8_restore 0) (zwc (0, [.inr (.ref 0), .inl 6442450943], zP q_X8_restore_8) 0) := zentry (tt_X8_restore d) fm_X8_restore_8 bf_X8_restore_8 1000 (by decide +kernel) rfl ⟨Nat.zero_lt_succ _, trivial⟩ (fun f hf => match f, hf with
  | 0, _ => fun vs hv => (zbox_t r_X8_restore_8_0) vs hv
  | f + 1, h => absurd (show f + 1 < 1 from h) (Nat.not_lt.mpr (Nat.le_add_left 1 f)))
noncomputable def gs_X8_restore_8 : zMt := zgq false [] 2 [.inr (.ref 0), .inl 6442450943] q_X8_restore_8 al_X8_restore_8
set_option maxRecDepth 100000 in
theorem cs_X8_restore_8 (d : Nat) : zC l G gh (d + 2) n_X8_restore gs_X8_restore_8 := zgq_ok0 (pcs := p_X8_restore) (by decide) rfl rfl (fun a ha => by simp only [al_X8_restore_8, List.mem_cons, List.not_mem_nil, or_false] at ha; rcases ha with rfl <;> decide +kernel) (fun gh => x_X8_restore_8 d) (by decide +kernel)
def q_X8_restore_9 : List (Nat × Nat) := []
noncomputable def al_X8_restore_9 : zAq := [(some (.inl 2147483648), [])]
noncomputable def fm_X8_restore_9 : List zFm := [(0, [], (fun vs => [.inr (.ref 0), .inl 9223372058329612287]), (fun vs => zP q_X8_restore_9), (fun vs => Nat.sub (Nat.add 0 0) 0))]
def bf_X8_restore_9 : List Nat := []
theorem r_X8_restore_9_0 : zbox [] (fun vs => zFrun (zpost (zAlq al_X8_restore_9)) 1000 t_X8_restore fm_X8_restore_9 bf_X8_restore_9 (0, vs)) = true := by decide +kernel
set_option maxRecDepth 100000 in
theorem x_X8_restore_9 (d : Nat) : zS l G gh (d + 2) (zpost (zAlq al_X8_restore_9)) n_X8_restore (zn 0 p_X8_restore 0) (zwc (0, [.inr (.ref 0), .inl 9223372058329612287], zP q_X8_restore_9) 0) := zentry (tt_X8_restore d) fm_X8_restore_9 bf_X8_restore_9 1000 (by decide +kernel) rfl ⟨Nat.zero_lt_succ _, trivial⟩ (fun f hf => match f, hf with
  | 0, _ => fun vs hv => (zbox_t r_X8_restore_9_0) vs hv
  | f + 1, h => absurd (show f + 1 < 1 from h) (Nat.not_lt.mpr (Nat.le_add_left 1 f)))
noncomputable def gs_X8_restore_9 : zMt := zgq false [] 2 [.inr (.ref 0), .inl 9223372058329612287] q_X8_restore_9 al_X8_restore_9
set_option maxRecDepth 100000 in
theorem cs_X8_restore_9 (d : Nat) : zC l G gh (d + 2) n_X8_restore gs_X8_restore_9 := zgq_ok0 (pcs := p_X8_restore) (by decide) rfl rfl (fun a ha => by simp only [al_X8_restore_9, List.mem_cons, List.not_mem_nil, or_false] at ha; rcases ha with rfl <;> decide +kernel) (fun gh => x_X8_restore_9 d) (by decide +kernel)
noncomputable def gs_X8_restore : zMt := (zor gs_X8_restore_0 (zor gs_X8_restore_1 (zor gs_X8_restore_2 (zor gs_X8_restore_3 (zor gs_X8_restore_4 (zor gs_X8_restore_5 (zor gs_X8_restore_6 (zor gs_X8_restore_7 (zor gs_X8_restore_8 gs_X8_restore_9)))))))))
theorem cs_X8_restore (d : Nat) : zC l G gh (d + 2) n_X8_restore gs_X8_restore := (zor_ok (cs_X8_restore_0 d) (zor_ok (cs_X8_restore_1 d) (zor_ok (cs_X8_restore_2 d) (zor_ok (cs_X8_restore_3 d) (zor_ok (cs_X8_restore_4 d) (zor_ok (cs_X8_restore_5 d) (zor_ok (cs_X8_restore_6 d) (zor_ok (cs_X8_restore_7 d) (zor_ok (cs_X8_restore_8 d) (cs_X8_restore_9 d))))))))))
def p_X2_heat : List Nat := [0]
noncomputable def b_X2_heat_0 : zBl := fun jp K => oAld 0 <| oIld 1 <| oCv 2 1 gs_X2_clearVars <| oInt 2147483648 <| oAld 0 <| oInt 2147483648 <| oCv 2 1 gs_X2_reckon <| oInt 2147483747 <| oCs 3 f_X8_within <| oIret K
theorem s_X2_heat_0 (d : Nat) : zPb l G gh (d + 3) n_X2_heat p_X2_heat 0 b_X2_heat_0 := fun K jp hj =>
    z_aload_n (n := 0) (i := 0) (zd (i := .aload_n 0) (n := 1) (by decide +kernel)) rfl <|
    z_iload_n (n := 1) (i := 1) (zd (i := .iload_n 1) (n := 1) (by decide +kernel)) rfl <|
    z_callV (idx := 43) (ci := 2) (N := n_X2_clearVars) (zd (i := .invokevirtual 43) (n := 3) (by decide +kernel)) to_X2_clearVars g724 g726 g19 (by decide +kernel) rfl rfl rfl (cs_X2_clearVars (l := l) (G := G) (gh := gh) (d + 1)) <|
    z_iconst (n := 0) (zd (i := .iconst (0)) (n := 1) (by decide +kernel)) (by decide +kernel) <|
    z_aload_n (n := 0) (i := 0) (zd (i := .aload_n 0) (n := 1) (by decide +kernel)) rfl <|
    z_iconst (n := 0) (zd (i := .iconst (0)) (n := 1) (by decide +kernel)) (by decide +kernel) <|
    z_callV (idx := 46) (ci := 2) (N := n_X2_reckon) (zd (i := .invokevirtual 46) (n := 3) (by decide +kernel)) to_X2_reckon g728 g730 g20 (by decide +kernel) rfl rfl rfl (cs_X2_reckon (l := l) (G := G) (gh := gh) (d)) <|
    z_bipush (n := 99) (zd (i := .bipush (99)) (n := 2) (by decide +kernel)) (by decide +kernel) <|
    z_callSN (idx := 50) (N := n_X8_within) (host := "MirageLoans") (zd (i := .invokestatic 50) (n := 3) (by decide +kernel)) to_X8_within (by decide +kernel) g741 rfl rfl (c_X8_within (l := l) (G := G) (gh := gh) (d + 1)) <|
    z_iret (zd (i := .ireturn) (n := 1) (by decide +kernel)) rfl
noncomputable def t_X2_heat : List zBl := [b_X2_heat_0]
theorem tt_X2_heat (d : Nat) : zT (zPb l G gh (d + 3) n_X2_heat p_X2_heat) t_X2_heat p_X2_heat := ⟨s_X2_heat_0 d, trivial⟩
noncomputable def f_X2_heat : zMt := zmet 2 t_X2_heat
theorem c_X2_heat (d : Nat) : zC l G gh (d + 3) n_X2_heat f_X2_heat := zmet_ok (pcs := p_X2_heat) (by decide) rfl rfl (tt_X2_heat d)
def p_X2_isSeen : List Nat := [0, 8, 12, 13]
noncomputable def b_X2_isSeen_0 : zBl := fun jp K => oAld 0 <| oInt 2147483649 <| oCv 2 1 gs_X2_reckon <| oIf zle zgt (jp 2) (jp 1)
theorem s_X2_isSeen_0 (d : Nat) : zPb l G gh (d + 3) n_X2_isSeen p_X2_isSeen 0 b_X2_isSeen_0 := fun K jp hj =>
    z_aload_n (n := 0) (i := 0) (zd (i := .aload_n 0) (n := 1) (by decide +kernel)) rfl <|
    z_iconst (n := 1) (zd (i := .iconst (1)) (n := 1) (by decide +kernel)) (by decide +kernel) <|
    z_callV (idx := 46) (ci := 2) (N := n_X2_reckon) (zd (i := .invokevirtual 46) (n := 3) (by decide +kernel)) to_X2_reckon g728 g730 g20 (by decide +kernel) rfl rfl rfl (cs_X2_reckon (l := l) (G := G) (gh := gh) (d)) <|
    z_if_le (off := 7) (tgt := 12) (zd (i := .ifCond .le (7)) (n := 3) (by decide +kernel)) (by decide +kernel) (zj (hj 2) (by decide +kernel)) (zj (hj 1) (by decide +kernel))
noncomputable def b_X2_isSeen_1 : zBl := fun jp K => oInt 2147483649 <| jp 3
theorem s_X2_isSeen_1 (d : Nat) : zPb l G gh (d + 3) n_X2_isSeen p_X2_isSeen 8 b_X2_isSeen_1 := fun K jp hj =>
    z_iconst (n := 1) (zd (i := .iconst (1)) (n := 1) (by decide +kernel)) (by decide +kernel) <|
    z_goto (off := 4) (tgt := 13) (zd (i := .goto (4)) (n := 3) (by decide +kernel)) (by decide +kernel) (zj (hj 3) (by decide +kernel))
noncomputable def b_X2_isSeen_2 : zBl := fun jp K => oInt 2147483648 <| jp 3
theorem s_X2_isSeen_2 (d : Nat) : zPb l G gh (d + 3) n_X2_isSeen p_X2_isSeen 12 b_X2_isSeen_2 := fun K jp hj =>
    z_iconst (n := 0) (zd (i := .iconst (0)) (n := 1) (by decide +kernel)) (by decide +kernel) <|
    (zj (hj 3) (by decide +kernel))
noncomputable def b_X2_isSeen_3 : zBl := fun jp K => oZret K
theorem s_X2_isSeen_3 (d : Nat) : zPb l G gh (d + 3) n_X2_isSeen p_X2_isSeen 13 b_X2_isSeen_3 := fun K jp hj =>
    z_zret (zd (i := .ireturn) (n := 1) (by decide +kernel)) rfl
noncomputable def t_X2_isSeen : List zBl := [b_X2_isSeen_0, b_X2_isSeen_1, b_X2_isSeen_2, b_X2_isSeen_3]
theorem tt_X2_isSeen (d : Nat) : zT (zPb l G gh (d + 3) n_X2_isSeen p_X2_isSeen) t_X2_isSeen p_X2_isSeen := ⟨s_X2_isSeen_0 d, s_X2_isSeen_1 d, s_X2_isSeen_2 d, s_X2_isSeen_3 d, trivial⟩
noncomputable def f_X2_isSeen : zMt := zmet 1 t_X2_isSeen
theorem c_X2_isSeen (d : Nat) : zC l G gh (d + 3) n_X2_isSeen f_X2_isSeen := zmet_ok (pcs := p_X2_isSeen) (by decide) rfl rfl (tt_X2_isSeen d)
def p_X8_loan : List Nat := [0, 9, 13, 18, 20, 40, 43, 47, 60, 70]
noncomputable def b_X8_loan_0 : zBl := fun jp K => oAld 0 <| oIld 1 <| oIld 2 <| oCv 8 2 f_X8_isPair <| oIf zeq zne (jp 3) (jp 1)
theorem s_X8_loan_0 (d : Nat) : zPb l G gh (d + 3) n_X8_loan p_X8_loan 0 b_X8_loan_0 := fun K jp hj =>
    z_aload_n (n := 0) (i := 0) (zd (i := .aload_n 0) (n := 1) (by decide +kernel)) rfl <|
    z_iload_n (n := 1) (i := 1) (zd (i := .iload_n 1) (n := 1) (by decide +kernel)) rfl <|
    z_iload_n (n := 2) (i := 2) (zd (i := .iload_n 2) (n := 1) (by decide +kernel)) rfl <|
    z_callV (idx := 162) (ci := 8) (N := n_X8_isPair) (zd (i := .invokevirtual 162) (n := 3) (by decide +kernel)) to_X8_isPair g797 g799 g26 (by decide +kernel) rfl rfl rfl (c_X8_isPair (l := l) (G := G) (gh := gh) (d)) <|
    z_if_eq (off := 12) (tgt := 18) (zd (i := .ifCond .eq (12)) (n := 3) (by decide +kernel)) (by decide +kernel) (zj (hj 3) (by decide +kernel)) (zj (hj 1) (by decide +kernel))
noncomputable def b_X8_loan_1 : zBl := fun jp K => oNLC 3 2147483648 zltN zgeN zn1_lt zn1_ge (jp 3) (jp 2)
theorem s_X8_loan_1 (d : Nat) : zPb l G gh (d + 3) n_X8_loan p_X8_loan 9 b_X8_loan_1 := fun K jp hj =>
    z_nL0_lt (i := 3) (a1 := 1) (off := 8) (tgt := 18) (zLd_n (n := 3) (i := 3) (zd (i := .iload_n 3) (n := 1) (by decide +kernel)) rfl) (zd (i := .ifCond .lt (8)) (n := 3) (by decide +kernel)) (by decide +kernel) (zj (hj 3) (by decide +kernel)) (zj (hj 2) (by decide +kernel))
noncomputable def b_X8_loan_2 : zBl := fun jp K => oNLC 3 2147483649 zleN zgtN zn1_le zn1_gt (jp 4) (jp 3)
theorem s_X8_loan_2 (d : Nat) : zPb l G gh (d + 3) n_X8_loan p_X8_loan 13 b_X8_loan_2 := fun K jp hj =>
    z_nLC_le (i := 3) (c0 := 2147483649) (a1 := 1) (a2 := 1) (off := 5) (tgt := 20) (zLd_n (n := 3) (i := 3) (zd (i := .iload_n 3) (n := 1) (by decide +kernel)) rfl) (zCn_c (n := 1) (zd (i := .iconst (1)) (n := 1) (by decide +kernel)) (by decide +kernel)) (zd (i := .if_icmp .le (5)) (n := 3) (by decide +kernel)) (by decide +kernel) (zj (hj 4) (by decide +kernel)) (zj (hj 3) (by decide +kernel))
noncomputable def b_X8_loan_3 : zBl := fun jp K => oInt 2147483647 <| oIret K
theorem s_X8_loan_3 (d : Nat) : zPb l G gh (d + 3) n_X8_loan p_X8_loan 18 b_X8_loan_3 := fun K jp hj =>
    z_iconst (n := -1) (zd (i := .iconst (-1)) (n := 1) (by decide +kernel)) (by decide +kernel) <|
    z_iret (zd (i := .ireturn) (n := 1) (by decide +kernel)) rfl
noncomputable def b_X8_loan_4 : zBl := fun jp K => oIld 1 <| oIld 2 <| oCs 2 f_X8_loanOf <| oIst 4 <| oAld 0 <| oGetR 8 2 <| oGetR 4 5 <| oIld 4 <| oXald 10 <| oIf zne zeq (jp 6) (jp 5)
theorem s_X8_loan_4 (d : Nat) : zPb l G gh (d + 3) n_X8_loan p_X8_loan 20 b_X8_loan_4 := fun K jp hj =>
    z_iload_n (n := 1) (i := 1) (zd (i := .iload_n 1) (n := 1) (by decide +kernel)) rfl <|
    z_iload_n (n := 2) (i := 2) (zd (i := .iload_n 2) (n := 1) (by decide +kernel)) rfl <|
    z_callS (idx := 166) (N := n_X8_loanOf) (zd (i := .invokestatic 166) (n := 3) (by decide +kernel)) to_X8_loanOf g764 g765 rfl rfl (c_X8_loanOf (l := l) (G := G) (gh := gh) (d + 1)) <|
    z_istore (i := 4) (zd (i := .istore 4) (n := 2) (by decide +kernel)) (by decide +kernel) <|
    z_aload_n (n := 0) (i := 0) (zd (i := .aload_n 0) (n := 1) (by decide +kernel)) rfl <|
    z_getR (ci := 8) (j := 2) (idx := 26) (zd (i := .getfield 26) (n := 3) (by decide +kernel)) (by decide +kernel) (by decide +kernel) rfl g454 <|
    z_getR (ci := 4) (j := 5) (idx := 169) (zd (i := .getfield 169) (n := 3) (by decide +kernel)) (by decide +kernel) (by decide +kernel) rfl g383 <|
    z_iload (i := 4) (zd (i := .iload 4) (n := 2) (by decide +kernel)) <|
    z_iald (zd (i := .iaload) (n := 1) (by decide +kernel)) <|
    z_if_ne (off := 6) (tgt := 43) (zd (i := .ifCond .ne (6)) (n := 3) (by decide +kernel)) (by decide +kernel) (zj (hj 6) (by decide +kernel)) (zj (hj 5) (by decide +kernel))
noncomputable def b_X8_loan_5 : zBl := fun jp K => oInt 2147483646 <| oIret K
theorem s_X8_loan_5 (d : Nat) : zPb l G gh (d + 3) n_X8_loan p_X8_loan 40 b_X8_loan_5 := fun K jp hj =>
    z_bipush (n := -2) (zd (i := .bipush (-2)) (n := 2) (by decide +kernel)) (by decide +kernel) <|
    z_iret (zd (i := .ireturn) (n := 1) (by decide +kernel)) rfl
noncomputable def b_X8_loan_6 : zBl := fun jp K => oNLC 3 2147483648 zneN zeqN zn1_ne zn1_eq (jp 8) (jp 7)
theorem s_X8_loan_6 (d : Nat) : zPb l G gh (d + 3) n_X8_loan p_X8_loan 43 b_X8_loan_6 := fun K jp hj =>
    z_nL0_ne (i := 3) (a1 := 1) (off := 16) (tgt := 60) (zLd_n (n := 3) (i := 3) (zd (i := .iload_n 3) (n := 1) (by decide +kernel)) rfl) (zd (i := .ifCond .ne (16)) (n := 3) (by decide +kernel)) (by decide +kernel) (zj (hj 8) (by decide +kernel)) (zj (hj 7) (by decide +kernel))
noncomputable def b_X8_loan_7 : zBl := fun jp K => oAld 0 <| oGetR 8 2 <| oGetR 4 5 <| oIld 4 <| oXald 10 <| jp 9
theorem s_X8_loan_7 (d : Nat) : zPb l G gh (d + 3) n_X8_loan p_X8_loan 47 b_X8_loan_7 := fun K jp hj =>
    z_aload_n (n := 0) (i := 0) (zd (i := .aload_n 0) (n := 1) (by decide +kernel)) rfl <|
    z_getR (ci := 8) (j := 2) (idx := 26) (zd (i := .getfield 26) (n := 3) (by decide +kernel)) (by decide +kernel) (by decide +kernel) rfl g454 <|
    z_getR (ci := 4) (j := 5) (idx := 169) (zd (i := .getfield 169) (n := 3) (by decide +kernel)) (by decide +kernel) (by decide +kernel) rfl g383 <|
    z_iload (i := 4) (zd (i := .iload 4) (n := 2) (by decide +kernel)) <|
    z_iald (zd (i := .iaload) (n := 1) (by decide +kernel)) <|
    z_goto (off := 13) (tgt := 70) (zd (i := .goto (13)) (n := 3) (by decide +kernel)) (by decide +kernel) (zj (hj 9) (by decide +kernel))
noncomputable def b_X8_loan_8 : zBl := fun jp K => oAld 0 <| oGetR 8 2 <| oGetR 4 6 <| oIld 4 <| oXald 10 <| jp 9
theorem s_X8_loan_8 (d : Nat) : zPb l G gh (d + 3) n_X8_loan p_X8_loan 60 b_X8_loan_8 := fun K jp hj =>
    z_aload_n (n := 0) (i := 0) (zd (i := .aload_n 0) (n := 1) (by decide +kernel)) rfl <|
    z_getR (ci := 8) (j := 2) (idx := 26) (zd (i := .getfield 26) (n := 3) (by decide +kernel)) (by decide +kernel) (by decide +kernel) rfl g454 <|
    z_getR (ci := 4) (j := 6) (idx := 172) (zd (i := .getfield 172) (n := 3) (by decide +kernel)) (by decide +kernel) (by decide +kernel) rfl g386 <|
    z_iload (i := 4) (zd (i := .iload 4) (n := 2) (by decide +kernel)) <|
    z_iald (zd (i := .iaload) (n := 1) (by decide +kernel)) <|
    (zj (hj 9) (by decide +kernel))
noncomputable def b_X8_loan_9 : zBl := fun jp K => oIret K
theorem s_X8_loan_9 (d : Nat) : zPb l G gh (d + 3) n_X8_loan p_X8_loan 70 b_X8_loan_9 := fun K jp hj =>
    z_iret (zd (i := .ireturn) (n := 1) (by decide +kernel)) rfl
noncomputable def t_X8_loan : List zBl := [b_X8_loan_0, b_X8_loan_1, b_X8_loan_2, b_X8_loan_3, b_X8_loan_4, b_X8_loan_5, b_X8_loan_6, b_X8_loan_7, b_X8_loan_8, b_X8_loan_9]
theorem tt_X8_loan (d : Nat) : zT (zPb l G gh (d + 3) n_X8_loan p_X8_loan) t_X8_loan p_X8_loan := ⟨s_X8_loan_0 d, s_X8_loan_1 d, s_X8_loan_2 d, s_X8_loan_3 d, s_X8_loan_4 d, s_X8_loan_5 d, s_X8_loan_6 d, s_X8_loan_7 d, s_X8_loan_8 d, s_X8_loan_9 d, trivial⟩
def q_X8_loan_0 : List (Nat × Nat) := [(0, zk0), (21, zk10), (26, zk11), (259, zk20)]
noncomputable def al_X8_loan_0 : zAq := [(some (.inl 8589934591), [(0, zk0), (21, zk10), (26, zk11), (259, zk20)])]
noncomputable def fm_X8_loan_0 : List zFm := [(0, [], (fun vs => [.inr (.ref 0), .inl 9223372043297226757, .inl 9223372043297226757, .inl 2147483648]), (fun vs => zP q_X8_loan_0), (fun vs => Nat.sub (Nat.add 0 0) 0))]
def bf_X8_loan_0 : List Nat := []
theorem r_X8_loan_0_0 : zbox [] (fun vs => zFrun (zpost (zAlq al_X8_loan_0)) 1000 t_X8_loan fm_X8_loan_0 bf_X8_loan_0 (0, vs)) = true := by decide +kernel
set_option maxRecDepth 100000 in
theorem x_X8_loan_0 (d : Nat) : zS l G gh (d + 3) (zpost (zAlq al_X8_loan_0)) n_X8_loan (zn 0 p_X8_loan 0) (zwc (0, [.inr (.ref 0), .inl 9223372043297226757, .inl 9223372043297226757, .inl 2147483648], zP q_X8_loan_0) 0) := zentry (tt_X8_loan d) fm_X8_loan_0 bf_X8_loan_0 1000 (by decide +kernel) rfl ⟨Nat.zero_lt_succ _, trivial⟩ (fun f hf => match f, hf with
  | 0, _ => fun vs hv => (zbox_t r_X8_loan_0_0) vs hv
  | f + 1, h => absurd (show f + 1 < 1 from h) (Nat.not_lt.mpr (Nat.le_add_left 1 f)))
noncomputable def gs_X8_loan_0 : zMt := zgq false [] 5 [.inr (.ref 0), .inl 9223372043297226757, .inl 9223372043297226757, .inl 2147483648] q_X8_loan_0 al_X8_loan_0
set_option maxRecDepth 100000 in
theorem cs_X8_loan_0 (d : Nat) : zC l G gh (d + 3) n_X8_loan gs_X8_loan_0 := zgq_ok0 (pcs := p_X8_loan) (by decide) rfl rfl (fun a ha => by simp only [al_X8_loan_0, List.mem_cons, List.not_mem_nil, or_false] at ha; rcases ha with rfl <;> decide +kernel) (fun gh => x_X8_loan_0 d) (by decide +kernel)
def q_X8_loan_1 : List (Nat × Nat) := [(0, zk0), (21, zk10), (26, zk11), (27, zk11), (259, zk20)]
noncomputable def al_X8_loan_1 : zAq := [(some (.inl 8589934591), [(0, zk0), (21, zk10), (26, zk11), (27, zk11), (259, zk20)])]
noncomputable def fm_X8_loan_1 : List zFm := [(0, [], (fun vs => [.inr (.ref 0), .inl 9223372043297226757, .inl 9223372043297226757, .inl 2147483649]), (fun vs => zP q_X8_loan_1), (fun vs => Nat.sub (Nat.add 0 0) 0))]
def bf_X8_loan_1 : List Nat := []
theorem r_X8_loan_1_0 : zbox [] (fun vs => zFrun (zpost (zAlq al_X8_loan_1)) 1000 t_X8_loan fm_X8_loan_1 bf_X8_loan_1 (0, vs)) = true := by decide +kernel
set_option maxRecDepth 100000 in
theorem x_X8_loan_1 (d : Nat) : zS l G gh (d + 3) (zpost (zAlq al_X8_loan_1)) n_X8_loan (zn 0 p_X8_loan 0) (zwc (0, [.inr (.ref 0), .inl 9223372043297226757, .inl 9223372043297226757, .inl 2147483649], zP q_X8_loan_1) 0) := zentry (tt_X8_loan d) fm_X8_loan_1 bf_X8_loan_1 1000 (by decide +kernel) rfl ⟨Nat.zero_lt_succ _, trivial⟩ (fun f hf => match f, hf with
  | 0, _ => fun vs hv => (zbox_t r_X8_loan_1_0) vs hv
  | f + 1, h => absurd (show f + 1 < 1 from h) (Nat.not_lt.mpr (Nat.le_add_left 1 f)))
noncomputable def gs_X8_loan_1 : zMt := zgq false [] 5 [.inr (.ref 0), .inl 9223372043297226757, .inl 9223372043297226757, .inl 2147483649] q_X8_loan_1 al_X8_loan_1
set_option maxRecDepth 100000 in
theorem cs_X8_loan_1 (d : Nat) : zC l G gh (d + 3) n_X8_loan gs_X8_loan_1 := zgq_ok0 (pcs := p_X8_loan) (by decide) rfl rfl (fun a ha => by simp only [al_X8_loan_1, List.mem_cons, List.not_mem_nil, or_false] at ha; rcases ha with rfl <;> decide +kernel) (fun gh => x_X8_loan_1 d) (by decide +kernel)
def q_X8_loan_2 : List (Nat × Nat) := [(0, zk0), (259, zk20)]
noncomputable def al_X8_loan_2 : zAq := [(some (.inl 2147483647), [(0, zk0), (259, zk20)])]
noncomputable def fm_X8_loan_2 : List zFm := [(0, [], (fun vs => [.inr (.ref 0), .inl 9223372043297226757, .inl 9223372043297226757, .inl 6442450943]), (fun vs => zP q_X8_loan_2), (fun vs => Nat.sub (Nat.add 0 0) 0))]
def bf_X8_loan_2 : List Nat := []
theorem r_X8_loan_2_0 : zbox [] (fun vs => zFrun (zpost (zAlq al_X8_loan_2)) 1000 t_X8_loan fm_X8_loan_2 bf_X8_loan_2 (0, vs)) = true := by decide +kernel
set_option maxRecDepth 100000 in
theorem x_X8_loan_2 (d : Nat) : zS l G gh (d + 3) (zpost (zAlq al_X8_loan_2)) n_X8_loan (zn 0 p_X8_loan 0) (zwc (0, [.inr (.ref 0), .inl 9223372043297226757, .inl 9223372043297226757, .inl 6442450943], zP q_X8_loan_2) 0) := zentry (tt_X8_loan d) fm_X8_loan_2 bf_X8_loan_2 1000 (by decide +kernel) rfl ⟨Nat.zero_lt_succ _, trivial⟩ (fun f hf => match f, hf with
  | 0, _ => fun vs hv => (zbox_t r_X8_loan_2_0) vs hv
  | f + 1, h => absurd (show f + 1 < 1 from h) (Nat.not_lt.mpr (Nat.le_add_left 1 f)))
noncomputable def gs_X8_loan_2 : zMt := zgq false [] 5 [.inr (.ref 0), .inl 9223372043297226757, .inl 9223372043297226757, .inl 6442450943] q_X8_loan_2 al_X8_loan_2
set_option maxRecDepth 100000 in
theorem cs_X8_loan_2 (d : Nat) : zC l G gh (d + 3) n_X8_loan gs_X8_loan_2 := zgq_ok0 (pcs := p_X8_loan) (by decide) rfl rfl (fun a ha => by simp only [al_X8_loan_2, List.mem_cons, List.not_mem_nil, or_false] at ha; rcases ha with rfl <;> decide +kernel) (fun gh => x_X8_loan_2 d) (by decide +kernel)
def q_X8_loan_3 : List (Nat × Nat) := [(0, zk0), (259, zk20)]
noncomputable def al_X8_loan_3 : zAq := [(some (.inl 2147483647), [(0, zk0), (259, zk20)])]
noncomputable def fm_X8_loan_3 : List zFm := [(0, [], (fun vs => [.inr (.ref 0), .inl 9223372043297226757, .inl 9223372043297226757, .inl 9223372054034644991]), (fun vs => zP q_X8_loan_3), (fun vs => Nat.sub (Nat.add 0 0) 0))]
def bf_X8_loan_3 : List Nat := []
theorem r_X8_loan_3_0 : zbox [] (fun vs => zFrun (zpost (zAlq al_X8_loan_3)) 1000 t_X8_loan fm_X8_loan_3 bf_X8_loan_3 (0, vs)) = true := by decide +kernel
set_option maxRecDepth 100000 in
theorem x_X8_loan_3 (d : Nat) : zS l G gh (d + 3) (zpost (zAlq al_X8_loan_3)) n_X8_loan (zn 0 p_X8_loan 0) (zwc (0, [.inr (.ref 0), .inl 9223372043297226757, .inl 9223372043297226757, .inl 9223372054034644991], zP q_X8_loan_3) 0) := zentry (tt_X8_loan d) fm_X8_loan_3 bf_X8_loan_3 1000 (by decide +kernel) rfl ⟨Nat.zero_lt_succ _, trivial⟩ (fun f hf => match f, hf with
  | 0, _ => fun vs hv => (zbox_t r_X8_loan_3_0) vs hv
  | f + 1, h => absurd (show f + 1 < 1 from h) (Nat.not_lt.mpr (Nat.le_add_left 1 f)))
noncomputable def gs_X8_loan_3 : zMt := zgq false [] 5 [.inr (.ref 0), .inl 9223372043297226757, .inl 9223372043297226757, .inl 9223372054034644991] q_X8_loan_3 al_X8_loan_3
set_option maxRecDepth 100000 in
theorem cs_X8_loan_3 (d : Nat) : zC l G gh (d + 3) n_X8_loan gs_X8_loan_3 := zgq_ok0 (pcs := p_X8_loan) (by decide) rfl rfl (fun a ha => by simp only [al_X8_loan_3, List.mem_cons, List.not_mem_nil, or_false] at ha; rcases ha with rfl <;> decide +kernel) (fun gh => x_X8_loan_3 d) (by decide +kernel)
def q_X8_loan_4 : List (Nat × Nat) := [(0, zk0), (259, zk20)]
noncomputable def al_X8_loan_4 : zAq := [(some (.inl 2147483647), [(0, zk0), (259, zk20)])]
noncomputable def fm_X8_loan_4 : List zFm := [(0, [], (fun vs => [.inr (.ref 0), .inl 9223372043297226757, .inl 6442450943, .inl 8589934591]), (fun vs => zP q_X8_loan_4), (fun vs => Nat.sub (Nat.add 0 0) 0))]
def bf_X8_loan_4 : List Nat := []
theorem r_X8_loan_4_0 : zbox [] (fun vs => zFrun (zpost (zAlq al_X8_loan_4)) 1000 t_X8_loan fm_X8_loan_4 bf_X8_loan_4 (0, vs)) = true := by decide +kernel
set_option maxRecDepth 100000 in
theorem x_X8_loan_4 (d : Nat) : zS l G gh (d + 3) (zpost (zAlq al_X8_loan_4)) n_X8_loan (zn 0 p_X8_loan 0) (zwc (0, [.inr (.ref 0), .inl 9223372043297226757, .inl 6442450943, .inl 8589934591], zP q_X8_loan_4) 0) := zentry (tt_X8_loan d) fm_X8_loan_4 bf_X8_loan_4 1000 (by decide +kernel) rfl ⟨Nat.zero_lt_succ _, trivial⟩ (fun f hf => match f, hf with
  | 0, _ => fun vs hv => (zbox_t r_X8_loan_4_0) vs hv
  | f + 1, h => absurd (show f + 1 < 1 from h) (Nat.not_lt.mpr (Nat.le_add_left 1 f)))
noncomputable def gs_X8_loan_4 : zMt := zgq false [] 5 [.inr (.ref 0), .inl 9223372043297226757, .inl 6442450943, .inl 8589934591] q_X8_loan_4 al_X8_loan_4
set_option maxRecDepth 100000 in
theorem cs_X8_loan_4 (d : Nat) : zC l G gh (d + 3) n_X8_loan gs_X8_loan_4 := zgq_ok0 (pcs := p_X8_loan) (by decide) rfl rfl (fun a ha => by simp only [al_X8_loan_4, List.mem_cons, List.not_mem_nil, or_false] at ha; rcases ha with rfl <;> decide +kernel) (fun gh => x_X8_loan_4 d) (by decide +kernel)
def q_X8_loan_5 : List (Nat × Nat) := [(0, zk0), (259, zk20)]
noncomputable def al_X8_loan_5 : zAq := [(some (.inl 2147483647), [(0, zk0), (259, zk20)])]
noncomputable def fm_X8_loan_5 : List zFm := [(0, [], (fun vs => [.inr (.ref 0), .inl 9223372043297226757, .inl 9223372071214514175, .inl 8589934591]), (fun vs => zP q_X8_loan_5), (fun vs => Nat.sub (Nat.add 0 0) 0))]
def bf_X8_loan_5 : List Nat := []
theorem r_X8_loan_5_0 : zbox [] (fun vs => zFrun (zpost (zAlq al_X8_loan_5)) 1000 t_X8_loan fm_X8_loan_5 bf_X8_loan_5 (0, vs)) = true := by decide +kernel
set_option maxRecDepth 100000 in
theorem x_X8_loan_5 (d : Nat) : zS l G gh (d + 3) (zpost (zAlq al_X8_loan_5)) n_X8_loan (zn 0 p_X8_loan 0) (zwc (0, [.inr (.ref 0), .inl 9223372043297226757, .inl 9223372071214514175, .inl 8589934591], zP q_X8_loan_5) 0) := zentry (tt_X8_loan d) fm_X8_loan_5 bf_X8_loan_5 1000 (by decide +kernel) rfl ⟨Nat.zero_lt_succ _, trivial⟩ (fun f hf => match f, hf with
  | 0, _ => fun vs hv => (zbox_t r_X8_loan_5_0) vs hv
  | f + 1, h => absurd (show f + 1 < 1 from h) (Nat.not_lt.mpr (Nat.le_add_left 1 f)))
noncomputable def gs_X8_loan_5 : zMt := zgq false [] 5 [.inr (.ref 0), .inl 9223372043297226757, .inl 9223372071214514175, .inl 8589934591] q_X8_loan_5 al_X8_loan_5
set_option maxRecDepth 100000 in
theorem cs_X8_loan_5 (d : Nat) : zC l G gh (d + 3) n_X8_loan gs_X8_loan_5 := zgq_ok0 (pcs := p_X8_loan) (by decide) rfl rfl (fun a ha => by simp only [al_X8_loan_5, List.mem_cons, List.not_mem_nil, or_false] at ha; rcases ha with rfl <;> decide +kernel) (fun gh => x_X8_loan_5 d) (by decide +kernel)
def q_X8_loan_6 : List (Nat × Nat) := [(0, zk0)]
noncomputable def al_X8_loan_6 : zAq := [(some (.inl 2147483647), [(0, zk0)])]
noncomputable def fm_X8_loan_6 : List zFm := [(0, [], (fun vs => [.inr (.ref 0), .inl 6442450943, .inl 8589934591, .inl 8589934591]), (fun vs => zP q_X8_loan_6), (fun vs => Nat.sub (Nat.add 0 0) 0))]
def bf_X8_loan_6 : List Nat := []
theorem r_X8_loan_6_0 : zbox [] (fun vs => zFrun (zpost (zAlq al_X8_loan_6)) 1000 t_X8_loan fm_X8_loan_6 bf_X8_loan_6 (0, vs)) = true := by decide +kernel
set_option maxRecDepth 100000 in
theorem x_X8_loan_6 (d : Nat) : zS l G gh (d + 3) (zpost (zAlq al_X8_loan_6)) n_X8_loan (zn 0 p_X8_loan 0) (zwc (0, [.inr (.ref 0), .inl 6442450943, .inl 8589934591, .inl 8589934591], zP q_X8_loan_6) 0) := zentry (tt_X8_loan d) fm_X8_loan_6 bf_X8_loan_6 1000 (by decide +kernel) rfl ⟨Nat.zero_lt_succ _, trivial⟩ (fun f hf => match f, hf with
  | 0, _ => fun vs hv => (zbox_t r_X8_loan_6_0) vs hv
  | f + 1, h => absurd (show f + 1 < 1 from h) (Nat.not_lt.mpr (Nat.le_add_left 1 f)))
noncomputable def gs_X8_loan_6 : zMt := zgq false [] 5 [.inr (.ref 0), .inl 6442450943, .inl 8589934591, .inl 8589934591] q_X8_loan_6 al_X8_loan_6
set_option maxRecDepth 100000 in
theorem cs_X8_loan_6 (d : Nat) : zC l G gh (d + 3) n_X8_loan gs_X8_loan_6 := zgq_ok0 (pcs := p_X8_loan) (by decide) rfl rfl (fun a ha => by simp only [al_X8_loan_6, List.mem_cons, List.not_mem_nil, or_false] at ha; rcases ha with rfl <;> decide +kernel) (fun gh => x_X8_loan_6 d) (by decide +kernel)
def q_X8_loan_7 : List (Nat × Nat) := [(0, zk0), (259, zk20)]
noncomputable def al_X8_loan_7 : zAq := [(some (.inl 2147483647), [(0, zk0), (259, zk20)])]
noncomputable def fm_X8_loan_7 : List zFm := [(0, [], (fun vs => [.inr (.ref 0), .inl 9223372071214514175, .inl 8589934591, .inl 8589934591]), (fun vs => zP q_X8_loan_7), (fun vs => Nat.sub (Nat.add 0 0) 0))]
def bf_X8_loan_7 : List Nat := []
theorem r_X8_loan_7_0 : zbox [] (fun vs => zFrun (zpost (zAlq al_X8_loan_7)) 1000 t_X8_loan fm_X8_loan_7 bf_X8_loan_7 (0, vs)) = true := by decide +kernel
set_option maxRecDepth 100000 in
theorem x_X8_loan_7 (d : Nat) : zS l G gh (d + 3) (zpost (zAlq al_X8_loan_7)) n_X8_loan (zn 0 p_X8_loan 0) (zwc (0, [.inr (.ref 0), .inl 9223372071214514175, .inl 8589934591, .inl 8589934591], zP q_X8_loan_7) 0) := zentry (tt_X8_loan d) fm_X8_loan_7 bf_X8_loan_7 1000 (by decide +kernel) rfl ⟨Nat.zero_lt_succ _, trivial⟩ (fun f hf => match f, hf with
  | 0, _ => fun vs hv => (zbox_t r_X8_loan_7_0) vs hv
  | f + 1, h => absurd (show f + 1 < 1 from h) (Nat.not_lt.mpr (Nat.le_add_left 1 f)))
noncomputable def gs_X8_loan_7 : zMt := zgq false [] 5 [.inr (.ref 0), .inl 9223372071214514175, .inl 8589934591, .inl 8589934591] q_X8_loan_7 al_X8_loan_7
set_option maxRecDepth 100000 in
theorem cs_X8_loan_7 (d : Nat) : zC l G gh (d + 3) n_X8_loan gs_X8_loan_7 := zgq_ok0 (pcs := p_X8_loan) (by decide) rfl rfl (fun a ha => by simp only [al_X8_loan_7, List.mem_cons, List.not_mem_nil, or_false] at ha; rcases ha with rfl <;> decide +kernel) (fun gh => x_X8_loan_7 d) (by decide +kernel)
def q_X8_loan_8 : List (Nat × Nat) := [(0, zk1), (9, zk21), (21, zk10), (26, zk11)]
noncomputable def al_X8_loan_8 : zAq := [(some (.inl 8589934591), [(0, zk1), (9, zk21), (21, zk10), (26, zk11)])]
noncomputable def fm_X8_loan_8 : List zFm := [(0, [], (fun vs => [.inr (.ref 0), .inl 9223372043297226757, .inl 9223372043297226757, .inl 2147483648]), (fun vs => zP q_X8_loan_8), (fun vs => Nat.sub (Nat.add 0 0) 0))]
def bf_X8_loan_8 : List Nat := []
theorem r_X8_loan_8_0 : zbox [] (fun vs => zFrun (zpost (zAlq al_X8_loan_8)) 1000 t_X8_loan fm_X8_loan_8 bf_X8_loan_8 (0, vs)) = true := by decide +kernel
set_option maxRecDepth 100000 in
theorem x_X8_loan_8 (d : Nat) : zS l G gh (d + 3) (zpost (zAlq al_X8_loan_8)) n_X8_loan (zn 0 p_X8_loan 0) (zwc (0, [.inr (.ref 0), .inl 9223372043297226757, .inl 9223372043297226757, .inl 2147483648], zP q_X8_loan_8) 0) := zentry (tt_X8_loan d) fm_X8_loan_8 bf_X8_loan_8 1000 (by decide +kernel) rfl ⟨Nat.zero_lt_succ _, trivial⟩ (fun f hf => match f, hf with
  | 0, _ => fun vs hv => (zbox_t r_X8_loan_8_0) vs hv
  | f + 1, h => absurd (show f + 1 < 1 from h) (Nat.not_lt.mpr (Nat.le_add_left 1 f)))
noncomputable def gs_X8_loan_8 : zMt := zgq false [] 5 [.inr (.ref 0), .inl 9223372043297226757, .inl 9223372043297226757, .inl 2147483648] q_X8_loan_8 al_X8_loan_8
set_option maxRecDepth 100000 in
theorem cs_X8_loan_8 (d : Nat) : zC l G gh (d + 3) n_X8_loan gs_X8_loan_8 := zgq_ok0 (pcs := p_X8_loan) (by decide) rfl rfl (fun a ha => by simp only [al_X8_loan_8, List.mem_cons, List.not_mem_nil, or_false] at ha; rcases ha with rfl <;> decide +kernel) (fun gh => x_X8_loan_8 d) (by decide +kernel)
def q_X8_loan_9 : List (Nat × Nat) := [(0, zk1), (9, zk21), (21, zk10), (26, zk11), (27, zk11)]
noncomputable def al_X8_loan_9 : zAq := [(some (.inl 8589934591), [(0, zk1), (9, zk21), (21, zk10), (26, zk11), (27, zk11)])]
noncomputable def fm_X8_loan_9 : List zFm := [(0, [], (fun vs => [.inr (.ref 0), .inl 9223372043297226757, .inl 9223372043297226757, .inl 2147483649]), (fun vs => zP q_X8_loan_9), (fun vs => Nat.sub (Nat.add 0 0) 0))]
def bf_X8_loan_9 : List Nat := []
theorem r_X8_loan_9_0 : zbox [] (fun vs => zFrun (zpost (zAlq al_X8_loan_9)) 1000 t_X8_loan fm_X8_loan_9 bf_X8_loan_9 (0, vs)) = true := by decide +kernel
set_option maxRecDepth 100000 in
theorem x_X8_loan_9 (d : Nat) : zS l G gh (d + 3) (zpost (zAlq al_X8_loan_9)) n_X8_loan (zn 0 p_X8_loan 0) (zwc (0, [.inr (.ref 0), .inl 9223372043297226757, .inl 9223372043297226757, .inl 2147483649], zP q_X8_loan_9) 0) := zentry (tt_X8_loan d) fm_X8_loan_9 bf_X8_loan_9 1000 (by decide +kernel) rfl ⟨Nat.zero_lt_succ _, trivial⟩ (fun f hf => match f, hf with
  | 0, _ => fun vs hv => (zbox_t r_X8_loan_9_0) vs hv
  | f + 1, h => absurd (show f + 1 < 1 from h) (Nat.not_lt.mpr (Nat.le_add_left 1 f)))
noncomputable def gs_X8_loan_9 : zMt := zgq false [] 5 [.inr (.ref 0), .inl 9223372043297226757, .inl 9223372043297226757, .inl 2147483649] q_X8_loan_9 al_X8_loan_9
set_option maxRecDepth 100000 in
theorem cs_X8_loan_9 (d : Nat) : zC l G gh (d + 3) n_X8_loan gs_X8_loan_9 := zgq_ok0 (pcs := p_X8_loan) (by decide) rfl rfl (fun a ha => by simp only [al_X8_loan_9, List.mem_cons, List.not_mem_nil, or_false] at ha; rcases ha with rfl <;> decide +kernel) (fun gh => x_X8_loan_9 d) (by decide +kernel)
def q_X8_loan_10 : List (Nat × Nat) := [(0, zk1), (9, zk21)]
noncomputable def al_X8_loan_10 : zAq := [(some (.inl 2147483647), [(0, zk1), (9, zk21)])]
noncomputable def fm_X8_loan_10 : List zFm := [(0, [], (fun vs => [.inr (.ref 0), .inl 9223372043297226757, .inl 9223372043297226757, .inl 6442450943]), (fun vs => zP q_X8_loan_10), (fun vs => Nat.sub (Nat.add 0 0) 0))]
def bf_X8_loan_10 : List Nat := []
theorem r_X8_loan_10_0 : zbox [] (fun vs => zFrun (zpost (zAlq al_X8_loan_10)) 1000 t_X8_loan fm_X8_loan_10 bf_X8_loan_10 (0, vs)) = true := by decide +kernel
set_option maxRecDepth 100000 in
theorem x_X8_loan_10 (d : Nat) : zS l G gh (d + 3) (zpost (zAlq al_X8_loan_10)) n_X8_loan (zn 0 p_X8_loan 0) (zwc (0, [.inr (.ref 0), .inl 9223372043297226757, .inl 9223372043297226757, .inl 6442450943], zP q_X8_loan_10) 0) := zentry (tt_X8_loan d) fm_X8_loan_10 bf_X8_loan_10 1000 (by decide +kernel) rfl ⟨Nat.zero_lt_succ _, trivial⟩ (fun f hf => match f, hf with
  | 0, _ => fun vs hv => (zbox_t r_X8_loan_10_0) vs hv
  | f + 1, h => absurd (show f + 1 < 1 from h) (Nat.not_lt.mpr (Nat.le_add_left 1 f)))
noncomputable def gs_X8_loan_10 : zMt := zgq false [] 5 [.inr (.ref 0), .inl 9223372043297226757, .inl 9223372043297226757, .inl 6442450943] q_X8_loan_10 al_X8_loan_10
set_option maxRecDepth 100000 in
theorem cs_X8_loan_10 (d : Nat) : zC l G gh (d + 3) n_X8_loan gs_X8_loan_10 := zgq_ok0 (pcs := p_X8_loan) (by decide) rfl rfl (fun a ha => by simp only [al_X8_loan_10, List.mem_cons, List.not_mem_nil, or_false] at ha; rcases ha with rfl <;> decide +kernel) (fun gh => x_X8_loan_10 d) (by decide +kernel)
def q_X8_loan_11 : List (Nat × Nat) := [(0, zk1), (9, zk21)]
noncomputable def al_X8_loan_11 : zAq := [(some (.inl 2147483647), [(0, zk1), (9, zk21)])]
noncomputable def fm_X8_loan_11 : List zFm := [(0, [], (fun vs => [.inr (.ref 0), .inl 9223372043297226757, .inl 9223372043297226757, .inl 9223372054034644991]), (fun vs => zP q_X8_loan_11), (fun vs => Nat.sub (Nat.add 0 0) 0))]
def bf_X8_loan_11 : List Nat := []
theorem r_X8_loan_11_0 : zbox [] (fun vs => zFrun (zpost (zAlq al_X8_loan_11)) 1000 t_X8_loan fm_X8_loan_11 bf_X8_loan_11 (0, vs)) = true := by decide +kernel
set_option maxRecDepth 100000 in
theorem x_X8_loan_11 (d : Nat) : zS l G gh (d + 3) (zpost (zAlq al_X8_loan_11)) n_X8_loan (zn 0 p_X8_loan 0) (zwc (0, [.inr (.ref 0), .inl 9223372043297226757, .inl 9223372043297226757, .inl 9223372054034644991], zP q_X8_loan_11) 0) := zentry (tt_X8_loan d) fm_X8_loan_11 bf_X8_loan_11 1000 (by decide +kernel) rfl ⟨Nat.zero_lt_succ _, trivial⟩ (fun f hf => match f, hf with
  | 0, _ => fun vs hv => (zbox_t r_X8_loan_11_0) vs hv
  | f + 1, h => absurd (show f + 1 < 1 from h) (Nat.not_lt.mpr (Nat.le_add_left 1 f)))
noncomputable def gs_X8_loan_11 : zMt := zgq false [] 5 [.inr (.ref 0), .inl 9223372043297226757, .inl 9223372043297226757, .inl 9223372054034644991] q_X8_loan_11 al_X8_loan_11
set_option maxRecDepth 100000 in
theorem cs_X8_loan_11 (d : Nat) : zC l G gh (d + 3) n_X8_loan gs_X8_loan_11 := zgq_ok0 (pcs := p_X8_loan) (by decide) rfl rfl (fun a ha => by simp only [al_X8_loan_11, List.mem_cons, List.not_mem_nil, or_false] at ha; rcases ha with rfl <;> decide +kernel) (fun gh => x_X8_loan_11 d) (by decide +kernel)
def q_X8_loan_12 : List (Nat × Nat) := [(0, zk1), (9, zk21)]
noncomputable def al_X8_loan_12 : zAq := [(some (.inl 2147483647), [(0, zk1), (9, zk21)])]
noncomputable def fm_X8_loan_12 : List zFm := [(0, [], (fun vs => [.inr (.ref 0), .inl 9223372043297226757, .inl 6442450943, .inl 8589934591]), (fun vs => zP q_X8_loan_12), (fun vs => Nat.sub (Nat.add 0 0) 0))]
def bf_X8_loan_12 : List Nat := []
theorem r_X8_loan_12_0 : zbox [] (fun vs => zFrun (zpost (zAlq al_X8_loan_12)) 1000 t_X8_loan fm_X8_loan_12 bf_X8_loan_12 (0, vs)) = true := by decide +kernel
set_option maxRecDepth 100000 in
theorem x_X8_loan_12 (d : Nat) : zS l G gh (d + 3) (zpost (zAlq al_X8_loan_12)) n_X8_loan (zn 0 p_X8_loan 0) (zwc (0, [.inr (.ref 0), .inl 9223372043297226757, .inl 6442450943, .inl 8589934591], zP q_X8_loan_12) 0) := zentry (tt_X8_loan d) fm_X8_loan_12 bf_X8_loan_12 1000 (by decide +kernel) rfl ⟨Nat.zero_lt_succ _, trivial⟩ (fun f hf => match f, hf with
  | 0, _ => fun vs hv => (zbox_t r_X8_loan_12_0) vs hv
  | f + 1, h => absurd (show f + 1 < 1 from h) (Nat.not_lt.mpr (Nat.le_add_left 1 f)))
noncomputable def gs_X8_loan_12 : zMt := zgq false [] 5 [.inr (.ref 0), .inl 9223372043297226757, .inl 6442450943, .inl 8589934591] q_X8_loan_12 al_X8_loan_12
set_option maxRecDepth 100000 in
theorem cs_X8_loan_12 (d : Nat) : zC l G gh (d + 3) n_X8_loan gs_X8_loan_12 := zgq_ok0 (pcs := p_X8_loan) (by decide) rfl rfl (fun a ha => by simp only [al_X8_loan_12, List.mem_cons, List.not_mem_nil, or_false] at ha; rcases ha with rfl <;> decide +kernel) (fun gh => x_X8_loan_12 d) (by decide +kernel)
def q_X8_loan_13 : List (Nat × Nat) := [(0, zk1), (9, zk21)]
noncomputable def al_X8_loan_13 : zAq := [(some (.inl 2147483647), [(0, zk1), (9, zk21)])]
noncomputable def fm_X8_loan_13 : List zFm := [(0, [], (fun vs => [.inr (.ref 0), .inl 9223372043297226757, .inl 9223372071214514175, .inl 8589934591]), (fun vs => zP q_X8_loan_13), (fun vs => Nat.sub (Nat.add 0 0) 0))]
def bf_X8_loan_13 : List Nat := []
theorem r_X8_loan_13_0 : zbox [] (fun vs => zFrun (zpost (zAlq al_X8_loan_13)) 1000 t_X8_loan fm_X8_loan_13 bf_X8_loan_13 (0, vs)) = true := by decide +kernel
set_option maxRecDepth 100000 in
theorem x_X8_loan_13 (d : Nat) : zS l G gh (d + 3) (zpost (zAlq al_X8_loan_13)) n_X8_loan (zn 0 p_X8_loan 0) (zwc (0, [.inr (.ref 0), .inl 9223372043297226757, .inl 9223372071214514175, .inl 8589934591], zP q_X8_loan_13) 0) := zentry (tt_X8_loan d) fm_X8_loan_13 bf_X8_loan_13 1000 (by decide +kernel) rfl ⟨Nat.zero_lt_succ _, trivial⟩ (fun f hf => match f, hf with
  | 0, _ => fun vs hv => (zbox_t r_X8_loan_13_0) vs hv
  | f + 1, h => absurd (show f + 1 < 1 from h) (Nat.not_lt.mpr (Nat.le_add_left 1 f)))
noncomputable def gs_X8_loan_13 : zMt := zgq false [] 5 [.inr (.ref 0), .inl 9223372043297226757, .inl 9223372071214514175, .inl 8589934591] q_X8_loan_13 al_X8_loan_13
set_option maxRecDepth 100000 in
theorem cs_X8_loan_13 (d : Nat) : zC l G gh (d + 3) n_X8_loan gs_X8_loan_13 := zgq_ok0 (pcs := p_X8_loan) (by decide) rfl rfl (fun a ha => by simp only [al_X8_loan_13, List.mem_cons, List.not_mem_nil, or_false] at ha; rcases ha with rfl <;> decide +kernel) (fun gh => x_X8_loan_13 d) (by decide +kernel)
def q_X8_loan_14 : List (Nat × Nat) := [(0, zk1)]
noncomputable def al_X8_loan_14 : zAq := [(some (.inl 2147483647), [(0, zk1)])]
noncomputable def fm_X8_loan_14 : List zFm := [(0, [], (fun vs => [.inr (.ref 0), .inl 6442450943, .inl 8589934591, .inl 8589934591]), (fun vs => zP q_X8_loan_14), (fun vs => Nat.sub (Nat.add 0 0) 0))]
def bf_X8_loan_14 : List Nat := []
theorem r_X8_loan_14_0 : zbox [] (fun vs => zFrun (zpost (zAlq al_X8_loan_14)) 1000 t_X8_loan fm_X8_loan_14 bf_X8_loan_14 (0, vs)) = true := by decide +kernel
set_option maxRecDepth 100000 in
theorem x_X8_loan_14 (d : Nat) : zS l G gh (d + 3) (zpost (zAlq al_X8_loan_14)) n_X8_loan (zn 0 p_X8_loan 0) (zwc (0, [.inr (.ref 0), .inl 6442450943, .inl 8589934591, .inl 8589934591], zP q_X8_loan_14) 0) := zentry (tt_X8_loan d) fm_X8_loan_14 bf_X8_loan_14 1000 (by decide +kernel) rfl ⟨Nat.zero_lt_succ _, trivial⟩ (fun f hf => match f, hf with
  | 0, _ => fun vs hv => (zbox_t r_X8_loan_14_0) vs hv
  | f + 1, h => absurd (show f + 1 < 1 from h) (Nat.not_lt.mpr (Nat.le_add_left 1 f)))
noncomputable def gs_X8_loan_14 : zMt := zgq false [] 5 [.inr (.ref 0), .inl 6442450943, .inl 8589934591, .inl 8589934591] q_X8_loan_14 al_X8_loan_14
set_option maxRecDepth 100000 in
theorem cs_X8_loan_14 (d : Nat) : zC l G gh (d + 3) n_X8_loan gs_X8_loan_14 := zgq_ok0 (pcs := p_X8_loan) (by decide) rfl rfl (fun a ha => by simp only [al_X8_loan_14, List.mem_cons, List.not_mem_nil, or_false] at ha; rcases ha with rfl <;> decide +kernel) (fun gh => x_X8_loan_14 d) (by decide +kernel)
def q_X8_loan_15 : List (Nat × Nat) := [(0, zk1), (9, zk21)]
noncomputable def al_X8_loan_15 : zAq := [(some (.inl 2147483647), [(0, zk1), (9, zk21)])]
noncomputable def fm_X8_loan_15 : List zFm := [(0, [], (fun vs => [.inr (.ref 0), .inl 9223372071214514175, .inl 8589934591, .inl 8589934591]), (fun vs => zP q_X8_loan_15), (fun vs => Nat.sub (Nat.add 0 0) 0))]
def bf_X8_loan_15 : List Nat := []
theorem r_X8_loan_15_0 : zbox [] (fun vs => zFrun (zpost (zAlq al_X8_loan_15)) 1000 t_X8_loan fm_X8_loan_15 bf_X8_loan_15 (0, vs)) = true := by decide +kernel
set_option maxRecDepth 100000 in
theorem x_X8_loan_15 (d : Nat) : zS l G gh (d + 3) (zpost (zAlq al_X8_loan_15)) n_X8_loan (zn 0 p_X8_loan 0) (zwc (0, [.inr (.ref 0), .inl 9223372071214514175, .inl 8589934591, .inl 8589934591], zP q_X8_loan_15) 0) := zentry (tt_X8_loan d) fm_X8_loan_15 bf_X8_loan_15 1000 (by decide +kernel) rfl ⟨Nat.zero_lt_succ _, trivial⟩ (fun f hf => match f, hf with
  | 0, _ => fun vs hv => (zbox_t r_X8_loan_15_0) vs hv
  | f + 1, h => absurd (show f + 1 < 1 from h) (Nat.not_lt.mpr (Nat.le_add_left 1 f)))
noncomputable def gs_X8_loan_15 : zMt := zgq false [] 5 [.inr (.ref 0), .inl 9223372071214514175, .inl 8589934591, .inl 8589934591] q_X8_loan_15 al_X8_loan_15
set_option maxRecDepth 100000 in
theorem cs_X8_loan_15 (d : Nat) : zC l G gh (d + 3) n_X8_loan gs_X8_loan_15 := zgq_ok0 (pcs := p_X8_loan) (by decide) rfl rfl (fun a ha => by simp only [al_X8_loan_15, List.mem_cons, List.not_mem_nil, or_false] at ha; rcases ha with rfl <;> decide +kernel) (fun gh => x_X8_loan_15 d) (by decide +kernel)
noncomputable def gs_X8_loan : zMt := (zor gs_X8_loan_0 (zor gs_X8_loan_1 (zor gs_X8_loan_2 (zor gs_X8_loan_3 (zor gs_X8_loan_4 (zor gs_X8_loan_5 (zor gs_X8_loan_6 (zor gs_X8_loan_7 (zor gs_X8_loan_8 (zor gs_X8_loan_9 (zor gs_X8_loan_10 (zor gs_X8_loan_11 (zor gs_X8_loan_12 (zor gs_X8_loan_13 (zor gs_X8_loan_14 gs_X8_loan_15)))))))))))))))
theorem cs_X8_loan (d : Nat) : zC l G gh (d + 3) n_X8_loan gs_X8_loan := (zor_ok (cs_X8_loan_0 d) (zor_ok (cs_X8_loan_1 d) (zor_ok (cs_X8_loan_2 d) (zor_ok (cs_X8_loan_3 d) (zor_ok (cs_X8_loan_4 d) (zor_ok (cs_X8_loan_5 d) (zor_ok (cs_X8_loan_6 d) (zor_ok (cs_X8_loan_7 d) (zor_ok (cs_X8_loan_8 d) (zor_ok (cs_X8_loan_9 d) (zor_ok (cs_X8_loan_10 d) (zor_ok (cs_X8_loan_11 d) (zor_ok (cs_X8_loan_12 d) (zor_ok (cs_X8_loan_13 d) (zor_ok (cs_X8_loan_14 d) (cs_X8_loan_15 d))))))))))))))))
def p_X2_moved : List Nat := [0]
noncomputable def b_X2_moved_0 : zBl := fun jp K => oInt 2147483639 <| oAld 0 <| oInt 2147483650 <| oCv 2 1 gs_X2_reckon <| oInt 2147483657 <| oCs 3 f_X8_within <| oIret K
theorem s_X2_moved_0 (d : Nat) : zPb l G gh (d + 3) n_X2_moved p_X2_moved 0 b_X2_moved_0 := fun K jp hj =>
    z_bipush (n := -9) (zd (i := .bipush (-9)) (n := 2) (by decide +kernel)) (by decide +kernel) <|
    z_aload_n (n := 0) (i := 0) (zd (i := .aload_n 0) (n := 1) (by decide +kernel)) rfl <|
    z_iconst (n := 2) (zd (i := .iconst (2)) (n := 1) (by decide +kernel)) (by decide +kernel) <|
    z_callV (idx := 46) (ci := 2) (N := n_X2_reckon) (zd (i := .invokevirtual 46) (n := 3) (by decide +kernel)) to_X2_reckon g728 g730 g20 (by decide +kernel) rfl rfl rfl (cs_X2_reckon (l := l) (G := G) (gh := gh) (d)) <|
    z_bipush (n := 9) (zd (i := .bipush (9)) (n := 2) (by decide +kernel)) (by decide +kernel) <|
    z_callSN (idx := 50) (N := n_X8_within) (host := "MirageLoans") (zd (i := .invokestatic 50) (n := 3) (by decide +kernel)) to_X8_within (by decide +kernel) g741 rfl rfl (c_X8_within (l := l) (G := G) (gh := gh) (d + 1)) <|
    z_iret (zd (i := .ireturn) (n := 1) (by decide +kernel)) rfl
noncomputable def t_X2_moved : List zBl := [b_X2_moved_0]
theorem tt_X2_moved (d : Nat) : zT (zPb l G gh (d + 3) n_X2_moved p_X2_moved) t_X2_moved p_X2_moved := ⟨s_X2_moved_0 d, trivial⟩
noncomputable def f_X2_moved : zMt := zmet 1 t_X2_moved
theorem c_X2_moved (d : Nat) : zC l G gh (d + 3) n_X2_moved f_X2_moved := zmet_ok (pcs := p_X2_moved) (by decide) rfl rfl (tt_X2_moved d)
def p_X2_rent : List Nat := [0]
noncomputable def b_X2_rent_0 : zBl := fun jp K => oAld 0 <| oGetR 2 4 <| oInt 2147483654 <| oIld 1 <| oXast 10 zid <| oInt 2147483648 <| oAld 0 <| oInt 2147483651 <| oCv 2 1 gs_X2_reckon <| oInt 2147483747 <| oCs 3 f_X8_within <| oIret K
theorem s_X2_rent_0 (d : Nat) : zPb l G gh (d + 3) n_X2_rent p_X2_rent 0 b_X2_rent_0 := fun K jp hj =>
    z_aload_n (n := 0) (i := 0) (zd (i := .aload_n 0) (n := 1) (by decide +kernel)) rfl <|
    z_getR (ci := 2) (j := 4) (idx := 25) (zd (i := .getfield 25) (n := 3) (by decide +kernel)) (by decide +kernel) (by decide +kernel) rfl g241 <|
    z_bipush (n := 6) (zd (i := .bipush (6)) (n := 2) (by decide +kernel)) (by decide +kernel) <|
    z_iload_n (n := 1) (i := 1) (zd (i := .iload_n 1) (n := 1) (by decide +kernel)) rfl <|
    z_iast (zd (i := .iastore) (n := 1) (by decide +kernel)) <|
    z_iconst (n := 0) (zd (i := .iconst (0)) (n := 1) (by decide +kernel)) (by decide +kernel) <|
    z_aload_n (n := 0) (i := 0) (zd (i := .aload_n 0) (n := 1) (by decide +kernel)) rfl <|
    z_iconst (n := 3) (zd (i := .iconst (3)) (n := 1) (by decide +kernel)) (by decide +kernel) <|
    z_callV (idx := 46) (ci := 2) (N := n_X2_reckon) (zd (i := .invokevirtual 46) (n := 3) (by decide +kernel)) to_X2_reckon g728 g730 g20 (by decide +kernel) rfl rfl rfl (cs_X2_reckon (l := l) (G := G) (gh := gh) (d)) <|
    z_bipush (n := 99) (zd (i := .bipush (99)) (n := 2) (by decide +kernel)) (by decide +kernel) <|
    z_callSN (idx := 50) (N := n_X8_within) (host := "MirageLoans") (zd (i := .invokestatic 50) (n := 3) (by decide +kernel)) to_X8_within (by decide +kernel) g741 rfl rfl (c_X8_within (l := l) (G := G) (gh := gh) (d + 1)) <|
    z_iret (zd (i := .ireturn) (n := 1) (by decide +kernel)) rfl
noncomputable def t_X2_rent : List zBl := [b_X2_rent_0]
theorem tt_X2_rent (d : Nat) : zT (zPb l G gh (d + 3) n_X2_rent p_X2_rent) t_X2_rent p_X2_rent := ⟨s_X2_rent_0 d, trivial⟩
noncomputable def f_X2_rent : zMt := zmet 2 t_X2_rent
theorem c_X2_rent (d : Nat) : zC l G gh (d + 3) n_X2_rent f_X2_rent := zmet_ok (pcs := p_X2_rent) (by decide) rfl rfl (tt_X2_rent d)
def p_X2_interest : List Nat := [0]
noncomputable def b_X2_interest_0 : zBl := fun jp K => oAld 0 <| oIld 1 <| oCv 2 1 gs_X2_clearVars <| oAld 0 <| oGetR 2 4 <| oInt 2147483650 <| oIld 2 <| oXast 10 zid <| oAld 0 <| oGetR 2 4 <| oInt 2147483654 <| oIld 3 <| oXast 10 zid <| oInt 2147483648 <| oAld 0 <| oInt 2147483652 <| oCv 2 1 gs_X2_reckon <| oInt 2147483747 <| oCs 3 f_X8_within <| oIret K
theorem s_X2_interest_0 (d : Nat) : zPb l G gh (d + 3) n_X2_interest p_X2_interest 0 b_X2_interest_0 := fun K jp hj =>
    z_aload_n (n := 0) (i := 0) (zd (i := .aload_n 0) (n := 1) (by decide +kernel)) rfl <|
    z_iload_n (n := 1) (i := 1) (zd (i := .iload_n 1) (n := 1) (by decide +kernel)) rfl <|
    z_callV (idx := 43) (ci := 2) (N := n_X2_clearVars) (zd (i := .invokevirtual 43) (n := 3) (by decide +kernel)) to_X2_clearVars g724 g726 g19 (by decide +kernel) rfl rfl rfl (cs_X2_clearVars (l := l) (G := G) (gh := gh) (d + 1)) <|
    z_aload_n (n := 0) (i := 0) (zd (i := .aload_n 0) (n := 1) (by decide +kernel)) rfl <|
    z_getR (ci := 2) (j := 4) (idx := 25) (zd (i := .getfield 25) (n := 3) (by decide +kernel)) (by decide +kernel) (by decide +kernel) rfl g241 <|
    z_iconst (n := 2) (zd (i := .iconst (2)) (n := 1) (by decide +kernel)) (by decide +kernel) <|
    z_iload_n (n := 2) (i := 2) (zd (i := .iload_n 2) (n := 1) (by decide +kernel)) rfl <|
    z_iast (zd (i := .iastore) (n := 1) (by decide +kernel)) <|
    z_aload_n (n := 0) (i := 0) (zd (i := .aload_n 0) (n := 1) (by decide +kernel)) rfl <|
    z_getR (ci := 2) (j := 4) (idx := 25) (zd (i := .getfield 25) (n := 3) (by decide +kernel)) (by decide +kernel) (by decide +kernel) rfl g241 <|
    z_bipush (n := 6) (zd (i := .bipush (6)) (n := 2) (by decide +kernel)) (by decide +kernel) <|
    z_iload_n (n := 3) (i := 3) (zd (i := .iload_n 3) (n := 1) (by decide +kernel)) rfl <|
    z_iast (zd (i := .iastore) (n := 1) (by decide +kernel)) <|
    z_iconst (n := 0) (zd (i := .iconst (0)) (n := 1) (by decide +kernel)) (by decide +kernel) <|
    z_aload_n (n := 0) (i := 0) (zd (i := .aload_n 0) (n := 1) (by decide +kernel)) rfl <|
    z_iconst (n := 4) (zd (i := .iconst (4)) (n := 1) (by decide +kernel)) (by decide +kernel) <|
    z_callV (idx := 46) (ci := 2) (N := n_X2_reckon) (zd (i := .invokevirtual 46) (n := 3) (by decide +kernel)) to_X2_reckon g728 g730 g20 (by decide +kernel) rfl rfl rfl (cs_X2_reckon (l := l) (G := G) (gh := gh) (d)) <|
    z_bipush (n := 99) (zd (i := .bipush (99)) (n := 2) (by decide +kernel)) (by decide +kernel) <|
    z_callSN (idx := 50) (N := n_X8_within) (host := "MirageLoans") (zd (i := .invokestatic 50) (n := 3) (by decide +kernel)) to_X8_within (by decide +kernel) g741 rfl rfl (c_X8_within (l := l) (G := G) (gh := gh) (d + 1)) <|
    z_iret (zd (i := .ireturn) (n := 1) (by decide +kernel)) rfl
noncomputable def t_X2_interest : List zBl := [b_X2_interest_0]
theorem tt_X2_interest (d : Nat) : zT (zPb l G gh (d + 3) n_X2_interest p_X2_interest) t_X2_interest p_X2_interest := ⟨s_X2_interest_0 d, trivial⟩
noncomputable def f_X2_interest : zMt := zmet 4 t_X2_interest
theorem c_X2_interest (d : Nat) : zC l G gh (d + 3) n_X2_interest f_X2_interest := zmet_ok (pcs := p_X2_interest) (by decide) rfl rfl (tt_X2_interest d)
def p_X8_move : List Nat := [0, 8, 15, 28, 30]
noncomputable def b_X8_move_0 : zBl := fun jp K => oAld 0 <| oIld 1 <| oCv 8 1 f_X8_isSeat <| oIf zeq zne (jp 3) (jp 1)
theorem s_X8_move_0 (d : Nat) : zPb l G gh (d + 3) n_X8_move p_X8_move 0 b_X8_move_0 := fun K jp hj =>
    z_aload_n (n := 0) (i := 0) (zd (i := .aload_n 0) (n := 1) (by decide +kernel)) rfl <|
    z_iload_n (n := 1) (i := 1) (zd (i := .iload_n 1) (n := 1) (by decide +kernel)) rfl <|
    z_callV (idx := 131) (ci := 8) (N := n_X8_isSeat) (zd (i := .invokevirtual 131) (n := 3) (by decide +kernel)) to_X8_isSeat g771 g773 g23 (by decide +kernel) rfl rfl rfl (c_X8_isSeat (l := l) (G := G) (gh := gh) (d + 1)) <|
    z_if_eq (off := 23) (tgt := 28) (zd (i := .ifCond .eq (23)) (n := 3) (by decide +kernel)) (by decide +kernel) (zj (hj 3) (by decide +kernel)) (zj (hj 1) (by decide +kernel))
noncomputable def b_X8_move_1 : zBl := fun jp K => oIld 2 <| oCs 1 f_X8_isX <| oIf zeq zne (jp 3) (jp 2)
theorem s_X8_move_1 (d : Nat) : zPb l G gh (d + 3) n_X8_move p_X8_move 8 b_X8_move_1 := fun K jp hj =>
    z_iload_n (n := 2) (i := 2) (zd (i := .iload_n 2) (n := 1) (by decide +kernel)) rfl <|
    z_callS (idx := 175) (N := n_X8_isX) (zd (i := .invokestatic 175) (n := 3) (by decide +kernel)) to_X8_isX g805 g806 rfl rfl (c_X8_isX (l := l) (G := G) (gh := gh) (d + 1)) <|
    z_if_eq (off := 16) (tgt := 28) (zd (i := .ifCond .eq (16)) (n := 3) (by decide +kernel)) (by decide +kernel) (zj (hj 3) (by decide +kernel)) (zj (hj 2) (by decide +kernel))
noncomputable def b_X8_move_2 : zBl := fun jp K => oAld 0 <| oGetR 8 2 <| oGetR 4 1 <| oIld 1 <| oXald 10 <| oIld 2 <| oIc zne zeq (jp 4) (jp 3)
theorem s_X8_move_2 (d : Nat) : zPb l G gh (d + 3) n_X8_move p_X8_move 15 b_X8_move_2 := fun K jp hj =>
    z_aload_n (n := 0) (i := 0) (zd (i := .aload_n 0) (n := 1) (by decide +kernel)) rfl <|
    z_getR (ci := 8) (j := 2) (idx := 26) (zd (i := .getfield 26) (n := 3) (by decide +kernel)) (by decide +kernel) (by decide +kernel) rfl g454 <|
    z_getR (ci := 4) (j := 1) (idx := 134) (zd (i := .getfield 134) (n := 3) (by decide +kernel)) (by decide +kernel) (by decide +kernel) rfl g371 <|
    z_iload_n (n := 1) (i := 1) (zd (i := .iload_n 1) (n := 1) (by decide +kernel)) rfl <|
    z_iald (zd (i := .iaload) (n := 1) (by decide +kernel)) <|
    z_iload_n (n := 2) (i := 2) (zd (i := .iload_n 2) (n := 1) (by decide +kernel)) rfl <|
    z_icmp_ne (off := 5) (tgt := 30) (zd (i := .if_icmp .ne (5)) (n := 3) (by decide +kernel)) (by decide +kernel) (zj (hj 4) (by decide +kernel)) (zj (hj 3) (by decide +kernel))
noncomputable def b_X8_move_3 : zBl := fun jp K => oInt 2147483648 <| oZret K
theorem s_X8_move_3 (d : Nat) : zPb l G gh (d + 3) n_X8_move p_X8_move 28 b_X8_move_3 := fun K jp hj =>
    z_iconst (n := 0) (zd (i := .iconst (0)) (n := 1) (by decide +kernel)) (by decide +kernel) <|
    z_zret (zd (i := .ireturn) (n := 1) (by decide +kernel)) rfl
noncomputable def b_X8_move_4 : zBl := fun jp K => oAld 0 <| oGetR 8 4 <| oAld 0 <| oGetR 8 2 <| oCv 3 1 gs_X3_push <| oAld 0 <| oGetR 8 2 <| oGetR 4 1 <| oIld 1 <| oIld 2 <| oXast 10 zid <| oInt 2147483649 <| oZret K
theorem s_X8_move_4 (d : Nat) : zPb l G gh (d + 3) n_X8_move p_X8_move 30 b_X8_move_4 := fun K jp hj =>
    z_aload_n (n := 0) (i := 0) (zd (i := .aload_n 0) (n := 1) (by decide +kernel)) rfl <|
    z_getR (ci := 8) (j := 4) (idx := 36) (zd (i := .getfield 36) (n := 3) (by decide +kernel)) (by decide +kernel) (by decide +kernel) rfl g456 <|
    z_aload_n (n := 0) (i := 0) (zd (i := .aload_n 0) (n := 1) (by decide +kernel)) rfl <|
    z_getR (ci := 8) (j := 2) (idx := 26) (zd (i := .getfield 26) (n := 3) (by decide +kernel)) (by decide +kernel) (by decide +kernel) rfl g454 <|
    z_callV (idx := 199) (ci := 3) (N := n_X3_push) (zd (i := .invokevirtual 199) (n := 3) (by decide +kernel)) to_X3_push g836 g837 g838 (by decide +kernel) rfl rfl rfl (cs_X3_push (l := l) (G := G) (gh := gh) (d)) <|
    z_aload_n (n := 0) (i := 0) (zd (i := .aload_n 0) (n := 1) (by decide +kernel)) rfl <|
    z_getR (ci := 8) (j := 2) (idx := 26) (zd (i := .getfield 26) (n := 3) (by decide +kernel)) (by decide +kernel) (by decide +kernel) rfl g454 <|
    z_getR (ci := 4) (j := 1) (idx := 134) (zd (i := .getfield 134) (n := 3) (by decide +kernel)) (by decide +kernel) (by decide +kernel) rfl g371 <|
    z_iload_n (n := 1) (i := 1) (zd (i := .iload_n 1) (n := 1) (by decide +kernel)) rfl <|
    z_iload_n (n := 2) (i := 2) (zd (i := .iload_n 2) (n := 1) (by decide +kernel)) rfl <|
    z_iast (zd (i := .iastore) (n := 1) (by decide +kernel)) <|
    z_iconst (n := 1) (zd (i := .iconst (1)) (n := 1) (by decide +kernel)) (by decide +kernel) <|
    z_zret (zd (i := .ireturn) (n := 1) (by decide +kernel)) rfl
noncomputable def t_X8_move : List zBl := [b_X8_move_0, b_X8_move_1, b_X8_move_2, b_X8_move_3, b_X8_move_4]
theorem tt_X8_move (d : Nat) : zT (zPb l G gh (d + 3) n_X8_move p_X8_move) t_X8_move p_X8_move := ⟨s_X8_move_0 d, s_X8_move_1 d, s_X8_move_2 d, s_X8_move_3 d, s_X8_move_4 d, trivial⟩
def q_X8_move_0 : List (Nat × Nat) := [(0, zk0), (21, zk10), (22, zk12), (23, zk12), (24, zk12), (25, zk12), (26, zk11), (27, zk11), (35, zk23), (36, zk24), (37, zk25), (38, zk12), (39, zk12), (40, zk12), (41, zk12), (42, zk11), (43, zk11), (44, zk26), (45, zk12), (46, zk12), (47, zk12), (48, zk12), (49, zk11), (50, zk11), (51, zk27), (52, zk12), (53, zk12), (54, zk12), (55, zk12), (56, zk11), (57, zk11), (58, zk28), (59, zk12), (60, zk12), (61, zk12), (62, zk12), (63, zk11), (64, zk11), (65, zk29), (66, zk12), (67, zk12), (68, zk12), (69, zk12), (70, zk11), (71, zk11), (72, zk30), (73, zk12), (74, zk12), (75, zk12), (76, zk12), (77, zk11), (78, zk11), (79, zk31), (80, zk12), (81, zk12), (82, zk12), (83, zk12), (84, zk11), (85, zk11), (86, zk32), (87, zk12), (88, zk12), (89, zk12), (90, zk12), (91, zk11), (92, zk11), (93, zk33), (94, zk12), (95, zk12), (96, zk12), (97, zk12), (98, zk11), (99, zk11), (100, zk34), (101, zk12), (102, zk12), (103, zk12), (104, zk12), (105, zk11), (106, zk11), (107, zk35), (108, zk12), (109, zk12), (110, zk12), (111, zk12), (112, zk11), (113, zk11), (114, zk36), (115, zk12), (116, zk12), (117, zk12), (118, zk12), (119, zk11), (120, zk11), (121, zk37), (122, zk12), (123, zk12), (124, zk12), (125, zk12), (126, zk11), (127, zk11), (128, zk38), (129, zk12), (130, zk12), (131, zk12), (132, zk12), (133, zk11), (134, zk11), (135, zk39), (136, zk12), (137, zk12), (138, zk12), (139, zk12), (140, zk11), (141, zk11), (142, zk40), (143, zk12), (144, zk12), (145, zk12), (146, zk12), (147, zk11), (148, zk11), (149, zk41), (150, zk12), (151, zk12), (152, zk12), (153, zk12), (154, zk11), (155, zk11), (156, zk42), (157, zk12), (158, zk12), (159, zk12), (160, zk12), (161, zk11), (162, zk11), (163, zk43), (164, zk12), (165, zk12), (166, zk12), (167, zk12), (168, zk11), (169, zk11), (170, zk44), (171, zk12), (172, zk12), (173, zk12), (174, zk12), (175, zk11), (176, zk11), (177, zk45), (178, zk12), (179, zk12), (180, zk12), (181, zk12), (182, zk11), (183, zk11), (184, zk46), (185, zk12), (186, zk12), (187, zk12), (188, zk12), (189, zk11), (190, zk11), (191, zk47), (192, zk12), (193, zk12), (194, zk12), (195, zk12), (196, zk11), (197, zk11), (198, zk48), (199, zk12), (200, zk12), (201, zk12), (202, zk12), (203, zk11), (204, zk11), (205, zk49), (206, zk12), (207, zk12), (208, zk12), (209, zk12), (210, zk11), (211, zk11), (212, zk50), (213, zk12), (214, zk12), (215, zk12), (216, zk12), (217, zk11), (218, zk11), (219, zk51), (220, zk12), (221, zk12), (222, zk12), (223, zk12), (224, zk11), (225, zk11), (226, zk52), (227, zk12), (228, zk12), (229, zk12), (230, zk12), (231, zk11), (232, zk11), (233, zk53), (234, zk12), (235, zk12), (236, zk12), (237, zk12), (238, zk11), (239, zk11), (240, zk54), (241, zk12), (242, zk12), (243, zk12), (244, zk12), (245, zk11), (246, zk11), (259, zk20)]
noncomputable def al_X8_move_0 : zAq := [(some (.inl 9223372043297226753), [(0, zk0), (21, zk10), (22, zk57), (23, zk12), (24, zk12), (25, zk12), (26, zk11), (27, zk11), (35, zk55), (36, zk24), (37, zk56), (38, zk57), (39, zk57), (40, zk57), (41, zk57), (42, zk58), (43, zk58), (44, zk59), (45, zk57), (46, zk57), (47, zk57), (48, zk57), (49, zk58), (50, zk58), (51, zk60), (52, zk57), (53, zk57), (54, zk57), (55, zk57), (56, zk58), (57, zk58), (58, zk61), (59, zk57), (60, zk57), (61, zk57), (62, zk57), (63, zk58), (64, zk58), (65, zk62), (66, zk57), (67, zk57), (68, zk57), (69, zk57), (70, zk58), (71, zk58), (72, zk63), (73, zk57), (74, zk57), (75, zk57), (76, zk57), (77, zk58), (78, zk58), (79, zk64), (80, zk57), (81, zk57), (82, zk57), (83, zk57), (84, zk58), (85, zk58), (86, zk65), (87, zk57), (88, zk57), (89, zk57), (90, zk57), (91, zk58), (92, zk58), (93, zk66), (94, zk57), (95, zk57), (96, zk57), (97, zk57), (98, zk58), (99, zk58), (100, zk67), (101, zk57), (102, zk57), (103, zk57), (104, zk57), (105, zk58), (106, zk58), (107, zk68), (108, zk57), (109, zk57), (110, zk57), (111, zk57), (112, zk58), (113, zk58), (114, zk69), (115, zk57), (116, zk57), (117, zk57), (118, zk57), (119, zk58), (120, zk58), (121, zk70), (122, zk57), (123, zk57), (124, zk57), (125, zk57), (126, zk58), (127, zk58), (128, zk71), (129, zk57), (130, zk57), (131, zk57), (132, zk57), (133, zk58), (134, zk58), (135, zk72), (136, zk57), (137, zk57), (138, zk57), (139, zk57), (140, zk58), (141, zk58), (142, zk73), (143, zk57), (144, zk57), (145, zk57), (146, zk57), (147, zk58), (148, zk58), (149, zk74), (150, zk57), (151, zk57), (152, zk57), (153, zk57), (154, zk58), (155, zk58), (156, zk75), (157, zk57), (158, zk57), (159, zk57), (160, zk57), (161, zk58), (162, zk58), (163, zk76), (164, zk57), (165, zk57), (166, zk57), (167, zk57), (168, zk58), (169, zk58), (170, zk77), (171, zk57), (172, zk57), (173, zk57), (174, zk57), (175, zk58), (176, zk58), (177, zk78), (178, zk57), (179, zk57), (180, zk57), (181, zk57), (182, zk58), (183, zk58), (184, zk79), (185, zk57), (186, zk57), (187, zk57), (188, zk57), (189, zk58), (190, zk58), (191, zk80), (192, zk57), (193, zk57), (194, zk57), (195, zk57), (196, zk58), (197, zk58), (198, zk81), (199, zk57), (200, zk57), (201, zk57), (202, zk57), (203, zk58), (204, zk58), (205, zk82), (206, zk57), (207, zk57), (208, zk57), (209, zk57), (210, zk58), (211, zk58), (212, zk83), (213, zk57), (214, zk57), (215, zk57), (216, zk57), (217, zk58), (218, zk58), (219, zk84), (220, zk57), (221, zk57), (222, zk57), (223, zk57), (224, zk58), (225, zk58), (226, zk85), (227, zk57), (228, zk57), (229, zk57), (230, zk57), (231, zk58), (232, zk58), (233, zk86), (234, zk57), (235, zk57), (236, zk57), (237, zk57), (238, zk58), (239, zk58), (240, zk87), (241, zk57), (242, zk57), (243, zk57), (244, zk57), (245, zk58), (246, zk58), (259, zk20)])]
noncomputable def fm_X8_move_0 : List zFm := [(0, [], (fun vs => [.inr (.ref 0), .inl 9223372043297226757, .inl 9223372043297226771]), (fun vs => zP q_X8_move_0), (fun vs => Nat.sub (Nat.add 0 0) 0))]
def bf_X8_move_0 : List Nat := []
theorem r_X8_move_0_0 : zbox [] (fun vs => zFrun (zpost (zAlq al_X8_move_0)) 1000 t_X8_move fm_X8_move_0 bf_X8_move_0 (0, vs)) = true := by decide +kernel
set_option maxRecDepth 100000 in
theorem x_X8_move_0 (d : Nat) : zS l G gh (d + 3) (zpost (zAlq al_X8_move_0)) n_X8_move (zn 0 p_X8_move 0) (zwc (0, [.inr (.ref 0), .inl 9223372043297226757, .inl 9223372043297226771], zP q_X8_move_0) 0) := zentry (tt_X8_move d) fm_X8_move_0 bf_X8_move_0 1000 (by decide +kernel) rfl ⟨Nat.zero_lt_succ _, trivial⟩ (fun f hf => match f, hf with
  | 0, _ => fun vs hv => (zbox_t r_X8_move_0_0) vs hv
  | f + 1, h => absurd (show f + 1 < 1 from h) (Nat.not_lt.mpr (Nat.le_add_left 1 f)))
noncomputable def gs_X8_move_0 : zMt := zgq false [] 3 [.inr (.ref 0), .inl 9223372043297226757, .inl 9223372043297226771] q_X8_move_0 al_X8_move_0
set_option maxRecDepth 100000 in
theorem cs_X8_move_0 (d : Nat) : zC l G gh (d + 3) n_X8_move gs_X8_move_0 := zgq_ok0 (pcs := p_X8_move) (by decide) rfl rfl (fun a ha => by simp only [al_X8_move_0, List.mem_cons, List.not_mem_nil, or_false] at ha; rcases ha with rfl <;> decide +kernel) (fun gh => x_X8_move_0 d) (by decide +kernel)
def q_X8_move_1 : List (Nat × Nat) := [(0, zk0), (259, zk20)]
noncomputable def al_X8_move_1 : zAq := [(some (.inl 2147483648), [(0, zk0), (259, zk20)])]
noncomputable def fm_X8_move_1 : List zFm := [(0, [], (fun vs => [.inr (.ref 0), .inl 9223372043297226757, .inl 6442450943]), (fun vs => zP q_X8_move_1), (fun vs => Nat.sub (Nat.add 0 0) 0))]
def bf_X8_move_1 : List Nat := []
theorem r_X8_move_1_0 : zbox [] (fun vs => zFrun (zpost (zAlq al_X8_move_1)) 1000 t_X8_move fm_X8_move_1 bf_X8_move_1 (0, vs)) = true := by decide +kernel
set_option maxRecDepth 100000 in
theorem x_X8_move_1 (d : Nat) : zS l G gh (d + 3) (zpost (zAlq al_X8_move_1)) n_X8_move (zn 0 p_X8_move 0) (zwc (0, [.inr (.ref 0), .inl 9223372043297226757, .inl 6442450943], zP q_X8_move_1) 0) := zentry (tt_X8_move d) fm_X8_move_1 bf_X8_move_1 1000 (by decide +kernel) rfl ⟨Nat.zero_lt_succ _, trivial⟩ (fun f hf => match f, hf with
  | 0, _ => fun vs hv => (zbox_t r_X8_move_1_0) vs hv
  | f + 1, h => absurd (show f + 1 < 1 from h) (Nat.not_lt.mpr (Nat.le_add_left 1 f)))
noncomputable def gs_X8_move_1 : zMt := zgq false [] 3 [.inr (.ref 0), .inl 9223372043297226757, .inl 6442450943] q_X8_move_1 al_X8_move_1
set_option maxRecDepth 100000 in
theorem cs_X8_move_1 (d : Nat) : zC l G gh (d + 3) n_X8_move gs_X8_move_1 := zgq_ok0 (pcs := p_X8_move) (by decide) rfl rfl (fun a ha => by simp only [al_X8_move_1, List.mem_cons, List.not_mem_nil, or_false] at ha; rcases ha with rfl <;> decide +kernel) (fun gh => x_X8_move_1 d) (by decide +kernel)
def q_X8_move_2 : List (Nat × Nat) := [(0, zk0), (259, zk20)]
noncomputable def al_X8_move_2 : zAq := [(some (.inl 2147483648), [(0, zk0), (259, zk20)])]
noncomputable def fm_X8_move_2 : List zFm := [(0, [], (fun vs => [.inr (.ref 0), .inl 9223372043297226757, .inl 9223372131344056319]), (fun vs => zP q_X8_move_2), (fun vs => Nat.sub (Nat.add 0 0) 0))]
def bf_X8_move_2 : List Nat := []
theorem r_X8_move_2_0 : zbox [] (fun vs => zFrun (zpost (zAlq al_X8_move_2)) 1000 t_X8_move fm_X8_move_2 bf_X8_move_2 (0, vs)) = true := by decide +kernel
set_option maxRecDepth 100000 in
theorem x_X8_move_2 (d : Nat) : zS l G gh (d + 3) (zpost (zAlq al_X8_move_2)) n_X8_move (zn 0 p_X8_move 0) (zwc (0, [.inr (.ref 0), .inl 9223372043297226757, .inl 9223372131344056319], zP q_X8_move_2) 0) := zentry (tt_X8_move d) fm_X8_move_2 bf_X8_move_2 1000 (by decide +kernel) rfl ⟨Nat.zero_lt_succ _, trivial⟩ (fun f hf => match f, hf with
  | 0, _ => fun vs hv => (zbox_t r_X8_move_2_0) vs hv
  | f + 1, h => absurd (show f + 1 < 1 from h) (Nat.not_lt.mpr (Nat.le_add_left 1 f)))
noncomputable def gs_X8_move_2 : zMt := zgq false [] 3 [.inr (.ref 0), .inl 9223372043297226757, .inl 9223372131344056319] q_X8_move_2 al_X8_move_2
set_option maxRecDepth 100000 in
theorem cs_X8_move_2 (d : Nat) : zC l G gh (d + 3) n_X8_move gs_X8_move_2 := zgq_ok0 (pcs := p_X8_move) (by decide) rfl rfl (fun a ha => by simp only [al_X8_move_2, List.mem_cons, List.not_mem_nil, or_false] at ha; rcases ha with rfl <;> decide +kernel) (fun gh => x_X8_move_2 d) (by decide +kernel)
def q_X8_move_3 : List (Nat × Nat) := [(0, zk0)]
noncomputable def al_X8_move_3 : zAq := [(some (.inl 2147483648), [(0, zk0)])]
noncomputable def fm_X8_move_3 : List zFm := [(0, [], (fun vs => [.inr (.ref 0), .inl 6442450943, .inl 8589934591]), (fun vs => zP q_X8_move_3), (fun vs => Nat.sub (Nat.add 0 0) 0))]
def bf_X8_move_3 : List Nat := []
theorem r_X8_move_3_0 : zbox [] (fun vs => zFrun (zpost (zAlq al_X8_move_3)) 1000 t_X8_move fm_X8_move_3 bf_X8_move_3 (0, vs)) = true := by decide +kernel
set_option maxRecDepth 100000 in
theorem x_X8_move_3 (d : Nat) : zS l G gh (d + 3) (zpost (zAlq al_X8_move_3)) n_X8_move (zn 0 p_X8_move 0) (zwc (0, [.inr (.ref 0), .inl 6442450943, .inl 8589934591], zP q_X8_move_3) 0) := zentry (tt_X8_move d) fm_X8_move_3 bf_X8_move_3 1000 (by decide +kernel) rfl ⟨Nat.zero_lt_succ _, trivial⟩ (fun f hf => match f, hf with
  | 0, _ => fun vs hv => (zbox_t r_X8_move_3_0) vs hv
  | f + 1, h => absurd (show f + 1 < 1 from h) (Nat.not_lt.mpr (Nat.le_add_left 1 f)))
noncomputable def gs_X8_move_3 : zMt := zgq false [] 3 [.inr (.ref 0), .inl 6442450943, .inl 8589934591] q_X8_move_3 al_X8_move_3
set_option maxRecDepth 100000 in
theorem cs_X8_move_3 (d : Nat) : zC l G gh (d + 3) n_X8_move gs_X8_move_3 := zgq_ok0 (pcs := p_X8_move) (by decide) rfl rfl (fun a ha => by simp only [al_X8_move_3, List.mem_cons, List.not_mem_nil, or_false] at ha; rcases ha with rfl <;> decide +kernel) (fun gh => x_X8_move_3 d) (by decide +kernel)
def q_X8_move_4 : List (Nat × Nat) := [(0, zk0), (259, zk20)]
noncomputable def al_X8_move_4 : zAq := [(some (.inl 2147483648), [(0, zk0), (259, zk20)])]
noncomputable def fm_X8_move_4 : List zFm := [(0, [], (fun vs => [.inr (.ref 0), .inl 9223372071214514175, .inl 8589934591]), (fun vs => zP q_X8_move_4), (fun vs => Nat.sub (Nat.add 0 0) 0))]
def bf_X8_move_4 : List Nat := []
theorem r_X8_move_4_0 : zbox [] (fun vs => zFrun (zpost (zAlq al_X8_move_4)) 1000 t_X8_move fm_X8_move_4 bf_X8_move_4 (0, vs)) = true := by decide +kernel
set_option maxRecDepth 100000 in
theorem x_X8_move_4 (d : Nat) : zS l G gh (d + 3) (zpost (zAlq al_X8_move_4)) n_X8_move (zn 0 p_X8_move 0) (zwc (0, [.inr (.ref 0), .inl 9223372071214514175, .inl 8589934591], zP q_X8_move_4) 0) := zentry (tt_X8_move d) fm_X8_move_4 bf_X8_move_4 1000 (by decide +kernel) rfl ⟨Nat.zero_lt_succ _, trivial⟩ (fun f hf => match f, hf with
  | 0, _ => fun vs hv => (zbox_t r_X8_move_4_0) vs hv
  | f + 1, h => absurd (show f + 1 < 1 from h) (Nat.not_lt.mpr (Nat.le_add_left 1 f)))
noncomputable def gs_X8_move_4 : zMt := zgq false [] 3 [.inr (.ref 0), .inl 9223372071214514175, .inl 8589934591] q_X8_move_4 al_X8_move_4
set_option maxRecDepth 100000 in
theorem cs_X8_move_4 (d : Nat) : zC l G gh (d + 3) n_X8_move gs_X8_move_4 := zgq_ok0 (pcs := p_X8_move) (by decide) rfl rfl (fun a ha => by simp only [al_X8_move_4, List.mem_cons, List.not_mem_nil, or_false] at ha; rcases ha with rfl <;> decide +kernel) (fun gh => x_X8_move_4 d) (by decide +kernel)
def q_X8_move_5 : List (Nat × Nat) := [(0, zk1), (9, zk21), (21, zk10), (22, zk12), (23, zk12), (24, zk12), (25, zk12), (26, zk11), (27, zk11), (35, zk23), (36, zk24), (37, zk25), (38, zk12), (39, zk12), (40, zk12), (41, zk12), (42, zk11), (43, zk11), (44, zk26), (45, zk12), (46, zk12), (47, zk12), (48, zk12), (49, zk11), (50, zk11), (51, zk27), (52, zk12), (53, zk12), (54, zk12), (55, zk12), (56, zk11), (57, zk11), (58, zk28), (59, zk12), (60, zk12), (61, zk12), (62, zk12), (63, zk11), (64, zk11), (65, zk29), (66, zk12), (67, zk12), (68, zk12), (69, zk12), (70, zk11), (71, zk11), (72, zk30), (73, zk12), (74, zk12), (75, zk12), (76, zk12), (77, zk11), (78, zk11), (79, zk31), (80, zk12), (81, zk12), (82, zk12), (83, zk12), (84, zk11), (85, zk11), (86, zk32), (87, zk12), (88, zk12), (89, zk12), (90, zk12), (91, zk11), (92, zk11), (93, zk33), (94, zk12), (95, zk12), (96, zk12), (97, zk12), (98, zk11), (99, zk11), (100, zk34), (101, zk12), (102, zk12), (103, zk12), (104, zk12), (105, zk11), (106, zk11), (107, zk35), (108, zk12), (109, zk12), (110, zk12), (111, zk12), (112, zk11), (113, zk11), (114, zk36), (115, zk12), (116, zk12), (117, zk12), (118, zk12), (119, zk11), (120, zk11), (121, zk37), (122, zk12), (123, zk12), (124, zk12), (125, zk12), (126, zk11), (127, zk11), (128, zk38), (129, zk12), (130, zk12), (131, zk12), (132, zk12), (133, zk11), (134, zk11), (135, zk39), (136, zk12), (137, zk12), (138, zk12), (139, zk12), (140, zk11), (141, zk11), (142, zk40), (143, zk12), (144, zk12), (145, zk12), (146, zk12), (147, zk11), (148, zk11), (149, zk41), (150, zk12), (151, zk12), (152, zk12), (153, zk12), (154, zk11), (155, zk11), (156, zk42), (157, zk12), (158, zk12), (159, zk12), (160, zk12), (161, zk11), (162, zk11), (163, zk43), (164, zk12), (165, zk12), (166, zk12), (167, zk12), (168, zk11), (169, zk11), (170, zk44), (171, zk12), (172, zk12), (173, zk12), (174, zk12), (175, zk11), (176, zk11), (177, zk45), (178, zk12), (179, zk12), (180, zk12), (181, zk12), (182, zk11), (183, zk11), (184, zk46), (185, zk12), (186, zk12), (187, zk12), (188, zk12), (189, zk11), (190, zk11), (191, zk47), (192, zk12), (193, zk12), (194, zk12), (195, zk12), (196, zk11), (197, zk11), (198, zk48), (199, zk12), (200, zk12), (201, zk12), (202, zk12), (203, zk11), (204, zk11), (205, zk49), (206, zk12), (207, zk12), (208, zk12), (209, zk12), (210, zk11), (211, zk11), (212, zk50), (213, zk12), (214, zk12), (215, zk12), (216, zk12), (217, zk11), (218, zk11), (219, zk51), (220, zk12), (221, zk12), (222, zk12), (223, zk12), (224, zk11), (225, zk11), (226, zk52), (227, zk12), (228, zk12), (229, zk12), (230, zk12), (231, zk11), (232, zk11), (233, zk53), (234, zk12), (235, zk12), (236, zk12), (237, zk12), (238, zk11), (239, zk11), (240, zk54), (241, zk12), (242, zk12), (243, zk12), (244, zk12), (245, zk11), (246, zk11)]
noncomputable def al_X8_move_5 : zAq := [(some (.inl 9223372043297226753), [(0, zk1), (9, zk21), (21, zk10), (22, zk57), (23, zk12), (24, zk12), (25, zk12), (26, zk11), (27, zk11), (35, zk55), (36, zk24), (37, zk56), (38, zk57), (39, zk57), (40, zk57), (41, zk57), (42, zk58), (43, zk58), (44, zk59), (45, zk57), (46, zk57), (47, zk57), (48, zk57), (49, zk58), (50, zk58), (51, zk60), (52, zk57), (53, zk57), (54, zk57), (55, zk57), (56, zk58), (57, zk58), (58, zk61), (59, zk57), (60, zk57), (61, zk57), (62, zk57), (63, zk58), (64, zk58), (65, zk62), (66, zk57), (67, zk57), (68, zk57), (69, zk57), (70, zk58), (71, zk58), (72, zk63), (73, zk57), (74, zk57), (75, zk57), (76, zk57), (77, zk58), (78, zk58), (79, zk64), (80, zk57), (81, zk57), (82, zk57), (83, zk57), (84, zk58), (85, zk58), (86, zk65), (87, zk57), (88, zk57), (89, zk57), (90, zk57), (91, zk58), (92, zk58), (93, zk66), (94, zk57), (95, zk57), (96, zk57), (97, zk57), (98, zk58), (99, zk58), (100, zk67), (101, zk57), (102, zk57), (103, zk57), (104, zk57), (105, zk58), (106, zk58), (107, zk68), (108, zk57), (109, zk57), (110, zk57), (111, zk57), (112, zk58), (113, zk58), (114, zk69), (115, zk57), (116, zk57), (117, zk57), (118, zk57), (119, zk58), (120, zk58), (121, zk70), (122, zk57), (123, zk57), (124, zk57), (125, zk57), (126, zk58), (127, zk58), (128, zk71), (129, zk57), (130, zk57), (131, zk57), (132, zk57), (133, zk58), (134, zk58), (135, zk72), (136, zk57), (137, zk57), (138, zk57), (139, zk57), (140, zk58), (141, zk58), (142, zk73), (143, zk57), (144, zk57), (145, zk57), (146, zk57), (147, zk58), (148, zk58), (149, zk74), (150, zk57), (151, zk57), (152, zk57), (153, zk57), (154, zk58), (155, zk58), (156, zk75), (157, zk57), (158, zk57), (159, zk57), (160, zk57), (161, zk58), (162, zk58), (163, zk76), (164, zk57), (165, zk57), (166, zk57), (167, zk57), (168, zk58), (169, zk58), (170, zk77), (171, zk57), (172, zk57), (173, zk57), (174, zk57), (175, zk58), (176, zk58), (177, zk78), (178, zk57), (179, zk57), (180, zk57), (181, zk57), (182, zk58), (183, zk58), (184, zk79), (185, zk57), (186, zk57), (187, zk57), (188, zk57), (189, zk58), (190, zk58), (191, zk80), (192, zk57), (193, zk57), (194, zk57), (195, zk57), (196, zk58), (197, zk58), (198, zk81), (199, zk57), (200, zk57), (201, zk57), (202, zk57), (203, zk58), (204, zk58), (205, zk82), (206, zk57), (207, zk57), (208, zk57), (209, zk57), (210, zk58), (211, zk58), (212, zk83), (213, zk57), (214, zk57), (215, zk57), (216, zk57), (217, zk58), (218, zk58), (219, zk84), (220, zk57), (221, zk57), (222, zk57), (223, zk57), (224, zk58), (225, zk58), (226, zk85), (227, zk57), (228, zk57), (229, zk57), (230, zk57), (231, zk58), (232, zk58), (233, zk86), (234, zk57), (235, zk57), (236, zk57), (237, zk57), (238, zk58), (239, zk58), (240, zk87), (241, zk57), (242, zk57), (243, zk57), (244, zk57), (245, zk58), (246, zk58)])]
noncomputable def fm_X8_move_5 : List zFm := [(0, [], (fun vs => [.inr (.ref 0), .inl 9223372043297226757, .inl 9223372043297226771]), (fun vs => zP q_X8_move_5), (fun vs => Nat.sub (Nat.add 0 0) 0))]
def bf_X8_move_5 : List Nat := []
theorem r_X8_move_5_0 : zbox [] (fun vs => zFrun (zpost (zAlq al_X8_move_5)) 1000 t_X8_move fm_X8_move_5 bf_X8_move_5 (0, vs)) = true := by decide +kernel
set_option maxRecDepth 100000 in
theorem x_X8_move_5 (d : Nat) : zS l G gh (d + 3) (zpost (zAlq al_X8_move_5)) n_X8_move (zn 0 p_X8_move 0) (zwc (0, [.inr (.ref 0), .inl 9223372043297226757, .inl 9223372043297226771], zP q_X8_move_5) 0) := zentry (tt_X8_move d) fm_X8_move_5 bf_X8_move_5 1000 (by decide +kernel) rfl ⟨Nat.zero_lt_succ _, trivial⟩ (fun f hf => match f, hf with
  | 0, _ => fun vs hv => (zbox_t r_X8_move_5_0) vs hv
  | f + 1, h => absurd (show f + 1 < 1 from h) (Nat.not_lt.mpr (Nat.le_add_left 1 f)))
noncomputable def gs_X8_move_5 : zMt := zgq false [] 3 [.inr (.ref 0), .inl 9223372043297226757, .inl 9223372043297226771] q_X8_move_5 al_X8_move_5
set_option maxRecDepth 100000 in
theorem cs_X8_move_5 (d : Nat) : zC l G gh (d + 3) n_X8_move gs_X8_move_5 := zgq_ok0 (pcs := p_X8_move) (by decide) rfl rfl (fun a ha => by simp only [al_X8_move_5, List.mem_cons, List.not_mem_nil, or_false] at ha; rcases ha with rfl <;> decide +kernel) (fun gh => x_X8_move_5 d) (by decide +kernel)
def q_X8_move_6 : List (Nat × Nat) := [(0, zk1), (9, zk21)]
noncomputable def al_X8_move_6 : zAq := [(some (.inl 2147483648), [(0, zk1), (9, zk21)])]
noncomputable def fm_X8_move_6 : List zFm := [(0, [], (fun vs => [.inr (.ref 0), .inl 9223372043297226757, .inl 6442450943]), (fun vs => zP q_X8_move_6), (fun vs => Nat.sub (Nat.add 0 0) 0))]
def bf_X8_move_6 : List Nat := []
theorem r_X8_move_6_0 : zbox [] (fun vs => zFrun (zpost (zAlq al_X8_move_6)) 1000 t_X8_move fm_X8_move_6 bf_X8_move_6 (0, vs)) = true := by decide +kernel
set_option maxRecDepth 100000 in
theorem x_X8_move_6 (d : Nat) : zS l G gh (d + 3) (zpost (zAlq al_X8_move_6)) n_X8_move (zn 0 p_X8_move 0) (zwc (0, [.inr (.ref 0), .inl 9223372043297226757, .inl 6442450943], zP q_X8_move_6) 0) := zentry (tt_X8_move d) fm_X8_move_6 bf_X8_move_6 1000 (by decide +kernel) rfl ⟨Nat.zero_lt_succ _, trivial⟩ (fun f hf => match f, hf with
  | 0, _ => fun vs hv => (zbox_t r_X8_move_6_0) vs hv
  | f + 1, h => absurd (show f + 1 < 1 from h) (Nat.not_lt.mpr (Nat.le_add_left 1 f)))
noncomputable def gs_X8_move_6 : zMt := zgq false [] 3 [.inr (.ref 0), .inl 9223372043297226757, .inl 6442450943] q_X8_move_6 al_X8_move_6
set_option maxRecDepth 100000 in
theorem cs_X8_move_6 (d : Nat) : zC l G gh (d + 3) n_X8_move gs_X8_move_6 := zgq_ok0 (pcs := p_X8_move) (by decide) rfl rfl (fun a ha => by simp only [al_X8_move_6, List.mem_cons, List.not_mem_nil, or_false] at ha; rcases ha with rfl <;> decide +kernel) (fun gh => x_X8_move_6 d) (by decide +kernel)
def q_X8_move_7 : List (Nat × Nat) := [(0, zk1), (9, zk21)]
noncomputable def al_X8_move_7 : zAq := [(some (.inl 2147483648), [(0, zk1), (9, zk21)])]
noncomputable def fm_X8_move_7 : List zFm := [(0, [], (fun vs => [.inr (.ref 0), .inl 9223372043297226757, .inl 9223372131344056319]), (fun vs => zP q_X8_move_7), (fun vs => Nat.sub (Nat.add 0 0) 0))]
def bf_X8_move_7 : List Nat := []
theorem r_X8_move_7_0 : zbox [] (fun vs => zFrun (zpost (zAlq al_X8_move_7)) 1000 t_X8_move fm_X8_move_7 bf_X8_move_7 (0, vs)) = true := by decide +kernel
set_option maxRecDepth 100000 in
theorem x_X8_move_7 (d : Nat) : zS l G gh (d + 3) (zpost (zAlq al_X8_move_7)) n_X8_move (zn 0 p_X8_move 0) (zwc (0, [.inr (.ref 0), .inl 9223372043297226757, .inl 9223372131344056319], zP q_X8_move_7) 0) := zentry (tt_X8_move d) fm_X8_move_7 bf_X8_move_7 1000 (by decide +kernel) rfl ⟨Nat.zero_lt_succ _, trivial⟩ (fun f hf => match f, hf with
  | 0, _ => fun vs hv => (zbox_t r_X8_move_7_0) vs hv
  | f + 1, h => absurd (show f + 1 < 1 from h) (Nat.not_lt.mpr (Nat.le_add_left 1 f)))
noncomputable def gs_X8_move_7 : zMt := zgq false [] 3 [.inr (.ref 0), .inl 9223372043297226757, .inl 9223372131344056319] q_X8_move_7 al_X8_move_7
set_option maxRecDepth 100000 in
theorem cs_X8_move_7 (d : Nat) : zC l G gh (d + 3) n_X8_move gs_X8_move_7 := zgq_ok0 (pcs := p_X8_move) (by decide) rfl rfl (fun a ha => by simp only [al_X8_move_7, List.mem_cons, List.not_mem_nil, or_false] at ha; rcases ha with rfl <;> decide +kernel) (fun gh => x_X8_move_7 d) (by decide +kernel)
def q_X8_move_8 : List (Nat × Nat) := [(0, zk1)]
noncomputable def al_X8_move_8 : zAq := [(some (.inl 2147483648), [(0, zk1)])]
noncomputable def fm_X8_move_8 : List zFm := [(0, [], (fun vs => [.inr (.ref 0), .inl 6442450943, .inl 8589934591]), (fun vs => zP q_X8_move_8), (fun vs => Nat.sub (Nat.add 0 0) 0))]
def bf_X8_move_8 : List Nat := []
theorem r_X8_move_8_0 : zbox [] (fun vs => zFrun (zpost (zAlq al_X8_move_8)) 1000 t_X8_move fm_X8_move_8 bf_X8_move_8 (0, vs)) = true := by decide +kernel
set_option maxRecDepth 100000 in
theorem x_X8_move_8 (d : Nat) : zS l G gh (d + 3) (zpost (zAlq al_X8_move_8)) n_X8_move (zn 0 p_X8_move 0) (zwc (0, [.inr (.ref 0), .inl 6442450943, .inl 8589934591], zP q_X8_move_8) 0) := zentry (tt_X8_move d) fm_X8_move_8 bf_X8_move_8 1000 (by decide +kernel) rfl ⟨Nat.zero_lt_succ _, trivial⟩ (fun f hf => match f, hf with
  | 0, _ => fun vs hv => (zbox_t r_X8_move_8_0) vs hv
  | f + 1, h => absurd (show f + 1 < 1 from h) (Nat.not_lt.mpr (Nat.le_add_left 1 f)))
noncomputable def gs_X8_move_8 : zMt := zgq false [] 3 [.inr (.ref 0), .inl 6442450943, .inl 8589934591] q_X8_move_8 al_X8_move_8
set_option maxRecDepth 100000 in
theorem cs_X8_move_8 (d : Nat) : zC l G gh (d + 3) n_X8_move gs_X8_move_8 := zgq_ok0 (pcs := p_X8_move) (by decide) rfl rfl (fun a ha => by simp only [al_X8_move_8, List.mem_cons, List.not_mem_nil, or_false] at ha; rcases ha with rfl <;> decide +kernel) (fun gh => x_X8_move_8 d) (by decide +kernel)
def q_X8_move_9 : List (Nat × Nat) := [(0, zk1), (9, zk21)]
noncomputable def al_X8_move_9 : zAq := [(some (.inl 2147483648), [(0, zk1), (9, zk21)])]
noncomputable def fm_X8_move_9 : List zFm := [(0, [], (fun vs => [.inr (.ref 0), .inl 9223372071214514175, .inl 8589934591]), (fun vs => zP q_X8_move_9), (fun vs => Nat.sub (Nat.add 0 0) 0))]
def bf_X8_move_9 : List Nat := []
theorem r_X8_move_9_0 : zbox [] (fun vs => zFrun (zpost (zAlq al_X8_move_9)) 1000 t_X8_move fm_X8_move_9 bf_X8_move_9 (0, vs)) = true := by decide +kernel
set_option maxRecDepth 100000 in
theorem x_X8_move_9 (d : Nat) : zS l G gh (d + 3) (zpost (zAlq al_X8_move_9)) n_X8_move (zn 0 p_X8_move 0) (zwc (0, [.inr (.ref 0), .inl 9223372071214514175, .inl 8589934591], zP q_X8_move_9) 0) := zentry (tt_X8_move d) fm_X8_move_9 bf_X8_move_9 1000 (by decide +kernel) rfl ⟨Nat.zero_lt_succ _, trivial⟩ (fun f hf => match f, hf with
  | 0, _ => fun vs hv => (zbox_t r_X8_move_9_0) vs hv
  | f + 1, h => absurd (show f + 1 < 1 from h) (Nat.not_lt.mpr (Nat.le_add_left 1 f)))
noncomputable def gs_X8_move_9 : zMt := zgq false [] 3 [.inr (.ref 0), .inl 9223372071214514175, .inl 8589934591] q_X8_move_9 al_X8_move_9
set_option maxRecDepth 100000 in
theorem cs_X8_move_9 (d : Nat) : zC l G gh (d + 3) n_X8_move gs_X8_move_9 := zgq_ok0 (pcs := p_X8_move) (by decide) rfl rfl (fun a ha => by simp only [al_X8_move_9, List.mem_cons, List.not_mem_nil, or_false] at ha; rcases ha with rfl <;> decide +kernel) (fun gh => x_X8_move_9 d) (by decide +kernel)
noncomputable def gs_X8_move : zMt := (zor gs_X8_move_0 (zor gs_X8_move_1 (zor gs_X8_move_2 (zor gs_X8_move_3 (zor gs_X8_move_4 (zor gs_X8_move_5 (zor gs_X8_move_6 (zor gs_X8_move_7 (zor gs_X8_move_8 gs_X8_move_9)))))))))
theorem cs_X8_move (d : Nat) : zC l G gh (d + 3) n_X8_move gs_X8_move := (zor_ok (cs_X8_move_0 d) (zor_ok (cs_X8_move_1 d) (zor_ok (cs_X8_move_2 d) (zor_ok (cs_X8_move_3 d) (zor_ok (cs_X8_move_4 d) (zor_ok (cs_X8_move_5 d) (zor_ok (cs_X8_move_6 d) (zor_ok (cs_X8_move_7 d) (zor_ok (cs_X8_move_8 d) (cs_X8_move_9 d))))))))))
def p_X0_isWind : List Nat := [0, 11, 15, 16]
noncomputable def b_X0_isWind_0 : zBl := fun jp K => oIld 1 <| oInt 2147483652 <| oIld 0 <| oB2 zimul <| oCs 2 f_X0_lot <| oIld 2 <| oIc zge zlt (jp 2) (jp 1)
theorem s_X0_isWind_0 (d : Nat) : zPb l G gh (d + 3) n_X0_isWind p_X0_isWind 0 b_X0_isWind_0 := fun K jp hj =>
    z_iload_n (n := 1) (i := 1) (zd (i := .iload_n 1) (n := 1) (by decide +kernel)) rfl <|
    z_iconst (n := 4) (zd (i := .iconst (4)) (n := 1) (by decide +kernel)) (by decide +kernel) <|
    z_iload_n (n := 0) (i := 0) (zd (i := .iload_n 0) (n := 1) (by decide +kernel)) rfl <|
    z_imul (zd (i := .imul) (n := 1) (by decide +kernel)) <|
    z_callS (idx := 87) (N := n_X0_lot) (zd (i := .invokestatic 87) (n := 3) (by decide +kernel)) to_X0_lot g873 g874 rfl rfl (c_X0_lot (l := l) (G := G) (gh := gh) (d)) <|
    z_iload_n (n := 2) (i := 2) (zd (i := .iload_n 2) (n := 1) (by decide +kernel)) rfl <|
    z_icmp_ge (off := 7) (tgt := 15) (zd (i := .if_icmp .ge (7)) (n := 3) (by decide +kernel)) (by decide +kernel) (zj (hj 2) (by decide +kernel)) (zj (hj 1) (by decide +kernel))
noncomputable def b_X0_isWind_1 : zBl := fun jp K => oInt 2147483649 <| jp 3
theorem s_X0_isWind_1 (d : Nat) : zPb l G gh (d + 3) n_X0_isWind p_X0_isWind 11 b_X0_isWind_1 := fun K jp hj =>
    z_iconst (n := 1) (zd (i := .iconst (1)) (n := 1) (by decide +kernel)) (by decide +kernel) <|
    z_goto (off := 4) (tgt := 16) (zd (i := .goto (4)) (n := 3) (by decide +kernel)) (by decide +kernel) (zj (hj 3) (by decide +kernel))
noncomputable def b_X0_isWind_2 : zBl := fun jp K => oInt 2147483648 <| jp 3
theorem s_X0_isWind_2 (d : Nat) : zPb l G gh (d + 3) n_X0_isWind p_X0_isWind 15 b_X0_isWind_2 := fun K jp hj =>
    z_iconst (n := 0) (zd (i := .iconst (0)) (n := 1) (by decide +kernel)) (by decide +kernel) <|
    (zj (hj 3) (by decide +kernel))
noncomputable def b_X0_isWind_3 : zBl := fun jp K => oZret K
theorem s_X0_isWind_3 (d : Nat) : zPb l G gh (d + 3) n_X0_isWind p_X0_isWind 16 b_X0_isWind_3 := fun K jp hj =>
    z_zret (zd (i := .ireturn) (n := 1) (by decide +kernel)) rfl
noncomputable def t_X0_isWind : List zBl := [b_X0_isWind_0, b_X0_isWind_1, b_X0_isWind_2, b_X0_isWind_3]
theorem tt_X0_isWind (d : Nat) : zT (zPb l G gh (d + 3) n_X0_isWind p_X0_isWind) t_X0_isWind p_X0_isWind := ⟨s_X0_isWind_0 d, s_X0_isWind_1 d, s_X0_isWind_2 d, s_X0_isWind_3 d, trivial⟩
noncomputable def f_X0_isWind : zMt := zmet 3 t_X0_isWind
theorem c_X0_isWind (d : Nat) : zC l G gh (d + 3) n_X0_isWind f_X0_isWind := zmet_ok (pcs := p_X0_isWind) (by decide) rfl rfl (tt_X0_isWind d)
def p_X8_undo : List Nat := [0]
noncomputable def b_X8_undo_0 : zBl := fun jp K => oAld 0 <| oGetR 8 4 <| oAld 0 <| oGetR 8 2 <| oCv 3 1 gs_X3_pop <| oZret K
theorem s_X8_undo_0 (d : Nat) : zPb l G gh (d + 3) n_X8_undo p_X8_undo 0 b_X8_undo_0 := fun K jp hj =>
    z_aload_n (n := 0) (i := 0) (zd (i := .aload_n 0) (n := 1) (by decide +kernel)) rfl <|
    z_getR (ci := 8) (j := 4) (idx := 36) (zd (i := .getfield 36) (n := 3) (by decide +kernel)) (by decide +kernel) (by decide +kernel) rfl g456 <|
    z_aload_n (n := 0) (i := 0) (zd (i := .aload_n 0) (n := 1) (by decide +kernel)) rfl <|
    z_getR (ci := 8) (j := 2) (idx := 26) (zd (i := .getfield 26) (n := 3) (by decide +kernel)) (by decide +kernel) (by decide +kernel) rfl g454 <|
    z_callV (idx := 220) (ci := 3) (N := n_X3_pop) (zd (i := .invokevirtual 220) (n := 3) (by decide +kernel)) to_X3_pop g893 g894 g895 (by decide +kernel) rfl rfl rfl (cs_X3_pop (l := l) (G := G) (gh := gh) (d)) <|
    z_zret (zd (i := .ireturn) (n := 1) (by decide +kernel)) rfl
noncomputable def t_X8_undo : List zBl := [b_X8_undo_0]
theorem tt_X8_undo (d : Nat) : zT (zPb l G gh (d + 3) n_X8_undo p_X8_undo) t_X8_undo p_X8_undo := ⟨s_X8_undo_0 d, trivial⟩
def q_X8_undo_0 : List (Nat × Nat) := [(0, zk0), (21, zk10), (22, zk12), (23, zk12), (24, zk12), (25, zk12), (26, zk11), (27, zk11), (35, zk23), (36, zk24), (37, zk25), (38, zk12), (39, zk12), (40, zk12), (41, zk12), (42, zk11), (43, zk11), (44, zk26), (45, zk12), (46, zk12), (47, zk12), (48, zk12), (49, zk11), (50, zk11), (51, zk27), (52, zk12), (53, zk12), (54, zk12), (55, zk12), (56, zk11), (57, zk11), (58, zk28), (59, zk12), (60, zk12), (61, zk12), (62, zk12), (63, zk11), (64, zk11), (65, zk29), (66, zk12), (67, zk12), (68, zk12), (69, zk12), (70, zk11), (71, zk11), (72, zk30), (73, zk12), (74, zk12), (75, zk12), (76, zk12), (77, zk11), (78, zk11), (79, zk31), (80, zk12), (81, zk12), (82, zk12), (83, zk12), (84, zk11), (85, zk11), (86, zk32), (87, zk12), (88, zk12), (89, zk12), (90, zk12), (91, zk11), (92, zk11), (93, zk33), (94, zk12), (95, zk12), (96, zk12), (97, zk12), (98, zk11), (99, zk11), (100, zk34), (101, zk12), (102, zk12), (103, zk12), (104, zk12), (105, zk11), (106, zk11), (107, zk35), (108, zk12), (109, zk12), (110, zk12), (111, zk12), (112, zk11), (113, zk11), (114, zk36), (115, zk12), (116, zk12), (117, zk12), (118, zk12), (119, zk11), (120, zk11), (121, zk37), (122, zk12), (123, zk12), (124, zk12), (125, zk12), (126, zk11), (127, zk11), (128, zk38), (129, zk12), (130, zk12), (131, zk12), (132, zk12), (133, zk11), (134, zk11), (135, zk39), (136, zk12), (137, zk12), (138, zk12), (139, zk12), (140, zk11), (141, zk11), (142, zk40), (143, zk12), (144, zk12), (145, zk12), (146, zk12), (147, zk11), (148, zk11), (149, zk41), (150, zk12), (151, zk12), (152, zk12), (153, zk12), (154, zk11), (155, zk11), (156, zk42), (157, zk12), (158, zk12), (159, zk12), (160, zk12), (161, zk11), (162, zk11), (163, zk43), (164, zk12), (165, zk12), (166, zk12), (167, zk12), (168, zk11), (169, zk11), (170, zk44), (171, zk12), (172, zk12), (173, zk12), (174, zk12), (175, zk11), (176, zk11), (177, zk45), (178, zk12), (179, zk12), (180, zk12), (181, zk12), (182, zk11), (183, zk11), (184, zk46), (185, zk12), (186, zk12), (187, zk12), (188, zk12), (189, zk11), (190, zk11), (191, zk47), (192, zk12), (193, zk12), (194, zk12), (195, zk12), (196, zk11), (197, zk11), (198, zk48), (199, zk12), (200, zk12), (201, zk12), (202, zk12), (203, zk11), (204, zk11), (205, zk49), (206, zk12), (207, zk12), (208, zk12), (209, zk12), (210, zk11), (211, zk11), (212, zk50), (213, zk12), (214, zk12), (215, zk12), (216, zk12), (217, zk11), (218, zk11), (219, zk51), (220, zk12), (221, zk12), (222, zk12), (223, zk12), (224, zk11), (225, zk11), (226, zk52), (227, zk12), (228, zk12), (229, zk12), (230, zk12), (231, zk11), (232, zk11), (233, zk53), (234, zk12), (235, zk12), (236, zk12), (237, zk12), (238, zk11), (239, zk11), (240, zk54), (241, zk12), (242, zk12), (243, zk12), (244, zk12), (245, zk11), (246, zk11)]
noncomputable def al_X8_undo_0 : zAq := [(some (.inl 9223372043297226753), [(0, zk0), (21, zk88), (22, zk57), (23, zk57), (24, zk57), (25, zk57), (26, zk58), (27, zk58), (35, zk55), (36, zk24), (37, zk25), (38, zk12), (39, zk12), (40, zk12), (41, zk12), (42, zk11), (43, zk11), (44, zk26), (45, zk12), (46, zk12), (47, zk12), (48, zk12), (49, zk11), (50, zk11), (51, zk27), (52, zk12), (53, zk12), (54, zk12), (55, zk12), (56, zk11), (57, zk11), (58, zk28), (59, zk12), (60, zk12), (61, zk12), (62, zk12), (63, zk11), (64, zk11), (65, zk29), (66, zk12), (67, zk12), (68, zk12), (69, zk12), (70, zk11), (71, zk11), (72, zk30), (73, zk12), (74, zk12), (75, zk12), (76, zk12), (77, zk11), (78, zk11), (79, zk31), (80, zk12), (81, zk12), (82, zk12), (83, zk12), (84, zk11), (85, zk11), (86, zk32), (87, zk12), (88, zk12), (89, zk12), (90, zk12), (91, zk11), (92, zk11), (93, zk33), (94, zk12), (95, zk12), (96, zk12), (97, zk12), (98, zk11), (99, zk11), (100, zk34), (101, zk12), (102, zk12), (103, zk12), (104, zk12), (105, zk11), (106, zk11), (107, zk35), (108, zk12), (109, zk12), (110, zk12), (111, zk12), (112, zk11), (113, zk11), (114, zk36), (115, zk12), (116, zk12), (117, zk12), (118, zk12), (119, zk11), (120, zk11), (121, zk37), (122, zk12), (123, zk12), (124, zk12), (125, zk12), (126, zk11), (127, zk11), (128, zk38), (129, zk12), (130, zk12), (131, zk12), (132, zk12), (133, zk11), (134, zk11), (135, zk39), (136, zk12), (137, zk12), (138, zk12), (139, zk12), (140, zk11), (141, zk11), (142, zk40), (143, zk12), (144, zk12), (145, zk12), (146, zk12), (147, zk11), (148, zk11), (149, zk41), (150, zk12), (151, zk12), (152, zk12), (153, zk12), (154, zk11), (155, zk11), (156, zk42), (157, zk12), (158, zk12), (159, zk12), (160, zk12), (161, zk11), (162, zk11), (163, zk43), (164, zk12), (165, zk12), (166, zk12), (167, zk12), (168, zk11), (169, zk11), (170, zk44), (171, zk12), (172, zk12), (173, zk12), (174, zk12), (175, zk11), (176, zk11), (177, zk45), (178, zk12), (179, zk12), (180, zk12), (181, zk12), (182, zk11), (183, zk11), (184, zk46), (185, zk12), (186, zk12), (187, zk12), (188, zk12), (189, zk11), (190, zk11), (191, zk47), (192, zk12), (193, zk12), (194, zk12), (195, zk12), (196, zk11), (197, zk11), (198, zk48), (199, zk12), (200, zk12), (201, zk12), (202, zk12), (203, zk11), (204, zk11), (205, zk49), (206, zk12), (207, zk12), (208, zk12), (209, zk12), (210, zk11), (211, zk11), (212, zk50), (213, zk12), (214, zk12), (215, zk12), (216, zk12), (217, zk11), (218, zk11), (219, zk51), (220, zk12), (221, zk12), (222, zk12), (223, zk12), (224, zk11), (225, zk11), (226, zk52), (227, zk12), (228, zk12), (229, zk12), (230, zk12), (231, zk11), (232, zk11), (233, zk53), (234, zk12), (235, zk12), (236, zk12), (237, zk12), (238, zk11), (239, zk11), (240, zk54), (241, zk12), (242, zk12), (243, zk12), (244, zk12), (245, zk11), (246, zk11)])]
noncomputable def fm_X8_undo_0 : List zFm := [(0, [], (fun vs => [.inr (.ref 0)]), (fun vs => zP q_X8_undo_0), (fun vs => Nat.sub (Nat.add 0 0) 0))]
def bf_X8_undo_0 : List Nat := []
theorem r_X8_undo_0_0 : zbox [] (fun vs => zFrun (zpost (zAlq al_X8_undo_0)) 1000 t_X8_undo fm_X8_undo_0 bf_X8_undo_0 (0, vs)) = true := by decide +kernel
set_option maxRecDepth 100000 in
theorem x_X8_undo_0 (d : Nat) : zS l G gh (d + 3) (zpost (zAlq al_X8_undo_0)) n_X8_undo (zn 0 p_X8_undo 0) (zwc (0, [.inr (.ref 0)], zP q_X8_undo_0) 0) := zentry (tt_X8_undo d) fm_X8_undo_0 bf_X8_undo_0 1000 (by decide +kernel) rfl ⟨Nat.zero_lt_succ _, trivial⟩ (fun f hf => match f, hf with
  | 0, _ => fun vs hv => (zbox_t r_X8_undo_0_0) vs hv
  | f + 1, h => absurd (show f + 1 < 1 from h) (Nat.not_lt.mpr (Nat.le_add_left 1 f)))
noncomputable def gs_X8_undo_0 : zMt := zgq false [] 1 [.inr (.ref 0)] q_X8_undo_0 al_X8_undo_0
set_option maxRecDepth 100000 in
theorem cs_X8_undo_0 (d : Nat) : zC l G gh (d + 3) n_X8_undo gs_X8_undo_0 := zgq_ok0 (pcs := p_X8_undo) (by decide) rfl rfl (fun a ha => by simp only [al_X8_undo_0, List.mem_cons, List.not_mem_nil, or_false] at ha; rcases ha with rfl <;> decide +kernel) (fun gh => x_X8_undo_0 d) (by decide +kernel)
def q_X8_undo_1 : List (Nat × Nat) := [(0, zk1), (21, zk10), (22, zk12), (23, zk12), (24, zk12), (25, zk12), (26, zk11), (27, zk11), (35, zk23), (36, zk24), (37, zk25), (38, zk12), (39, zk12), (40, zk12), (41, zk12), (42, zk11), (43, zk11), (44, zk26), (45, zk12), (46, zk12), (47, zk12), (48, zk12), (49, zk11), (50, zk11), (51, zk27), (52, zk12), (53, zk12), (54, zk12), (55, zk12), (56, zk11), (57, zk11), (58, zk28), (59, zk12), (60, zk12), (61, zk12), (62, zk12), (63, zk11), (64, zk11), (65, zk29), (66, zk12), (67, zk12), (68, zk12), (69, zk12), (70, zk11), (71, zk11), (72, zk30), (73, zk12), (74, zk12), (75, zk12), (76, zk12), (77, zk11), (78, zk11), (79, zk31), (80, zk12), (81, zk12), (82, zk12), (83, zk12), (84, zk11), (85, zk11), (86, zk32), (87, zk12), (88, zk12), (89, zk12), (90, zk12), (91, zk11), (92, zk11), (93, zk33), (94, zk12), (95, zk12), (96, zk12), (97, zk12), (98, zk11), (99, zk11), (100, zk34), (101, zk12), (102, zk12), (103, zk12), (104, zk12), (105, zk11), (106, zk11), (107, zk35), (108, zk12), (109, zk12), (110, zk12), (111, zk12), (112, zk11), (113, zk11), (114, zk36), (115, zk12), (116, zk12), (117, zk12), (118, zk12), (119, zk11), (120, zk11), (121, zk37), (122, zk12), (123, zk12), (124, zk12), (125, zk12), (126, zk11), (127, zk11), (128, zk38), (129, zk12), (130, zk12), (131, zk12), (132, zk12), (133, zk11), (134, zk11), (135, zk39), (136, zk12), (137, zk12), (138, zk12), (139, zk12), (140, zk11), (141, zk11), (142, zk40), (143, zk12), (144, zk12), (145, zk12), (146, zk12), (147, zk11), (148, zk11), (149, zk41), (150, zk12), (151, zk12), (152, zk12), (153, zk12), (154, zk11), (155, zk11), (156, zk42), (157, zk12), (158, zk12), (159, zk12), (160, zk12), (161, zk11), (162, zk11), (163, zk43), (164, zk12), (165, zk12), (166, zk12), (167, zk12), (168, zk11), (169, zk11), (170, zk44), (171, zk12), (172, zk12), (173, zk12), (174, zk12), (175, zk11), (176, zk11), (177, zk45), (178, zk12), (179, zk12), (180, zk12), (181, zk12), (182, zk11), (183, zk11), (184, zk46), (185, zk12), (186, zk12), (187, zk12), (188, zk12), (189, zk11), (190, zk11), (191, zk47), (192, zk12), (193, zk12), (194, zk12), (195, zk12), (196, zk11), (197, zk11), (198, zk48), (199, zk12), (200, zk12), (201, zk12), (202, zk12), (203, zk11), (204, zk11), (205, zk49), (206, zk12), (207, zk12), (208, zk12), (209, zk12), (210, zk11), (211, zk11), (212, zk50), (213, zk12), (214, zk12), (215, zk12), (216, zk12), (217, zk11), (218, zk11), (219, zk51), (220, zk12), (221, zk12), (222, zk12), (223, zk12), (224, zk11), (225, zk11), (226, zk52), (227, zk12), (228, zk12), (229, zk12), (230, zk12), (231, zk11), (232, zk11), (233, zk53), (234, zk12), (235, zk12), (236, zk12), (237, zk12), (238, zk11), (239, zk11), (240, zk54), (241, zk12), (242, zk12), (243, zk12), (244, zk12), (245, zk11), (246, zk11)]
noncomputable def al_X8_undo_1 : zAq := [(some (.inl 9223372043297226753), [(0, zk1), (21, zk88), (22, zk57), (23, zk57), (24, zk57), (25, zk57), (26, zk58), (27, zk58), (35, zk55), (36, zk24), (37, zk25), (38, zk12), (39, zk12), (40, zk12), (41, zk12), (42, zk11), (43, zk11), (44, zk26), (45, zk12), (46, zk12), (47, zk12), (48, zk12), (49, zk11), (50, zk11), (51, zk27), (52, zk12), (53, zk12), (54, zk12), (55, zk12), (56, zk11), (57, zk11), (58, zk28), (59, zk12), (60, zk12), (61, zk12), (62, zk12), (63, zk11), (64, zk11), (65, zk29), (66, zk12), (67, zk12), (68, zk12), (69, zk12), (70, zk11), (71, zk11), (72, zk30), (73, zk12), (74, zk12), (75, zk12), (76, zk12), (77, zk11), (78, zk11), (79, zk31), (80, zk12), (81, zk12), (82, zk12), (83, zk12), (84, zk11), (85, zk11), (86, zk32), (87, zk12), (88, zk12), (89, zk12), (90, zk12), (91, zk11), (92, zk11), (93, zk33), (94, zk12), (95, zk12), (96, zk12), (97, zk12), (98, zk11), (99, zk11), (100, zk34), (101, zk12), (102, zk12), (103, zk12), (104, zk12), (105, zk11), (106, zk11), (107, zk35), (108, zk12), (109, zk12), (110, zk12), (111, zk12), (112, zk11), (113, zk11), (114, zk36), (115, zk12), (116, zk12), (117, zk12), (118, zk12), (119, zk11), (120, zk11), (121, zk37), (122, zk12), (123, zk12), (124, zk12), (125, zk12), (126, zk11), (127, zk11), (128, zk38), (129, zk12), (130, zk12), (131, zk12), (132, zk12), (133, zk11), (134, zk11), (135, zk39), (136, zk12), (137, zk12), (138, zk12), (139, zk12), (140, zk11), (141, zk11), (142, zk40), (143, zk12), (144, zk12), (145, zk12), (146, zk12), (147, zk11), (148, zk11), (149, zk41), (150, zk12), (151, zk12), (152, zk12), (153, zk12), (154, zk11), (155, zk11), (156, zk42), (157, zk12), (158, zk12), (159, zk12), (160, zk12), (161, zk11), (162, zk11), (163, zk43), (164, zk12), (165, zk12), (166, zk12), (167, zk12), (168, zk11), (169, zk11), (170, zk44), (171, zk12), (172, zk12), (173, zk12), (174, zk12), (175, zk11), (176, zk11), (177, zk45), (178, zk12), (179, zk12), (180, zk12), (181, zk12), (182, zk11), (183, zk11), (184, zk46), (185, zk12), (186, zk12), (187, zk12), (188, zk12), (189, zk11), (190, zk11), (191, zk47), (192, zk12), (193, zk12), (194, zk12), (195, zk12), (196, zk11), (197, zk11), (198, zk48), (199, zk12), (200, zk12), (201, zk12), (202, zk12), (203, zk11), (204, zk11), (205, zk49), (206, zk12), (207, zk12), (208, zk12), (209, zk12), (210, zk11), (211, zk11), (212, zk50), (213, zk12), (214, zk12), (215, zk12), (216, zk12), (217, zk11), (218, zk11), (219, zk51), (220, zk12), (221, zk12), (222, zk12), (223, zk12), (224, zk11), (225, zk11), (226, zk52), (227, zk12), (228, zk12), (229, zk12), (230, zk12), (231, zk11), (232, zk11), (233, zk53), (234, zk12), (235, zk12), (236, zk12), (237, zk12), (238, zk11), (239, zk11), (240, zk54), (241, zk12), (242, zk12), (243, zk12), (244, zk12), (245, zk11), (246, zk11)])]
noncomputable def fm_X8_undo_1 : List zFm := [(0, [], (fun vs => [.inr (.ref 0)]), (fun vs => zP q_X8_undo_1), (fun vs => Nat.sub (Nat.add 0 0) 0))]
def bf_X8_undo_1 : List Nat := []
theorem r_X8_undo_1_0 : zbox [] (fun vs => zFrun (zpost (zAlq al_X8_undo_1)) 1000 t_X8_undo fm_X8_undo_1 bf_X8_undo_1 (0, vs)) = true := by decide +kernel
set_option maxRecDepth 100000 in
theorem x_X8_undo_1 (d : Nat) : zS l G gh (d + 3) (zpost (zAlq al_X8_undo_1)) n_X8_undo (zn 0 p_X8_undo 0) (zwc (0, [.inr (.ref 0)], zP q_X8_undo_1) 0) := zentry (tt_X8_undo d) fm_X8_undo_1 bf_X8_undo_1 1000 (by decide +kernel) rfl ⟨Nat.zero_lt_succ _, trivial⟩ (fun f hf => match f, hf with
  | 0, _ => fun vs hv => (zbox_t r_X8_undo_1_0) vs hv
  | f + 1, h => absurd (show f + 1 < 1 from h) (Nat.not_lt.mpr (Nat.le_add_left 1 f)))
noncomputable def gs_X8_undo_1 : zMt := zgq false [] 1 [.inr (.ref 0)] q_X8_undo_1 al_X8_undo_1
set_option maxRecDepth 100000 in
theorem cs_X8_undo_1 (d : Nat) : zC l G gh (d + 3) n_X8_undo gs_X8_undo_1 := zgq_ok0 (pcs := p_X8_undo) (by decide) rfl rfl (fun a ha => by simp only [al_X8_undo_1, List.mem_cons, List.not_mem_nil, or_false] at ha; rcases ha with rfl <;> decide +kernel) (fun gh => x_X8_undo_1 d) (by decide +kernel)
noncomputable def gs_X8_undo : zMt := (zor gs_X8_undo_0 gs_X8_undo_1)
theorem cs_X8_undo (d : Nat) : zC l G gh (d + 3) n_X8_undo gs_X8_undo := (zor_ok (cs_X8_undo_0 d) (cs_X8_undo_1 d))
def p_X4_wealth : List Nat := [0]
noncomputable def b_X4_wealth_0 : zBl := fun jp K => oAld 0 <| oGetR 4 2 <| oIld 1 <| oXald 10 <| oAld 0 <| oIld 1 <| oCv 4 1 gs_X4_lentBy <| oB2 zadd <| oIret K
theorem s_X4_wealth_0 (d : Nat) : zPb l G gh (d + 3) n_X4_wealth p_X4_wealth 0 b_X4_wealth_0 := fun K jp hj =>
    z_aload_n (n := 0) (i := 0) (zd (i := .aload_n 0) (n := 1) (by decide +kernel)) rfl <|
    z_getR (ci := 4) (j := 2) (idx := 19) (zd (i := .getfield 19) (n := 3) (by decide +kernel)) (by decide +kernel) (by decide +kernel) rfl g373 <|
    z_iload_n (n := 1) (i := 1) (zd (i := .iload_n 1) (n := 1) (by decide +kernel)) rfl <|
    z_iald (zd (i := .iaload) (n := 1) (by decide +kernel)) <|
    z_aload_n (n := 0) (i := 0) (zd (i := .aload_n 0) (n := 1) (by decide +kernel)) rfl <|
    z_iload_n (n := 1) (i := 1) (zd (i := .iload_n 1) (n := 1) (by decide +kernel)) rfl <|
    z_callV (idx := 63) (ci := 4) (N := n_X4_lentBy) (zd (i := .invokevirtual 63) (n := 3) (by decide +kernel)) to_X4_lentBy g961 g789 g790 (by decide +kernel) rfl rfl rfl (cs_X4_lentBy (l := l) (G := G) (gh := gh) (d)) <|
    z_iadd (zd (i := .iadd) (n := 1) (by decide +kernel)) <|
    z_iret (zd (i := .ireturn) (n := 1) (by decide +kernel)) rfl
noncomputable def t_X4_wealth : List zBl := [b_X4_wealth_0]
theorem tt_X4_wealth (d : Nat) : zT (zPb l G gh (d + 3) n_X4_wealth p_X4_wealth) t_X4_wealth p_X4_wealth := ⟨s_X4_wealth_0 d, trivial⟩
def q_X4_wealth_0 : List (Nat × Nat) := [(28, zk22), (30, zk12), (33, zk11)]
noncomputable def al_X4_wealth_0 : zAq := [(some (.inl 8589934591), [(28, zk22), (30, zk12), (33, zk11)])]
noncomputable def fm_X4_wealth_0 : List zFm := [(0, [], (fun vs => [.inr (.ref 28), .inl 9223372043297226757]), (fun vs => zP q_X4_wealth_0), (fun vs => Nat.sub (Nat.add 0 0) 0))]
def bf_X4_wealth_0 : List Nat := []
theorem r_X4_wealth_0_0 : zbox [] (fun vs => zFrun (zpost (zAlq al_X4_wealth_0)) 1000 t_X4_wealth fm_X4_wealth_0 bf_X4_wealth_0 (0, vs)) = true := by decide +kernel
set_option maxRecDepth 100000 in
theorem x_X4_wealth_0 (d : Nat) : zS l G gh (d + 3) (zpost (zAlq al_X4_wealth_0)) n_X4_wealth (zn 0 p_X4_wealth 0) (zwc (0, [.inr (.ref 28), .inl 9223372043297226757], zP q_X4_wealth_0) 0) := zentry (tt_X4_wealth d) fm_X4_wealth_0 bf_X4_wealth_0 1000 (by decide +kernel) rfl ⟨Nat.zero_lt_succ _, trivial⟩ (fun f hf => match f, hf with
  | 0, _ => fun vs hv => (zbox_t r_X4_wealth_0_0) vs hv
  | f + 1, h => absurd (show f + 1 < 1 from h) (Nat.not_lt.mpr (Nat.le_add_left 1 f)))
noncomputable def gs_X4_wealth_0 : zMt := zgq false [] 2 [.inr (.ref 28), .inl 9223372043297226757] q_X4_wealth_0 al_X4_wealth_0
set_option maxRecDepth 100000 in
theorem cs_X4_wealth_0 (d : Nat) : zC l G gh (d + 3) n_X4_wealth gs_X4_wealth_0 := zgq_ok0 (pcs := p_X4_wealth) (by decide) rfl rfl (fun a ha => by simp only [al_X4_wealth_0, List.mem_cons, List.not_mem_nil, or_false] at ha; rcases ha with rfl <;> decide +kernel) (fun gh => x_X4_wealth_0 d) (by decide +kernel)
noncomputable def gs_X4_wealth : zMt := gs_X4_wealth_0
theorem cs_X4_wealth (d : Nat) : zC l G gh (d + 3) n_X4_wealth gs_X4_wealth := (cs_X4_wealth_0 d)
def p_X4_begin : List Nat := [0, 10, 16, 29, 38, 39, 53, 62, 63, 84]
noncomputable def b_X4_begin_0 : zBl := fun jp K => oAld 0 <| oAld 1 <| oGetI 0 10 <| oPutI 4 0 <| oInt 2147483648 <| oIst 2 <| jp 1
theorem s_X4_begin_0 (d : Nat) : zPb l G gh (d + 3) n_X4_begin p_X4_begin 0 b_X4_begin_0 := fun K jp hj =>
    z_aload_n (n := 0) (i := 0) (zd (i := .aload_n 0) (n := 1) (by decide +kernel)) rfl <|
    z_aload_n (n := 1) (i := 1) (zd (i := .aload_n 1) (n := 1) (by decide +kernel)) rfl <|
    z_getI (ci := 0) (j := 10) (idx := 34) (zd (i := .getfield 34) (n := 3) (by decide +kernel)) (by decide +kernel) (by decide +kernel) rfl g299 <|
    z_putI (ci := 4) (j := 0) (idx := 9) (zd (i := .putfield 9) (n := 3) (by decide +kernel)) (by decide +kernel) (by decide +kernel) rfl g367 (Or.inl rfl) <|
    z_iconst (n := 0) (zd (i := .iconst (0)) (n := 1) (by decide +kernel)) (by decide +kernel) <|
    z_istore_n (n := 2) (i := 2) (zd (i := .istore_n 2) (n := 1) (by decide +kernel)) rfl (by decide +kernel) <|
    (zj (hj 1) (by decide +kernel))
noncomputable def b_X4_begin_1 : zBl := fun jp K => oNLC 2 2147483654 zgeN zltN zn1_ge zn1_lt (jp 9) (jp 2)
theorem s_X4_begin_1 (d : Nat) : zPb l G gh (d + 3) n_X4_begin p_X4_begin 10 b_X4_begin_1 := fun K jp hj =>
    z_nLC_ge (i := 2) (c0 := 2147483654) (a1 := 1) (a2 := 2) (off := 71) (tgt := 84) (zLd_n (n := 2) (i := 2) (zd (i := .iload_n 2) (n := 1) (by decide +kernel)) rfl) (zCn_b (n := 6) (zd (i := .bipush (6)) (n := 2) (by decide +kernel)) (by decide +kernel)) (zd (i := .if_icmp .ge (71)) (n := 3) (by decide +kernel)) (by decide +kernel) (zj (hj 9) (by decide +kernel)) (zj (hj 2) (by decide +kernel))
noncomputable def b_X4_begin_2 : zBl := fun jp K => oAld 0 <| oGetR 4 1 <| oIld 2 <| oNLF 2 1 0 5 zgeN zltN zn1_ge zn1_lt (jp 4) (jp 3)
theorem s_X4_begin_2 (d : Nat) : zPb l G gh (d + 3) n_X4_begin p_X4_begin 16 b_X4_begin_2 := fun K jp hj =>
    z_aload_n (n := 0) (i := 0) (zd (i := .aload_n 0) (n := 1) (by decide +kernel)) rfl <|
    z_getR (ci := 4) (j := 1) (idx := 15) (zd (i := .getfield 15) (n := 3) (by decide +kernel)) (by decide +kernel) (by decide +kernel) rfl g370 <|
    z_iload_n (n := 2) (i := 2) (zd (i := .iload_n 2) (n := 1) (by decide +kernel)) rfl <|
    z_nLF_ge (i := 2) (r := 1) (ci := 0) (j := 5) (a1 := 1) (a2 := 4) (off := 12) (tgt := 38) (zLd_n (n := 2) (i := 2) (zd (i := .iload_n 2) (n := 1) (by decide +kernel)) rfl) (zFd_n (n := 1) (r := 1) (ci := 0) (j := 5) (idx := 39) (zd (i := .aload_n 1) (n := 1) (by decide +kernel)) rfl (zd (i := .getfield 39) (n := 3) (by decide +kernel)) (by decide +kernel) (by decide +kernel) rfl g286) (by decide +kernel) rfl (zd (i := .if_icmp .ge (12)) (n := 3) (by decide +kernel)) (by decide +kernel) (zj (hj 4) (by decide +kernel)) (zj (hj 3) (by decide +kernel))
noncomputable def b_X4_begin_3 : zBl := fun jp K => oAld 1 <| oGetR 0 6 <| oIld 2 <| oXald 10 <| jp 5
theorem s_X4_begin_3 (d : Nat) : zPb l G gh (d + 3) n_X4_begin p_X4_begin 29 b_X4_begin_3 := fun K jp hj =>
    z_aload_n (n := 1) (i := 1) (zd (i := .aload_n 1) (n := 1) (by decide +kernel)) rfl <|
    z_getR (ci := 0) (j := 6) (idx := 42) (zd (i := .getfield 42) (n := 3) (by decide +kernel)) (by decide +kernel) (by decide +kernel) rfl g290 <|
    z_iload_n (n := 2) (i := 2) (zd (i := .iload_n 2) (n := 1) (by decide +kernel)) rfl <|
    z_iald (zd (i := .iaload) (n := 1) (by decide +kernel)) <|
    z_goto (off := 4) (tgt := 39) (zd (i := .goto (4)) (n := 3) (by decide +kernel)) (by decide +kernel) (zj (hj 5) (by decide +kernel))
noncomputable def b_X4_begin_4 : zBl := fun jp K => oInt 2147483648 <| jp 5
theorem s_X4_begin_4 (d : Nat) : zPb l G gh (d + 3) n_X4_begin p_X4_begin 38 b_X4_begin_4 := fun K jp hj =>
    z_iconst (n := 0) (zd (i := .iconst (0)) (n := 1) (by decide +kernel)) (by decide +kernel) <|
    (zj (hj 5) (by decide +kernel))
noncomputable def b_X4_begin_5 : zBl := fun jp K => oXast 10 zid <| oAld 0 <| oGetR 4 2 <| oIld 2 <| oNLF 2 1 0 5 zgeN zltN zn1_ge zn1_lt (jp 7) (jp 6)
theorem s_X4_begin_5 (d : Nat) : zPb l G gh (d + 3) n_X4_begin p_X4_begin 39 b_X4_begin_5 := fun K jp hj =>
    z_iast (zd (i := .iastore) (n := 1) (by decide +kernel)) <|
    z_aload_n (n := 0) (i := 0) (zd (i := .aload_n 0) (n := 1) (by decide +kernel)) rfl <|
    z_getR (ci := 4) (j := 2) (idx := 19) (zd (i := .getfield 19) (n := 3) (by decide +kernel)) (by decide +kernel) (by decide +kernel) rfl g373 <|
    z_iload_n (n := 2) (i := 2) (zd (i := .iload_n 2) (n := 1) (by decide +kernel)) rfl <|
    z_nLF_ge (i := 2) (r := 1) (ci := 0) (j := 5) (a1 := 1) (a2 := 4) (off := 12) (tgt := 62) (zLd_n (n := 2) (i := 2) (zd (i := .iload_n 2) (n := 1) (by decide +kernel)) rfl) (zFd_n (n := 1) (r := 1) (ci := 0) (j := 5) (idx := 39) (zd (i := .aload_n 1) (n := 1) (by decide +kernel)) rfl (zd (i := .getfield 39) (n := 3) (by decide +kernel)) (by decide +kernel) (by decide +kernel) rfl g286) (by decide +kernel) rfl (zd (i := .if_icmp .ge (12)) (n := 3) (by decide +kernel)) (by decide +kernel) (zj (hj 7) (by decide +kernel)) (zj (hj 6) (by decide +kernel))
noncomputable def b_X4_begin_6 : zBl := fun jp K => oAld 1 <| oGetR 0 7 <| oIld 2 <| oXald 10 <| jp 8
theorem s_X4_begin_6 (d : Nat) : zPb l G gh (d + 3) n_X4_begin p_X4_begin 53 b_X4_begin_6 := fun K jp hj =>
    z_aload_n (n := 1) (i := 1) (zd (i := .aload_n 1) (n := 1) (by decide +kernel)) rfl <|
    z_getR (ci := 0) (j := 7) (idx := 45) (zd (i := .getfield 45) (n := 3) (by decide +kernel)) (by decide +kernel) (by decide +kernel) rfl g292 <|
    z_iload_n (n := 2) (i := 2) (zd (i := .iload_n 2) (n := 1) (by decide +kernel)) rfl <|
    z_iald (zd (i := .iaload) (n := 1) (by decide +kernel)) <|
    z_goto (off := 4) (tgt := 63) (zd (i := .goto (4)) (n := 3) (by decide +kernel)) (by decide +kernel) (zj (hj 8) (by decide +kernel))
noncomputable def b_X4_begin_7 : zBl := fun jp K => oInt 2147483648 <| jp 8
theorem s_X4_begin_7 (d : Nat) : zPb l G gh (d + 3) n_X4_begin p_X4_begin 62 b_X4_begin_7 := fun K jp hj =>
    z_iconst (n := 0) (zd (i := .iconst (0)) (n := 1) (by decide +kernel)) (by decide +kernel) <|
    (zj (hj 8) (by decide +kernel))
noncomputable def b_X4_begin_8 : zBl := fun jp K => oXast 10 zid <| oAld 0 <| oGetR 4 3 <| oIld 2 <| oInt 2147483648 <| oXast 10 zid <| oAld 0 <| oGetR 4 4 <| oIld 2 <| oInt 2147483648 <| oXast 10 zid <| oInc 2 2147483649 <| jp 1
theorem s_X4_begin_8 (d : Nat) : zPb l G gh (d + 3) n_X4_begin p_X4_begin 63 b_X4_begin_8 := fun K jp hj =>
    z_iast (zd (i := .iastore) (n := 1) (by decide +kernel)) <|
    z_aload_n (n := 0) (i := 0) (zd (i := .aload_n 0) (n := 1) (by decide +kernel)) rfl <|
    z_getR (ci := 4) (j := 3) (idx := 22) (zd (i := .getfield 22) (n := 3) (by decide +kernel)) (by decide +kernel) (by decide +kernel) rfl g376 <|
    z_iload_n (n := 2) (i := 2) (zd (i := .iload_n 2) (n := 1) (by decide +kernel)) rfl <|
    z_iconst (n := 0) (zd (i := .iconst (0)) (n := 1) (by decide +kernel)) (by decide +kernel) <|
    z_iast (zd (i := .iastore) (n := 1) (by decide +kernel)) <|
    z_aload_n (n := 0) (i := 0) (zd (i := .aload_n 0) (n := 1) (by decide +kernel)) rfl <|
    z_getR (ci := 4) (j := 4) (idx := 25) (zd (i := .getfield 25) (n := 3) (by decide +kernel)) (by decide +kernel) (by decide +kernel) rfl g379 <|
    z_iload_n (n := 2) (i := 2) (zd (i := .iload_n 2) (n := 1) (by decide +kernel)) rfl <|
    z_iconst (n := 0) (zd (i := .iconst (0)) (n := 1) (by decide +kernel)) (by decide +kernel) <|
    z_iast (zd (i := .iastore) (n := 1) (by decide +kernel)) <|
    z_iinc (i := 2) (n := 1) (zd (i := .iinc 2 (1)) (n := 3) (by decide +kernel)) (by decide +kernel) (by decide +kernel) <|
    z_goto (off := -71) (tgt := 10) (zd (i := .goto (-71)) (n := 3) (by decide +kernel)) (by decide +kernel) (zj (hj 1) (by decide +kernel))
noncomputable def b_X4_begin_9 : zBl := fun jp K => oAld 0 <| oInt 2147483647 <| oCv 4 1 gs_X4_keepOnly <| oVret K
theorem s_X4_begin_9 (d : Nat) : zPb l G gh (d + 3) n_X4_begin p_X4_begin 84 b_X4_begin_9 := fun K jp hj =>
    z_aload_n (n := 0) (i := 0) (zd (i := .aload_n 0) (n := 1) (by decide +kernel)) rfl <|
    z_iconst (n := -1) (zd (i := .iconst (-1)) (n := 1) (by decide +kernel)) (by decide +kernel) <|
    z_callV (idx := 46) (ci := 4) (N := n_X4_keepOnly) (zd (i := .invokevirtual 46) (n := 3) (by decide +kernel)) to_X4_keepOnly g688 g689 g690 (by decide +kernel) rfl rfl rfl (cs_X4_keepOnly (l := l) (G := G) (gh := gh) (d)) <|
    z_vret (zd (i := .return_) (n := 1) (by decide +kernel)) rfl
noncomputable def t_X4_begin : List zBl := [b_X4_begin_0, b_X4_begin_1, b_X4_begin_2, b_X4_begin_3, b_X4_begin_4, b_X4_begin_5, b_X4_begin_6, b_X4_begin_7, b_X4_begin_8, b_X4_begin_9]
theorem tt_X4_begin (d : Nat) : zT (zPb l G gh (d + 3) n_X4_begin p_X4_begin) t_X4_begin p_X4_begin := ⟨s_X4_begin_0 d, s_X4_begin_1 d, s_X4_begin_2 d, s_X4_begin_3 d, s_X4_begin_4 d, s_X4_begin_5 d, s_X4_begin_6 d, s_X4_begin_7 d, s_X4_begin_8 d, s_X4_begin_9 d, trivial⟩
def q_X4_begin_0 : List (Nat × Nat) := [(9, zk21), (13, zk12), (14, zk12), (21, zk10), (22, zk12), (23, zk12), (24, zk12), (25, zk12), (26, zk11), (27, zk11)]
noncomputable def al_X4_begin_0 : zAq := [(none, [(9, zk21), (13, zk12), (14, zk12), (21, zk88), (22, zk57), (23, zk57), (24, zk57), (25, zk57), (26, zk58), (27, zk58)])]
def mq_X4_begin_0_1 : List (Nat × Nat) := [(9, zk21), (13, zk12), (14, zk12), (21, zk88), (22, zk57), (23, zk57), (24, zk57), (25, zk57), (26, zk11), (27, zk11)]
noncomputable def fm_X4_begin_0 : List zFm := [(0, [], (fun vs => [.inr (.ref 21), .inr (.ref 9)]), (fun vs => zP q_X4_begin_0), (fun vs => Nat.sub (Nat.add 7 0) 0)),
  (1, [(2, 2147483648, 2147483654)], (fun vs => [.inr (.ref 21), .inr (.ref 9), .inl (zn 0 vs 0)]), (fun vs => zP mq_X4_begin_0_1), (fun vs => Nat.sub (Nat.add 2147483654 0) (Nat.add 0 (Nat.mul 1 (zn 0 vs 0)))))]
def bf_X4_begin_0 : List Nat := [0, 2]
theorem r_X4_begin_0_0 : zbox [] (fun vs => zFrun (zpost (zAlq al_X4_begin_0)) 1000 t_X4_begin fm_X4_begin_0 bf_X4_begin_0 (0, vs)) = true := by decide +kernel
theorem r_X4_begin_0_1 : zbox [(2, 2147483648, 2147483654)] (fun vs => zFrun (zpost (zAlq al_X4_begin_0)) 1000 t_X4_begin fm_X4_begin_0 bf_X4_begin_0 (1, vs)) = true := by decide +kernel
set_option maxRecDepth 100000 in
theorem x_X4_begin_0 (d : Nat) : zS l G gh (d + 3) (zpost (zAlq al_X4_begin_0)) n_X4_begin (zn 0 p_X4_begin 0) (zwc (0, [.inr (.ref 21), .inr (.ref 9)], zP q_X4_begin_0) 0) := zentry (tt_X4_begin d) fm_X4_begin_0 bf_X4_begin_0 1000 (by decide +kernel) rfl ⟨Nat.zero_lt_succ _, trivial⟩ (fun f hf => match f, hf with
  | 0, _ => fun vs hv => (zbox_t r_X4_begin_0_0) vs hv
  | 1, _ => fun vs hv => (zbox_t r_X4_begin_0_1) vs hv
  | f + 2, h => absurd (show f + 2 < 2 from h) (Nat.not_lt.mpr (Nat.le_add_left 2 f)))
noncomputable def gs_X4_begin_0 : zMt := zgq false [] 3 [.inr (.ref 21), .inr (.ref 9)] q_X4_begin_0 al_X4_begin_0
set_option maxRecDepth 100000 in
theorem cs_X4_begin_0 (d : Nat) : zC l G gh (d + 3) n_X4_begin gs_X4_begin_0 := zgq_ok0 (pcs := p_X4_begin) (by decide) rfl rfl (fun a ha => by simp only [al_X4_begin_0, List.mem_cons, List.not_mem_nil, or_false] at ha; rcases ha with rfl <;> decide +kernel) (fun gh => x_X4_begin_0 d) (by decide +kernel)
def q_X4_begin_1 : List (Nat × Nat) := [(21, zk10), (22, zk12), (23, zk12), (24, zk12), (25, zk12), (26, zk11), (27, zk11), (259, zk20), (263, zk12), (264, zk12)]
noncomputable def al_X4_begin_1 : zAq := [(none, [(21, zk88), (22, zk57), (23, zk57), (24, zk57), (25, zk57), (26, zk58), (27, zk58), (259, zk20), (263, zk12), (264, zk12)])]
def mq_X4_begin_1_1 : List (Nat × Nat) := [(21, zk88), (22, zk57), (23, zk57), (24, zk57), (25, zk57), (26, zk11), (27, zk11), (259, zk20), (263, zk12), (264, zk12)]
noncomputable def fm_X4_begin_1 : List zFm := [(0, [], (fun vs => [.inr (.ref 21), .inr (.ref 259)]), (fun vs => zP q_X4_begin_1), (fun vs => Nat.sub (Nat.add 7 0) 0)),
  (1, [(2, 2147483648, 2147483654)], (fun vs => [.inr (.ref 21), .inr (.ref 259), .inl (zn 0 vs 0)]), (fun vs => zP mq_X4_begin_1_1), (fun vs => Nat.sub (Nat.add 2147483654 0) (Nat.add 0 (Nat.mul 1 (zn 0 vs 0)))))]
def bf_X4_begin_1 : List Nat := [0, 2]
theorem r_X4_begin_1_0 : zbox [] (fun vs => zFrun (zpost (zAlq al_X4_begin_1)) 1000 t_X4_begin fm_X4_begin_1 bf_X4_begin_1 (0, vs)) = true := by decide +kernel
theorem r_X4_begin_1_1 : zbox [(2, 2147483648, 2147483654)] (fun vs => zFrun (zpost (zAlq al_X4_begin_1)) 1000 t_X4_begin fm_X4_begin_1 bf_X4_begin_1 (1, vs)) = true := by decide +kernel
set_option maxRecDepth 100000 in
theorem x_X4_begin_1 (d : Nat) : zS l G gh (d + 3) (zpost (zAlq al_X4_begin_1)) n_X4_begin (zn 0 p_X4_begin 0) (zwc (0, [.inr (.ref 21), .inr (.ref 259)], zP q_X4_begin_1) 0) := zentry (tt_X4_begin d) fm_X4_begin_1 bf_X4_begin_1 1000 (by decide +kernel) rfl ⟨Nat.zero_lt_succ _, trivial⟩ (fun f hf => match f, hf with
  | 0, _ => fun vs hv => (zbox_t r_X4_begin_1_0) vs hv
  | 1, _ => fun vs hv => (zbox_t r_X4_begin_1_1) vs hv
  | f + 2, h => absurd (show f + 2 < 2 from h) (Nat.not_lt.mpr (Nat.le_add_left 2 f)))
noncomputable def gs_X4_begin_1 : zMt := zgq false [] 3 [.inr (.ref 21), .inr (.ref 259)] q_X4_begin_1 al_X4_begin_1
set_option maxRecDepth 100000 in
theorem cs_X4_begin_1 (d : Nat) : zC l G gh (d + 3) n_X4_begin gs_X4_begin_1 := zgq_ok0 (pcs := p_X4_begin) (by decide) rfl rfl (fun a ha => by simp only [al_X4_begin_1, List.mem_cons, List.not_mem_nil, or_false] at ha; rcases ha with rfl <;> decide +kernel) (fun gh => x_X4_begin_1 d) (by decide +kernel)
noncomputable def gs_X4_begin : zMt := (zor gs_X4_begin_0 gs_X4_begin_1)
theorem cs_X4_begin (d : Nat) : zC l G gh (d + 3) n_X4_begin gs_X4_begin := (zor_ok (cs_X4_begin_0 d) (cs_X4_begin_1 d))
def p_X0_heat : List Nat := [0]
noncomputable def b_X0_heat_0 : zBl := fun jp K => oAld 0 <| oGetR 0 12 <| oIld 1 <| oCv 2 1 f_X2_heat <| oIret K
theorem s_X0_heat_0 (d : Nat) : zPb l G gh (d + 4) n_X0_heat p_X0_heat 0 b_X0_heat_0 := fun K jp hj =>
    z_aload_n (n := 0) (i := 0) (zd (i := .aload_n 0) (n := 1) (by decide +kernel)) rfl <|
    z_getR (ci := 0) (j := 12) (idx := 53) (zd (i := .getfield 53) (n := 3) (by decide +kernel)) (by decide +kernel) (by decide +kernel) rfl g304 <|
    z_iload_n (n := 1) (i := 1) (zd (i := .iload_n 1) (n := 1) (by decide +kernel)) rfl <|
    z_callV (idx := 61) (ci := 2) (N := n_X2_heat) (zd (i := .invokevirtual 61) (n := 3) (by decide +kernel)) to_X2_heat g720 g721 g722 (by decide +kernel) rfl rfl rfl (c_X2_heat (l := l) (G := G) (gh := gh) (d)) <|
    z_iret (zd (i := .ireturn) (n := 1) (by decide +kernel)) rfl
noncomputable def t_X0_heat : List zBl := [b_X0_heat_0]
theorem tt_X0_heat (d : Nat) : zT (zPb l G gh (d + 4) n_X0_heat p_X0_heat) t_X0_heat p_X0_heat := ⟨s_X0_heat_0 d, trivial⟩
noncomputable def f_X0_heat : zMt := zmet 2 t_X0_heat
theorem c_X0_heat (d : Nat) : zC l G gh (d + 4) n_X0_heat f_X0_heat := zmet_ok (pcs := p_X0_heat) (by decide) rfl rfl (tt_X0_heat d)
def p_X0_isSeenFrom : List Nat := [0]
noncomputable def b_X0_isSeenFrom_0 : zBl := fun jp K => oAld 0 <| oGetR 0 12 <| oIld 3 <| oIld 4 <| oIld 1 <| oAld 0 <| oGetR 0 3 <| oIld 2 <| oXald 10 <| oAld 0 <| oGetR 0 4 <| oIld 2 <| oXald 10 <| oCv 2 5 gs_X2_aim <| oAld 0 <| oGetR 0 12 <| oCv 2 0 f_X2_isSeen <| oZret K
theorem s_X0_isSeenFrom_0 (d : Nat) : zPb l G gh (d + 4) n_X0_isSeenFrom p_X0_isSeenFrom 0 b_X0_isSeenFrom_0 := fun K jp hj =>
    z_aload_n (n := 0) (i := 0) (zd (i := .aload_n 0) (n := 1) (by decide +kernel)) rfl <|
    z_getR (ci := 0) (j := 12) (idx := 53) (zd (i := .getfield 53) (n := 3) (by decide +kernel)) (by decide +kernel) (by decide +kernel) rfl g304 <|
    z_iload_n (n := 3) (i := 3) (zd (i := .iload_n 3) (n := 1) (by decide +kernel)) rfl <|
    z_iload (i := 4) (zd (i := .iload 4) (n := 2) (by decide +kernel)) <|
    z_iload_n (n := 1) (i := 1) (zd (i := .iload_n 1) (n := 1) (by decide +kernel)) rfl <|
    z_aload_n (n := 0) (i := 0) (zd (i := .aload_n 0) (n := 1) (by decide +kernel)) rfl <|
    z_getR (ci := 0) (j := 3) (idx := 22) (zd (i := .getfield 22) (n := 3) (by decide +kernel)) (by decide +kernel) (by decide +kernel) rfl g281 <|
    z_iload_n (n := 2) (i := 2) (zd (i := .iload_n 2) (n := 1) (by decide +kernel)) rfl <|
    z_iald (zd (i := .iaload) (n := 1) (by decide +kernel)) <|
    z_aload_n (n := 0) (i := 0) (zd (i := .aload_n 0) (n := 1) (by decide +kernel)) rfl <|
    z_getR (ci := 0) (j := 4) (idx := 26) (zd (i := .getfield 26) (n := 3) (by decide +kernel)) (by decide +kernel) (by decide +kernel) rfl g283 <|
    z_iload_n (n := 2) (i := 2) (zd (i := .iload_n 2) (n := 1) (by decide +kernel)) rfl <|
    z_iald (zd (i := .iaload) (n := 1) (by decide +kernel)) <|
    z_callV (idx := 65) (ci := 2) (N := n_X2_aim) (zd (i := .invokevirtual 65) (n := 3) (by decide +kernel)) to_X2_aim g749 g750 g751 (by decide +kernel) rfl rfl rfl (cs_X2_aim (l := l) (G := G) (gh := gh) (d + 2)) <|
    z_aload_n (n := 0) (i := 0) (zd (i := .aload_n 0) (n := 1) (by decide +kernel)) rfl <|
    z_getR (ci := 0) (j := 12) (idx := 53) (zd (i := .getfield 53) (n := 3) (by decide +kernel)) (by decide +kernel) (by decide +kernel) rfl g304 <|
    z_callV (idx := 69) (ci := 2) (N := n_X2_isSeen) (zd (i := .invokevirtual 69) (n := 3) (by decide +kernel)) to_X2_isSeen g756 g757 g758 (by decide +kernel) rfl rfl rfl (c_X2_isSeen (l := l) (G := G) (gh := gh) (d)) <|
    z_zret (zd (i := .ireturn) (n := 1) (by decide +kernel)) rfl
noncomputable def t_X0_isSeenFrom : List zBl := [b_X0_isSeenFrom_0]
theorem tt_X0_isSeenFrom (d : Nat) : zT (zPb l G gh (d + 4) n_X0_isSeenFrom p_X0_isSeenFrom) t_X0_isSeenFrom p_X0_isSeenFrom := ⟨s_X0_isSeenFrom_0 d, trivial⟩
def q_X0_isSeenFrom_0 : List (Nat × Nat) := [(259, zk20), (261, zk12), (262, zk12), (265, zk2), (266, zk18), (267, zk18), (268, zk19), (269, zk3), (270, zk7)]
noncomputable def al_X0_isSeenFrom_0 : zAq := [(some (.inl 9223372043297226753), [(259, zk20), (261, zk12), (262, zk12), (265, zk2), (266, zk18), (267, zk18), (268, zk19), (269, zk4), (270, zk9)])]
noncomputable def fm_X0_isSeenFrom_0 : List zFm := [(0, [], (fun vs => [.inr (.ref 259), .inl 8589934591, .inl 9223372043297226757, .inl 8589934591, .inl 8589934591]), (fun vs => zP q_X0_isSeenFrom_0), (fun vs => Nat.sub (Nat.add 0 0) 0))]
def bf_X0_isSeenFrom_0 : List Nat := []
theorem r_X0_isSeenFrom_0_0 : zbox [] (fun vs => zFrun (zpost (zAlq al_X0_isSeenFrom_0)) 1000 t_X0_isSeenFrom fm_X0_isSeenFrom_0 bf_X0_isSeenFrom_0 (0, vs)) = true := by decide +kernel
set_option maxRecDepth 100000 in
theorem x_X0_isSeenFrom_0 (d : Nat) : zS l G gh (d + 4) (zpost (zAlq al_X0_isSeenFrom_0)) n_X0_isSeenFrom (zn 0 p_X0_isSeenFrom 0) (zwc (0, [.inr (.ref 259), .inl 8589934591, .inl 9223372043297226757, .inl 8589934591, .inl 8589934591], zP q_X0_isSeenFrom_0) 0) := zentry (tt_X0_isSeenFrom d) fm_X0_isSeenFrom_0 bf_X0_isSeenFrom_0 1000 (by decide +kernel) rfl ⟨Nat.zero_lt_succ _, trivial⟩ (fun f hf => match f, hf with
  | 0, _ => fun vs hv => (zbox_t r_X0_isSeenFrom_0_0) vs hv
  | f + 1, h => absurd (show f + 1 < 1 from h) (Nat.not_lt.mpr (Nat.le_add_left 1 f)))
noncomputable def gs_X0_isSeenFrom_0 : zMt := zgq false [] 5 [.inr (.ref 259), .inl 8589934591, .inl 9223372043297226757, .inl 8589934591, .inl 8589934591] q_X0_isSeenFrom_0 al_X0_isSeenFrom_0
set_option maxRecDepth 100000 in
theorem cs_X0_isSeenFrom_0 (d : Nat) : zC l G gh (d + 4) n_X0_isSeenFrom gs_X0_isSeenFrom_0 := zgq_ok0 (pcs := p_X0_isSeenFrom) (by decide) rfl rfl (fun a ha => by simp only [al_X0_isSeenFrom_0, List.mem_cons, List.not_mem_nil, or_false] at ha; rcases ha with rfl <;> decide +kernel) (fun gh => x_X0_isSeenFrom_0 d) (by decide +kernel)
def q_X0_isSeenFrom_1 : List (Nat × Nat) := [(9, zk21), (11, zk12), (12, zk12), (15, zk5), (16, zk18), (17, zk18), (18, zk19), (19, zk3), (20, zk7)]
noncomputable def al_X0_isSeenFrom_1 : zAq := [(some (.inl 9223372043297226753), [(9, zk21), (11, zk12), (12, zk12), (15, zk5), (16, zk18), (17, zk18), (18, zk19), (19, zk4), (20, zk9)])]
noncomputable def fm_X0_isSeenFrom_1 : List zFm := [(0, [], (fun vs => [.inr (.ref 9), .inl 8589934591, .inl 9223372043297226757, .inl 8589934591, .inl 8589934591]), (fun vs => zP q_X0_isSeenFrom_1), (fun vs => Nat.sub (Nat.add 0 0) 0))]
def bf_X0_isSeenFrom_1 : List Nat := []
theorem r_X0_isSeenFrom_1_0 : zbox [] (fun vs => zFrun (zpost (zAlq al_X0_isSeenFrom_1)) 1000 t_X0_isSeenFrom fm_X0_isSeenFrom_1 bf_X0_isSeenFrom_1 (0, vs)) = true := by decide +kernel
set_option maxRecDepth 100000 in
theorem x_X0_isSeenFrom_1 (d : Nat) : zS l G gh (d + 4) (zpost (zAlq al_X0_isSeenFrom_1)) n_X0_isSeenFrom (zn 0 p_X0_isSeenFrom 0) (zwc (0, [.inr (.ref 9), .inl 8589934591, .inl 9223372043297226757, .inl 8589934591, .inl 8589934591], zP q_X0_isSeenFrom_1) 0) := zentry (tt_X0_isSeenFrom d) fm_X0_isSeenFrom_1 bf_X0_isSeenFrom_1 1000 (by decide +kernel) rfl ⟨Nat.zero_lt_succ _, trivial⟩ (fun f hf => match f, hf with
  | 0, _ => fun vs hv => (zbox_t r_X0_isSeenFrom_1_0) vs hv
  | f + 1, h => absurd (show f + 1 < 1 from h) (Nat.not_lt.mpr (Nat.le_add_left 1 f)))
noncomputable def gs_X0_isSeenFrom_1 : zMt := zgq false [] 5 [.inr (.ref 9), .inl 8589934591, .inl 9223372043297226757, .inl 8589934591, .inl 8589934591] q_X0_isSeenFrom_1 al_X0_isSeenFrom_1
set_option maxRecDepth 100000 in
theorem cs_X0_isSeenFrom_1 (d : Nat) : zC l G gh (d + 4) n_X0_isSeenFrom gs_X0_isSeenFrom_1 := zgq_ok0 (pcs := p_X0_isSeenFrom) (by decide) rfl rfl (fun a ha => by simp only [al_X0_isSeenFrom_1, List.mem_cons, List.not_mem_nil, or_false] at ha; rcases ha with rfl <;> decide +kernel) (fun gh => x_X0_isSeenFrom_1 d) (by decide +kernel)
noncomputable def gs_X0_isSeenFrom : zMt := (zor gs_X0_isSeenFrom_0 gs_X0_isSeenFrom_1)
theorem cs_X0_isSeenFrom (d : Nat) : zC l G gh (d + 4) n_X0_isSeenFrom gs_X0_isSeenFrom := (zor_ok (cs_X0_isSeenFrom_0 d) (cs_X0_isSeenFrom_1 d))
def p_X0_movedFrom : List Nat := [0]
noncomputable def b_X0_movedFrom_0 : zBl := fun jp K => oAld 0 <| oGetR 0 12 <| oIld 3 <| oIld 4 <| oIld 1 <| oAld 0 <| oGetR 0 3 <| oIld 2 <| oXald 10 <| oAld 0 <| oGetR 0 4 <| oIld 2 <| oXald 10 <| oCv 2 5 gs_X2_aim <| oAld 0 <| oGetR 0 12 <| oCv 2 0 f_X2_moved <| oIret K
theorem s_X0_movedFrom_0 (d : Nat) : zPb l G gh (d + 4) n_X0_movedFrom p_X0_movedFrom 0 b_X0_movedFrom_0 := fun K jp hj =>
    z_aload_n (n := 0) (i := 0) (zd (i := .aload_n 0) (n := 1) (by decide +kernel)) rfl <|
    z_getR (ci := 0) (j := 12) (idx := 53) (zd (i := .getfield 53) (n := 3) (by decide +kernel)) (by decide +kernel) (by decide +kernel) rfl g304 <|
    z_iload_n (n := 3) (i := 3) (zd (i := .iload_n 3) (n := 1) (by decide +kernel)) rfl <|
    z_iload (i := 4) (zd (i := .iload 4) (n := 2) (by decide +kernel)) <|
    z_iload_n (n := 1) (i := 1) (zd (i := .iload_n 1) (n := 1) (by decide +kernel)) rfl <|
    z_aload_n (n := 0) (i := 0) (zd (i := .aload_n 0) (n := 1) (by decide +kernel)) rfl <|
    z_getR (ci := 0) (j := 3) (idx := 22) (zd (i := .getfield 22) (n := 3) (by decide +kernel)) (by decide +kernel) (by decide +kernel) rfl g281 <|
    z_iload_n (n := 2) (i := 2) (zd (i := .iload_n 2) (n := 1) (by decide +kernel)) rfl <|
    z_iald (zd (i := .iaload) (n := 1) (by decide +kernel)) <|
    z_aload_n (n := 0) (i := 0) (zd (i := .aload_n 0) (n := 1) (by decide +kernel)) rfl <|
    z_getR (ci := 0) (j := 4) (idx := 26) (zd (i := .getfield 26) (n := 3) (by decide +kernel)) (by decide +kernel) (by decide +kernel) rfl g283 <|
    z_iload_n (n := 2) (i := 2) (zd (i := .iload_n 2) (n := 1) (by decide +kernel)) rfl <|
    z_iald (zd (i := .iaload) (n := 1) (by decide +kernel)) <|
    z_callV (idx := 65) (ci := 2) (N := n_X2_aim) (zd (i := .invokevirtual 65) (n := 3) (by decide +kernel)) to_X2_aim g749 g750 g751 (by decide +kernel) rfl rfl rfl (cs_X2_aim (l := l) (G := G) (gh := gh) (d + 2)) <|
    z_aload_n (n := 0) (i := 0) (zd (i := .aload_n 0) (n := 1) (by decide +kernel)) rfl <|
    z_getR (ci := 0) (j := 12) (idx := 53) (zd (i := .getfield 53) (n := 3) (by decide +kernel)) (by decide +kernel) (by decide +kernel) rfl g304 <|
    z_callV (idx := 77) (ci := 2) (N := n_X2_moved) (zd (i := .invokevirtual 77) (n := 3) (by decide +kernel)) to_X2_moved g812 g813 g814 (by decide +kernel) rfl rfl rfl (c_X2_moved (l := l) (G := G) (gh := gh) (d)) <|
    z_iret (zd (i := .ireturn) (n := 1) (by decide +kernel)) rfl
noncomputable def t_X0_movedFrom : List zBl := [b_X0_movedFrom_0]
theorem tt_X0_movedFrom (d : Nat) : zT (zPb l G gh (d + 4) n_X0_movedFrom p_X0_movedFrom) t_X0_movedFrom p_X0_movedFrom := ⟨s_X0_movedFrom_0 d, trivial⟩
def q_X0_movedFrom_0 : List (Nat × Nat) := [(259, zk20), (261, zk12), (262, zk12), (265, zk2), (266, zk18), (267, zk18), (268, zk19), (269, zk3), (270, zk7)]
noncomputable def al_X0_movedFrom_0 : zAq := [(some (.inl 9223372004642521097), [(259, zk20), (261, zk12), (262, zk12), (265, zk2), (266, zk18), (267, zk18), (268, zk19), (269, zk4), (270, zk9)])]
noncomputable def fm_X0_movedFrom_0 : List zFm := [(0, [], (fun vs => [.inr (.ref 259), .inl 8589934591, .inl 9223372043297226757, .inl 8589934591, .inl 8589934591]), (fun vs => zP q_X0_movedFrom_0), (fun vs => Nat.sub (Nat.add 0 0) 0))]
def bf_X0_movedFrom_0 : List Nat := []
theorem r_X0_movedFrom_0_0 : zbox [] (fun vs => zFrun (zpost (zAlq al_X0_movedFrom_0)) 1000 t_X0_movedFrom fm_X0_movedFrom_0 bf_X0_movedFrom_0 (0, vs)) = true := by decide +kernel
set_option maxRecDepth 100000 in
theorem x_X0_movedFrom_0 (d : Nat) : zS l G gh (d + 4) (zpost (zAlq al_X0_movedFrom_0)) n_X0_movedFrom (zn 0 p_X0_movedFrom 0) (zwc (0, [.inr (.ref 259), .inl 8589934591, .inl 9223372043297226757, .inl 8589934591, .inl 8589934591], zP q_X0_movedFrom_0) 0) := zentry (tt_X0_movedFrom d) fm_X0_movedFrom_0 bf_X0_movedFrom_0 1000 (by decide +kernel) rfl ⟨Nat.zero_lt_succ _, trivial⟩ (fun f hf => match f, hf with
  | 0, _ => fun vs hv => (zbox_t r_X0_movedFrom_0_0) vs hv
  | f + 1, h => absurd (show f + 1 < 1 from h) (Nat.not_lt.mpr (Nat.le_add_left 1 f)))
noncomputable def gs_X0_movedFrom_0 : zMt := zgq false [] 5 [.inr (.ref 259), .inl 8589934591, .inl 9223372043297226757, .inl 8589934591, .inl 8589934591] q_X0_movedFrom_0 al_X0_movedFrom_0
set_option maxRecDepth 100000 in
theorem cs_X0_movedFrom_0 (d : Nat) : zC l G gh (d + 4) n_X0_movedFrom gs_X0_movedFrom_0 := zgq_ok0 (pcs := p_X0_movedFrom) (by decide) rfl rfl (fun a ha => by simp only [al_X0_movedFrom_0, List.mem_cons, List.not_mem_nil, or_false] at ha; rcases ha with rfl <;> decide +kernel) (fun gh => x_X0_movedFrom_0 d) (by decide +kernel)
def q_X0_movedFrom_1 : List (Nat × Nat) := [(9, zk21), (11, zk12), (12, zk12), (15, zk5), (16, zk18), (17, zk18), (18, zk19), (19, zk3), (20, zk7)]
noncomputable def al_X0_movedFrom_1 : zAq := [(some (.inl 9223372004642521097), [(9, zk21), (11, zk12), (12, zk12), (15, zk5), (16, zk18), (17, zk18), (18, zk19), (19, zk4), (20, zk9)])]
noncomputable def fm_X0_movedFrom_1 : List zFm := [(0, [], (fun vs => [.inr (.ref 9), .inl 8589934591, .inl 9223372043297226757, .inl 8589934591, .inl 8589934591]), (fun vs => zP q_X0_movedFrom_1), (fun vs => Nat.sub (Nat.add 0 0) 0))]
def bf_X0_movedFrom_1 : List Nat := []
theorem r_X0_movedFrom_1_0 : zbox [] (fun vs => zFrun (zpost (zAlq al_X0_movedFrom_1)) 1000 t_X0_movedFrom fm_X0_movedFrom_1 bf_X0_movedFrom_1 (0, vs)) = true := by decide +kernel
set_option maxRecDepth 100000 in
theorem x_X0_movedFrom_1 (d : Nat) : zS l G gh (d + 4) (zpost (zAlq al_X0_movedFrom_1)) n_X0_movedFrom (zn 0 p_X0_movedFrom 0) (zwc (0, [.inr (.ref 9), .inl 8589934591, .inl 9223372043297226757, .inl 8589934591, .inl 8589934591], zP q_X0_movedFrom_1) 0) := zentry (tt_X0_movedFrom d) fm_X0_movedFrom_1 bf_X0_movedFrom_1 1000 (by decide +kernel) rfl ⟨Nat.zero_lt_succ _, trivial⟩ (fun f hf => match f, hf with
  | 0, _ => fun vs hv => (zbox_t r_X0_movedFrom_1_0) vs hv
  | f + 1, h => absurd (show f + 1 < 1 from h) (Nat.not_lt.mpr (Nat.le_add_left 1 f)))
noncomputable def gs_X0_movedFrom_1 : zMt := zgq false [] 5 [.inr (.ref 9), .inl 8589934591, .inl 9223372043297226757, .inl 8589934591, .inl 8589934591] q_X0_movedFrom_1 al_X0_movedFrom_1
set_option maxRecDepth 100000 in
theorem cs_X0_movedFrom_1 (d : Nat) : zC l G gh (d + 4) n_X0_movedFrom gs_X0_movedFrom_1 := zgq_ok0 (pcs := p_X0_movedFrom) (by decide) rfl rfl (fun a ha => by simp only [al_X0_movedFrom_1, List.mem_cons, List.not_mem_nil, or_false] at ha; rcases ha with rfl <;> decide +kernel) (fun gh => x_X0_movedFrom_1 d) (by decide +kernel)
noncomputable def gs_X0_movedFrom : zMt := (zor gs_X0_movedFrom_0 gs_X0_movedFrom_1)
theorem cs_X0_movedFrom (d : Nat) : zC l G gh (d + 4) n_X0_movedFrom gs_X0_movedFrom := (zor_ok (cs_X0_movedFrom_0 d) (cs_X0_movedFrom_1 d))
def p_X0_rentFrom : List Nat := [0]
noncomputable def b_X0_rentFrom_0 : zBl := fun jp K => oAld 0 <| oGetR 0 12 <| oIld 3 <| oIld 4 <| oIld 1 <| oAld 0 <| oGetR 0 3 <| oIld 2 <| oXald 10 <| oAld 0 <| oGetR 0 4 <| oIld 2 <| oXald 10 <| oCv 2 5 gs_X2_aim <| oAld 0 <| oGetR 0 12 <| oIld 5 <| oCv 2 1 f_X2_rent <| oIret K
theorem s_X0_rentFrom_0 (d : Nat) : zPb l G gh (d + 4) n_X0_rentFrom p_X0_rentFrom 0 b_X0_rentFrom_0 := fun K jp hj =>
    z_aload_n (n := 0) (i := 0) (zd (i := .aload_n 0) (n := 1) (by decide +kernel)) rfl <|
    z_getR (ci := 0) (j := 12) (idx := 53) (zd (i := .getfield 53) (n := 3) (by decide +kernel)) (by decide +kernel) (by decide +kernel) rfl g304 <|
    z_iload_n (n := 3) (i := 3) (zd (i := .iload_n 3) (n := 1) (by decide +kernel)) rfl <|
    z_iload (i := 4) (zd (i := .iload 4) (n := 2) (by decide +kernel)) <|
    z_iload_n (n := 1) (i := 1) (zd (i := .iload_n 1) (n := 1) (by decide +kernel)) rfl <|
    z_aload_n (n := 0) (i := 0) (zd (i := .aload_n 0) (n := 1) (by decide +kernel)) rfl <|
    z_getR (ci := 0) (j := 3) (idx := 22) (zd (i := .getfield 22) (n := 3) (by decide +kernel)) (by decide +kernel) (by decide +kernel) rfl g281 <|
    z_iload_n (n := 2) (i := 2) (zd (i := .iload_n 2) (n := 1) (by decide +kernel)) rfl <|
    z_iald (zd (i := .iaload) (n := 1) (by decide +kernel)) <|
    z_aload_n (n := 0) (i := 0) (zd (i := .aload_n 0) (n := 1) (by decide +kernel)) rfl <|
    z_getR (ci := 0) (j := 4) (idx := 26) (zd (i := .getfield 26) (n := 3) (by decide +kernel)) (by decide +kernel) (by decide +kernel) rfl g283 <|
    z_iload_n (n := 2) (i := 2) (zd (i := .iload_n 2) (n := 1) (by decide +kernel)) rfl <|
    z_iald (zd (i := .iaload) (n := 1) (by decide +kernel)) <|
    z_callV (idx := 65) (ci := 2) (N := n_X2_aim) (zd (i := .invokevirtual 65) (n := 3) (by decide +kernel)) to_X2_aim g749 g750 g751 (by decide +kernel) rfl rfl rfl (cs_X2_aim (l := l) (G := G) (gh := gh) (d + 2)) <|
    z_aload_n (n := 0) (i := 0) (zd (i := .aload_n 0) (n := 1) (by decide +kernel)) rfl <|
    z_getR (ci := 0) (j := 12) (idx := 53) (zd (i := .getfield 53) (n := 3) (by decide +kernel)) (by decide +kernel) (by decide +kernel) rfl g304 <|
    z_iload (i := 5) (zd (i := .iload 5) (n := 2) (by decide +kernel)) <|
    z_callV (idx := 80) (ci := 2) (N := n_X2_rent) (zd (i := .invokevirtual 80) (n := 3) (by decide +kernel)) to_X2_rent g820 g821 g822 (by decide +kernel) rfl rfl rfl (c_X2_rent (l := l) (G := G) (gh := gh) (d)) <|
    z_iret (zd (i := .ireturn) (n := 1) (by decide +kernel)) rfl
noncomputable def t_X0_rentFrom : List zBl := [b_X0_rentFrom_0]
theorem tt_X0_rentFrom (d : Nat) : zT (zPb l G gh (d + 4) n_X0_rentFrom p_X0_rentFrom) t_X0_rentFrom p_X0_rentFrom := ⟨s_X0_rentFrom_0 d, trivial⟩
def q_X0_rentFrom_0 : List (Nat × Nat) := [(259, zk20), (261, zk12), (262, zk12), (265, zk2), (266, zk18), (267, zk18), (268, zk19), (269, zk3), (270, zk7)]
noncomputable def al_X0_rentFrom_0 : zAq := [(some (.inl 9223372043297226851), [(259, zk20), (261, zk12), (262, zk12), (265, zk2), (266, zk18), (267, zk18), (268, zk19), (269, zk4), (270, zk9)])]
noncomputable def fm_X0_rentFrom_0 : List zFm := [(0, [], (fun vs => [.inr (.ref 259), .inl 8589934591, .inl 9223372043297226757, .inl 8589934591, .inl 8589934591, .inl 8589934591]), (fun vs => zP q_X0_rentFrom_0), (fun vs => Nat.sub (Nat.add 0 0) 0))]
def bf_X0_rentFrom_0 : List Nat := []
theorem r_X0_rentFrom_0_0 : zbox [] (fun vs => zFrun (zpost (zAlq al_X0_rentFrom_0)) 1000 t_X0_rentFrom fm_X0_rentFrom_0 bf_X0_rentFrom_0 (0, vs)) = true := by decide +kernel
set_option maxRecDepth 100000 in
theorem x_X0_rentFrom_0 (d : Nat) : zS l G gh (d + 4) (zpost (zAlq al_X0_rentFrom_0)) n_X0_rentFrom (zn 0 p_X0_rentFrom 0) (zwc (0, [.inr (.ref 259), .inl 8589934591, .inl 9223372043297226757, .inl 8589934591, .inl 8589934591, .inl 8589934591], zP q_X0_rentFrom_0) 0) := zentry (tt_X0_rentFrom d) fm_X0_rentFrom_0 bf_X0_rentFrom_0 1000 (by decide +kernel) rfl ⟨Nat.zero_lt_succ _, trivial⟩ (fun f hf => match f, hf with
  | 0, _ => fun vs hv => (zbox_t r_X0_rentFrom_0_0) vs hv
  | f + 1, h => absurd (show f + 1 < 1 from h) (Nat.not_lt.mpr (Nat.le_add_left 1 f)))
noncomputable def gs_X0_rentFrom_0 : zMt := zgq false [] 6 [.inr (.ref 259), .inl 8589934591, .inl 9223372043297226757, .inl 8589934591, .inl 8589934591, .inl 8589934591] q_X0_rentFrom_0 al_X0_rentFrom_0
set_option maxRecDepth 100000 in
theorem cs_X0_rentFrom_0 (d : Nat) : zC l G gh (d + 4) n_X0_rentFrom gs_X0_rentFrom_0 := zgq_ok0 (pcs := p_X0_rentFrom) (by decide) rfl rfl (fun a ha => by simp only [al_X0_rentFrom_0, List.mem_cons, List.not_mem_nil, or_false] at ha; rcases ha with rfl <;> decide +kernel) (fun gh => x_X0_rentFrom_0 d) (by decide +kernel)
def q_X0_rentFrom_1 : List (Nat × Nat) := [(9, zk21), (11, zk12), (12, zk12), (15, zk5), (16, zk18), (17, zk18), (18, zk19), (19, zk3), (20, zk7)]
noncomputable def al_X0_rentFrom_1 : zAq := [(some (.inl 9223372043297226851), [(9, zk21), (11, zk12), (12, zk12), (15, zk5), (16, zk18), (17, zk18), (18, zk19), (19, zk4), (20, zk9)])]
noncomputable def fm_X0_rentFrom_1 : List zFm := [(0, [], (fun vs => [.inr (.ref 9), .inl 8589934591, .inl 9223372043297226757, .inl 8589934591, .inl 8589934591, .inl 8589934591]), (fun vs => zP q_X0_rentFrom_1), (fun vs => Nat.sub (Nat.add 0 0) 0))]
def bf_X0_rentFrom_1 : List Nat := []
theorem r_X0_rentFrom_1_0 : zbox [] (fun vs => zFrun (zpost (zAlq al_X0_rentFrom_1)) 1000 t_X0_rentFrom fm_X0_rentFrom_1 bf_X0_rentFrom_1 (0, vs)) = true := by decide +kernel
set_option maxRecDepth 100000 in
theorem x_X0_rentFrom_1 (d : Nat) : zS l G gh (d + 4) (zpost (zAlq al_X0_rentFrom_1)) n_X0_rentFrom (zn 0 p_X0_rentFrom 0) (zwc (0, [.inr (.ref 9), .inl 8589934591, .inl 9223372043297226757, .inl 8589934591, .inl 8589934591, .inl 8589934591], zP q_X0_rentFrom_1) 0) := zentry (tt_X0_rentFrom d) fm_X0_rentFrom_1 bf_X0_rentFrom_1 1000 (by decide +kernel) rfl ⟨Nat.zero_lt_succ _, trivial⟩ (fun f hf => match f, hf with
  | 0, _ => fun vs hv => (zbox_t r_X0_rentFrom_1_0) vs hv
  | f + 1, h => absurd (show f + 1 < 1 from h) (Nat.not_lt.mpr (Nat.le_add_left 1 f)))
noncomputable def gs_X0_rentFrom_1 : zMt := zgq false [] 6 [.inr (.ref 9), .inl 8589934591, .inl 9223372043297226757, .inl 8589934591, .inl 8589934591, .inl 8589934591] q_X0_rentFrom_1 al_X0_rentFrom_1
set_option maxRecDepth 100000 in
theorem cs_X0_rentFrom_1 (d : Nat) : zC l G gh (d + 4) n_X0_rentFrom gs_X0_rentFrom_1 := zgq_ok0 (pcs := p_X0_rentFrom) (by decide) rfl rfl (fun a ha => by simp only [al_X0_rentFrom_1, List.mem_cons, List.not_mem_nil, or_false] at ha; rcases ha with rfl <;> decide +kernel) (fun gh => x_X0_rentFrom_1 d) (by decide +kernel)
noncomputable def gs_X0_rentFrom : zMt := (zor gs_X0_rentFrom_0 gs_X0_rentFrom_1)
theorem cs_X0_rentFrom (d : Nat) : zC l G gh (d + 4) n_X0_rentFrom gs_X0_rentFrom := (zor_ok (cs_X0_rentFrom_0 d) (cs_X0_rentFrom_1 d))
def p_X0_passLoan : List Nat := [0, 21, 22, 58, 68, 119, 144, 163, 199]
noncomputable def b_X0_passLoan_0 : zBl := fun jp K => oIld 2 <| oIld 3 <| oCs 2 f_X8_loanOf <| oIst 6 <| oAld 1 <| oGetR 4 5 <| oIld 6 <| oXald 10 <| oIst 7 <| oNLC 7 2147483648 zneN zeqN zn1_ne zn1_eq (jp 2) (jp 1)
theorem s_X0_passLoan_0 (d : Nat) : zPb l G gh (d + 4) n_X0_passLoan p_X0_passLoan 0 b_X0_passLoan_0 := fun K jp hj =>
    z_iload_n (n := 2) (i := 2) (zd (i := .iload_n 2) (n := 1) (by decide +kernel)) rfl <|
    z_iload_n (n := 3) (i := 3) (zd (i := .iload_n 3) (n := 1) (by decide +kernel)) rfl <|
    z_callSN (idx := 109) (N := n_X8_loanOf) (host := "MirageLoans") (zd (i := .invokestatic 109) (n := 3) (by decide +kernel)) to_X8_loanOf (by decide +kernel) g765 rfl rfl (c_X8_loanOf (l := l) (G := G) (gh := gh) (d + 2)) <|
    z_istore (i := 6) (zd (i := .istore 6) (n := 2) (by decide +kernel)) (by decide +kernel) <|
    z_aload_n (n := 1) (i := 1) (zd (i := .aload_n 1) (n := 1) (by decide +kernel)) rfl <|
    z_getR (ci := 4) (j := 5) (idx := 112) (zd (i := .getfield 112) (n := 3) (by decide +kernel)) (by decide +kernel) (by decide +kernel) rfl g384 <|
    z_iload (i := 6) (zd (i := .iload 6) (n := 2) (by decide +kernel)) <|
    z_iald (zd (i := .iaload) (n := 1) (by decide +kernel)) <|
    z_istore (i := 7) (zd (i := .istore 7) (n := 2) (by decide +kernel)) (by decide +kernel) <|
    z_nL0_ne (i := 7) (a1 := 2) (off := 4) (tgt := 22) (zLd_w (i := 7) (zd (i := .iload 7) (n := 2) (by decide +kernel))) (zd (i := .ifCond .ne (4)) (n := 3) (by decide +kernel)) (by decide +kernel) (zj (hj 2) (by decide +kernel)) (zj (hj 1) (by decide +kernel))
noncomputable def b_X0_passLoan_1 : zBl := fun jp K => oVret K
theorem s_X0_passLoan_1 (d : Nat) : zPb l G gh (d + 4) n_X0_passLoan p_X0_passLoan 21 b_X0_passLoan_1 := fun K jp hj =>
    z_vret (zd (i := .return_) (n := 1) (by decide +kernel)) rfl
noncomputable def b_X0_passLoan_2 : zBl := fun jp K => oAld 0 <| oGetR 0 12 <| oAld 1 <| oGetI 4 0 <| oIld 4 <| oAld 1 <| oGetR 4 1 <| oIld 2 <| oXald 10 <| oAld 0 <| oGetR 0 3 <| oIld 3 <| oXald 10 <| oAld 0 <| oGetR 0 4 <| oIld 3 <| oXald 10 <| oCv 2 5 gs_X2_aim <| oNLC 5 2147483648 zneN zeqN zn1_ne zn1_eq (jp 5) (jp 3)
theorem s_X0_passLoan_2 (d : Nat) : zPb l G gh (d + 4) n_X0_passLoan p_X0_passLoan 22 b_X0_passLoan_2 := fun K jp hj =>
    z_aload_n (n := 0) (i := 0) (zd (i := .aload_n 0) (n := 1) (by decide +kernel)) rfl <|
    z_getR (ci := 0) (j := 12) (idx := 53) (zd (i := .getfield 53) (n := 3) (by decide +kernel)) (by decide +kernel) (by decide +kernel) rfl g304 <|
    z_aload_n (n := 1) (i := 1) (zd (i := .aload_n 1) (n := 1) (by decide +kernel)) rfl <|
    z_getI (ci := 4) (j := 0) (idx := 95) (zd (i := .getfield 95) (n := 3) (by decide +kernel)) (by decide +kernel) (by decide +kernel) rfl g369 <|
    z_iload (i := 4) (zd (i := .iload 4) (n := 2) (by decide +kernel)) <|
    z_aload_n (n := 1) (i := 1) (zd (i := .aload_n 1) (n := 1) (by decide +kernel)) rfl <|
    z_getR (ci := 4) (j := 1) (idx := 115) (zd (i := .getfield 115) (n := 3) (by decide +kernel)) (by decide +kernel) (by decide +kernel) rfl g372 <|
    z_iload_n (n := 2) (i := 2) (zd (i := .iload_n 2) (n := 1) (by decide +kernel)) rfl <|
    z_iald (zd (i := .iaload) (n := 1) (by decide +kernel)) <|
    z_aload_n (n := 0) (i := 0) (zd (i := .aload_n 0) (n := 1) (by decide +kernel)) rfl <|
    z_getR (ci := 0) (j := 3) (idx := 22) (zd (i := .getfield 22) (n := 3) (by decide +kernel)) (by decide +kernel) (by decide +kernel) rfl g281 <|
    z_iload_n (n := 3) (i := 3) (zd (i := .iload_n 3) (n := 1) (by decide +kernel)) rfl <|
    z_iald (zd (i := .iaload) (n := 1) (by decide +kernel)) <|
    z_aload_n (n := 0) (i := 0) (zd (i := .aload_n 0) (n := 1) (by decide +kernel)) rfl <|
    z_getR (ci := 0) (j := 4) (idx := 26) (zd (i := .getfield 26) (n := 3) (by decide +kernel)) (by decide +kernel) (by decide +kernel) rfl g283 <|
    z_iload_n (n := 3) (i := 3) (zd (i := .iload_n 3) (n := 1) (by decide +kernel)) rfl <|
    z_iald (zd (i := .iaload) (n := 1) (by decide +kernel)) <|
    z_callV (idx := 65) (ci := 2) (N := n_X2_aim) (zd (i := .invokevirtual 65) (n := 3) (by decide +kernel)) to_X2_aim g749 g750 g751 (by decide +kernel) rfl rfl rfl (cs_X2_aim (l := l) (G := G) (gh := gh) (d + 2)) <|
    z_nL0_ne (i := 5) (a1 := 2) (off := 64) (tgt := 119) (zLd_w (i := 5) (zd (i := .iload 5) (n := 2) (by decide +kernel))) (zd (i := .ifCond .ne (64)) (n := 3) (by decide +kernel)) (by decide +kernel) (zj (hj 5) (by decide +kernel)) (zj (hj 3) (by decide +kernel))
noncomputable def b_X0_passLoan_3 : zBl := fun jp K => oAld 0 <| oGetR 0 12 <| oCv 2 0 f_X2_isSeen <| oIf zeq zne (jp 5) (jp 4)
theorem s_X0_passLoan_3 (d : Nat) : zPb l G gh (d + 4) n_X0_passLoan p_X0_passLoan 58 b_X0_passLoan_3 := fun K jp hj =>
    z_aload_n (n := 0) (i := 0) (zd (i := .aload_n 0) (n := 1) (by decide +kernel)) rfl <|
    z_getR (ci := 0) (j := 12) (idx := 53) (zd (i := .getfield 53) (n := 3) (by decide +kernel)) (by decide +kernel) (by decide +kernel) rfl g304 <|
    z_callV (idx := 69) (ci := 2) (N := n_X2_isSeen) (zd (i := .invokevirtual 69) (n := 3) (by decide +kernel)) to_X2_isSeen g756 g757 g758 (by decide +kernel) rfl rfl rfl (c_X2_isSeen (l := l) (G := G) (gh := gh) (d)) <|
    z_if_eq (off := 54) (tgt := 119) (zd (i := .ifCond .eq (54)) (n := 3) (by decide +kernel)) (by decide +kernel) (zj (hj 5) (by decide +kernel)) (zj (hj 4) (by decide +kernel))
noncomputable def b_X0_passLoan_4 : zBl := fun jp K => oAld 0 <| oGetR 0 12 <| oIld 7 <| oCv 2 1 f_X2_rent <| oIst 8 <| oAld 1 <| oGetR 4 2 <| oIld 2 <| oInt 2147583647 <| oAld 1 <| oGetR 4 2 <| oIld 2 <| oXald 10 <| oIld 8 <| oB2 zadd <| oM2 zmin <| oXast 10 zid <| oAld 1 <| oGetR 4 4 <| oIld 2 <| oDup2 <| oXald 10 <| oIld 8 <| oB2 zadd <| oXast 10 zid <| oAld 1 <| oGetR 4 6 <| oIld 6 <| oInt 2147483648 <| oXast 10 zid <| oVret K
theorem s_X0_passLoan_4 (d : Nat) : zPb l G gh (d + 4) n_X0_passLoan p_X0_passLoan 68 b_X0_passLoan_4 := fun K jp hj =>
    z_aload_n (n := 0) (i := 0) (zd (i := .aload_n 0) (n := 1) (by decide +kernel)) rfl <|
    z_getR (ci := 0) (j := 12) (idx := 53) (zd (i := .getfield 53) (n := 3) (by decide +kernel)) (by decide +kernel) (by decide +kernel) rfl g304 <|
    z_iload (i := 7) (zd (i := .iload 7) (n := 2) (by decide +kernel)) <|
    z_callV (idx := 80) (ci := 2) (N := n_X2_rent) (zd (i := .invokevirtual 80) (n := 3) (by decide +kernel)) to_X2_rent g820 g821 g822 (by decide +kernel) rfl rfl rfl (c_X2_rent (l := l) (G := G) (gh := gh) (d)) <|
    z_istore (i := 8) (zd (i := .istore 8) (n := 2) (by decide +kernel)) (by decide +kernel) <|
    z_aload_n (n := 1) (i := 1) (zd (i := .aload_n 1) (n := 1) (by decide +kernel)) rfl <|
    z_getR (ci := 4) (j := 2) (idx := 118) (zd (i := .getfield 118) (n := 3) (by decide +kernel)) (by decide +kernel) (by decide +kernel) rfl g375 <|
    z_iload_n (n := 2) (i := 2) (zd (i := .iload_n 2) (n := 1) (by decide +kernel)) rfl <|
    z_ldc (n := 119) (zd (i := .ldc 119) (n := 2) (by decide +kernel)) g885 (by decide +kernel) <|
    z_aload_n (n := 1) (i := 1) (zd (i := .aload_n 1) (n := 1) (by decide +kernel)) rfl <|
    z_getR (ci := 4) (j := 2) (idx := 118) (zd (i := .getfield 118) (n := 3) (by decide +kernel)) (by decide +kernel) (by decide +kernel) rfl g375 <|
    z_iload_n (n := 2) (i := 2) (zd (i := .iload_n 2) (n := 1) (by decide +kernel)) rfl <|
    z_iald (zd (i := .iaload) (n := 1) (by decide +kernel)) <|
    z_iload (i := 8) (zd (i := .iload 8) (n := 2) (by decide +kernel)) <|
    z_iadd (zd (i := .iadd) (n := 1) (by decide +kernel)) <|
    z_min (idx := 120) (zd (i := .invokestatic 120) (n := 3) (by decide +kernel)) g886 g578 g111 g579 <|
    z_iast (zd (i := .iastore) (n := 1) (by decide +kernel)) <|
    z_aload_n (n := 1) (i := 1) (zd (i := .aload_n 1) (n := 1) (by decide +kernel)) rfl <|
    z_getR (ci := 4) (j := 4) (idx := 125) (zd (i := .getfield 125) (n := 3) (by decide +kernel)) (by decide +kernel) (by decide +kernel) rfl g381 <|
    z_iload_n (n := 2) (i := 2) (zd (i := .iload_n 2) (n := 1) (by decide +kernel)) rfl <|
    z_dup2 (zd (i := .dup2) (n := 1) (by decide +kernel)) <|
    z_iald (zd (i := .iaload) (n := 1) (by decide +kernel)) <|
    z_iload (i := 8) (zd (i := .iload 8) (n := 2) (by decide +kernel)) <|
    z_iadd (zd (i := .iadd) (n := 1) (by decide +kernel)) <|
    z_iast (zd (i := .iastore) (n := 1) (by decide +kernel)) <|
    z_aload_n (n := 1) (i := 1) (zd (i := .aload_n 1) (n := 1) (by decide +kernel)) rfl <|
    z_getR (ci := 4) (j := 6) (idx := 127) (zd (i := .getfield 127) (n := 3) (by decide +kernel)) (by decide +kernel) (by decide +kernel) rfl g387 <|
    z_iload (i := 6) (zd (i := .iload 6) (n := 2) (by decide +kernel)) <|
    z_iconst (n := 0) (zd (i := .iconst (0)) (n := 1) (by decide +kernel)) (by decide +kernel) <|
    z_iast (zd (i := .iastore) (n := 1) (by decide +kernel)) <|
    z_vret (zd (i := .return_) (n := 1) (by decide +kernel)) rfl
noncomputable def b_X0_passLoan_5 : zBl := fun jp K => oAld 1 <| oGetR 4 6 <| oIld 6 <| oDup2 <| oXald 10 <| oInt 2147483649 <| oB2 zadd <| oXast 10 zid <| oAld 1 <| oGetR 4 6 <| oIld 6 <| oXald 10 <| oAld 0 <| oGetI 0 8 <| oIc zlt zge (jp 7) (jp 6)
theorem s_X0_passLoan_5 (d : Nat) : zPb l G gh (d + 4) n_X0_passLoan p_X0_passLoan 119 b_X0_passLoan_5 := fun K jp hj =>
    z_aload_n (n := 1) (i := 1) (zd (i := .aload_n 1) (n := 1) (by decide +kernel)) rfl <|
    z_getR (ci := 4) (j := 6) (idx := 127) (zd (i := .getfield 127) (n := 3) (by decide +kernel)) (by decide +kernel) (by decide +kernel) rfl g387 <|
    z_iload (i := 6) (zd (i := .iload 6) (n := 2) (by decide +kernel)) <|
    z_dup2 (zd (i := .dup2) (n := 1) (by decide +kernel)) <|
    z_iald (zd (i := .iaload) (n := 1) (by decide +kernel)) <|
    z_iconst (n := 1) (zd (i := .iconst (1)) (n := 1) (by decide +kernel)) (by decide +kernel) <|
    z_iadd (zd (i := .iadd) (n := 1) (by decide +kernel)) <|
    z_iast (zd (i := .iastore) (n := 1) (by decide +kernel)) <|
    z_aload_n (n := 1) (i := 1) (zd (i := .aload_n 1) (n := 1) (by decide +kernel)) rfl <|
    z_getR (ci := 4) (j := 6) (idx := 127) (zd (i := .getfield 127) (n := 3) (by decide +kernel)) (by decide +kernel) (by decide +kernel) rfl g387 <|
    z_iload (i := 6) (zd (i := .iload 6) (n := 2) (by decide +kernel)) <|
    z_iald (zd (i := .iaload) (n := 1) (by decide +kernel)) <|
    z_aload_n (n := 0) (i := 0) (zd (i := .aload_n 0) (n := 1) (by decide +kernel)) rfl <|
    z_getI (ci := 0) (j := 8) (idx := 38) (zd (i := .getfield 38) (n := 3) (by decide +kernel)) (by decide +kernel) (by decide +kernel) rfl g293 <|
    z_icmp_lt (off := 22) (tgt := 163) (zd (i := .if_icmp .lt (22)) (n := 3) (by decide +kernel)) (by decide +kernel) (zj (hj 7) (by decide +kernel)) (zj (hj 6) (by decide +kernel))
noncomputable def b_X0_passLoan_6 : zBl := fun jp K => oAld 1 <| oIld 6 <| oCv 4 1 f_X4_end <| oAld 1 <| oGetR 4 3 <| oIld 2 <| oDup2 <| oXald 10 <| oInt 2147483649 <| oB2 zadd <| oXast 10 zid <| jp 8
theorem s_X0_passLoan_6 (d : Nat) : zPb l G gh (d + 4) n_X0_passLoan p_X0_passLoan 144 b_X0_passLoan_6 := fun K jp hj =>
    z_aload_n (n := 1) (i := 1) (zd (i := .aload_n 1) (n := 1) (by decide +kernel)) rfl <|
    z_iload (i := 6) (zd (i := .iload 6) (n := 2) (by decide +kernel)) <|
    z_callV (idx := 130) (ci := 4) (N := n_X4_end) (zd (i := .invokevirtual 130) (n := 3) (by decide +kernel)) to_X4_end g887 g693 g694 (by decide +kernel) rfl rfl rfl (c_X4_end (l := l) (G := G) (gh := gh) (d + 2)) <|
    z_aload_n (n := 1) (i := 1) (zd (i := .aload_n 1) (n := 1) (by decide +kernel)) rfl <|
    z_getR (ci := 4) (j := 3) (idx := 134) (zd (i := .getfield 134) (n := 3) (by decide +kernel)) (by decide +kernel) (by decide +kernel) rfl g378 <|
    z_iload_n (n := 2) (i := 2) (zd (i := .iload_n 2) (n := 1) (by decide +kernel)) rfl <|
    z_dup2 (zd (i := .dup2) (n := 1) (by decide +kernel)) <|
    z_iald (zd (i := .iaload) (n := 1) (by decide +kernel)) <|
    z_iconst (n := 1) (zd (i := .iconst (1)) (n := 1) (by decide +kernel)) (by decide +kernel) <|
    z_iadd (zd (i := .iadd) (n := 1) (by decide +kernel)) <|
    z_iast (zd (i := .iastore) (n := 1) (by decide +kernel)) <|
    z_goto (off := 39) (tgt := 199) (zd (i := .goto (39)) (n := 3) (by decide +kernel)) (by decide +kernel) (zj (hj 8) (by decide +kernel))
noncomputable def b_X0_passLoan_7 : zBl := fun jp K => oAld 1 <| oGetR 4 5 <| oIld 6 <| oInt 2147583647 <| oIld 7 <| oIld 7 <| oAld 0 <| oGetR 0 12 <| oAld 1 <| oGetI 4 0 <| oIld 4 <| oIld 7 <| oCv 2 3 f_X2_interest <| oB2 zimul <| oInt 2147483748 <| oB2z zidiv <| oB2 zadd <| oM2 zmin <| oXast 10 zid <| jp 8
theorem s_X0_passLoan_7 (d : Nat) : zPb l G gh (d + 4) n_X0_passLoan p_X0_passLoan 163 b_X0_passLoan_7 := fun K jp hj =>
    z_aload_n (n := 1) (i := 1) (zd (i := .aload_n 1) (n := 1) (by decide +kernel)) rfl <|
    z_getR (ci := 4) (j := 5) (idx := 112) (zd (i := .getfield 112) (n := 3) (by decide +kernel)) (by decide +kernel) (by decide +kernel) rfl g384 <|
    z_iload (i := 6) (zd (i := .iload 6) (n := 2) (by decide +kernel)) <|
    z_ldc (n := 119) (zd (i := .ldc 119) (n := 2) (by decide +kernel)) g885 (by decide +kernel) <|
    z_iload (i := 7) (zd (i := .iload 7) (n := 2) (by decide +kernel)) <|
    z_iload (i := 7) (zd (i := .iload 7) (n := 2) (by decide +kernel)) <|
    z_aload_n (n := 0) (i := 0) (zd (i := .aload_n 0) (n := 1) (by decide +kernel)) rfl <|
    z_getR (ci := 0) (j := 12) (idx := 53) (zd (i := .getfield 53) (n := 3) (by decide +kernel)) (by decide +kernel) (by decide +kernel) rfl g304 <|
    z_aload_n (n := 1) (i := 1) (zd (i := .aload_n 1) (n := 1) (by decide +kernel)) rfl <|
    z_getI (ci := 4) (j := 0) (idx := 95) (zd (i := .getfield 95) (n := 3) (by decide +kernel)) (by decide +kernel) (by decide +kernel) rfl g369 <|
    z_iload (i := 4) (zd (i := .iload 4) (n := 2) (by decide +kernel)) <|
    z_iload (i := 7) (zd (i := .iload 7) (n := 2) (by decide +kernel)) <|
    z_callV (idx := 137) (ci := 2) (N := n_X2_interest) (zd (i := .invokevirtual 137) (n := 3) (by decide +kernel)) to_X2_interest g888 g825 g826 (by decide +kernel) rfl rfl rfl (c_X2_interest (l := l) (G := G) (gh := gh) (d)) <|
    z_imul (zd (i := .imul) (n := 1) (by decide +kernel)) <|
    z_bipush (n := 100) (zd (i := .bipush (100)) (n := 2) (by decide +kernel)) (by decide +kernel) <|
    z_idiv (zd (i := .idiv) (n := 1) (by decide +kernel)) <|
    z_iadd (zd (i := .iadd) (n := 1) (by decide +kernel)) <|
    z_min (idx := 120) (zd (i := .invokestatic 120) (n := 3) (by decide +kernel)) g886 g578 g111 g579 <|
    z_iast (zd (i := .iastore) (n := 1) (by decide +kernel)) <|
    (zj (hj 8) (by decide +kernel))
noncomputable def b_X0_passLoan_8 : zBl := fun jp K => oVret K
theorem s_X0_passLoan_8 (d : Nat) : zPb l G gh (d + 4) n_X0_passLoan p_X0_passLoan 199 b_X0_passLoan_8 := fun K jp hj =>
    z_vret (zd (i := .return_) (n := 1) (by decide +kernel)) rfl
noncomputable def t_X0_passLoan : List zBl := [b_X0_passLoan_0, b_X0_passLoan_1, b_X0_passLoan_2, b_X0_passLoan_3, b_X0_passLoan_4, b_X0_passLoan_5, b_X0_passLoan_6, b_X0_passLoan_7, b_X0_passLoan_8]
theorem tt_X0_passLoan (d : Nat) : zT (zPb l G gh (d + 4) n_X0_passLoan p_X0_passLoan) t_X0_passLoan p_X0_passLoan := ⟨s_X0_passLoan_0 d, s_X0_passLoan_1 d, s_X0_passLoan_2 d, s_X0_passLoan_3 d, s_X0_passLoan_4 d, s_X0_passLoan_5 d, s_X0_passLoan_6 d, s_X0_passLoan_7 d, s_X0_passLoan_8 d, trivial⟩
def q_X0_passLoan_0 : List (Nat × Nat) := [(21, zk10), (22, zk12), (23, zk12), (24, zk12), (25, zk12), (26, zk11), (27, zk11), (259, zk20), (261, zk12), (262, zk12), (265, zk2), (266, zk18), (267, zk18), (268, zk19), (269, zk3), (270, zk7)]
noncomputable def al_X0_passLoan_0 : zAq := [(none, [(21, zk10), (22, zk12), (23, zk57), (24, zk57), (25, zk57), (26, zk58), (27, zk58), (259, zk20), (261, zk12), (262, zk12), (265, zk2), (266, zk18), (267, zk18), (268, zk19), (269, zk4), (270, zk9)])]
noncomputable def fm_X0_passLoan_0 : List zFm := [(0, [], (fun vs => [.inr (.ref 259), .inr (.ref 21), .inl 9223372043297226757, .inl 9223372043297226757, .inl 8589934591, .inl 9223372043297226753]), (fun vs => zP q_X0_passLoan_0), (fun vs => Nat.sub (Nat.add 0 0) 0))]
def bf_X0_passLoan_0 : List Nat := []
theorem r_X0_passLoan_0_0 : zbox [] (fun vs => zFrun (zpost (zAlq al_X0_passLoan_0)) 1000 t_X0_passLoan fm_X0_passLoan_0 bf_X0_passLoan_0 (0, vs)) = true := by decide +kernel
set_option maxRecDepth 100000 in
theorem x_X0_passLoan_0 (d : Nat) : zS l G gh (d + 4) (zpost (zAlq al_X0_passLoan_0)) n_X0_passLoan (zn 0 p_X0_passLoan 0) (zwc (0, [.inr (.ref 259), .inr (.ref 21), .inl 9223372043297226757, .inl 9223372043297226757, .inl 8589934591, .inl 9223372043297226753], zP q_X0_passLoan_0) 0) := zentry (tt_X0_passLoan d) fm_X0_passLoan_0 bf_X0_passLoan_0 1000 (by decide +kernel) rfl ⟨Nat.zero_lt_succ _, trivial⟩ (fun f hf => match f, hf with
  | 0, _ => fun vs hv => (zbox_t r_X0_passLoan_0_0) vs hv
  | f + 1, h => absurd (show f + 1 < 1 from h) (Nat.not_lt.mpr (Nat.le_add_left 1 f)))
noncomputable def gs_X0_passLoan_0 : zMt := zgq false [] 9 [.inr (.ref 259), .inr (.ref 21), .inl 9223372043297226757, .inl 9223372043297226757, .inl 8589934591, .inl 9223372043297226753] q_X0_passLoan_0 al_X0_passLoan_0
set_option maxRecDepth 100000 in
theorem cs_X0_passLoan_0 (d : Nat) : zC l G gh (d + 4) n_X0_passLoan gs_X0_passLoan_0 := zgq_ok0 (pcs := p_X0_passLoan) (by decide) rfl rfl (fun a ha => by simp only [al_X0_passLoan_0, List.mem_cons, List.not_mem_nil, or_false] at ha; rcases ha with rfl <;> decide +kernel) (fun gh => x_X0_passLoan_0 d) (by decide +kernel)
def q_X0_passLoan_1 : List (Nat × Nat) := [(9, zk21), (11, zk12), (12, zk12), (15, zk5), (16, zk18), (17, zk18), (18, zk19), (19, zk3), (20, zk7), (21, zk10), (22, zk12), (23, zk12), (24, zk12), (25, zk12), (26, zk11), (27, zk11)]
noncomputable def al_X0_passLoan_1 : zAq := [(none, [(9, zk21), (11, zk12), (12, zk12), (15, zk5), (16, zk18), (17, zk18), (18, zk19), (19, zk4), (20, zk9), (21, zk10), (22, zk12), (23, zk57), (24, zk57), (25, zk57), (26, zk58), (27, zk58)])]
noncomputable def fm_X0_passLoan_1 : List zFm := [(0, [], (fun vs => [.inr (.ref 9), .inr (.ref 21), .inl 9223372043297226757, .inl 9223372043297226757, .inl 8589934591, .inl 9223372043297226753]), (fun vs => zP q_X0_passLoan_1), (fun vs => Nat.sub (Nat.add 0 0) 0))]
def bf_X0_passLoan_1 : List Nat := []
theorem r_X0_passLoan_1_0 : zbox [] (fun vs => zFrun (zpost (zAlq al_X0_passLoan_1)) 1000 t_X0_passLoan fm_X0_passLoan_1 bf_X0_passLoan_1 (0, vs)) = true := by decide +kernel
set_option maxRecDepth 100000 in
theorem x_X0_passLoan_1 (d : Nat) : zS l G gh (d + 4) (zpost (zAlq al_X0_passLoan_1)) n_X0_passLoan (zn 0 p_X0_passLoan 0) (zwc (0, [.inr (.ref 9), .inr (.ref 21), .inl 9223372043297226757, .inl 9223372043297226757, .inl 8589934591, .inl 9223372043297226753], zP q_X0_passLoan_1) 0) := zentry (tt_X0_passLoan d) fm_X0_passLoan_1 bf_X0_passLoan_1 1000 (by decide +kernel) rfl ⟨Nat.zero_lt_succ _, trivial⟩ (fun f hf => match f, hf with
  | 0, _ => fun vs hv => (zbox_t r_X0_passLoan_1_0) vs hv
  | f + 1, h => absurd (show f + 1 < 1 from h) (Nat.not_lt.mpr (Nat.le_add_left 1 f)))
noncomputable def gs_X0_passLoan_1 : zMt := zgq false [] 9 [.inr (.ref 9), .inr (.ref 21), .inl 9223372043297226757, .inl 9223372043297226757, .inl 8589934591, .inl 9223372043297226753] q_X0_passLoan_1 al_X0_passLoan_1
set_option maxRecDepth 100000 in
theorem cs_X0_passLoan_1 (d : Nat) : zC l G gh (d + 4) n_X0_passLoan gs_X0_passLoan_1 := zgq_ok0 (pcs := p_X0_passLoan) (by decide) rfl rfl (fun a ha => by simp only [al_X0_passLoan_1, List.mem_cons, List.not_mem_nil, or_false] at ha; rcases ha with rfl <;> decide +kernel) (fun gh => x_X0_passLoan_1 d) (by decide +kernel)
def q_X0_passLoan_2 : List (Nat × Nat) := [(28, zk22), (29, zk12), (30, zk12), (31, zk12), (32, zk12), (33, zk11), (34, zk11), (259, zk20), (261, zk12), (262, zk12), (265, zk2), (266, zk18), (267, zk18), (268, zk19), (269, zk3), (270, zk7)]
noncomputable def al_X0_passLoan_2 : zAq := [(none, [(28, zk22), (29, zk12), (30, zk57), (31, zk57), (32, zk57), (33, zk58), (34, zk58), (259, zk20), (261, zk12), (262, zk12), (265, zk2), (266, zk18), (267, zk18), (268, zk19), (269, zk4), (270, zk9)])]
noncomputable def fm_X0_passLoan_2 : List zFm := [(0, [], (fun vs => [.inr (.ref 259), .inr (.ref 28), .inl 9223372043297226757, .inl 9223372043297226757, .inl 8589934591, .inl 9223372043297226753]), (fun vs => zP q_X0_passLoan_2), (fun vs => Nat.sub (Nat.add 0 0) 0))]
def bf_X0_passLoan_2 : List Nat := []
theorem r_X0_passLoan_2_0 : zbox [] (fun vs => zFrun (zpost (zAlq al_X0_passLoan_2)) 1000 t_X0_passLoan fm_X0_passLoan_2 bf_X0_passLoan_2 (0, vs)) = true := by decide +kernel
set_option maxRecDepth 100000 in
theorem x_X0_passLoan_2 (d : Nat) : zS l G gh (d + 4) (zpost (zAlq al_X0_passLoan_2)) n_X0_passLoan (zn 0 p_X0_passLoan 0) (zwc (0, [.inr (.ref 259), .inr (.ref 28), .inl 9223372043297226757, .inl 9223372043297226757, .inl 8589934591, .inl 9223372043297226753], zP q_X0_passLoan_2) 0) := zentry (tt_X0_passLoan d) fm_X0_passLoan_2 bf_X0_passLoan_2 1000 (by decide +kernel) rfl ⟨Nat.zero_lt_succ _, trivial⟩ (fun f hf => match f, hf with
  | 0, _ => fun vs hv => (zbox_t r_X0_passLoan_2_0) vs hv
  | f + 1, h => absurd (show f + 1 < 1 from h) (Nat.not_lt.mpr (Nat.le_add_left 1 f)))
noncomputable def gs_X0_passLoan_2 : zMt := zgq false [] 9 [.inr (.ref 259), .inr (.ref 28), .inl 9223372043297226757, .inl 9223372043297226757, .inl 8589934591, .inl 9223372043297226753] q_X0_passLoan_2 al_X0_passLoan_2
set_option maxRecDepth 100000 in
theorem cs_X0_passLoan_2 (d : Nat) : zC l G gh (d + 4) n_X0_passLoan gs_X0_passLoan_2 := zgq_ok0 (pcs := p_X0_passLoan) (by decide) rfl rfl (fun a ha => by simp only [al_X0_passLoan_2, List.mem_cons, List.not_mem_nil, or_false] at ha; rcases ha with rfl <;> decide +kernel) (fun gh => x_X0_passLoan_2 d) (by decide +kernel)
def q_X0_passLoan_3 : List (Nat × Nat) := [(9, zk21), (11, zk12), (12, zk12), (15, zk5), (16, zk18), (17, zk18), (18, zk19), (19, zk3), (20, zk7), (28, zk22), (29, zk12), (30, zk12), (31, zk12), (32, zk12), (33, zk11), (34, zk11)]
noncomputable def al_X0_passLoan_3 : zAq := [(none, [(9, zk21), (11, zk12), (12, zk12), (15, zk5), (16, zk18), (17, zk18), (18, zk19), (19, zk4), (20, zk9), (28, zk22), (29, zk12), (30, zk57), (31, zk57), (32, zk57), (33, zk58), (34, zk58)])]
noncomputable def fm_X0_passLoan_3 : List zFm := [(0, [], (fun vs => [.inr (.ref 9), .inr (.ref 28), .inl 9223372043297226757, .inl 9223372043297226757, .inl 8589934591, .inl 9223372043297226753]), (fun vs => zP q_X0_passLoan_3), (fun vs => Nat.sub (Nat.add 0 0) 0))]
def bf_X0_passLoan_3 : List Nat := []
theorem r_X0_passLoan_3_0 : zbox [] (fun vs => zFrun (zpost (zAlq al_X0_passLoan_3)) 1000 t_X0_passLoan fm_X0_passLoan_3 bf_X0_passLoan_3 (0, vs)) = true := by decide +kernel
set_option maxRecDepth 100000 in
theorem x_X0_passLoan_3 (d : Nat) : zS l G gh (d + 4) (zpost (zAlq al_X0_passLoan_3)) n_X0_passLoan (zn 0 p_X0_passLoan 0) (zwc (0, [.inr (.ref 9), .inr (.ref 28), .inl 9223372043297226757, .inl 9223372043297226757, .inl 8589934591, .inl 9223372043297226753], zP q_X0_passLoan_3) 0) := zentry (tt_X0_passLoan d) fm_X0_passLoan_3 bf_X0_passLoan_3 1000 (by decide +kernel) rfl ⟨Nat.zero_lt_succ _, trivial⟩ (fun f hf => match f, hf with
  | 0, _ => fun vs hv => (zbox_t r_X0_passLoan_3_0) vs hv
  | f + 1, h => absurd (show f + 1 < 1 from h) (Nat.not_lt.mpr (Nat.le_add_left 1 f)))
noncomputable def gs_X0_passLoan_3 : zMt := zgq false [] 9 [.inr (.ref 9), .inr (.ref 28), .inl 9223372043297226757, .inl 9223372043297226757, .inl 8589934591, .inl 9223372043297226753] q_X0_passLoan_3 al_X0_passLoan_3
set_option maxRecDepth 100000 in
theorem cs_X0_passLoan_3 (d : Nat) : zC l G gh (d + 4) n_X0_passLoan gs_X0_passLoan_3 := zgq_ok0 (pcs := p_X0_passLoan) (by decide) rfl rfl (fun a ha => by simp only [al_X0_passLoan_3, List.mem_cons, List.not_mem_nil, or_false] at ha; rcases ha with rfl <;> decide +kernel) (fun gh => x_X0_passLoan_3 d) (by decide +kernel)
noncomputable def gs_X0_passLoan : zMt := (zor gs_X0_passLoan_0 (zor gs_X0_passLoan_1 (zor gs_X0_passLoan_2 gs_X0_passLoan_3)))
theorem cs_X0_passLoan (d : Nat) : zC l G gh (d + 4) n_X0_passLoan gs_X0_passLoan := (zor_ok (cs_X0_passLoan_0 d) (zor_ok (cs_X0_passLoan_1 d) (zor_ok (cs_X0_passLoan_2 d) (cs_X0_passLoan_3 d))))
end
